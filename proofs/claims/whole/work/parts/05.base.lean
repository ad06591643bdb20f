-- ===== the words, all good ones in one list =====
def gT : List Cond := lw_tbl.filter goodWord
theorem gT_good {w : Cond} (h : w ∈ gT) : goodWord w = true := (List.mem_filter.mp h).2
theorem gT_tab {w : Cond} (i : Nat) (h : tables_1[i]? = some w) (g : goodWord w = true) : w ∈ gT := List.mem_filter.mpr ⟨List.mem_append_right _ (List.mem_of_getElem? h), g⟩
theorem gT_sel {w : Cond} (i : Nat) (h : (k2_sels lw_privs)[i]? = some w) (g : goodWord w = true) : w ∈ gT := List.mem_filter.mpr ⟨List.mem_append_left _ (List.mem_of_getElem? h), g⟩
theorem gT_in {ws : List Cond} (h : ∀ w ∈ ws, w ∈ gT) : GoodIn gT ws := fun w hw => ⟨h w hw, good_of_word (gT_good (h w hw))⟩
-- ===== the state: numbers, longs, references of abstract cells =====
abbrev Sg : Type := (Nat → Nat → Int32) × (Nat → Nat → Int64) × (Nat → Nat → Nat)
def rI (σ : Sg) (i : Nat) (f : Nat → Int32) : Sg := (fun a => if a = i then f else σ.1 a, σ.2)
def rL (σ : Sg) (i : Nat) (f : Nat → Int64) : Sg := (σ.1, fun a => if a = i then f else σ.2.1 a, σ.2.2)
def rR (σ : Sg) (i : Nat) (f : Nat → Nat) : Sg := (σ.1, σ.2.1, fun a => if a = i then f else σ.2.2 a)
def sI (σ : Sg) (i k : Nat) (v : Int32) : Sg := rI σ i (upd (σ.1 i) k v)
def sL (σ : Sg) (i k : Nat) (v : Int64) : Sg := rL σ i (vp_updL (σ.2.1 i) k v)
def sR (σ : Sg) (i k : Nat) (v : Nat) : Sg := rR σ i (va_up (σ.2.2 i) k v)
/-- addresses, tables, array classes -/
abbrev En : Type := (Nat → Nat) × va_G × (Nat → ClassId)
def cv (E : En) (v : Value) : Value := match v with
  | .ref i => .ref (E.1 i)
  | w => w
theorem cv_cat (E : En) (v : Value) : (cv E v).category = v.category := by cases v <;> rfl
abbrev Sh : Type := (Nat × Nat) ⊕ (Nat × List Nat)
/-- 0 mat; 1 tape; 2 now; 3 now.jumpers; 4 now.actKinds; 5 now.actWhos; 6 now.actWeres; 7 now.places; 8 pictured; 9 pictured.jumpers; 10 pictured.actKinds; 11 pictured.actWhos; 12 pictured.actWeres; 13 pictured.places; 14 teller; 15 reader; 16 reader.empty; 17 play; 18 flyers; 19 flyer0; 20 flyer0.kinds; 21 flyer1; 22 flyer1.kinds; 23 flyer2; 24 flyer2.kinds; 25 flyer3; 26 flyer3.kinds; 27 values; 28 landings; 29 row; 30 wander; 31 ways; 32 nextWays; 33 egg; 34 greatestE; 35 gardenA; 36 gardenA.jumpers; 37 gardenA.pushes; 38 gardenA.rules; 39 gardenA.code; 40 gardenA.ends; 41 gardenA.waiting; 42 gardenB; 43 gardenB.jumpers; 44 gardenB.pushes; 45 gardenB.rules; 46 gardenB.code; 47 gardenB.ends; 48 gardenB.waiting; 49 gardenC; 50 gardenC.jumpers; 51 gardenC.pushes; 52 gardenC.rules; 53 gardenC.code; 54 gardenC.ends; 55 gardenC.waiting; 56 model; 57 m.slips; 58 m.jumper; 59 m.ruleAt; 60 m.push; 61 m.code; 62 m.tape; 63 m.refused; 64 m.newSlips; 65 m.newJumper; 66 m.newRuleAt; 67 m.newPush; 68 m.readCode; 69 m.waits; 70 m.tested; 71 m.act; 72 m.pile; 73 m.state; 74 m.at; 75 m.comes; 76 m.from; 77 m.since; 78 m.ups; 79 m.greatest; 80 m.fun; 81 m.hurt; 82 m.jarred; 83 m.kinds; 84 m.film; 85 m.landing; 86 m.ones; 87 m.twos; 88 m.here; 89 m.there; 90 m.places; 91 m.row; 92 m.imageJumper; 93 m.imageAct; 94 m.imagePlaces; 95 out -/
def shp : List Sh := [.inr (10, [4, 0, 0, 0, 0, 0, 2, 5, 11, 0, 17, 20, 33, 36]), .inl (1, 600), .inr (7, [4, 0, 0, 0, 5, 6, 7, 0, 8, 0]), .inl (0, 24), .inl (0, 40), .inl (0, 40), .inl (0, 40), .inl (0, 20), .inr (7, [4, 0, 0, 0, 5, 6, 7, 0, 8, 0]), .inl (0, 24), .inl (0, 40), .inl (0, 40), .inl (0, 40), .inl (0, 20), .inr (8, [4, 2, 0, 0, 0, 0]), .inr (5, [2, 0, 0, 0, 0, 0]), .inl (1, 0), .inr (4, [4, 13, 14, 2, 0, 0, 0, 0, 2, 0, 0, 0, 0, 0, 0, 0]), .inl (4, 4), .inr (1, [0, 0, 0, 0, 0, 0, 0, 0, 0, 0, 0, 0, 0, 0, 0, 4]), .inl (0, 6), .inr (1, [0, 0, 0, 0, 0, 0, 0, 0, 0, 0, 0, 0, 0, 0, 0, 4]), .inl (0, 6), .inr (1, [0, 0, 0, 0, 0, 0, 0, 0, 0, 0, 0, 0, 0, 0, 0, 4]), .inl (0, 6), .inr (1, [0, 0, 0, 0, 0, 0, 0, 0, 0, 0, 0, 0, 0, 0, 0, 4]), .inl (0, 6), .inl (0, 8), .inr (3, [4, 0, 0, 0, 0]), .inl (0, 3000), .inr (9, [4, 5, 1, 1]), .inl (3, 41), .inl (3, 41), .inr (0, [4, 1, 1, 0]), .inl (0, 8), .inr (2, [0, 0, 0, 0, 0, 0, 0, 0, 4, 0, 5, 0, 6]), .inl (0, 24), .inl (0, 8), .inr (6, [4, 5, 6, 0, 0]), .inl (0, 600), .inl (0, 4), .inl (0, 40), .inr (2, [0, 0, 0, 0, 0, 0, 0, 0, 4, 0, 5, 0, 6]), .inl (0, 24), .inl (0, 8), .inr (6, [4, 5, 6, 0, 0]), .inl (0, 600), .inl (0, 4), .inl (0, 40), .inr (2, [0, 0, 0, 0, 0, 0, 0, 0, 4, 0, 5, 0, 6]), .inl (0, 24), .inl (0, 8), .inr (6, [4, 5, 6, 0, 0]), .inl (0, 600), .inl (0, 4), .inl (0, 40), .inr (11, [0, 0, 0, 0, 0, 0, 0, 0, 0, 4, 5, 6, 7, 8, 9, 0, 0, 0, 10, 0, 0, 0, 0, 0, 0, 0, 1, 0, 0, 0, 0, 0, 0, 0, 0, 0, 0, 0, 0, 11, 12, 13, 14, 15, 16, 17, 0, 0, 0, 18, 19, 20, 21, 22, 23, 24, 25, 26, 27, 28, 29, 30, 31, 32, 0, 0, 0, 0, 0, 0, 0, 0, 0, 0, 33, 34, 35, 36, 1, 1, 0, 37, 38, 0, 0, 0, 0, 0, 39, 40, 41]), .inl (0, 3), .inl (0, 24), .inl (0, 4), .inl (0, 8), .inl (0, 1600), .inl (0, 600), .inl (0, 3), .inl (0, 3), .inl (0, 24), .inl (0, 4), .inl (0, 8), .inl (0, 1600), .inl (0, 800), .inl (2, 9), .inl (0, 80), .inl (0, 800), .inl (0, 4), .inl (0, 4), .inl (0, 4), .inl (0, 4), .inl (0, 4), .inl (0, 4), .inl (0, 4), .inl (0, 4), .inl (0, 4), .inl (0, 4), .inl (0, 24), .inl (0, 2400), .inl (0, 6500), .inl (0, 1300), .inl (0, 1300), .inl (3, 41), .inl (3, 41), .inl (0, 20), .inl (0, 8), .inl (0, 24), .inl (0, 80), .inl (0, 20), .inl (3, 1)]
def fv (E : En) (σ : Sg) (i k kd : Nat) : Value := match kd with
  | 0 => .int (σ.1 i k)
  | 1 => .long (σ.2.1 i k)
  | 2 => .ref (E.1 (σ.2.2 i k))
  | d + 3 => .ref (E.1 (i + d))
def arE (E : En) (σ : Sg) (i ty : Nat) : (Nat → Int32) ⊕ (Nat → Int64) ⊕ (Nat → UInt32) ⊕ (Nat → UInt64) ⊕ (Nat → Option Nat) := match ty with
  | 3 => .inr (.inl (σ.2.1 i))
  | 4 => .inr (.inr (.inr (.inr (fun j => some (E.1 (i + 1 + 2 * j))))))
  | _ => .inl (σ.1 i)
def cellE (E : En) (σ : Sg) (i : Nat) (q : Sh) : va_E := match q with
  | .inl a => .inl (E.2.2 a.1, a.2, arE E σ i a.1)
  | .inr a => .inr (a.1, a.2.mapIdx (fun k kd => fv E σ i k kd))
def wd (E : En) (σ : Sg) : va_W := shp.mapIdx (fun i q => (E.1 i, cellE E σ i q))
def tyE (E : En) : List (ClassId × FieldType) := [(E.2.2 0, .int), (E.2.2 1, .byte), (E.2.2 2, .boolean), (E.2.2 3, .long), (E.2.2 4, .object "TrampolineMat$Flyer")]
theorem wd_at {E : En} {σ : Sg} {i : Nat} {q : Sh} (h : shp[i]? = some q) : (wd E σ)[i]? = some (E.1 i, cellE E σ i q) := by
  simp only [wd, List.getElem?_mapIdx, h, Option.map_some]
theorem cell_same {E : En} {σ τ : Sg} {j : Nat} (q : Sh) (h : τ.1 j = σ.1 j ∧ τ.2.1 j = σ.2.1 j ∧ τ.2.2 j = σ.2.2 j) : cellE E τ j q = cellE E σ j q := by
  obtain ⟨h1, h2, h3⟩ := h
  rcases q with a | a
  · simp only [cellE, arE, h1, h2]
  · simp only [cellE, fv, h1, h2, h3]
theorem wd_set {E : En} {σ τ : Sg} {i : Nat} {q : Sh} (hq : shp[i]? = some q) (h : ∀ j, j ≠ i → τ.1 j = σ.1 j ∧ τ.2.1 j = σ.2.1 j ∧ τ.2.2 j = σ.2.2 j) : (wd E σ).set i (E.1 i, cellE E τ i q) = wd E τ := by
  apply List.ext_getElem?
  intro j
  by_cases e : i = j
  · subst e
    rw [List.getElem?_set_self (List.getElem?_eq_some_iff.mp (wd_at (E := E) (σ := σ) hq)).1, wd_at hq]
  · rw [List.getElem?_set_ne e]
    cases hs : shp[j]? with
    | none => simp only [wd, List.getElem?_mapIdx, hs, Option.map_none]
    | some v => rw [wd_at hs, wd_at hs, cell_same v (h j (Ne.symm e))]
theorem rI_off {σ : Sg} {i : Nat} {f : Nat → Int32} : ∀ j, j ≠ i → (rI σ i f).1 j = σ.1 j ∧ (rI σ i f).2.1 j = σ.2.1 j ∧ (rI σ i f).2.2 j = σ.2.2 j := fun j h => ⟨if_neg h, rfl, rfl⟩
theorem rL_off {σ : Sg} {i : Nat} {f : Nat → Int64} : ∀ j, j ≠ i → (rL σ i f).1 j = σ.1 j ∧ (rL σ i f).2.1 j = σ.2.1 j ∧ (rL σ i f).2.2 j = σ.2.2 j := fun j h => ⟨rfl, if_neg h, rfl⟩
theorem rR_off {σ : Sg} {i : Nat} {f : Nat → Nat} : ∀ j, j ≠ i → (rR σ i f).1 j = σ.1 j ∧ (rR σ i f).2.1 j = σ.2.1 j ∧ (rR σ i f).2.2 j = σ.2.2 j := fun j h => ⟨rfl, rfl, if_neg h⟩
theorem rI_on {σ : Sg} {i : Nat} {f : Nat → Int32} : (rI σ i f).1 i = f := if_pos rfl
theorem rL_on {σ : Sg} {i : Nat} {f : Nat → Int64} : (rL σ i f).2.1 i = f := if_pos rfl
theorem rR_on {σ : Sg} {i : Nat} {f : Nat → Nat} : (rR σ i f).2.2 i = f := if_pos rfl
/-- a field is put: the row of values -/
theorem fvs_set {E : En} {σ τ : Sg} {i k : Nat} {ks : List Nat} {v : Value} (hk : ∀ kd, ks[k]? = some kd → fv E τ i k kd = v) (h : ∀ j kd, j ≠ k → ks[j]? = some kd → fv E τ i j kd = fv E σ i j kd) : (ks.mapIdx (fun k kd => fv E σ i k kd)).set k v = ks.mapIdx (fun k kd => fv E τ i k kd) := by
  apply List.ext_getElem?
  intro j
  by_cases e : k = j
  · subst e
    cases hs : ks[k]? with
    | none =>
      have h9 : (ks.mapIdx (fun k kd => fv E σ i k kd)).length ≤ k := by rw [List.length_mapIdx]; exact List.getElem?_eq_none_iff.mp hs
      rw [List.set_eq_of_length_le h9, List.getElem?_mapIdx, List.getElem?_mapIdx, hs]
      rfl
    | some w =>
      rw [List.getElem?_set_self (by rw [List.length_mapIdx]; exact (List.getElem?_eq_some_iff.mp hs).1), List.getElem?_mapIdx, hs, Option.map_some, hk w hs]
  · rw [List.getElem?_set_ne e, List.getElem?_mapIdx, List.getElem?_mapIdx]
    cases hs : ks[j]? with
    | none => rfl
    | some w => rw [Option.map_some, Option.map_some, h j w (Ne.symm e) hs]
theorem fvs_at {E : En} {σ : Sg} {i k kd : Nat} {ks : List Nat} (h : ks[k]? = some kd) : (ks.mapIdx (fun k kd => fv E σ i k kd))[k]? = some (fv E σ i k kd) := by
  rw [List.getElem?_mapIdx, h, Option.map_some]
-- ===== what stays: text constants, statics =====
def nJS : Nat := 22
def lenJS : List Nat := [11, 9, 3, 6, 4, 5, 6, 8, 4, 3, 2, 6, 6, 5, 4, 2, 2, 7, 3, 2, 3, 20]
def bytJS : List (List Int32) := [[110, 111, 116, 32, 97, 115, 32, 116, 111, 108, 100], [59, 40, 41, 43, 45, 42, 47, 60, 61], [109, 97, 116], [98, 114, 111, 107, 101, 110], [110, 101, 97, 114], [115, 108, 105, 112, 115], [106, 117, 109, 112, 101, 114], [99, 111, 114, 114, 101, 99, 116, 115], [114, 117, 108, 101], [110, 111, 116], [109, 101], [119, 101, 105, 103, 104, 116], [104, 101, 105, 103, 104, 116], [112, 108, 97, 99, 101], [116, 105, 99, 107], [117, 112], [111, 110], [104, 101, 97, 118, 105, 101, 114], [97, 110, 100], [111, 114], [101, 103, 103], [116, 104, 101, 114, 101, 32, 105, 115, 32, 110, 111, 32, 115, 117, 99, 104, 32, 111, 110, 101]]
def ldcL : List (String × Nat × String × Nat) := [("TrampolineMat", 394, "not as told", 0), ("TrampolineMat$Reader", 49, ";()+-*/<=", 1), ("TrampolineMat$Teller", 50, "mat", 2), ("TrampolineMat$Teller", 59, "broken", 3), ("TrampolineMat$Teller", 64, "near", 4), ("TrampolineMat$Teller", 69, "slips", 5), ("TrampolineMat$Teller", 74, "jumper", 6), ("TrampolineMat$Teller", 151, "corrects", 7), ("TrampolineMat$Teller", 79, "rule", 8), ("TrampolineMat$Teller", 191, "not", 9), ("TrampolineMat$Teller", 209, "me", 10), ("TrampolineMat$Teller", 211, "weight", 11), ("TrampolineMat$Teller", 213, "height", 12), ("TrampolineMat$Teller", 215, "place", 13), ("TrampolineMat$Teller", 217, "tick", 14), ("TrampolineMat$Teller", 219, "up", 15), ("TrampolineMat$Teller", 221, "on", 16), ("TrampolineMat$Teller", 223, "heavier", 17), ("TrampolineMat$Teller", 189, "and", 18), ("TrampolineMat$Teller", 181, "or", 19), ("TrampolineMat$Teller", 84, "egg", 20), ("TrampolineMat", 387, "there is no such one", 21)]
/-- words of the exceptions that do not ride in gT -/
def xW : List Cond := [.castable "java/util/NoSuchElementException" "java/util/NoSuchElementException", .castable "java/lang/IllegalArgumentException" "java/lang/IllegalArgumentException", .declares ⟨"java/lang/RuntimeException", "<init>", "(Ljava/lang/String;)V"⟩, .declares ⟨"java/lang/Exception", "<init>", "(Ljava/lang/String;)V"⟩, .declares ⟨"java/lang/Throwable", "<init>", "(Ljava/lang/String;)V"⟩]
def Xw (U : State) : Prop := (∀ w ∈ xW, w.before #[] U = true) ∧ va_Nc "java/lang/IllegalArgumentException" "java/util/NoSuchElementException" U
theorem Xw.go {u U : State} (hvm : u.vm.Alike U.vm) (h : Xw u) : Xw U := by
  have e : ∀ w : Cond, w.onTables = true → w.before #[] (u.setVm U.vm) = w.before #[] u → w.before #[] u = true → w.before #[] U = true := by
    intro w h1 h2 h3
    rw [show U = U.setVm U.vm from rfl, Cond.onTables_vm (A := #[]) (A' := #[]) (U := U) (U' := u) U.vm w h1, h2]
    exact h3
  refine ⟨fun w hw => ?_, h.2.moved hvm⟩
  have h3 := h.1 w hw
  simp only [xW, List.mem_cons, List.not_mem_nil, or_false] at hw
  rcases hw with rfl | rfl | rfl | rfl | rfl
  · exact e _ rfl (Cond.castable_setVm hvm _ _) h3
  · exact e _ rfl (Cond.castable_setVm hvm _ _) h3
  · exact e _ rfl (Cond.declares_setVm hvm _) h3
  · exact e _ rfl (Cond.declares_setVm hvm _) h3
  · exact e _ rfl (Cond.declares_setVm hvm _) h3
def Sx (E : En) (A : Nat → Prop) (U : State) (H : Heap) : Prop := vk_S nJS lenJS bytJS (fun i => E.1 (1000 + 2 * i)) (fun i => E.1 (1001 + 2 * i)) A U H ∧ (∀ q ∈ ldcL, vk_R q.1 q.2.1 q.2.2.1 (E.1 (1000 + 2 * q.2.2.2)) U) ∧
  va_Z "java/lang/String" "COMPACT_STRINGS" "Z" (.int 1) A U H ∧ va_Zq "jdk/internal/util/Preconditions" "SIOOBE_FORMATTER" "Ljava/util/function/BiFunction;" A U H ∧ vx_Zq Bundle.tN "UNASSIGNED_STACK" Bundle.steD A U H ∧ vx_Zq Bundle.tN "SUPPRESSED_SENTINEL" Bundle.listD A U H ∧ Xw U
theorem Sx.go {E : En} {A B : Nat → Prop} {s U : State} {H : Heap} (h : Sx E A s s.heap) (hW : s.WarmedH U.vm) (hS : ∀ a : Nat, a < s.heap.size → ¬ A a → H[a]? = s.heap[a]?) (hBA : ∀ q, B q → A q) : Sx E B U H := by
  obtain ⟨h1, h2, h3, h4, h5, h6, h7⟩ := h
  exact ⟨((h1.kept hS).moved hW.alike).narrow hBA, fun q hq => (h2 q hq).warm hW, ((h3.kept hS).moved hW.alike).narrow hBA, ((h4.kept hS).moved hW.alike).narrow hBA, ((h5.kept hS).moved hW.alike).narrow hBA, ((h6.kept hS).moved hW.alike).narrow hBA, h7.go hW.alike⟩
theorem Sx.same {E : En} {A : Nat → Prop} {U V : State} (h : Sx E A U U.heap) (hv : V.vm = U.vm) (hh : V.heap = U.heap) : Sx E A V V.heap := by
  obtain ⟨h1, h2, h3, h4, h5, h6, h7⟩ := h
  have ha : U.vm.Alike V.vm := by rw [hv]; exact Vm.Alike.refl U.vm
  rw [hh]
  exact ⟨h1.moved ha, fun q hq => (h2 q hq).same hv, h3.moved ha, h4.moved ha, h5.moved ha, h6.moved ha, h7.go ha⟩
