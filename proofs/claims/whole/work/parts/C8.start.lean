/-! THE CLAIM OUT OF ONE WALK OF THE LAW'S BODY. Your part is whole_start (and what it stands on); all else here is the same for every law, but numbers. -/
def R_law : String := "TrampolineMatLaw"
def lw_P (b : Addr) (xs : List Int32) (args : Array Value) (s : State) : Prop := args = #[.ref b] ∧ s.IntsAt b xs ∧ xs.length ≤ 3584 ∧ (Jvm.Cond.and given_1 narrow_1).before args s = true
def lw_Q (_ : Array Value) (s : State) (o : Outcome) (t : State) : Prop := o = .returned (some (.int 1)) ∧ Framed s o t [] 601024 7293034
def lw_Z (below : List Frame) (a : Array Value) (s : State) : State → Prop := fun t => ∃ o, t.status = .running ∧ Ended t below o ∧ lw_Q a s o t
/-- the law's own end, with 1 on the stack, nothing written that was there before, its room as the claim has it -/
theorem lw_ret {p : Program} {l : Launch} {e : Env} {s : State} {m : MethodId} {below : List Frame} {meth : Method} {c : Code} {b : Nat} (hx : p.tables.exec = Jvm.exec) (hb : c.code = code) (hr : meth.sig.returnType = ret) (hlocks : meth.locks = false) {pc : Nat} {H : Heap} {ls : Array Slot} (hdg : decode code pc = .ok (.ireturn, 1)) : W p l e room_1 s m #[Value.ref b] below meth c H [] 601024 7293034 (lw_Z below #[Value.ref b] s) (F0 m pc ls [.int 1]) := by
  intro T hT X
  obtain ⟨fs, hret, hrun, hended, hW, hframe⟩ := X.leave (v := some (.int 1)) (hlocks := hlocks) (fun h => by rw [hr] at h; cases h)
  have hmeth' : T.vm.method? m = some meth := X.method'
  refine ⟨T.setFrames fs, ?_, .returned (some (.int 1)), hrun, hended, rfl, ⟨_, rfl⟩, hW, hframe⟩
  jvm_step X.here [X.here.top, hx, hb, hdg, hmeth', hr, ret, narrow_b1]
  (try refine ⟨rfl, ?_⟩); (try refine ⟨rfl, ?_⟩)
  first | (intro acts; rw [hret _ acts rfl rfl rfl]) | rw [hret _ _ rfl rfl rfl]
  exact Steps.refl _
/-- what holds at the law's entry: the machine, the code, the tables' words (any of lw_tbl by 'hts w (by decide +kernel)'), the script of L ints xs at the cell b, what the Statement gives of the start (any of its parts by flat_of_before) -/
def lw_At (p : Program) (s : State) (m : MethodId) (meth : Method) (c : Code) (b L : Nat) (xs : Nat → Int32) : Prop :=
  p.tables.exec = Jvm.exec ∧ c.code = code ∧ meth.sig.returnType = ret ∧ c.maxLocals = 8 ∧ s.vm.findClass R_law = some m.cls ∧ (∀ w ∈ lw_tbl, w.before #[Value.ref b] s = true) ∧ va_X b L xs s s.heap ∧ b < s.heap.size ∧ meth.locks = false ∧ (Jvm.Cond.and given_1 narrow_1).before #[Value.ref b] s = true
theorem whole_start {p : Program} {e : Env} {s : State} {m : MethodId} {below : List Frame} {meth : Method} {c : Code} (l : Launch) (hflags : l.flags = flags0) {b L : Nat} {xs : Nat → Int32} (hL : L ≤ 3584) (C0 : lw_At p s m meth c b L xs) : W p l e room_1 s m #[Value.ref b] below meth c s.heap [] 0 0 (lw_Z below #[Value.ref b] s) (entryFrame m ([Value.ref b] : List Value).toArray 8) := by
  obtain ⟨hx, hb, hr, hml, hown, hts, hX, hbl, hlocks, hgv⟩ := C0
  have hg : ∀ w ∈ gT, w.before #[Value.ref b] s = true := fun w hw => hts w (List.mem_filter.mp hw).1
  obtain ⟨D, hD⟩ := start_K hg
  obtain ⟨a0, a01, a02⟩ := start_arr (hg _ cwaI)
  obtain ⟨a1, a11, a12⟩ := start_arr (hg _ cwaB)
  obtain ⟨a2, a21, a22⟩ := start_arr (hg _ cwaZ)
  obtain ⟨a3, a31, a32⟩ := start_arr (hg _ cwaL)
  have hO : (Cond.arrayOver (.object "TrampolineMat$Flyer")).before #[Value.ref b] s = true := hts _ (in_tab 256 (by decide +kernel))
  obtain ⟨a4, a41, a42⟩ := start_arrF hO
  obtain ⟨aK, aV, hSx⟩ := start_Sx hts hgv
  have hK := start_tyK (s := s) (h := s.heap.size) (b := b) (aK := aK) (aV := aV) hD ⟨a01, a02⟩ ⟨a11, a12⟩ ⟨a21, a22⟩ ⟨a31, a32⟩ ⟨a41, a42⟩
  have hS9 := hSx D (cAf a0 a1 a2 a3 a4)
  generalize cAf a0 a1 a2 a3 a4 = cA at hK hS9
  have hlt : l.stackTraces = false := by unfold Launch.stackTraces; rw [hflags]; decide
  have GN : NG (gmL p l e s m below meth c b aK aV D cA) RL cL_law 8 2000 s.heap.size 601024 7293034 := ⟨hx, hb, hml, hown, hg, hK, va_AO.of (A := #[Value.ref b]) hO, hlocks, room_ok.1.1, room_ok.1.2, room_ok.2.1.1, room_ok.2.1.2, Nat.le_refl _⟩
  have G0 : ∀ k n, k ≤ (cR (gmL p l e s m below meth c b aK aV D cA)).cells → n ≤ (cR (gmL p l e s m below meth c b aK aV D cA)).slots → GG (gmL p l e s m below meth c b aK aV D cA) RL cL_law 8 (some .boolean) 2000 k n := fun k n h1 h2 => ⟨hx, hb, hml, hown, hg, hK, fun σ => start_D σ, hS9, hlocks, hr, room_ok.1.1, room_ok.1.2, h1, h2⟩
  have hSX : SX (gmL p l e s m below meth c b aK aV D cA) L xs := ⟨hX, hbl, fun (q : s.heap.size ≤ b) => Nat.lt_irrefl _ (Nat.lt_of_lt_of_le hbl q)⟩
  have KE : ∀ k n i, k ≤ (cR (gmL p l e s m below meth c b aK aV D cA)).cells → n ≤ (cR (gmL p l e s m below meth c b aK aV D cA)).slots → Rz (gmL p l e s m below meth c b aK aV D cA) 8 (fun _ => lw_Z below #[Value.ref b] s) k n 2225 (lvL i) [] dnI := by
    intro k n i h1 h2 σ H locs ls r hdn hP hS hl
    refine lv_iconst (v := 1) hx hb (dq jL_law_s9 147 rfl) rfl ?_
    refine W.widen (k := 601024) (n := 7293034) h1 h2 ?_
    refine va_forget (fun q hq => hS.2.2 q hq) ?_
    exact lw_ret hx hb hr hlocks (dq jL_law_s9 148 rfl)
  have N := law_build (b := b) (Q := lw_Z below #[Value.ref b] s) GN (fun H locs ls hz hP hS hl => law_loop hlt hSX hL G0 KE 3584 0 96 23735 (by omega) (by omega) room_ok.2.2.1 room_ok.2.2.2 sg0 H locs ls () (dnI_t start_I) (start_wd hP) hS hl)
  have hl := lv_entry ([Value.ref b] : List Value) (n := 8) (Nat.le_of_ble_eq_true rfl)
  rw [lg_entry_eq]
  generalize (lg_sl ([Value.ref b] : List Value) ++ List.replicate (8 - (lg_sl ([Value.ref b] : List Value)).length) Slot.unset).toArray = ls at hl ⊢
  exact N s.heap [] ls rfl (fun k q hq => by cases hq) va_S.rf hl
