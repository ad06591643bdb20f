abbrev gmL (p : Program) (l : Launch) (e : Env) (s : State) (m : MethodId) (below : List Frame) (meth : Method) (c : Code) (b : Nat) (aK aV : Nat → Nat) (D : va_G) (cA : Nat → ClassId) : Cx := (p, l, e, room_1, s, m, #[Value.ref b], below, meth, c, E0 s.heap.size b aK aV D cA, fun q => s.heap.size ≤ q)
def cAf (a0 a1 a2 a3 a4 : ClassId) (k : Nat) : ClassId := match k with
  | 0 => a0
  | 1 => a1
  | 2 => a2
  | 3 => a3
  | _ => a4
theorem start_tyK {s : State} {D : va_G} {h b : Nat} {aK aV : Nat → Nat} {a0 a1 a2 a3 a4 : ClassId} (hD : ∀ (c : Nat) (q : vw_C), vwCl[c]? = some q → u_Kn s q.1 q.2.1 q.2.2 (D.1 c) (D.2 c)) (h0 : ArrOfT s a0 .int ∧ va_RA s a0 .int) (h1 : ArrOfT s a1 .byte ∧ va_RA s a1 .byte) (h2 : ArrOfT s a2 .boolean ∧ va_RA s a2 .boolean) (h3 : ArrOfT s a3 .long ∧ va_RA s a3 .long) (h4 : ArrOfT s a4 (.object "TrampolineMat$Flyer") ∧ va_RA s a4 (.object "TrampolineMat$Flyer")) : va_K D vwCl (tyE (E0 h b aK aV D (cAf a0 a1 a2 a3 a4))) s := by
  refine ⟨hD, fun k q hk => ?_⟩
  match k with
  | 0 => cases hk; exact h0
  | 1 => cases hk; exact h1
  | 2 => cases hk; exact h2
  | 3 => cases hk; exact h3
  | 4 => cases hk; exact h4
  | k + 5 => cases hk
theorem len_a (E : En) (h : Nat) : (ap [] (esX10_init E h)).length = 56 := by
  show ([] ++ esX10_init E h).length = 56
  rw [List.nil_append, fl_X10_init, len10]
theorem len_b (E : En) (h : Nat) : (ap (ap [] (esX10_init E h)) (esX11_init E (h + 56))).length = 95 := by
  show (([] ++ esX10_init E h) ++ esX11_init E (h + 56)).length = 95
  rw [List.nil_append, List.length_append, fl_X10_init, len10, len11]
theorem law_build {Γ : Cx} {Q : State → Prop} {h b : Nat} (G : NG Γ RL cL_law 8 2000 h 601024 7293034) (K : Nz Γ 8 Q h 96 23735 23 [(4, .int 0), (3, .ref (h + 95)), (2, .ref (h + 56)), (1, .ref h), (0, .ref b)] [] (esAll (cE Γ) h)) : Nz Γ 8 Q h 0 0 0 [(0, .ref b)] [] [] := by
  refine nz_new (ci := 10) (fs := [.null, .int 0, .int 0, .int 0, .int 0, .int 0, .null, .null, .null, .int 0, .null, .null, .null, .null]) (k' := 1) (n' := 14) G rfl uwsX10 tyX10 tyX10_ok clL_8 cwgX10 cwnX10 (hfs_of rfl) ⟨rfl, rfl⟩ ⟨Nat.le_of_ble_eq_true rfl, Nat.le_of_ble_eq_true rfl⟩ (dq jL_law 0 rfl) ?_
  refine nz_dup G rfl (dq jL_law 1 rfl) ?_
  refine nz_callI (ea := []) (e0 := [ob 10 [.null, .int 0, .int 0, .int 0, .int 0, .int 0, .null, .null, .null, .int 0, .null, .null, .null, .null]]) (h1 := h) (As := []) (st := [.ref h]) (k' := 56) (n' := 6275) G (c_X10_init (cLn Γ) (cE Γ) h) lkiL_93 rfl rfl rfl (by decide) (Nat.le_of_ble_eq_true rfl) (dq jL_law 2 rfl) rfl ⟨rfl, rfl⟩ ⟨Nat.le_of_ble_eq_true rfl, Nat.le_of_ble_eq_true rfl⟩ ?_
  show Nz Γ 8 Q h 56 6275 7 [(0, .ref b)] [.ref h] (ap [] (esX10_init (cE Γ) h))
  refine nz_astore_n (lv' := [(1, .ref h), (0, .ref b)]) G rfl (by decide) rfl (dq jL_law 3 rfl) ?_
  refine nz_new (ci := 11) (fs := [.int 0, .int 0, .int 0, .int 0, .int 0, .int 0, .int 0, .int 0, .int 0, .null, .null, .null, .null, .null, .null, .int 0, .int 0, .int 0, .null, .int 0, .int 0, .int 0, .int 0, .int 0, .int 0, .int 0, .long 0, .int 0, .int 0, .int 0, .int 0, .int 0, .int 0, .int 0, .int 0, .int 0, .int 0, .int 0, .int 0, .null, .null, .null, .null, .null, .null, .null, .int 0, .int 0, .int 0, .null, .null, .null, .null, .null, .null, .null, .null, .null, .null, .null, .null, .null, .null, .null, .int 0, .int 0, .int 0, .int 0, .int 0, .int 0, .int 0, .int 0, .int 0, .int 0, .null, .null, .null, .null, .long 0, .long 0, .int 0, .null, .null, .int 0, .int 0, .int 0, .int 0, .int 0, .null, .null, .null]) (k' := 57) (n' := 6366) G rfl uwsX11 tyX11 tyX11_ok clL_94 cwgX11 cwnX11 (hfs_of rfl) ⟨rfl, rfl⟩ ⟨Nat.le_of_ble_eq_true rfl, Nat.le_of_ble_eq_true rfl⟩ (dq jL_law 4 rfl) ?_
  refine nz_fl (a' := 56) (len_a _ _) rfl ?_
  refine nz_dup G rfl (dq jL_law 5 rfl) ?_
  refine nz_callI (ea := ap [] (esX10_init (cE Γ) h)) (e0 := [ob 11 [.int 0, .int 0, .int 0, .int 0, .int 0, .int 0, .int 0, .int 0, .int 0, .null, .null, .null, .null, .null, .null, .int 0, .int 0, .int 0, .null, .int 0, .int 0, .int 0, .int 0, .int 0, .int 0, .int 0, .long 0, .int 0, .int 0, .int 0, .int 0, .int 0, .int 0, .int 0, .int 0, .int 0, .int 0, .int 0, .int 0, .null, .null, .null, .null, .null, .null, .null, .int 0, .int 0, .int 0, .null, .null, .null, .null, .null, .null, .null, .null, .null, .null, .null, .null, .null, .null, .null, .int 0, .int 0, .int 0, .int 0, .int 0, .int 0, .int 0, .int 0, .int 0, .int 0, .null, .null, .null, .null, .long 0, .long 0, .int 0, .null, .null, .int 0, .int 0, .int 0, .int 0, .int 0, .null, .null, .null]]) (h1 := h + 56) (As := []) (st := [.ref (h + 56)]) (k' := 95) (n' := 23734) G (c_X11_init (cLn Γ) (cE Γ) (h + 56)) lkiL_96 (by rw [len_a]) rfl rfl (by decide) (Nat.le_of_ble_eq_true rfl) (dq jL_law 6 rfl) rfl ⟨rfl, rfl⟩ ⟨Nat.le_of_ble_eq_true rfl, Nat.le_of_ble_eq_true rfl⟩ ?_
  show Nz Γ 8 Q h 95 23734 15 [(1, .ref h), (0, .ref b)] [.ref (h + 56)] (ap (ap [] (esX10_init (cE Γ) h)) (esX11_init (cE Γ) (h + 56)))
  refine nz_astore_n (lv' := [(2, .ref (h + 56)), (1, .ref h), (0, .ref b)]) G rfl (by decide) rfl (dq jL_law 7 rfl) ?_
  refine nz_iconst G (v := 1) (dq jL_law 8 rfl) rfl ?_
  refine nz_newa (atype := .long) (t0 := 3) (cA := (cE Γ).2.2 3) (N := 1) (a0 := (1, .inr (.inl (fun _ => 0)))) (k' := 96) (n' := 23735) G rfl cwaL rfl (fun _ h9 => h9) (fun _ => rfl) (by decide) (by decide) (by decide) ⟨rfl, rfl⟩ ⟨Nat.le_of_ble_eq_true rfl, Nat.le_of_ble_eq_true rfl⟩ (dq jL_law 9 rfl) ?_
  refine nz_fl (a' := 95) (len_b _ _) rfl ?_
  refine nz_astore_n (lv' := [(3, .ref (h + 95)), (2, .ref (h + 56)), (1, .ref h), (0, .ref b)]) G rfl (by decide) rfl (dq jL_law 10 rfl) ?_
  refine nz_iconst G (v := 0) (dq jL_law 11 rfl) rfl ?_
  refine nz_istore (lv' := [(4, .int 0), (3, .ref (h + 95)), (2, .ref (h + 56)), (1, .ref h), (0, .ref b)]) G (by decide) rfl (dq jL_law 12 rfl) ?_
  exact K
theorem room_ok : (2000 ≤ room_1.frames ∧ 40 * 2000 ≤ room_1.locals) ∧ (601024 ≤ room_1.cells ∧ 7293034 ≤ room_1.slots) ∧ (96 + 4 * 3584 ≤ room_1.cells ∧ 23735 + 24 * 3584 ≤ room_1.slots) := by decide +kernel
