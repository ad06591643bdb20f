theorem ball0 {P : Nat → Prop} : ∀ k, k < 0 → P k := fun k hk => absurd hk (Nat.not_lt_zero k)
theorem ballS {P : Nat → Prop} {n : Nat} (h : ∀ k, k < n → P k) (hn : P n) : ∀ k, k < n + 1 → P k := fun k hk => by
  by_cases z : k = n
  · subst z; exact hn
  · exact h k (by omega)
theorem obj_ext {E : En} {σ : Sg} {i ci : Nat} {ks : List Nat} {fs : List Value} {n : Nat} (hk : ks.length = n) (hl : fs.length = n) (h : ∀ k, k < n → (ks[k]?).map (fun kd => fv E σ i k kd) = fs[k]?) : cellE E σ i (.inr (ci, ks)) = ob ci fs := by
  show (Sum.inr (ci, ks.mapIdx (fun k kd => fv E σ i k kd)) : va_E) = Sum.inr (ci, fs)
  congr 2
  apply List.ext_getElem?
  intro k
  rw [List.getElem?_mapIdx]
  by_cases z : k < n
  · exact h k z
  · rw [List.getElem?_eq_none_iff.mpr (by omega), List.getElem?_eq_none_iff.mpr (by omega)]
    rfl
def fs56 (h : Nat) : List Value := [.int 0, .int 3, .int 9, .int 80, .int 0, .int 1, .int 0, .int 0, .int 0, .ref (h + 57), .ref (h + 58), .ref (h + 59), .ref (h + 60), .ref (h + 61), .ref (h + 62), .int 0, .int 0, .int (-1), .ref (h + 63), .int 0, .int 0, .int 0, .int 0, .int 0, .int 0, .int 0, .long 0, .int 0, .int 0, .int 0, .int 0, .int 0, .int 0, .int 0, .int 0, .int 0, .int 0, .int 0, .int 0, .ref (h + 64), .ref (h + 65), .ref (h + 66), .ref (h + 67), .ref (h + 68), .ref (h + 69), .ref (h + 70), .int (-1), .int 200, .int 0, .ref (h + 71), .ref (h + 72), .ref (h + 73), .ref (h + 74), .ref (h + 75), .ref (h + 76), .ref (h + 77), .ref (h + 78), .ref (h + 79), .ref (h + 80), .ref (h + 81), .ref (h + 82), .ref (h + 83), .ref (h + 84), .ref (h + 85), .int 0, .int 0, .int 0, .int 0, .int 0, .int 0, .int 0, .int 0, .int 0, .int 0, .ref (h + 86), .ref (h + 87), .ref (h + 88), .ref (h + 89), .long 0, .long 0, .int 0, .ref (h + 90), .ref (h + 91), .int 0, .int 0, .int 0, .int 0, .int 0, .ref (h + 92), .ref (h + 93), .ref (h + 94)]
theorem o56 (h b : Nat) (aK aV : Nat → Nat) (D : va_G) (cA : Nat → ClassId) : cellE (E0 h b aK aV D cA) sg0 56 (.inr (11, [0, 0, 0, 0, 0, 0, 0, 0, 0, 4, 5, 6, 7, 8, 9, 0, 0, 0, 10, 0, 0, 0, 0, 0, 0, 0, 1, 0, 0, 0, 0, 0, 0, 0, 0, 0, 0, 0, 0, 11, 12, 13, 14, 15, 16, 17, 0, 0, 0, 18, 19, 20, 21, 22, 23, 24, 25, 26, 27, 28, 29, 30, 31, 32, 0, 0, 0, 0, 0, 0, 0, 0, 0, 0, 33, 34, 35, 36, 1, 1, 0, 37, 38, 0, 0, 0, 0, 0, 39, 40, 41])) = ob 11 (fs56 h) := by
  refine obj_ext (n := 91) rfl rfl ?_
  exact ballS (ballS (ballS (ballS (ballS (ballS (ballS (ballS (ballS (ballS (ballS (ballS (ballS (ballS (ballS (ballS (ballS (ballS (ballS (ballS (ballS (ballS (ballS (ballS (ballS (ballS (ballS (ballS (ballS (ballS (ballS (ballS (ballS (ballS (ballS (ballS (ballS (ballS (ballS (ballS (ballS (ballS (ballS (ballS (ballS (ballS (ballS (ballS (ballS (ballS (ballS (ballS (ballS (ballS (ballS (ballS (ballS (ballS (ballS (ballS (ballS (ballS (ballS (ballS (ballS (ballS (ballS (ballS (ballS (ballS (ballS (ballS (ballS (ballS (ballS (ballS (ballS (ballS (ballS (ballS (ballS (ballS (ballS (ballS (ballS (ballS (ballS (ballS (ballS (ballS (ballS (ball0) rfl) rfl) rfl) rfl) rfl) rfl) rfl) rfl) rfl) rfl) rfl) rfl) rfl) rfl) rfl) rfl) rfl) rfl) rfl) rfl) rfl) rfl) rfl) rfl) rfl) rfl) rfl) rfl) rfl) rfl) rfl) rfl) rfl) rfl) rfl) rfl) rfl) rfl) rfl) rfl) rfl) rfl) rfl) rfl) rfl) rfl) rfl) rfl) rfl) rfl) rfl) rfl) rfl) rfl) rfl) rfl) rfl) rfl) rfl) rfl) rfl) rfl) rfl) rfl) rfl) rfl) rfl) rfl) rfl) rfl) rfl) rfl) rfl) rfl) rfl) rfl) rfl) rfl) rfl) rfl) rfl) rfl) rfl) rfl) rfl) rfl) rfl) rfl) rfl) rfl) rfl
theorem wE_56 (h b : Nat) (aK aV : Nat → Nat) (D : va_G) (cA : Nat → ClassId) : (esX11_init (E0 h b aK aV D cA) (h + 56))[0]? = some (cellE (E0 h b aK aV D cA) sg0 56 (.inr (11, [0, 0, 0, 0, 0, 0, 0, 0, 0, 4, 5, 6, 7, 8, 9, 0, 0, 0, 10, 0, 0, 0, 0, 0, 0, 0, 1, 0, 0, 0, 0, 0, 0, 0, 0, 0, 0, 0, 0, 11, 12, 13, 14, 15, 16, 17, 0, 0, 0, 18, 19, 20, 21, 22, 23, 24, 25, 26, 27, 28, 29, 30, 31, 32, 0, 0, 0, 0, 0, 0, 0, 0, 0, 0, 33, 34, 35, 36, 1, 1, 0, 37, 38, 0, 0, 0, 0, 0, 39, 40, 41]))) := by
  rw [o56]
  rfl
theorem wE_57 (h b : Nat) (aK aV : Nat → Nat) (D : va_G) (cA : Nat → ClassId) : (esX11_init (E0 h b aK aV D cA) (h + 56))[1]? = some (cellE (E0 h b aK aV D cA) sg0 57 (.inl (0, 3))) := rfl
theorem wE_58 (h b : Nat) (aK aV : Nat → Nat) (D : va_G) (cA : Nat → ClassId) : (esX11_init (E0 h b aK aV D cA) (h + 56))[2]? = some (cellE (E0 h b aK aV D cA) sg0 58 (.inl (0, 24))) := rfl
theorem wE_59 (h b : Nat) (aK aV : Nat → Nat) (D : va_G) (cA : Nat → ClassId) : (esX11_init (E0 h b aK aV D cA) (h + 56))[3]? = some (cellE (E0 h b aK aV D cA) sg0 59 (.inl (0, 4))) := rfl
theorem wE_60 (h b : Nat) (aK aV : Nat → Nat) (D : va_G) (cA : Nat → ClassId) : (esX11_init (E0 h b aK aV D cA) (h + 56))[4]? = some (cellE (E0 h b aK aV D cA) sg0 60 (.inl (0, 8))) := rfl
theorem wE_61 (h b : Nat) (aK aV : Nat → Nat) (D : va_G) (cA : Nat → ClassId) : (esX11_init (E0 h b aK aV D cA) (h + 56))[5]? = some (cellE (E0 h b aK aV D cA) sg0 61 (.inl (0, 1600))) := rfl
theorem wE_62 (h b : Nat) (aK aV : Nat → Nat) (D : va_G) (cA : Nat → ClassId) : (esX11_init (E0 h b aK aV D cA) (h + 56))[6]? = some (cellE (E0 h b aK aV D cA) sg0 62 (.inl (0, 600))) := rfl
theorem wE_63 (h b : Nat) (aK aV : Nat → Nat) (D : va_G) (cA : Nat → ClassId) : (esX11_init (E0 h b aK aV D cA) (h + 56))[7]? = some (cellE (E0 h b aK aV D cA) sg0 63 (.inl (0, 3))) := rfl
theorem wE_64 (h b : Nat) (aK aV : Nat → Nat) (D : va_G) (cA : Nat → ClassId) : (esX11_init (E0 h b aK aV D cA) (h + 56))[8]? = some (cellE (E0 h b aK aV D cA) sg0 64 (.inl (0, 3))) := rfl
theorem wE_65 (h b : Nat) (aK aV : Nat → Nat) (D : va_G) (cA : Nat → ClassId) : (esX11_init (E0 h b aK aV D cA) (h + 56))[9]? = some (cellE (E0 h b aK aV D cA) sg0 65 (.inl (0, 24))) := rfl
theorem wE_66 (h b : Nat) (aK aV : Nat → Nat) (D : va_G) (cA : Nat → ClassId) : (esX11_init (E0 h b aK aV D cA) (h + 56))[10]? = some (cellE (E0 h b aK aV D cA) sg0 66 (.inl (0, 4))) := rfl
theorem wE_67 (h b : Nat) (aK aV : Nat → Nat) (D : va_G) (cA : Nat → ClassId) : (esX11_init (E0 h b aK aV D cA) (h + 56))[11]? = some (cellE (E0 h b aK aV D cA) sg0 67 (.inl (0, 8))) := rfl
theorem wE_68 (h b : Nat) (aK aV : Nat → Nat) (D : va_G) (cA : Nat → ClassId) : (esX11_init (E0 h b aK aV D cA) (h + 56))[12]? = some (cellE (E0 h b aK aV D cA) sg0 68 (.inl (0, 1600))) := rfl
theorem wE_69 (h b : Nat) (aK aV : Nat → Nat) (D : va_G) (cA : Nat → ClassId) : (esX11_init (E0 h b aK aV D cA) (h + 56))[13]? = some (cellE (E0 h b aK aV D cA) sg0 69 (.inl (0, 800))) := rfl
theorem wE_70 (h b : Nat) (aK aV : Nat → Nat) (D : va_G) (cA : Nat → ClassId) : (esX11_init (E0 h b aK aV D cA) (h + 56))[14]? = some (cellE (E0 h b aK aV D cA) sg0 70 (.inl (2, 9))) := rfl
theorem wE_71 (h b : Nat) (aK aV : Nat → Nat) (D : va_G) (cA : Nat → ClassId) : (esX11_init (E0 h b aK aV D cA) (h + 56))[15]? = some (cellE (E0 h b aK aV D cA) sg0 71 (.inl (0, 80))) := rfl
theorem wE_72 (h b : Nat) (aK aV : Nat → Nat) (D : va_G) (cA : Nat → ClassId) : (esX11_init (E0 h b aK aV D cA) (h + 56))[16]? = some (cellE (E0 h b aK aV D cA) sg0 72 (.inl (0, 800))) := rfl
theorem wE_73 (h b : Nat) (aK aV : Nat → Nat) (D : va_G) (cA : Nat → ClassId) : (esX11_init (E0 h b aK aV D cA) (h + 56))[17]? = some (cellE (E0 h b aK aV D cA) sg0 73 (.inl (0, 4))) := rfl
theorem wE_74 (h b : Nat) (aK aV : Nat → Nat) (D : va_G) (cA : Nat → ClassId) : (esX11_init (E0 h b aK aV D cA) (h + 56))[18]? = some (cellE (E0 h b aK aV D cA) sg0 74 (.inl (0, 4))) := rfl
theorem wE_75 (h b : Nat) (aK aV : Nat → Nat) (D : va_G) (cA : Nat → ClassId) : (esX11_init (E0 h b aK aV D cA) (h + 56))[19]? = some (cellE (E0 h b aK aV D cA) sg0 75 (.inl (0, 4))) := rfl
theorem wE_76 (h b : Nat) (aK aV : Nat → Nat) (D : va_G) (cA : Nat → ClassId) : (esX11_init (E0 h b aK aV D cA) (h + 56))[20]? = some (cellE (E0 h b aK aV D cA) sg0 76 (.inl (0, 4))) := rfl
theorem wE_77 (h b : Nat) (aK aV : Nat → Nat) (D : va_G) (cA : Nat → ClassId) : (esX11_init (E0 h b aK aV D cA) (h + 56))[21]? = some (cellE (E0 h b aK aV D cA) sg0 77 (.inl (0, 4))) := rfl
theorem wE_78 (h b : Nat) (aK aV : Nat → Nat) (D : va_G) (cA : Nat → ClassId) : (esX11_init (E0 h b aK aV D cA) (h + 56))[22]? = some (cellE (E0 h b aK aV D cA) sg0 78 (.inl (0, 4))) := rfl
theorem wE_79 (h b : Nat) (aK aV : Nat → Nat) (D : va_G) (cA : Nat → ClassId) : (esX11_init (E0 h b aK aV D cA) (h + 56))[23]? = some (cellE (E0 h b aK aV D cA) sg0 79 (.inl (0, 4))) := rfl
theorem wE_80 (h b : Nat) (aK aV : Nat → Nat) (D : va_G) (cA : Nat → ClassId) : (esX11_init (E0 h b aK aV D cA) (h + 56))[24]? = some (cellE (E0 h b aK aV D cA) sg0 80 (.inl (0, 4))) := rfl
theorem wE_81 (h b : Nat) (aK aV : Nat → Nat) (D : va_G) (cA : Nat → ClassId) : (esX11_init (E0 h b aK aV D cA) (h + 56))[25]? = some (cellE (E0 h b aK aV D cA) sg0 81 (.inl (0, 4))) := rfl
theorem wE_82 (h b : Nat) (aK aV : Nat → Nat) (D : va_G) (cA : Nat → ClassId) : (esX11_init (E0 h b aK aV D cA) (h + 56))[26]? = some (cellE (E0 h b aK aV D cA) sg0 82 (.inl (0, 4))) := rfl
theorem wE_83 (h b : Nat) (aK aV : Nat → Nat) (D : va_G) (cA : Nat → ClassId) : (esX11_init (E0 h b aK aV D cA) (h + 56))[27]? = some (cellE (E0 h b aK aV D cA) sg0 83 (.inl (0, 24))) := rfl
theorem wE_84 (h b : Nat) (aK aV : Nat → Nat) (D : va_G) (cA : Nat → ClassId) : (esX11_init (E0 h b aK aV D cA) (h + 56))[28]? = some (cellE (E0 h b aK aV D cA) sg0 84 (.inl (0, 2400))) := rfl
theorem wE_85 (h b : Nat) (aK aV : Nat → Nat) (D : va_G) (cA : Nat → ClassId) : (esX11_init (E0 h b aK aV D cA) (h + 56))[29]? = some (cellE (E0 h b aK aV D cA) sg0 85 (.inl (0, 6500))) := rfl
theorem wE_86 (h b : Nat) (aK aV : Nat → Nat) (D : va_G) (cA : Nat → ClassId) : (esX11_init (E0 h b aK aV D cA) (h + 56))[30]? = some (cellE (E0 h b aK aV D cA) sg0 86 (.inl (0, 1300))) := rfl
theorem wE_87 (h b : Nat) (aK aV : Nat → Nat) (D : va_G) (cA : Nat → ClassId) : (esX11_init (E0 h b aK aV D cA) (h + 56))[31]? = some (cellE (E0 h b aK aV D cA) sg0 87 (.inl (0, 1300))) := rfl
theorem wE_88 (h b : Nat) (aK aV : Nat → Nat) (D : va_G) (cA : Nat → ClassId) : (esX11_init (E0 h b aK aV D cA) (h + 56))[32]? = some (cellE (E0 h b aK aV D cA) sg0 88 (.inl (3, 41))) := rfl
theorem wE_89 (h b : Nat) (aK aV : Nat → Nat) (D : va_G) (cA : Nat → ClassId) : (esX11_init (E0 h b aK aV D cA) (h + 56))[33]? = some (cellE (E0 h b aK aV D cA) sg0 89 (.inl (3, 41))) := rfl
theorem wE_90 (h b : Nat) (aK aV : Nat → Nat) (D : va_G) (cA : Nat → ClassId) : (esX11_init (E0 h b aK aV D cA) (h + 56))[34]? = some (cellE (E0 h b aK aV D cA) sg0 90 (.inl (0, 20))) := rfl
theorem wE_91 (h b : Nat) (aK aV : Nat → Nat) (D : va_G) (cA : Nat → ClassId) : (esX11_init (E0 h b aK aV D cA) (h + 56))[35]? = some (cellE (E0 h b aK aV D cA) sg0 91 (.inl (0, 8))) := rfl
theorem wE_92 (h b : Nat) (aK aV : Nat → Nat) (D : va_G) (cA : Nat → ClassId) : (esX11_init (E0 h b aK aV D cA) (h + 56))[36]? = some (cellE (E0 h b aK aV D cA) sg0 92 (.inl (0, 24))) := rfl
theorem wE_93 (h b : Nat) (aK aV : Nat → Nat) (D : va_G) (cA : Nat → ClassId) : (esX11_init (E0 h b aK aV D cA) (h + 56))[37]? = some (cellE (E0 h b aK aV D cA) sg0 93 (.inl (0, 80))) := rfl
theorem wE_94 (h b : Nat) (aK aV : Nat → Nat) (D : va_G) (cA : Nat → ClassId) : (esX11_init (E0 h b aK aV D cA) (h + 56))[38]? = some (cellE (E0 h b aK aV D cA) sg0 94 (.inl (0, 20))) := rfl
theorem wE_95 (h b : Nat) (aK aV : Nat → Nat) (D : va_G) (cA : Nat → ClassId) : ([.inl ((E0 h b aK aV D cA).2.2 3, 1, .inr (.inl (fun _ => 0)))] : List va_E)[0]? = some (cellE (E0 h b aK aV D cA) sg0 95 (.inl (3, 1))) := rfl
theorem len10 (E : En) (h : Nat) : (flX10_init E h).length = 56 := rfl
theorem len11 (E : En) (h : Nat) : (esX11_init E h).length = 39 := rfl
theorem all_lo {E : En} {h j : Nat} {e : va_E} (hj : (flX10_init E h)[j]? = some e) : (esAll E h)[j]? = some e := by
  have hl : j < 56 := by rw [← len10 E h]; exact (List.getElem?_eq_some_iff.mp hj).1
  show (([] ++ esX10_init E h) ++ esX11_init E (h + 56) ++ [_])[j]? = _
  rw [fl_X10_init, List.nil_append, List.append_assoc, List.getElem?_append_left (by rw [len10]; exact hl)]
  exact hj
theorem all_hi {E : En} {h j : Nat} {e : va_E} (hj : (esX11_init E (h + 56))[j]? = some e) : (esAll E h)[56 + j]? = some e := by
  have hl : j < 39 := by rw [← len11 E (h + 56)]; exact (List.getElem?_eq_some_iff.mp hj).1
  show (([] ++ esX10_init E h) ++ esX11_init E (h + 56) ++ [_])[56 + j]? = _
  rw [fl_X10_init, List.nil_append, List.append_assoc, List.getElem?_append_right (by rw [len10]; omega), len10, show 56 + j - 56 = j by omega, List.getElem?_append_left (by rw [len11]; exact hl)]
  exact hj
theorem all_out {E : En} {h : Nat} {e : va_E} (hj : ([.inl (E.2.2 3, 1, .inr (.inl (fun _ => 0)))] : List va_E)[0]? = some e) : (esAll E h)[95]? = some e := by
  show (([] ++ esX10_init E h) ++ esX11_init E (h + 56) ++ [_])[95]? = _
  rw [fl_X10_init, List.nil_append, List.append_assoc, List.getElem?_append_right (by rw [len10]; omega), len10, List.getElem?_append_right (by rw [len11]; omega), len11]
  exact hj
theorem arrV_same {c : ClassId} {n : Nat} {f g : Nat → Value} (h : ∀ j, j < n → f j = g j) : arrV c n f = arrV c n g := by
  unfold arrV
  congr 1
  congr 1
  funext j
  exact h j.1 j.2
theorem start_wd {h b : Nat} {aK aV : Nat → Nat} {D : va_G} {cA : Nat → ClassId} {H : Heap} (hP : va_P D vwCl (wl h (esAll (E0 h b aK aV D cA) h)) H) : va_P D vwCl (wd (E0 h b aK aV D cA) sg0) H := by
  intro i q hq
  obtain ⟨hi, ha⟩ := wd_addr hq
  have hi : i < 96 := hi
  have key : ∀ (i : Nat) (sh : Sh), i < 96 → shp[i]? = some sh → (esAll (E0 h b aK aV D cA) h)[ordL.getD i 0]? = some (cellE (E0 h b aK aV D cA) sg0 i sh) → ∀ q, (wd (E0 h b aK aV D cA) sg0)[i]? = some q → va_at D vwCl q H := by
    intro i sh hi hs hc q hq
    rw [wd_at hs] at hq
    cases hq
    have := hP _ _ (wl_at hc)
    show va_at D vwCl (E1 h b aK aV i, _) H
    rw [E1_lt hi]
    exact this
  have P18 : ∀ q, (wd (E0 h b aK aV D cA) sg0)[18]? = some q → va_at D vwCl q H := by
    intro q hq
    rw [wd_at sh18] at hq
    cases hq
    have := hP _ _ (wl_at (all_lo (wE_18 h b aK aV D cA)))
    show H[E1 h b aK aV 18]? = some (vp_cell _ _)
    rw [E1_lt (by omega), show H[h + ordL.getD 18 0]? = _ from this]
    show some (vp_cell (cA 4) (4, .inr (.inr (.inr (.inr _))))) = some (vp_cell (cA 4) (4, .inr (.inr (.inr (.inr _)))))
    rw [vp_cell_q, vp_cell_q]
    exact congrArg some (arrV_same (fun j hj => by
      rcases (by omega : j = 0 ∨ j = 1 ∨ j = 2 ∨ j = 3) with rfl | rfl | rfl | rfl <;> rfl))
  have C0 : ∀ i, i < 0 → ∀ q, (wd (E0 h b aK aV D cA) sg0)[i]? = some q → va_at D vwCl q H := ball0
  have C1 := ballS C0 (key 0 _ (by decide) sh0 (all_lo (wE_0 h b aK aV D cA)))
  have C2 := ballS C1 (key 1 _ (by decide) sh1 (all_lo (wE_1 h b aK aV D cA)))
  have C3 := ballS C2 (key 2 _ (by decide) sh2 (all_lo (wE_2 h b aK aV D cA)))
  have C4 := ballS C3 (key 3 _ (by decide) sh3 (all_lo (wE_3 h b aK aV D cA)))
  have C5 := ballS C4 (key 4 _ (by decide) sh4 (all_lo (wE_4 h b aK aV D cA)))
  have C6 := ballS C5 (key 5 _ (by decide) sh5 (all_lo (wE_5 h b aK aV D cA)))
  have C7 := ballS C6 (key 6 _ (by decide) sh6 (all_lo (wE_6 h b aK aV D cA)))
  have C8 := ballS C7 (key 7 _ (by decide) sh7 (all_lo (wE_7 h b aK aV D cA)))
  have C9 := ballS C8 (key 8 _ (by decide) sh8 (all_lo (wE_8 h b aK aV D cA)))
  have C10 := ballS C9 (key 9 _ (by decide) sh9 (all_lo (wE_9 h b aK aV D cA)))
  have C11 := ballS C10 (key 10 _ (by decide) sh10 (all_lo (wE_10 h b aK aV D cA)))
  have C12 := ballS C11 (key 11 _ (by decide) sh11 (all_lo (wE_11 h b aK aV D cA)))
  have C13 := ballS C12 (key 12 _ (by decide) sh12 (all_lo (wE_12 h b aK aV D cA)))
  have C14 := ballS C13 (key 13 _ (by decide) sh13 (all_lo (wE_13 h b aK aV D cA)))
  have C15 := ballS C14 (key 14 _ (by decide) sh14 (all_lo (wE_14 h b aK aV D cA)))
  have C16 := ballS C15 (key 15 _ (by decide) sh15 (all_lo (wE_15 h b aK aV D cA)))
  have C17 := ballS C16 (key 16 _ (by decide) sh16 (all_lo (wE_16 h b aK aV D cA)))
  have C18 := ballS C17 (key 17 _ (by decide) sh17 (all_lo (wE_17 h b aK aV D cA)))
  have C19 := ballS C18 (P18)
  have C20 := ballS C19 (key 19 _ (by decide) sh19 (all_lo (wE_19 h b aK aV D cA)))
  have C21 := ballS C20 (key 20 _ (by decide) sh20 (all_lo (wE_20 h b aK aV D cA)))
  have C22 := ballS C21 (key 21 _ (by decide) sh21 (all_lo (wE_21 h b aK aV D cA)))
  have C23 := ballS C22 (key 22 _ (by decide) sh22 (all_lo (wE_22 h b aK aV D cA)))
  have C24 := ballS C23 (key 23 _ (by decide) sh23 (all_lo (wE_23 h b aK aV D cA)))
  have C25 := ballS C24 (key 24 _ (by decide) sh24 (all_lo (wE_24 h b aK aV D cA)))
  have C26 := ballS C25 (key 25 _ (by decide) sh25 (all_lo (wE_25 h b aK aV D cA)))
  have C27 := ballS C26 (key 26 _ (by decide) sh26 (all_lo (wE_26 h b aK aV D cA)))
  have C28 := ballS C27 (key 27 _ (by decide) sh27 (all_lo (wE_27 h b aK aV D cA)))
  have C29 := ballS C28 (key 28 _ (by decide) sh28 (all_lo (wE_28 h b aK aV D cA)))
  have C30 := ballS C29 (key 29 _ (by decide) sh29 (all_lo (wE_29 h b aK aV D cA)))
  have C31 := ballS C30 (key 30 _ (by decide) sh30 (all_lo (wE_30 h b aK aV D cA)))
  have C32 := ballS C31 (key 31 _ (by decide) sh31 (all_lo (wE_31 h b aK aV D cA)))
  have C33 := ballS C32 (key 32 _ (by decide) sh32 (all_lo (wE_32 h b aK aV D cA)))
  have C34 := ballS C33 (key 33 _ (by decide) sh33 (all_lo (wE_33 h b aK aV D cA)))
  have C35 := ballS C34 (key 34 _ (by decide) sh34 (all_lo (wE_34 h b aK aV D cA)))
  have C36 := ballS C35 (key 35 _ (by decide) sh35 (all_lo (wE_35 h b aK aV D cA)))
  have C37 := ballS C36 (key 36 _ (by decide) sh36 (all_lo (wE_36 h b aK aV D cA)))
  have C38 := ballS C37 (key 37 _ (by decide) sh37 (all_lo (wE_37 h b aK aV D cA)))
  have C39 := ballS C38 (key 38 _ (by decide) sh38 (all_lo (wE_38 h b aK aV D cA)))
  have C40 := ballS C39 (key 39 _ (by decide) sh39 (all_lo (wE_39 h b aK aV D cA)))
  have C41 := ballS C40 (key 40 _ (by decide) sh40 (all_lo (wE_40 h b aK aV D cA)))
  have C42 := ballS C41 (key 41 _ (by decide) sh41 (all_lo (wE_41 h b aK aV D cA)))
  have C43 := ballS C42 (key 42 _ (by decide) sh42 (all_lo (wE_42 h b aK aV D cA)))
  have C44 := ballS C43 (key 43 _ (by decide) sh43 (all_lo (wE_43 h b aK aV D cA)))
  have C45 := ballS C44 (key 44 _ (by decide) sh44 (all_lo (wE_44 h b aK aV D cA)))
  have C46 := ballS C45 (key 45 _ (by decide) sh45 (all_lo (wE_45 h b aK aV D cA)))
  have C47 := ballS C46 (key 46 _ (by decide) sh46 (all_lo (wE_46 h b aK aV D cA)))
  have C48 := ballS C47 (key 47 _ (by decide) sh47 (all_lo (wE_47 h b aK aV D cA)))
  have C49 := ballS C48 (key 48 _ (by decide) sh48 (all_lo (wE_48 h b aK aV D cA)))
  have C50 := ballS C49 (key 49 _ (by decide) sh49 (all_lo (wE_49 h b aK aV D cA)))
  have C51 := ballS C50 (key 50 _ (by decide) sh50 (all_lo (wE_50 h b aK aV D cA)))
  have C52 := ballS C51 (key 51 _ (by decide) sh51 (all_lo (wE_51 h b aK aV D cA)))
  have C53 := ballS C52 (key 52 _ (by decide) sh52 (all_lo (wE_52 h b aK aV D cA)))
  have C54 := ballS C53 (key 53 _ (by decide) sh53 (all_lo (wE_53 h b aK aV D cA)))
  have C55 := ballS C54 (key 54 _ (by decide) sh54 (all_lo (wE_54 h b aK aV D cA)))
  have C56 := ballS C55 (key 55 _ (by decide) sh55 (all_lo (wE_55 h b aK aV D cA)))
  have C57 := ballS C56 (key 56 _ (by decide) sh56 (all_hi (j := 0) (wE_56 h b aK aV D cA)))
  have C58 := ballS C57 (key 57 _ (by decide) sh57 (all_hi (j := 1) (wE_57 h b aK aV D cA)))
  have C59 := ballS C58 (key 58 _ (by decide) sh58 (all_hi (j := 2) (wE_58 h b aK aV D cA)))
  have C60 := ballS C59 (key 59 _ (by decide) sh59 (all_hi (j := 3) (wE_59 h b aK aV D cA)))
  have C61 := ballS C60 (key 60 _ (by decide) sh60 (all_hi (j := 4) (wE_60 h b aK aV D cA)))
  have C62 := ballS C61 (key 61 _ (by decide) sh61 (all_hi (j := 5) (wE_61 h b aK aV D cA)))
  have C63 := ballS C62 (key 62 _ (by decide) sh62 (all_hi (j := 6) (wE_62 h b aK aV D cA)))
  have C64 := ballS C63 (key 63 _ (by decide) sh63 (all_hi (j := 7) (wE_63 h b aK aV D cA)))
  have C65 := ballS C64 (key 64 _ (by decide) sh64 (all_hi (j := 8) (wE_64 h b aK aV D cA)))
  have C66 := ballS C65 (key 65 _ (by decide) sh65 (all_hi (j := 9) (wE_65 h b aK aV D cA)))
  have C67 := ballS C66 (key 66 _ (by decide) sh66 (all_hi (j := 10) (wE_66 h b aK aV D cA)))
  have C68 := ballS C67 (key 67 _ (by decide) sh67 (all_hi (j := 11) (wE_67 h b aK aV D cA)))
  have C69 := ballS C68 (key 68 _ (by decide) sh68 (all_hi (j := 12) (wE_68 h b aK aV D cA)))
  have C70 := ballS C69 (key 69 _ (by decide) sh69 (all_hi (j := 13) (wE_69 h b aK aV D cA)))
  have C71 := ballS C70 (key 70 _ (by decide) sh70 (all_hi (j := 14) (wE_70 h b aK aV D cA)))
  have C72 := ballS C71 (key 71 _ (by decide) sh71 (all_hi (j := 15) (wE_71 h b aK aV D cA)))
  have C73 := ballS C72 (key 72 _ (by decide) sh72 (all_hi (j := 16) (wE_72 h b aK aV D cA)))
  have C74 := ballS C73 (key 73 _ (by decide) sh73 (all_hi (j := 17) (wE_73 h b aK aV D cA)))
  have C75 := ballS C74 (key 74 _ (by decide) sh74 (all_hi (j := 18) (wE_74 h b aK aV D cA)))
  have C76 := ballS C75 (key 75 _ (by decide) sh75 (all_hi (j := 19) (wE_75 h b aK aV D cA)))
  have C77 := ballS C76 (key 76 _ (by decide) sh76 (all_hi (j := 20) (wE_76 h b aK aV D cA)))
  have C78 := ballS C77 (key 77 _ (by decide) sh77 (all_hi (j := 21) (wE_77 h b aK aV D cA)))
  have C79 := ballS C78 (key 78 _ (by decide) sh78 (all_hi (j := 22) (wE_78 h b aK aV D cA)))
  have C80 := ballS C79 (key 79 _ (by decide) sh79 (all_hi (j := 23) (wE_79 h b aK aV D cA)))
  have C81 := ballS C80 (key 80 _ (by decide) sh80 (all_hi (j := 24) (wE_80 h b aK aV D cA)))
  have C82 := ballS C81 (key 81 _ (by decide) sh81 (all_hi (j := 25) (wE_81 h b aK aV D cA)))
  have C83 := ballS C82 (key 82 _ (by decide) sh82 (all_hi (j := 26) (wE_82 h b aK aV D cA)))
  have C84 := ballS C83 (key 83 _ (by decide) sh83 (all_hi (j := 27) (wE_83 h b aK aV D cA)))
  have C85 := ballS C84 (key 84 _ (by decide) sh84 (all_hi (j := 28) (wE_84 h b aK aV D cA)))
  have C86 := ballS C85 (key 85 _ (by decide) sh85 (all_hi (j := 29) (wE_85 h b aK aV D cA)))
  have C87 := ballS C86 (key 86 _ (by decide) sh86 (all_hi (j := 30) (wE_86 h b aK aV D cA)))
  have C88 := ballS C87 (key 87 _ (by decide) sh87 (all_hi (j := 31) (wE_87 h b aK aV D cA)))
  have C89 := ballS C88 (key 88 _ (by decide) sh88 (all_hi (j := 32) (wE_88 h b aK aV D cA)))
  have C90 := ballS C89 (key 89 _ (by decide) sh89 (all_hi (j := 33) (wE_89 h b aK aV D cA)))
  have C91 := ballS C90 (key 90 _ (by decide) sh90 (all_hi (j := 34) (wE_90 h b aK aV D cA)))
  have C92 := ballS C91 (key 91 _ (by decide) sh91 (all_hi (j := 35) (wE_91 h b aK aV D cA)))
  have C93 := ballS C92 (key 92 _ (by decide) sh92 (all_hi (j := 36) (wE_92 h b aK aV D cA)))
  have C94 := ballS C93 (key 93 _ (by decide) sh93 (all_hi (j := 37) (wE_93 h b aK aV D cA)))
  have C95 := ballS C94 (key 94 _ (by decide) sh94 (all_hi (j := 38) (wE_94 h b aK aV D cA)))
  have C96 := ballS C95 (key 95 _ (by decide) sh95 (all_out (wE_95 h b aK aV D cA)))
  exact C96 i hi q hq
theorem start_D {h b : Nat} {aK aV : Nat → Nat} {D : va_G} {cA : Nat → ClassId} (σ : Sg) : va_D (fun q => h ≤ q) (wd (E0 h b aK aV D cA) σ) := by
  refine ⟨fun i j p q hi hj e => ?_, fun k q hk => ?_⟩
  · obtain ⟨a1, a2⟩ := wd_addr hi
    obtain ⟨b1, b2⟩ := wd_addr hj
    have a1 : i < 96 := a1
    have b1 : j < 96 := b1
    rw [a2, b2] at e
    have e : E1 h b aK aV i = E1 h b aK aV j := e
    rw [E1_lt a1, E1_lt b1] at e
    exact ord_inj i a1 j b1 (by omega)
  · obtain ⟨a1, a2⟩ := wd_addr hk
    have a1 : k < 96 := a1
    rw [a2]
    show h ≤ E1 h b aK aV k
    rw [E1_lt a1]; omega
theorem start_J : Jr 35 0 3 9 0 sg0 sg0 := by
  have no : ∀ {P : Prop} {j : Nat}, j < 0 → P := fun h => absurd h (by omega)
  refine ⟨⟨rfl, by omega, rfl, ⟨by omega, by omega, rfl, rfl⟩, ⟨rfl, rfl, rfl, rfl⟩, by omega, rfl, ⟨80, by omega, rfl⟩, by decide, by decide⟩, ⟨by omega, rfl, rfl, fun r hr => no hr⟩, ⟨rfl, fun j hj => no hj, fun j hj => no hj, ⟨rfl, Or.inl rfl⟩, ⟨200, by omega, by omega, rfl, rfl⟩, ⟨0, by omega, rfl, rfl, fun i hi => no hi⟩, ⟨0, by omega, rfl, rfl, fun i hi => no hi⟩⟩, ⟨rfl, Or.inl rfl⟩, ⟨0, by omega, rfl, rfl, fun i hi => no hi⟩, ⟨rfl, rfl, rfl, rfl⟩, fun j hj => ?_, ⟨rfl, 42, rfl, by decide, rfl⟩, ⟨rfl, 0, by omega, rfl, rfl, fun i hi => no hi⟩, ⟨0, 1, 0, by omega, by omega, by omega, by omega, rfl, rfl, rfl, rfl, rfl, rfl⟩⟩
  rcases (by omega : j = 0 ∨ j = 1 ∨ j = 2 ∨ j = 3) with rfl | rfl | rfl | rfl <;> rfl
theorem start_I : Iw sg0 := ⟨⟨35, 0, 3, 9, 0, start_J⟩, fun _ _ => rfl⟩
