-- ===== the tables, the texts, the statics at the entry =====
theorem start_K {s : State} {args : Array Value} (hts : ∀ w ∈ gT, w.before args s = true) : ∃ D : va_G, ∀ (c : Nat) (q : vw_C), vwCl[c]? = some q → u_Kn s q.1 q.2.1 q.2.2 (D.1 c) (D.2 c) := by
  have h : ∀ c : Nat, ∃ d : ClassId × (Nat → Nat), ∀ q : vw_C, vwCl[c]? = some q → u_Kn s q.1 q.2.1 q.2.2 d.1 d.2 := by
    intro c
    by_cases hc : c < 12
    · rcases (by omega : c = 0 ∨ c = 1 ∨ c = 2 ∨ c = 3 ∨ c = 4 ∨ c = 5 ∨ c = 6 ∨ c = 7 ∨ c = 8 ∨ c = 9 ∨ c = 10 ∨ c = 11) with rfl | rfl | rfl | rfl | rfl | rfl | rfl | rfl | rfl | rfl | rfl | rfl
      · obtain ⟨a, f, hk⟩ := u_known hts uwsX0 (hts _ cwgX0)
        exact ⟨(a, f), fun q hq => by cases hq; exact hk⟩
      · obtain ⟨a, f, hk⟩ := u_known hts uwsX1 (hts _ cwgX1)
        exact ⟨(a, f), fun q hq => by cases hq; exact hk⟩
      · obtain ⟨a, f, hk⟩ := u_known hts uwsX2 (hts _ cwgX2)
        exact ⟨(a, f), fun q hq => by cases hq; exact hk⟩
      · obtain ⟨a, f, hk⟩ := u_known hts uwsX3 (hts _ cwgX3)
        exact ⟨(a, f), fun q hq => by cases hq; exact hk⟩
      · obtain ⟨a, f, hk⟩ := u_known hts uwsX4 (hts _ cwgX4)
        exact ⟨(a, f), fun q hq => by cases hq; exact hk⟩
      · obtain ⟨a, f, hk⟩ := u_known hts uwsX5 (hts _ cwgX5)
        exact ⟨(a, f), fun q hq => by cases hq; exact hk⟩
      · obtain ⟨a, f, hk⟩ := u_known hts uwsX6 (hts _ cwgX6)
        exact ⟨(a, f), fun q hq => by cases hq; exact hk⟩
      · obtain ⟨a, f, hk⟩ := u_known hts uwsX7 (hts _ cwgX7)
        exact ⟨(a, f), fun q hq => by cases hq; exact hk⟩
      · obtain ⟨a, f, hk⟩ := u_known hts uwsX8 (hts _ cwgX8)
        exact ⟨(a, f), fun q hq => by cases hq; exact hk⟩
      · obtain ⟨a, f, hk⟩ := u_known hts uwsX9 (hts _ cwgX9)
        exact ⟨(a, f), fun q hq => by cases hq; exact hk⟩
      · obtain ⟨a, f, hk⟩ := u_known hts uwsX10 (hts _ cwgX10)
        exact ⟨(a, f), fun q hq => by cases hq; exact hk⟩
      · obtain ⟨a, f, hk⟩ := u_known hts uwsX11 (hts _ cwgX11)
        exact ⟨(a, f), fun q hq => by cases hq; exact hk⟩
    · exact ⟨(default, fun _ => 0), fun q hq => absurd (List.getElem?_eq_some_iff.mp hq).1 (fun z => hc z)⟩
  obtain ⟨d, hd⟩ := Classical.axiomOfChoice h
  exact ⟨(fun c => (d c).1, fun c => (d c).2), fun c q hq => hd c q hq⟩
theorem start_arr {s : State} {args : Array Value} {ty : FieldType} (h : (Cond.arrayClass ty).before args s = true) : ∃ cA : ClassId, ArrOfT s cA ty ∧ s.vm.findClass ("[" ++ ty.toString) = some cA := by
  obtain ⟨cA, kA, comp, hfind, hk, hkind⟩ := Cond.arrayClass_spec h
  exact ⟨cA, fun n z => ⟨fun k h => (by cases h), kA, hk, comp, hkind⟩, hfind⟩
theorem start_arrF {s : State} {args : Array Value} (h : (Cond.arrayOver (.object "TrampolineMat$Flyer")).before args s = true) : ∃ cA : ClassId, ArrOfT s cA (.object "TrampolineMat$Flyer") ∧ va_RA s cA (.object "TrampolineMat$Flyer") := by
  obtain ⟨comp, cA, kA, hcomp, hidx, hkA, hkindA, hnameA⟩ := Cond.arrayOver_spec h
  exact ⟨cA, fun n z => ⟨fun k h => (by cases h), kA, hkA, comp, hkindA⟩, kA, comp, hkA, hkindA, hcomp, hnameA⟩
def qS (i : Nat) : String × Nat × String × Nat := ldcL.getD i ("", 0, "", 0)
def tmS (i : Nat) : Term := .string (qS i).1 (qS i).2.1
abbrev nrL : List Cond := flatC (Jvm.Cond.and given_1 narrow_1)
def posS : List Nat := [37, 52, 66, 75, 88, 100, 114, 130, 149, 165, 181, 197, 218, 240, 262, 284, 305, 327, 355, 380, 405, 432]
def neS : List Nat := [0, 65, 73, 85, 96, 109, 124, 142, 157, 172, 187, 207, 228, 249, 270, 290, 311, 338, 362, 386, 412, 456]
theorem nr_ex : ∀ i, i < 22 → nrL[posS.getD i 0]? = some (.exactly (tmS i) "java/lang/String") := by decide +kernel
theorem nr_co : ∀ i, i < 22 → nrL[posS.getD i 0 + 1]? = some (.eq (.field (tmS i) "java/lang/String" "coder" "B") (.int 0)) := by decide +kernel
theorem nr_ar : ∀ i, i < 22 → nrL[posS.getD i 0 + 2]? = some (.arrayOf (.field (tmS i) "java/lang/String" "value" "[B") .byte) := by decide +kernel
theorem nr_le : ∀ i, i < 22 → nrL[posS.getD i 0 + 3]? = some (.eq (.length (.field (tmS i) "java/lang/String" "value" "[B")) (.int (Int32.ofNat (lenJS.getD i 0)))) := by decide +kernel
theorem nr_el : ∀ i, i < 22 → ∀ j, j < lenJS.getD i 0 → nrL[posS.getD i 0 + 4 + j]? = some (.eq (.elem (.field (tmS i) "java/lang/String" "value" "[B") (.int (Int32.ofNat j))) (.int ((bytJS.getD i []).getD j 0))) := by decide +kernel
theorem nr_ne : ∀ j, j < 22 → ∀ i, i < j → nrL[neS.getD j 0 + i]? = some (.not (.eq (tmS i) (tmS j))) := by decide +kernel
def srS : List Nat := [815, 867, 954, 997, 1006, 1011, 1016, 1029, 1030, 1051, 1076, 1077, 1078, 1079, 1080, 1081, 1082, 1083, 1088, 1089, 1094, 1127]
theorem nr_sr : ∀ i, i < 22 → tables_1[srS.getD i 0]? = some (.stringRef (qS i).1 (qS i).2.1 (qS i).2.2.1) ∧ (qS i).2.2.2 = i := by decide +kernel
theorem len_lt : ∀ i, i < 22 → lenJS.getD i 0 < 2 ^ 31 := by decide +kernel
theorem in_tab {w : Cond} (i : Nat) (h : tables_1[i]? = some w) : w ∈ lw_tbl := List.mem_append_right _ (List.mem_of_getElem? h)
theorem start_Sx {s : State} {b : Nat} (hts : ∀ w ∈ lw_tbl, w.before #[Value.ref b] s = true) (hgv : (Jvm.Cond.and given_1 narrow_1).before #[Value.ref b] s = true) : ∃ aK aV : Nat → Nat, ∀ (D : va_G) (cA : Nat → ClassId), Sx (E0 s.heap.size b aK aV D cA) (fun q => s.heap.size ≤ q) s s.heap := by
  have hn := flat_of_before _ hgv
  have hm : ∀ {w : Cond} (i : Nat), nrL[i]? = some w → w.before #[Value.ref b] s = true := fun i h => hn _ (List.mem_of_getElem? h)
  have hA : ∀ a : Nat, a < s.heap.size → ¬ (fun q => s.heap.size ≤ q) a := fun a h q => Nat.lt_irrefl _ (Nat.lt_of_lt_of_le h q)
  obtain ⟨aK, aV, hS, hE⟩ := vk_Sof (args := #[Value.ref b]) (s := s) (N := 22) (tm := tmS) (len := lenJS) (byt := bytJS) (A := fun q => s.heap.size ≤ q) len_lt (fun i hi => hm _ (nr_ex i hi)) (fun i hi => hm _ (nr_co i hi)) (fun i hi => hm _ (nr_ar i hi)) (fun i hi => hm _ (nr_le i hi)) (fun i hi j hj => hm _ (nr_el i hi j hj)) (fun i j hi hj hij => by
    by_cases z : i < j
    · exact Or.inl (hm _ (nr_ne j hj i z))
    · exact Or.inr (hm _ (nr_ne i hi j (by omega)))) hA
  refine ⟨aK, aV, fun D cA => ⟨?_, fun q hq => ?_, ?_, ?_, ?_, ?_, ?_, ?_⟩⟩
  · show vk_S nJS lenJS bytJS (fun i => E1 s.heap.size b aK aV (1000 + 2 * i)) (fun i => E1 s.heap.size b aK aV (1001 + 2 * i)) _ s s.heap
    rw [E1_K, E1_V]
    exact hS
  · obtain ⟨i, hi⟩ := List.getElem?_of_mem hq
    have hl : i < 22 := (List.getElem?_eq_some_iff.mp hi).1
    have eq : qS i = q := by unfold qS; rw [List.getD_eq_getElem?_getD, hi]; rfl
    obtain ⟨s1, s2⟩ := nr_sr i hl
    have hK : E1 s.heap.size b aK aV (1000 + 2 * i) = aK i := congrFun (E1_K (h := s.heap.size) (b := b) (aK := aK) (aV := aV)) i
    rw [eq] at s1 s2
    show vk_R q.1 q.2.1 q.2.2.1 (E1 s.heap.size b aK aV (1000 + 2 * q.2.2.2)) s
    rw [s2, hK]
    have ev := hE i hl
    unfold tmS at ev
    rw [eq] at ev
    exact vk_R.of (hts _ (in_tab _ s1)) ev
  · exact va_Zof (hts _ (in_tab 881 (by decide +kernel))) (hts _ (in_tab 18 (by decide +kernel))) (va_eqt (hm 6 (by decide +kernel))) hA
  · exact va_Zqof (hts _ (in_tab 920 (by decide +kernel))) (hts _ (in_tab 21 (by decide +kernel))) (hm 7 (by decide +kernel)) hA
  · exact vx_Zqof (hts _ (in_tab 802 (by decide +kernel))) (hts _ (in_tab 13 (by decide +kernel))) (hm 4 (by decide +kernel)) hA
  · exact vx_Zqof (hts _ (in_tab 804 (by decide +kernel))) (hts _ (in_tab 13 (by decide +kernel))) (hm 5 (by decide +kernel)) hA
  · intro w hw
    simp only [xW, List.mem_cons, List.not_mem_nil, or_false] at hw
    rcases hw with rfl | rfl | rfl | rfl | rfl
    · exact va_any rfl (hts _ (in_tab 1120 (by decide +kernel)))
    · exact va_any rfl (hts _ (in_tab 777 (by decide +kernel)))
    · exact va_any rfl (hts _ (in_tab 779 (by decide +kernel)))
    · exact va_any rfl (hts _ (in_tab 781 (by decide +kernel)))
    · exact va_any rfl (hts _ (in_tab 783 (by decide +kernel)))
  · exact va_Nc.of (hm 36 (by decide +kernel))
