-- ===== falls, wanders, correct =====
def Zw (σ : Sg) : Prop := ∀ j, j < 41 → σ.2.1 32 j = 0
theorem fm_wan : ∀ i k, gs_mwan i k = true → gs_fm i k = true := by
  intro i k h
  simp only [gs_mwan, gs_fm, Bool.and_eq_true, Bool.or_eq_true, Nat.ble_eq, beq_iff_eq] at h ⊢ <;> omega
theorem plc_of {e : Nat} {x : Int32} (he : e ≤ 20) (h : ¬ (x < -(nI e) ∨ nI e < x)) : ∃ k, k < 41 ∧ x = plc k ∧ 20 ≤ k + e ∧ k ≤ 20 + e := by
  have bn := in_bnd he h
  refine ⟨(x.toInt + 20).toNat, by omega, ?_, by omega, by omega⟩
  apply Int32.toInt_inj.mp
  rw [plc_i (by omega)]
  omega
theorem plc_a {k : Nat} : plc k + 20 = nI k ∧ 20 + plc k = nI k := by
  unfold plc
  exact ⟨Int32.sub_add_cancel _ _, by rw [Int32.add_comm, Int32.sub_add_cancel]⟩
theorem wan_rel {g n s e m h q N : Nat} {x : Int32} {σ τ : Sg} (J : Jr g n s e m σ τ) (Z : Zw σ) (hx : ¬ (x < -(nI e) ∨ nI e < x)) (hh : h ≤ 60) (hq : q ≤ 9) (hN : N ≤ 12) : ∃ V f S σ' τ', f_X9_go g x (nI h) (nI q) (nI N) σ = some ((), σ') ∧ f_X11_wandersBy x (nI h) (nI q) (nI N) τ = some ((), τ') ∧ Wd e S N V f σ' τ' ∧ 0 < S ∧ S ≤ 27 ∧ Jr g n s e m σ' τ' ∧ σ'.1 = σ.1 ∧ τ'.1 = τ.1 := by
  obtain ⟨g1, g2, g3, g4, g5, g6, g7⟩ := J.gd
  obtain ⟨a, b, c, l1, l2, l3, l4, l5, l6, l7, l8, l9, l10⟩ := J.2.2.2.2.2.2.2.2.2
  have hS : Sn g a b c σ τ := ⟨l1, l2, l3, l5, l6, l7, l8, l9, l10⟩
  have be := beyond_eq (x := x) (σ := sL (sL σ 30 2 0) 30 3 1) g1
  rw [show (sL (sL σ 30 2 0) 30 3 1).1 = σ.1 from rfl, g4, if_neg hx] at be
  obtain ⟨k, k41, rfl, k1, k2⟩ := plc_of g3 hx
  have in41 := inb_nI k41 (by omega)
  have ck := nI_clamp (show k < 2 ^ 31 by omega)
  have lt41 : nI k < 41 := (nI_ltR (x := 41) (k := 41) rfl (by omega) (by omega)).mpr k41
  have r32 : (sL (sL σ 30 2 0) 30 3 1).2.1 32 k = 0 := by rw [sL_at, if_neg (by omega), sL_at, if_neg (by omega)]; exact Z k k41
  have co : f_X9_comeTo g (plc k) 1 (sL (sL σ 30 2 0) 30 3 1) = some ((), sL (sL (sL σ 30 2 0) 30 3 1) 32 k (0 + 1)) := by
    rw [f_X9_comeTo, ex_gd g1, ex_cl be, ex_bt rfl, plc_a.1, ex_bf (nI_pos (by omega)), ex_bt lt41, ex_lt, ex_gd in41, ex_dL, ck, r32, ex_gd in41, ex_pL, ex_rt]
  obtain ⟨σ1, t1, t2, t3, t4, t5⟩ := takeC (σ := sL (sL (sL σ 30 2 0) 30 3 1) 32 k (0 + 1))
  obtain ⟨τ1, z1, z2, z3, z4, z5⟩ := zero88 (x1 := plc k) (x2 := nI h) (x3 := nI q) (x4 := nI N) 41 0 (8191 - 41) τ rfl
  have W0 : Wd e (a + b + c) 0 (updN (fun _ => 0) k (0 + 1)) 0 σ1 (sL (sL (sL τ1 88 k 1) 56 78 0) 56 79 1) := by
    refine ⟨fun j hj => ⟨?_, ?_, (t2 j hj).2⟩, ⟨?_, ?_⟩, ⟨?_, ?_⟩, ?_, fun j hj ho => ?_⟩
    · rw [(t2 j hj).1, sL_at, updN]
      by_cases y : j = k
      · rw [if_pos ⟨rfl, y⟩, if_pos y]; rfl
      · rw [if_neg (fun w => y w.2), if_neg y, sL_at, if_neg (by omega), sL_at, if_neg (by omega)]; exact Z j hj
    · rw [sL_at, if_neg (by omega), sL_at, if_neg (by omega), sL_at, updN]
      by_cases y : j = k
      · rw [if_pos ⟨rfl, y⟩, if_pos y]; rfl
      · rw [if_neg (fun w => y w.2), if_neg y, z2 j, if_pos (by omega)]; rfl
    · rw [t5, sL_at, if_neg (by omega), sL_at, if_neg (by omega), sL_at, if_pos ⟨rfl, rfl⟩]; rfl
    · rw [sL_at, if_neg (by omega), sL_at, if_pos ⟨rfl, rfl⟩]; rfl
    · rw [t5, sL_at, if_neg (by omega), sL_at, if_pos ⟨rfl, rfl⟩, Nat.pow_zero]; rfl
    · rw [sL_at, if_pos ⟨rfl, rfl⟩, Nat.pow_zero]; rfl
    · have := (sumN_upd (X := fun _ => 0) (j := k) (A := 1) 41).2 k41
      rw [sumN_0 41 (fun _ _ => rfl)] at this
      rw [Nat.pow_zero, this]
    · rw [updN, if_neg (by omega)]
  obtain ⟨V, f, σ', τ', c1, c2, c3, c4, c5⟩ := wan_loop (h := h) (q := q) (N := N) g1 g3 g4 g5 g6 g7 hS hh hq hN N 0 (8191 - N) (8191 - N) _ 0 σ1 (sL (sL (sL τ1 88 k 1) 56 78 0) 56 79 1) (by omega) W0 t3 t4 z3 z4
  rw [show 8191 - N + N + 1 = FU by rw [Nat.sub_add_cancel (by omega)]; rfl] at c1 c2
  have eC : f_X9_go g (plc k) (nI h) (nI q) (nI N) σ = some ((), σ') := by
    rw [f_X9_go, ex_gd g1, ex_pL, ex_pL, ex_cl co, ex_cl t1]
    exact c1
  have eM : f_X11_wandersBy (plc k) (nI h) (nI q) (nI N) τ = some ((), τ') := by
    rw [f_X11_wandersBy]
    refine Eq.trans z1 ?_
    have q0 : (sL (sL (sL τ1 88 k 1) 56 78 0) 56 79 1).1 57 0 = nI a := by show τ1.1 57 0 = nI a; rw [z3]; exact l8
    have q1 : (sL (sL (sL τ1 88 k 1) 56 78 0) 56 79 1).1 57 1 = nI b := by show τ1.1 57 1 = nI b; rw [z3]; exact l9
    have q2 : (sL (sL (sL τ1 88 k 1) 56 78 0) 56 79 1).1 57 2 = nI c := by show τ1.1 57 2 = nI c; rw [z3]; exact l10
    rw [f_X11_wandersBy_b24, plc_a.2, ex_gd in41, ex_pL, ck, ex_pL, ex_pL, ex_dI, show (0 : Int32).toNatClampNeg = 0 from rfl, q0, ex_dI, show (1 : Int32).toNatClampNeg = 1 from rfl, q1, ex_dI, show (2 : Int32).toNatClampNeg = 2 from rfl, q2, nI_add, nI_add]
    exact c2
  exact ⟨V, f, a + b + c, σ', τ', eC, eM, c3, l4, by omega, J.frame (off_mono fc_wan (fr_X9_go _ _ _ _ _ _ _ eC)) (off_mono fm_wan (fr_X11_wandersBy _ _ _ _ _ _ eM)) (fun j hj => by rw [c4]; exact J.2.2.2.2.2.2.1 j hj), c4, c5⟩
