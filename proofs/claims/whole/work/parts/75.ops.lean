-- ===== apart =====
theorem bit_two {x : Int32} {b : Nat} (hb : b < 16) : ((x &&& ((1 : Int32) <<< (nI b &&& 31))) = 0 ∧ ((x >>> (nI b &&& 31)) &&& 1) = 0) ∨ (¬ (x &&& ((1 : Int32) <<< (nI b &&& 31))) = 0 ∧ ((x >>> (nI b &&& 31)) &&& 1) = 1) := by
  have sm : ((nI b &&& 31).toBitVec.smod 32) = BitVec.ofNat 32 b := by
    have : ∀ c : Fin 16, ((nI c.1 &&& 31).toBitVec.smod 32) = BitVec.ofNat 32 c.1 := by decide
    exact this ⟨b, hb⟩
  have nb : (BitVec.ofNat 32 b).toNat = b := by rw [BitVec.toNat_ofNat]; exact Nat.mod_eq_of_lt (by omega)
  have e1 : (x &&& ((1 : Int32) <<< (nI b &&& 31))).toBitVec = x.toBitVec &&& BitVec.twoPow 32 b := by
    rw [Int32.toBitVec_and, Int32.toBitVec_shiftLeft, sm, BitVec.shiftLeft_eq', nb]
    rfl
  have e2 : ((x >>> (nI b &&& 31)) &&& 1).toBitVec = x.toBitVec.sshiftRight b &&& 1#32 := by
    rw [Int32.toBitVec_and, Int32.toBitVec_shiftRight, sm, BitVec.sshiftRight', nb]
    rfl
  rw [BitVec.and_twoPow] at e1
  rw [BitVec.and_one_eq_setWidth_ofBool_getLsbD, BitVec.getLsbD_sshiftRight, if_pos (by omega), Nat.add_zero] at e2
  cases q : x.toBitVec.getLsbD b with
  | false =>
    left
    rw [q] at e1 e2
    exact ⟨Int32.toBitVec_inj.mp (by rw [e1]; rfl), Int32.toBitVec_inj.mp (by rw [e2]; rfl)⟩
  | true =>
    right
    rw [q] at e1 e2
    refine ⟨fun z => ?_, Int32.toBitVec_inj.mp (by rw [e2]; rfl)⟩
    rw [z, if_pos rfl] at e1
    have : ∀ c : Fin 16, ¬ (0 : Int32).toBitVec = BitVec.twoPow 32 c.1 := by decide
    exact this ⟨b, hb⟩ e1
theorem weight_j {g n s e m j : Nat} {σ τ : Sg} (J : Jr g n s e m σ τ) (hj : j < n) : ∃ w, 1 ≤ w ∧ w ≤ 99 ∧ f_X7_told 2 (nI j) 0 σ = some (nI w, σ) ∧ f_X11_weight (nI j) τ = some (nI w, τ) := by
  have hn4 := J.1.2.1
  obtain ⟨w, w1, w2, w3⟩ := (J.2.2.1.2.2.1 j hj).1
  refine ⟨w, w1, w2, ?_, ?_⟩
  · rw [told_eq (j := j) (k := 0) (x := 0) rfl (by omega) (by omega)]
    exact congrArg (fun v => some (v, σ)) w3
  · have := J.2.2.1.2.1 j hj 0 (by omega)
    rw [f_X11_weight, nI_mulL (x := 6) (k := 6) rfl, ex_gd (inb_nI (show 6 * j < 24 by omega) (by omega)), ex_dI, nI_clamp (show 6 * j < 2 ^ 31 by omega), ex_rt]
    exact congrArg (fun v => some (v, τ)) (this.trans w3)
theorem apart_in0 {g n s e m i : Nat} {x l : Int32} {σ τ : Sg} {k12 : Int32 → Int32 → Sg → Option (Int32 × Sg)} {k23 : Int32 → Int32 → Int32 → Int32 → Sg → Option (Int32 × Sg)} (J : Jr g n s e m σ τ) : ∀ (d k fm : Nat), k + d = n → f_X11_apart_b38 k12 k23 (fm + d + 1) x l 0 (nI i) (nI k) τ = k23 x l 0 (nI (i + 1)) τ := by
  intro d
  induction d with
  | zero =>
    intro k fm h
    have : k = n := by omega
    subst this
    rw [f_X11_apart_b38, ex_dI, J.1.2.2.1, ex_bt (Int32.le_refl _), f_X11_apart_b110, nI_1]
  | succ d ih =>
    intro k fm h
    have hn4 := J.1.2.1
    rw [show fm + (d + 1) + 1 = (fm + d + 1) + 1 by omega, f_X11_apart_b38, ex_dI, J.1.2.2.1, ex_bf (nI_ge (by omega) (by omega)), ex_bt rfl, f_X11_apart_b102, f_X11_apart_b103, nI_1]
    exact ih (k + 1) fm (by omega)
theorem apart_in {g n s e m i : Nat} {x l : Int32} {σ τ : Sg} {k2 : Int32 → Int32 → Int32 → Sg → Option (Int32 × Sg)} {k12 : Int32 → Int32 → Sg → Option (Int32 × Sg)} {k23 : Int32 → Int32 → Int32 → Int32 → Sg → Option (Int32 × Sg)} (J : Jr g n s e m σ τ) (hi : i < n) : ∀ (d k fu fm : Nat), k + d = n → (f_X10_lawHolds_b18 k2 (fu + d + 1) l x (nI i) (nI k) σ = k2 l x (nI (i + 1)) σ ∧ f_X11_apart_b38 k12 k23 (fm + d + 1) x l 1 (nI i) (nI k) τ = k23 x l 1 (nI (i + 1)) τ) ∨ (f_X10_lawHolds_b18 k2 (fu + d + 1) l x (nI i) (nI k) σ = some (0, σ) ∧ f_X11_apart_b38 k12 k23 (fm + d + 1) x l 1 (nI i) (nI k) τ = k23 x l 0 (nI (i + 1)) τ) := by
  intro d
  induction d with
  | zero =>
    intro k fu fm h
    have : k = n := by omega
    subst this
    left
    constructor
    · rw [f_X10_lawHolds_b18, ex_dI, J.2.2.1.1, ex_bt (Int32.le_refl _), f_X10_lawHolds_b97, nI_1]
    · rw [f_X11_apart_b38, ex_dI, J.1.2.2.1, ex_bt (Int32.le_refl _), f_X11_apart_b110, nI_1]
  | succ d ih =>
    intro k fu fm h
    have hn4 := J.1.2.1
    obtain ⟨w, w1, w2, w3, w4⟩ := weight_j J hi
    obtain ⟨v, v1, v2, v3, v4⟩ := weight_j J (show k < n by omega)
    have pb : f_X10_pairBit (nI i) (nI k) σ = some ((1 : Int32) <<< (nI (4 * i + k) &&& 31), σ) := by rw [f_X10_pairBit, ex_rt, nI_mulL (x := 4) (k := 4) rfl, nI_add]
    have mb : (4 * nI i) + nI k = nI (4 * i + k) := by rw [nI_mulL (x := 4) (k := 4) rfl, nI_add]
    have of := near_same (σ := σ) (τ := τ) (m := 0) (a := nI w) (b := nI v) (υ := τ) (by rw [nI_toInt (by omega)]; omega) (by rw [nI_toInt (by omega)]; omega)
    have z0 := ih (k + 1) fu fm (by omega)
    have z1 := apart_in0 (i := i) (x := x) (l := l) (k12 := k12) (k23 := k23) J d (k + 1) fm (by omega)
    have b2 : f_X10_lawHolds_b86 k2 (f_X10_lawHolds_b18 k2 (fu + d + 1)) l x (nI i) (nI k) 0 0 σ = f_X10_lawHolds_b18 k2 (fu + d + 1) l x (nI i) (nI (k + 1)) σ := by rw [f_X10_lawHolds_b86, ex_bt rfl, nI_1]
    have b3 : f_X10_lawHolds_b86 k2 (f_X10_lawHolds_b18 k2 (fu + d + 1)) l x (nI i) (nI k) 1 1 σ = f_X10_lawHolds_b18 k2 (fu + d + 1) l x (nI i) (nI (k + 1)) σ := by rw [f_X10_lawHolds_b86, ex_bt rfl, nI_1]
    have b4 : f_X10_lawHolds_b86 k2 (f_X10_lawHolds_b18 k2 (fu + d + 1)) l x (nI i) (nI k) 0 1 σ = some (0, σ) := by rw [f_X10_lawHolds_b86, ex_bf l1_0, ex_rt]
    have b5 : f_X10_lawHolds_b86 k2 (f_X10_lawHolds_b18 k2 (fu + d + 1)) l x (nI i) (nI k) 1 0 σ = some (0, σ) := by rw [f_X10_lawHolds_b86, ex_bf (by decide), ex_rt]
    have c2 : f_X11_apart_b95 k12 k23 (f_X11_apart_b38 k12 k23 (fm + d + 1)) x l (nI i) (nI k) 0 0 τ = f_X11_apart_b38 k12 k23 (fm + d + 1) x l 1 (nI i) (nI (k + 1)) τ := by rw [f_X11_apart_b95, ex_bt rfl, f_X11_apart_b103, nI_1]
    have c3 : f_X11_apart_b95 k12 k23 (f_X11_apart_b38 k12 k23 (fm + d + 1)) x l (nI i) (nI k) 1 1 τ = f_X11_apart_b38 k12 k23 (fm + d + 1) x l 1 (nI i) (nI (k + 1)) τ := by rw [f_X11_apart_b95, ex_bt rfl, f_X11_apart_b103, nI_1]
    have c4 : f_X11_apart_b95 k12 k23 (f_X11_apart_b38 k12 k23 (fm + d + 1)) x l (nI i) (nI k) 0 1 τ = f_X11_apart_b38 k12 k23 (fm + d + 1) x l 0 (nI i) (nI (k + 1)) τ := by rw [f_X11_apart_b95, ex_bf l1_0, f_X11_apart_b102, f_X11_apart_b103, nI_1]
    have c5 : f_X11_apart_b95 k12 k23 (f_X11_apart_b38 k12 k23 (fm + d + 1)) x l (nI i) (nI k) 1 0 τ = f_X11_apart_b38 k12 k23 (fm + d + 1) x l 0 (nI i) (nI (k + 1)) τ := by rw [f_X11_apart_b95, ex_bf (by decide), f_X11_apart_b102, f_X11_apart_b103, nI_1]
    rw [show fu + (d + 1) + 1 = (fu + d + 1) + 1 by omega, show fm + (d + 1) + 1 = (fm + d + 1) + 1 by omega, f_X10_lawHolds_b18, ex_dI, J.2.2.1.1, ex_bf (nI_ge (by omega) (by omega)), ex_cl w3, ex_cl v3, ex_lt, ex_cl pb, f_X11_apart_b38, ex_dI, J.1.2.2.1, ex_bf (nI_ge (by omega) (by omega)), ex_bf l1_0, mb]
    rcases bit_two (x := x) (b := 4 * i + k) (by omega) with ⟨t1, t2⟩ | ⟨t1, t2⟩
    · rw [ex_bt t1, ex_bf (by rw [t2]; decide), f_X10_lawHolds_b71, f_X11_apart_b71, ex_cl w4, ex_cl v4, ex_cl of]
      by_cases y : (if 0 ≤ nI w - nI v then nI w - nI v else 0 - (nI w - nI v)) < l
      · rw [ex_bt y, ex_bt y, b2, c2]
        exact z0
      · rw [ex_bf y, ex_bf y, b5, c5]
        exact Or.inr ⟨rfl, z1⟩
    · rw [ex_bf t1, ex_bt t2, f_X10_lawHolds_b71, f_X11_apart_b71, ex_cl w4, ex_cl v4, ex_cl of]
      by_cases y : (if 0 ≤ nI w - nI v then nI w - nI v else 0 - (nI w - nI v)) < l
      · rw [ex_bt y, ex_bt y, b4, c4]
        exact Or.inr ⟨rfl, z1⟩
      · rw [ex_bf y, ex_bf y, b3, c3]
        exact z0
theorem apart_out0 {g n s e m : Nat} {x l : Int32} {σ τ : Sg} {k12 : Int32 → Int32 → Sg → Option (Int32 × Sg)} (J : Jr g n s e m σ τ) : ∀ (d i fm : Nat), i + d = n → f_X11_apart_b23 k12 (fm + d + 1) x l 0 (nI i) τ = k12 x (l + 1) τ := by
  intro d
  induction d with
  | zero =>
    intro i fm h
    have : i = n := by omega
    subst this
    rw [f_X11_apart_b23, ex_dI, J.1.2.2.1, ex_bt (Int32.le_refl _), f_X11_apart_b116, ex_bt rfl]
  | succ d ih =>
    intro i fm h
    have hn4 := J.1.2.1
    have := apart_in0 (i := i) (x := x) (l := l) (k12 := k12) (k23 := f_X11_apart_b23 k12 (fm + d + 1)) J (n - (i + 1)) (i + 1) (8191 - (n - (i + 1))) (by omega)
    rw [show 8191 - (n - (i + 1)) + (n - (i + 1)) + 1 = FU by rw [Nat.sub_add_cancel (by omega)]; rfl] at this
    rw [show fm + (d + 1) + 1 = (fm + d + 1) + 1 by omega, f_X11_apart_b23, ex_dI, J.1.2.2.1, ex_bf (nI_ge (by omega) (by omega)), nI_1, this]
    exact ih (i + 1) fm (by omega)
theorem apart_out {g n s e m : Nat} {x l : Int32} {σ τ : Sg} {k12 : Int32 → Int32 → Sg → Option (Int32 × Sg)} (J : Jr g n s e m σ τ) : ∀ (d i fu fm : Nat), i + d = n → (f_X10_lawHolds_b2 (fu + d + 1) l x (nI i) σ = some (1, σ) ∧ f_X11_apart_b23 k12 (fm + d + 1) x l 1 (nI i) τ = some (l, τ)) ∨ (f_X10_lawHolds_b2 (fu + d + 1) l x (nI i) σ = some (0, σ) ∧ f_X11_apart_b23 k12 (fm + d + 1) x l 1 (nI i) τ = k12 x (l + 1) τ) := by
  intro d
  induction d with
  | zero =>
    intro i fu fm h
    have : i = n := by omega
    subst this
    left
    constructor
    · rw [f_X10_lawHolds_b2, ex_dI, J.2.2.1.1, ex_bt (Int32.le_refl _), ex_rt]
    · rw [f_X11_apart_b23, ex_dI, J.1.2.2.1, ex_bt (Int32.le_refl _), f_X11_apart_b116, ex_bf l1_0, ex_rt]
  | succ d ih =>
    intro i fu fm h
    have hn4 := J.1.2.1
    have := apart_in (i := i) (x := x) (l := l) (k2 := f_X10_lawHolds_b2 (fu + d + 1)) (k12 := k12) (k23 := f_X11_apart_b23 k12 (fm + d + 1)) J (by omega) (n - (i + 1)) (i + 1) (8191 - (n - (i + 1))) (8191 - (n - (i + 1))) (by omega)
    rw [show 8191 - (n - (i + 1)) + (n - (i + 1)) + 1 = FU by rw [Nat.sub_add_cancel (by omega)]; rfl] at this
    rw [show fu + (d + 1) + 1 = (fu + d + 1) + 1 by omega, show fm + (d + 1) + 1 = (fm + d + 1) + 1 by omega, f_X10_lawHolds_b2, ex_dI, J.2.2.1.1, ex_bf (nI_ge (by omega) (by omega)), f_X11_apart_b23, ex_dI, J.1.2.2.1, ex_bf (nI_ge (by omega) (by omega)), nI_1]
    rcases this with ⟨t1, t2⟩ | ⟨t1, t2⟩
    · rw [t1, t2]
      exact ih (i + 1) fu fm (by omega)
    · rw [t1, t2]
      exact Or.inr ⟨rfl, apart_out0 J d (i + 1) fm (by omega)⟩
theorem apart_loop {g n s e m : Nat} {x : Int32} {σ τ : Sg} (J : Jr g n s e m σ τ) : ∀ (d l fu fm : Nat), l + d = 100 → ∃ v, f_X10_apart_b7 (fu + d + 1) x (nI l) σ = some (v, σ) ∧ f_X11_apart_b12 (fm + d + 1) x (nI l) τ = some (v, τ) := by
  intro d
  induction d with
  | zero =>
    intro l fu fm h
    have : l = 100 := by omega
    subst this
    exact ⟨-1, by rw [f_X10_apart_b7, ex_bt (by decide), ex_rt], by rw [f_X11_apart_b12, ex_bt (by decide), ex_rt]⟩
  | succ d ih =>
    intro l fu fm h
    have hn4 := J.1.2.1
    have a : ¬ (99 : Int32) < nI l := fun h => by have := (nI_ltL (x := 99) (k := 99) rfl (by omega) (by omega)).mp h; omega
    have := apart_out (x := x) (l := nI l) (k12 := f_X11_apart_b12 (fm + d + 1)) J n 0 (8191 - n) (8191 - n) (by omega)
    rw [show 8191 - n + n + 1 = FU by rw [Nat.sub_add_cancel (by omega)]; rfl] at this
    rw [show fu + (d + 1) + 1 = (fu + d + 1) + 1 by omega, show fm + (d + 1) + 1 = (fm + d + 1) + 1 by omega, f_X10_apart_b7, ex_bf a, f_X11_apart_b12, ex_bf a]
    rcases this with ⟨t1, t2⟩ | ⟨t1, t2⟩
    · exact ⟨nI l, by rw [ex_cl (f := f_X10_lawHolds (nI l) x) t1, ex_bf l1_0, ex_rt], t2⟩
    · obtain ⟨v, v1, v2⟩ := ih (l + 1) fu fm (by omega)
      refine ⟨v, ?_, ?_⟩
      · rw [ex_cl (f := f_X10_lawHolds (nI l) x) t1, ex_bt rfl, nI_1]
        exact v1
      · refine t2.trans ?_
        rw [nI_1]
        exact v2
theorem ok_apart {g n s e m : Nat} {σ τ : Sg} (J : Jr g n s e m σ τ) : OkV f_X10_apart f_X11_apart σ τ := by
  obtain ⟨J0, t0⟩ := thr0 J
  obtain ⟨y, σ', τ', a1, a2, a3, -⟩ := pairs_rel J0
  obtain ⟨v, v1, v2⟩ := apart_loop (x := y) a3 100 0 (8191 - 100) (8191 - 100) (by omega)
  exact ⟨v, σ', τ', by rw [f_X10_apart, ex_cl a1]; exact v1, by rw [f_X11_apart, ex_pI, ex_cl a2]; exact v2, g, n, s, e, m, a3⟩
