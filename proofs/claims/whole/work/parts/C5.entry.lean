-- ===== the law's entry =====
theorem clL_8 : Cond.classLink RL 8 RX10 ∈ gT := gT_tab 27 (by decide +kernel) rfl
theorem clL_94 : Cond.classLink RL 94 RX11 ∈ gT := gT_tab 1409 (by decide +kernel) rfl
theorem cwgX10 : Cond.instantiable RX10 14 ∈ gT := gT_tab 28 (by decide +kernel) rfl
theorem cwgX11 : Cond.instantiable RX11 91 ∈ gT := gT_tab 1410 (by decide +kernel) rfl
theorem cwiX10_init : Cond.instanceMethod yX10_init ∈ gT := gT_tab 30 (by decide +kernel) rfl
theorem cwcX10_init : Cond.code yX10_init cX10_init 1 none ∈ gT := gT_tab 31 (by decide +kernel) rfl
theorem lkiL_93 : LkI RL 93 yX10_init cX10_init 1 0 := ⟨⟨gT_tab 29 (by decide +kernel) rfl, cwiX10_init, cwnX10, cwcX10_init⟩, ⟨by decide, by decide, by decide +kernel⟩, by decide, rfl⟩
theorem cwiX11_init : Cond.instanceMethod yX11_init ∈ gT := gT_tab 1412 (by decide +kernel) rfl
theorem cwcX11_init : Cond.code yX11_init cX11_init 1 none ∈ gT := gT_tab 1413 (by decide +kernel) rfl
theorem lkiL_96 : LkI RL 96 yX11_init cX11_init 1 0 := ⟨⟨gT_tab 1411 (by decide +kernel) rfl, cwiX11_init, cwnX11, cwcX11_init⟩, ⟨by decide, by decide, by decide +kernel⟩, by decide, rfl⟩
def ordL : List Nat := [0, 1, 9, 10, 11, 12, 13, 14, 15, 16, 17, 18, 19, 20, 21, 22, 23, 31, 32, 43, 44, 45, 46, 47, 48, 49, 50, 33, 34, 35, 51, 52, 53, 54, 55, 2, 3, 4, 5, 6, 7, 8, 24, 25, 26, 27, 28, 29, 30, 36, 37, 38, 39, 40, 41, 42, 56, 57, 58, 59, 60, 61, 62, 63, 64, 65, 66, 67, 68, 69, 70, 71, 72, 73, 74, 75, 76, 77, 78, 79, 80, 81, 82, 83, 84, 85, 86, 87, 88, 89, 90, 91, 92, 93, 94, 95]
def E1 (h b : Nat) (aK aV : Nat → Nat) (i : Nat) : Nat := cond (Nat.blt i 96) (h + ordL.getD i 0) (cond (Nat.beq i 999) b (cond (Nat.beq (i % 2) 0) (aK ((i - 1000) / 2)) (aV ((i - 1001) / 2))))
abbrev E0 (h b : Nat) (aK aV : Nat → Nat) (D : va_G) (cA : Nat → ClassId) : En := (E1 h b aK aV, D, cA)
theorem E1_lt {h b : Nat} {aK aV : Nat → Nat} {i : Nat} (hi : i < 96) : E1 h b aK aV i = h + ordL.getD i 0 := by
  have : Nat.blt i 96 = true := by rw [Nat.blt_eq]; exact hi
  rw [E1, this]; rfl
theorem E1_K {h b : Nat} {aK aV : Nat → Nat} : (fun i => E1 h b aK aV (1000 + 2 * i)) = aK := by
  funext i
  have h1 : Nat.blt (1000 + 2 * i) 96 = false := by
    rw [← Bool.not_eq_true, Nat.blt_eq]; omega
  have h2 : Nat.beq (1000 + 2 * i) 999 = false := by
    rw [← Bool.not_eq_true, Nat.beq_eq]; omega
  have h3 : Nat.beq ((1000 + 2 * i) % 2) 0 = true := by
    rw [Nat.beq_eq]; omega
  rw [E1, h1, h2, h3]
  show aK ((1000 + 2 * i - 1000) / 2) = aK i
  rw [show (1000 + 2 * i - 1000) / 2 = i by omega]
theorem E1_V {h b : Nat} {aK aV : Nat → Nat} : (fun i => E1 h b aK aV (1001 + 2 * i)) = aV := by
  funext i
  have h1 : Nat.blt (1001 + 2 * i) 96 = false := by
    rw [← Bool.not_eq_true, Nat.blt_eq]; omega
  have h2 : Nat.beq (1001 + 2 * i) 999 = false := by
    rw [← Bool.not_eq_true, Nat.beq_eq]; omega
  have h3 : Nat.beq ((1001 + 2 * i) % 2) 0 = false := by
    rw [← Bool.not_eq_true, Nat.beq_eq]; omega
  rw [E1, h1, h2, h3]
  show aV ((1001 + 2 * i - 1001) / 2) = aV i
  rw [show (1001 + 2 * i - 1001) / 2 = i by omega]
theorem ord_inj : ∀ i, i < 96 → ∀ j, j < 96 → ordL.getD i 0 = ordL.getD j 0 → i = j := by decide +kernel
def row0 : List (Nat → Int32) := [(fun k => ([0, 0, (-1)] : List Int32).getD k 0), (fun _ => 0), (fun k => ([0, 0, (-1), 200] : List Int32).getD k 0), (fun _ => 0), (fun _ => 0), (fun _ => 0), (fun _ => 0), (fun _ => 0), (fun k => ([0, 0, (-1), 200] : List Int32).getD k 0), (fun _ => 0), (fun _ => 0), (fun _ => 0), (fun _ => 0), (fun _ => 0), (fun _ => 0), (fun _ => 0), (fun _ => 0), (fun _ => 0), (fun _ => 0), (fun _ => 0), (fun _ => 0), (fun k => ([1] : List Int32).getD k 0), (fun _ => 0), (fun k => ([2] : List Int32).getD k 0), (fun _ => 0), (fun k => ([3] : List Int32).getD k 0), (fun _ => 0), (fun _ => 0), (fun _ => 0), (fun _ => 0), (fun _ => 0), (fun _ => 0), (fun _ => 0), (fun _ => 0), (fun _ => 0), (fun k => ([3, 9, 80, 0, 1, 0, 1] : List Int32).getD k 0), (fun _ => 0), (fun _ => 0), (fun _ => 0), (fun _ => 0), (fun _ => 0), (fun _ => 0), (fun k => ([3, 9, 80, 0, 1, 0, 1] : List Int32).getD k 0), (fun _ => 0), (fun _ => 0), (fun _ => 0), (fun _ => 0), (fun _ => 0), (fun _ => 0), (fun k => ([3, 9, 80, 0, 1, 0, 1] : List Int32).getD k 0), (fun _ => 0), (fun _ => 0), (fun _ => 0), (fun _ => 0), (fun _ => 0), (fun _ => 0), (fun k => ([0, 3, 9, 80, 0, 1, 0, 0, 0, 0, 0, 0, 0, 0, 0, 0, 0, (-1), 0, 0, 0, 0, 0, 0, 0, 0, 0, 0, 0, 0, 0, 0, 0, 0, 0, 0, 0, 0, 0, 0, 0, 0, 0, 0, 0, 0, (-1), 200] : List Int32).getD k 0), (upd (upd (upd (fun _ => 0) (0 : Int32).toNatClampNeg 0) (1 : Int32).toNatClampNeg 1) (2 : Int32).toNatClampNeg 0), (fun _ => 0), (fun _ => 0), (fun _ => 0), (fun _ => 0), (fun _ => 0), (fun _ => 0), (fun _ => 0), (fun _ => 0), (fun _ => 0), (fun _ => 0), (fun _ => 0), (fun _ => 0), (fun _ => 0), (fun _ => 0), (fun _ => 0), (fun _ => 0), (fun _ => 0), (fun _ => 0), (fun _ => 0), (fun _ => 0), (fun _ => 0), (fun _ => 0), (fun _ => 0), (fun _ => 0), (fun _ => 0), (fun _ => 0), (fun _ => 0), (fun _ => 0), (fun _ => 0), (fun _ => 0), (fun _ => 0), (fun _ => 0), (fun _ => 0), (fun _ => 0), (fun _ => 0), (fun _ => 0), (fun _ => 0), (fun _ => 0)]
def sg0 : Sg := (fun i => row0.getD i (fun _ => 0), fun _ _ => 0, fun i k => if i = 0 ∧ k = 6 then 35 else if i = 14 ∧ k = 1 then 42 else if i = 15 ∧ k = 0 then 16 else if i = 17 ∧ k = 3 then 49 else if i = 17 ∧ k = 8 then 19 else 0)
def esAll (E : En) (h : Nat) : List va_E := ap (ap (ap [] (esX10_init E h)) (esX11_init E (h + 56))) [.inl (E.2.2 3, 1, .inr (.inl (fun _ => 0)))]
def flX6_init (E : En) (h : Nat) : List va_E := [ob 6 [.ref (h + 1), .ref (h + 2), .ref (h + 3), .int 0, .int 0], .inl (E.2.2 0, 600, .inl (fun _ => 0)), .inl (E.2.2 0, 4, .inl (fun _ => 0)), .inl (E.2.2 0, 40, .inl (fun _ => 0))]
theorem fl_X6_init (E : En) (h : Nat) : esX6_init E h = flX6_init E h := rfl
def flX2_init (E : En) (h : Nat) : List va_E := [ob 2 [.int 3, .int 9, .int 80, .int 0, .int 1, .int 0, .int 1, .int 0, .ref (h + 1), .int 0, .ref (h + 2), .int 0, .ref (h + 3)], .inl (E.2.2 0, 24, .inl (fun _ => 0)), .inl (E.2.2 0, 8, .inl (fun _ => 0)), ob 6 [.ref (h + 4), .ref (h + 5), .ref (h + 6), .int 0, .int 0], .inl (E.2.2 0, 600, .inl (fun _ => 0)), .inl (E.2.2 0, 4, .inl (fun _ => 0)), .inl (E.2.2 0, 40, .inl (fun _ => 0))]
theorem fl_X2_init (E : En) (h : Nat) : esX2_init E h = flX2_init E h := by
  unfold esX2_init
  simp only [fl_X6_init]
  rfl
def flX5_init (E : En) (h : Nat) : List va_E := [ob 5 [.ref (h + 1), .int 0, .int 0, .int 0, .int 0, .int 0], .inl (E.2.2 1, 0, .inl (fun _ => 0))]
theorem fl_X5_init (E : En) (h : Nat) : esX5_init E h = flX5_init E h := rfl
def flX8_init (E : En) (h : Nat) : List va_E := [ob 8 [.ref (h + 1), .ref (h + 3), .int 0, .int 0, .int 0, .int 0], ob 5 [.ref (h + 2), .int 0, .int 0, .int 0, .int 0, .int 0], .inl (E.2.2 1, 0, .inl (fun _ => 0)), ob 2 [.int 3, .int 9, .int 80, .int 0, .int 1, .int 0, .int 1, .int 0, .ref (h + 4), .int 0, .ref (h + 5), .int 0, .ref (h + 6)], .inl (E.2.2 0, 24, .inl (fun _ => 0)), .inl (E.2.2 0, 8, .inl (fun _ => 0)), ob 6 [.ref (h + 7), .ref (h + 8), .ref (h + 9), .int 0, .int 0], .inl (E.2.2 0, 600, .inl (fun _ => 0)), .inl (E.2.2 0, 4, .inl (fun _ => 0)), .inl (E.2.2 0, 40, .inl (fun _ => 0))]
theorem fl_X8_init (E : En) (h : Nat) : esX8_init E h = flX8_init E h := by
  unfold esX8_init
  simp only [fl_X2_init, fl_X5_init]
  rfl
def flX7_init (E : En) (h : Nat) : List va_E := [ob 7 [.ref (h + 1), .int 0, .int (-1), .int 200, .ref (h + 2), .ref (h + 3), .ref (h + 4), .int 0, .ref (h + 5), .int 0], .inl (E.2.2 0, 24, .inl (fun _ => 0)), .inl (E.2.2 0, 40, .inl (fun _ => 0)), .inl (E.2.2 0, 40, .inl (fun _ => 0)), .inl (E.2.2 0, 40, .inl (fun _ => 0)), .inl (E.2.2 0, 20, .inl (fun _ => 0))]
theorem fl_X7_init (E : En) (h : Nat) : esX7_init E h = flX7_init E h := rfl
def flX9_init (E : En) (h : Nat) : List va_E := [ob 9 [.ref (h + 1), .ref (h + 2), .long 0, .long 0], .inl (E.2.2 3, 41, .inr (.inl (fun _ => 0))), .inl (E.2.2 3, 41, .inr (.inl (fun _ => 0)))]
theorem fl_X9_init (E : En) (h : Nat) : esX9_init E h = flX9_init E h := rfl
def flX0_init (E : En) (h : Nat) : List va_E := [ob 0 [.ref (h + 1), .long 0, .long 0, .int 0], .inl (E.2.2 0, 8, .inl (fun _ => 0))]
theorem fl_X0_init (E : En) (h : Nat) : esX0_init E h = flX0_init E h := rfl
def flX3_init (E : En) (h : Nat) : List va_E := [ob 3 [.ref (h + 1), .int 0, .int 0, .int 0, .int 0], .inl (E.2.2 0, 3000, .inl (fun _ => 0))]
theorem fl_X3_init (E : En) (h : Nat) : esX3_init E h = flX3_init E h := rfl
def flX4_init (E : En) (h : Nat) : List va_E := [ob 4 [.ref (h + 1), .ref (h + 2), .ref (h + 3), .ref (h + 5), .int 0, .int 0, .int 0, .int 0, .ref (h + 12), .int 0, .int 0, .int 0, .int 0, .int 0, .int 0, .int 0], .inl (E.2.2 4, 4, .inr (.inr (.inr (.inr (va_up (va_up (va_up (va_up (fun _ => none) (0 : Int32).toNatClampNeg (some (h + 12))) (1 : Int32).toNatClampNeg (some (h + 14))) (2 : Int32).toNatClampNeg (some (h + 16))) (3 : Int32).toNatClampNeg (some (h + 18))))))), .inl (E.2.2 0, 8, .inl (fun _ => 0)), ob 3 [.ref (h + 4), .int 0, .int 0, .int 0, .int 0], .inl (E.2.2 0, 3000, .inl (fun _ => 0)), ob 2 [.int 3, .int 9, .int 80, .int 0, .int 1, .int 0, .int 1, .int 0, .ref (h + 6), .int 0, .ref (h + 7), .int 0, .ref (h + 8)], .inl (E.2.2 0, 24, .inl (fun _ => 0)), .inl (E.2.2 0, 8, .inl (fun _ => 0)), ob 6 [.ref (h + 9), .ref (h + 10), .ref (h + 11), .int 0, .int 0], .inl (E.2.2 0, 600, .inl (fun _ => 0)), .inl (E.2.2 0, 4, .inl (fun _ => 0)), .inl (E.2.2 0, 40, .inl (fun _ => 0)), ob 1 [.int 0, .int 0, .int 0, .int 0, .int 0, .int 0, .int 0, .int 0, .int 0, .int 0, .int 0, .int 0, .int 0, .int 0, .int 0, .ref (h + 13)], .inl (E.2.2 0, 6, .inl (fun _ => 0)), ob 1 [.int 1, .int 0, .int 0, .int 0, .int 0, .int 0, .int 0, .int 0, .int 0, .int 0, .int 0, .int 0, .int 0, .int 0, .int 0, .ref (h + 15)], .inl (E.2.2 0, 6, .inl (fun _ => 0)), ob 1 [.int 2, .int 0, .int 0, .int 0, .int 0, .int 0, .int 0, .int 0, .int 0, .int 0, .int 0, .int 0, .int 0, .int 0, .int 0, .ref (h + 17)], .inl (E.2.2 0, 6, .inl (fun _ => 0)), ob 1 [.int 3, .int 0, .int 0, .int 0, .int 0, .int 0, .int 0, .int 0, .int 0, .int 0, .int 0, .int 0, .int 0, .int 0, .int 0, .ref (h + 19)], .inl (E.2.2 0, 6, .inl (fun _ => 0))]
theorem fl_X4_init (E : En) (h : Nat) : esX4_init E h = flX4_init E h := by
  unfold esX4_init
  simp only [fl_X2_init, fl_X3_init]
  rfl
def flX10_init (E : En) (h : Nat) : List va_E := [ob 10 [.ref (h + 1), .int 0, .int (-1), .int 0, .int 0, .int 0, .ref (h + 2), .ref (h + 9), .ref (h + 15), .int 0, .ref (h + 21), .ref (h + 31), .ref (h + 51), .ref (h + 54)], .inl (E.2.2 1, 600, .inl (fun _ => 0)), ob 2 [.int 3, .int 9, .int 80, .int 0, .int 1, .int 0, .int 1, .int 0, .ref (h + 3), .int 0, .ref (h + 4), .int 0, .ref (h + 5)], .inl (E.2.2 0, 24, .inl (fun _ => 0)), .inl (E.2.2 0, 8, .inl (fun _ => 0)), ob 6 [.ref (h + 6), .ref (h + 7), .ref (h + 8), .int 0, .int 0], .inl (E.2.2 0, 600, .inl (fun _ => 0)), .inl (E.2.2 0, 4, .inl (fun _ => 0)), .inl (E.2.2 0, 40, .inl (fun _ => 0)), ob 7 [.ref (h + 10), .int 0, .int (-1), .int 200, .ref (h + 11), .ref (h + 12), .ref (h + 13), .int 0, .ref (h + 14), .int 0], .inl (E.2.2 0, 24, .inl (fun _ => 0)), .inl (E.2.2 0, 40, .inl (fun _ => 0)), .inl (E.2.2 0, 40, .inl (fun _ => 0)), .inl (E.2.2 0, 40, .inl (fun _ => 0)), .inl (E.2.2 0, 20, .inl (fun _ => 0)), ob 7 [.ref (h + 16), .int 0, .int (-1), .int 200, .ref (h + 17), .ref (h + 18), .ref (h + 19), .int 0, .ref (h + 20), .int 0], .inl (E.2.2 0, 24, .inl (fun _ => 0)), .inl (E.2.2 0, 40, .inl (fun _ => 0)), .inl (E.2.2 0, 40, .inl (fun _ => 0)), .inl (E.2.2 0, 40, .inl (fun _ => 0)), .inl (E.2.2 0, 20, .inl (fun _ => 0)), ob 8 [.ref (h + 22), .ref (h + 24), .int 0, .int 0, .int 0, .int 0], ob 5 [.ref (h + 23), .int 0, .int 0, .int 0, .int 0, .int 0], .inl (E.2.2 1, 0, .inl (fun _ => 0)), ob 2 [.int 3, .int 9, .int 80, .int 0, .int 1, .int 0, .int 1, .int 0, .ref (h + 25), .int 0, .ref (h + 26), .int 0, .ref (h + 27)], .inl (E.2.2 0, 24, .inl (fun _ => 0)), .inl (E.2.2 0, 8, .inl (fun _ => 0)), ob 6 [.ref (h + 28), .ref (h + 29), .ref (h + 30), .int 0, .int 0], .inl (E.2.2 0, 600, .inl (fun _ => 0)), .inl (E.2.2 0, 4, .inl (fun _ => 0)), .inl (E.2.2 0, 40, .inl (fun _ => 0)), ob 4 [.ref (h + 32), .ref (h + 33), .ref (h + 34), .ref (h + 36), .int 0, .int 0, .int 0, .int 0, .ref (h + 43), .int 0, .int 0, .int 0, .int 0, .int 0, .int 0, .int 0], .inl (E.2.2 4, 4, .inr (.inr (.inr (.inr (va_up (va_up (va_up (va_up (fun _ => none) (0 : Int32).toNatClampNeg (some (h + 43))) (1 : Int32).toNatClampNeg (some (h + 45))) (2 : Int32).toNatClampNeg (some (h + 47))) (3 : Int32).toNatClampNeg (some (h + 49))))))), .inl (E.2.2 0, 8, .inl (fun _ => 0)), ob 3 [.ref (h + 35), .int 0, .int 0, .int 0, .int 0], .inl (E.2.2 0, 3000, .inl (fun _ => 0)), ob 2 [.int 3, .int 9, .int 80, .int 0, .int 1, .int 0, .int 1, .int 0, .ref (h + 37), .int 0, .ref (h + 38), .int 0, .ref (h + 39)], .inl (E.2.2 0, 24, .inl (fun _ => 0)), .inl (E.2.2 0, 8, .inl (fun _ => 0)), ob 6 [.ref (h + 40), .ref (h + 41), .ref (h + 42), .int 0, .int 0], .inl (E.2.2 0, 600, .inl (fun _ => 0)), .inl (E.2.2 0, 4, .inl (fun _ => 0)), .inl (E.2.2 0, 40, .inl (fun _ => 0)), ob 1 [.int 0, .int 0, .int 0, .int 0, .int 0, .int 0, .int 0, .int 0, .int 0, .int 0, .int 0, .int 0, .int 0, .int 0, .int 0, .ref (h + 44)], .inl (E.2.2 0, 6, .inl (fun _ => 0)), ob 1 [.int 1, .int 0, .int 0, .int 0, .int 0, .int 0, .int 0, .int 0, .int 0, .int 0, .int 0, .int 0, .int 0, .int 0, .int 0, .ref (h + 46)], .inl (E.2.2 0, 6, .inl (fun _ => 0)), ob 1 [.int 2, .int 0, .int 0, .int 0, .int 0, .int 0, .int 0, .int 0, .int 0, .int 0, .int 0, .int 0, .int 0, .int 0, .int 0, .ref (h + 48)], .inl (E.2.2 0, 6, .inl (fun _ => 0)), ob 1 [.int 3, .int 0, .int 0, .int 0, .int 0, .int 0, .int 0, .int 0, .int 0, .int 0, .int 0, .int 0, .int 0, .int 0, .int 0, .ref (h + 50)], .inl (E.2.2 0, 6, .inl (fun _ => 0)), ob 9 [.ref (h + 52), .ref (h + 53), .long 0, .long 0], .inl (E.2.2 3, 41, .inr (.inl (fun _ => 0))), .inl (E.2.2 3, 41, .inr (.inl (fun _ => 0))), ob 0 [.ref (h + 55), .long 0, .long 0, .int 0], .inl (E.2.2 0, 8, .inl (fun _ => 0))]
theorem fl_X10_init (E : En) (h : Nat) : esX10_init E h = flX10_init E h := by
  unfold esX10_init
  simp only [fl_X0_init, fl_X2_init, fl_X4_init, fl_X7_init, fl_X8_init, fl_X9_init]
  rfl
