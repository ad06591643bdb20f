-- ===== String's members over the text constants =====
theorem ljJ0_335 : LkV RJ0 335 yJ0_coder_7d493 cJ0_coder_7d493 1 (some .byte) 0 := ⟨⟨gT_tab 886 (by decide +kernel) rfl, gT_tab 887 (by decide +kernel) rfl, gT_tab 888 (by decide +kernel) rfl, gT_tab 18 (by decide +kernel) rfl, gT_tab 889 (by decide +kernel) rfl⟩, ⟨by decide, by decide, by decide +kernel⟩, by decide⟩
theorem ljJ0_492 : LkV RJ0 492 yJ0_isLatin1_aae02 cJ0_isLatin1_aae02 1 (some .boolean) 0 := ⟨⟨gT_tab 876 (by decide +kernel) rfl, gT_tab 877 (by decide +kernel) rfl, gT_tab 878 (by decide +kernel) rfl, gT_tab 18 (by decide +kernel) rfl, gT_tab 879 (by decide +kernel) rfl⟩, ⟨by decide, by decide, by decide +kernel⟩, by decide⟩
theorem ljJ0_495 : LkS RJ0 495 yJ1_charAt_3b067 cJ1_charAt_3b067 2 (some .char) 2 := ⟨⟨gT_tab 964 (by decide +kernel) rfl, gT_tab 965 (by decide +kernel) rfl, gT_tab 19 (by decide +kernel) rfl, gT_tab 966 (by decide +kernel) rfl⟩, ⟨by decide, by decide, by decide +kernel⟩, by decide⟩
theorem ljJ1_9 : LkS RJ1 9 yJ0_checkIndex_df160 cJ0_checkIndex_df160 2 none 2 := ⟨⟨gT_tab 967 (by decide +kernel) rfl, gT_tab 968 (by decide +kernel) rfl, gT_tab 18 (by decide +kernel) rfl, gT_tab 969 (by decide +kernel) rfl⟩, ⟨by decide, by decide, by decide +kernel⟩, by decide⟩
theorem ljJ0_1059 : LkS RJ0 1059 yJ3_checkIndex_8e157 cJ3_checkIndex_8e157 3 (some .int) 3 := ⟨⟨gT_tab 970 (by decide +kernel) rfl, gT_tab 971 (by decide +kernel) rfl, gT_tab 21 (by decide +kernel) rfl, gT_tab 972 (by decide +kernel) rfl⟩, ⟨by decide, by decide, by decide +kernel⟩, by decide⟩
theorem ljJ0_633 : LkV RJ0 633 yJ0_indexOf_7cf53 cJ0_indexOf_7cf53 3 (some .int) 2 := ⟨⟨gT_tab 872 (by decide +kernel) rfl, gT_tab 873 (by decide +kernel) rfl, gT_tab 874 (by decide +kernel) rfl, gT_tab 18 (by decide +kernel) rfl, gT_tab 875 (by decide +kernel) rfl⟩, ⟨by decide, by decide, by decide +kernel⟩, by decide⟩
theorem ljJ0_505 : LkV RJ0 505 yJ0_length_8abf5 cJ0_length_8abf5 1 (some .int) 0 := ⟨⟨gT_tab 882 (by decide +kernel) rfl, gT_tab 883 (by decide +kernel) rfl, gT_tab 884 (by decide +kernel) rfl, gT_tab 18 (by decide +kernel) rfl, gT_tab 885 (by decide +kernel) rfl⟩, ⟨by decide, by decide, by decide +kernel⟩, by decide⟩
theorem ljJ0_637 : LkS RJ0 637 yJ1_indexOf_4cfef cJ1_indexOf_4cfef 4 (some .int) 4 := ⟨⟨gT_tab 890 (by decide +kernel) rfl, gT_tab 891 (by decide +kernel) rfl, gT_tab 19 (by decide +kernel) rfl, gT_tab 892 (by decide +kernel) rfl⟩, ⟨by decide, by decide, by decide +kernel⟩, by decide⟩
theorem ljJ1_88 : LkS RJ1 88 yJ1_canEncode_9a6ad cJ1_canEncode_9a6ad 1 (some .boolean) 1 := ⟨⟨gT_tab 893 (by decide +kernel) rfl, gT_tab 894 (by decide +kernel) rfl, gT_tab 19 (by decide +kernel) rfl, gT_tab 895 (by decide +kernel) rfl⟩, ⟨by decide, by decide, by decide +kernel⟩, by decide⟩
theorem ljJ1_95 : LkS RJ1 95 yJ1_indexOfChar_4cfef cJ1_indexOfChar_4cfef 6 (some .int) 4 := ⟨⟨gT_tab 898 (by decide +kernel) rfl, gT_tab 899 (by decide +kernel) rfl, gT_tab 19 (by decide +kernel) rfl, gT_tab 900 (by decide +kernel) rfl⟩, ⟨by decide, by decide, by decide +kernel⟩, by decide⟩
theorem fjJ0_9 : Cond.fieldLink RJ0 9 "java/lang/String" "value" "[B" ∈ gT := gT_tab 2105 (by decide +kernel) rfl
theorem fjJ0_15 : Cond.fieldLink RJ0 15 "java/lang/String" "coder" "B" ∈ gT := gT_tab 2104 (by decide +kernel) rfl
theorem fjJ0_38 : Cond.fieldLink RJ0 38 "java/lang/String" "COMPACT_STRINGS" "Z" ∈ gT := gT_tab 880 (by decide +kernel) rfl
theorem fjJ0_1053 : Cond.fieldLink RJ0 1053 "jdk/internal/util/Preconditions" "SIOOBE_FORMATTER" "Ljava/util/function/BiFunction;" ∈ gT := gT_tab 919 (by decide +kernel) rfl
theorem mj_92 : Cond.methodLink RJ1 92 Lib.Math.max.name ∈ gT ∧ Cond.static Lib.Math.max.name ∈ gT ∧ Cond.initialized "java/lang/Math" ∈ gT ∧ Cond.code Lib.Math.max.name Lib.Math.max.code 2 (some .int) ∈ gT := ⟨gT_tab 896 (by decide +kernel) rfl, mw_max⟩
theorem mj_38 : Cond.methodLink RJ1 38 Lib.Math.min.name ∈ gT ∧ Cond.static Lib.Math.min.name ∈ gT ∧ Cond.initialized "java/lang/Math" ∈ gT ∧ Cond.code Lib.Math.min.name Lib.Math.min.code 2 (some .int) ∈ gT := ⟨gT_tab 897 (by decide +kernel) rfl, mw_min⟩
section StrRules
variable {ρ : Type} {Γ : Cx} {own : String} {cc : ByteArray} {nL : Nat} {ret : Option FieldType} {h k n pc idx q : Nat} {Q : ρ → State → Prop} {lv : List (Nat × Value)} {st : List Value} {d : Sg → Option ρ}
theorem rz_sval (G : GG Γ own cc nL ret h k n) (hq : q < 22) (F : Cond.fieldLink own idx "java/lang/String" "value" "[B" ∈ gT) (hd : decode cc pc = .ok (.getfield idx, 3)) (K : Rz Γ nL Q k n (pc + 3) lv (.ref (1001 + 2 * q) :: st) d) : Rz Γ nL Q k n pc lv (.ref (1000 + 2 * q) :: st) d := by
  intro σ H locs ls r hr hP hS hl
  exact vk_getf (o := "java/lang/String") (n := "value") (d := "[B") G.1 G.2.1 (G.2.2.2.2.2.2.2.1.1.1 q hq).2.2.1 hS G.2.2.2.1 (G.2.2.2.2.1 _ F) (fun _ h => h) hd (K σ H locs ls r hr hP hS hl)
theorem rz_scod (G : GG Γ own cc nL ret h k n) (hq : q < 22) (F : Cond.fieldLink own idx "java/lang/String" "coder" "B" ∈ gT) (hd : decode cc pc = .ok (.getfield idx, 3)) (K : Rz Γ nL Q k n (pc + 3) lv (.int 0 :: st) d) : Rz Γ nL Q k n pc lv (.ref (1000 + 2 * q) :: st) d := by
  intro σ H locs ls r hr hP hS hl
  exact vk_getf (o := "java/lang/String") (n := "coder") (d := "B") G.1 G.2.1 (G.2.2.2.2.2.2.2.1.1.1 q hq).2.1 hS G.2.2.2.1 (G.2.2.2.2.1 _ F) (fun _ h => h) hd (K σ H locs ls r hr hP hS hl)
theorem rz_slen (G : GG Γ own cc nL ret h k n) (hq : q < 22) (hd : decode cc pc = .ok (.arraylength, 1)) (K : Rz Γ nL Q k n (pc + 1) lv (.int (Int32.ofNat (lenJS.getD q 0)) :: st) d) : Rz Γ nL Q k n pc lv (.ref (1001 + 2 * q) :: st) d := by
  intro σ H locs ls r hr hP hS hl
  exact va_tlen G.1 G.2.1 (G.2.2.2.2.2.2.2.1.1.1 q hq).2.2.2 hS rfl hd (K σ H locs ls r hr hP hS hl)
theorem rz_sbyt (G : GG Γ own cc nL ret h k n) {x : Int32} (hq : q < 22) (hin : inb x (lenJS.getD q 0) = true) (hd : decode cc pc = .ok (.baload, 1)) (K : Rz Γ nL Q k n (pc + 1) lv (.int ((bytJS.getD q []).getD x.toNatClampNeg 0) :: st) d) : Rz Γ nL Q k n pc lv (.int x :: .ref (1001 + 2 * q) :: st) d := by
  intro σ H locs ls r hr hP hS hl
  exact va_tb G.1 G.2.1 (G.2.2.2.2.2.2.2.1.1.1 q hq).2.2.2 hS (inb_vp hin) rfl hd (K σ H locs ls r hr hP hS hl)
theorem rz_gsC (G : GG Γ own cc nL ret h k n) (F : Cond.fieldLink own idx "java/lang/String" "COMPACT_STRINGS" "Z" ∈ gT) (hd : decode cc pc = .ok (.getstatic idx, 3)) (K : Rz Γ nL Q k n (pc + 3) lv (.int 1 :: st) d) : Rz Γ nL Q k n pc lv st d := by
  intro σ H locs ls r hr hP hS hl
  exact va_gets G.1 G.2.1 G.2.2.2.2.2.2.2.1.2.2.1 hS G.2.2.2.1 (G.2.2.2.2.1 _ F) (fun _ h => h) hd (K σ H locs ls r hr hP hS hl)
theorem rz_eqN (G : GG Γ own cc nL ret h k n) {x : Int32} {off : Int} {tgt : Nat} (hx : ¬ x = 0) (ht : (pc : Int) + off = (tgt : Int)) (hd : decode cc pc = .ok (.ifCond .eq off, 3)) (K : Rz Γ nL Q k n (pc + 3) lv st d) : Rz Γ nL Q k n pc lv (.int x :: st) d := by
  intro σ H locs ls r hr hP hS hl
  exact lv_if_eq (tgt := tgt) G.1 G.2.1 hd ht (fun hc => absurd hc hx) (fun _ => K σ H locs ls r hr hP hS hl)
theorem rz_neN (G : GG Γ own cc nL ret h k n) {x : Int32} {off : Int} {tgt : Nat} (hx : x = 0) (ht : (pc : Int) + off = (tgt : Int)) (hd : decode cc pc = .ok (.ifCond .ne off, 3)) (K : Rz Γ nL Q k n (pc + 3) lv st d) : Rz Γ nL Q k n pc lv (.int x :: st) d := by
  intro σ H locs ls r hr hP hS hl
  exact lv_if_ne (tgt := tgt) G.1 G.2.1 hd ht (fun hc => absurd hx hc) (fun _ => K σ H locs ls r hr hP hS hl)
theorem rz_neT (G : GG Γ own cc nL ret h k n) {x : Int32} {off : Int} {tgt : Nat} (hx : ¬ x = 0) (ht : (pc : Int) + off = (tgt : Int)) (hd : decode cc pc = .ok (.ifCond .ne off, 3)) (K : Rz Γ nL Q k n tgt lv st d) : Rz Γ nL Q k n pc lv (.int x :: st) d := by
  intro σ H locs ls r hr hP hS hl
  exact lv_if_ne (tgt := tgt) G.1 G.2.1 hd ht (fun _ => K σ H locs ls r hr hP hS hl) (fun hc => absurd hc hx)
theorem rz_nret {ty : FieldType} (G : GG Γ own cc nL (some ty) h k n) {v : Int32} (hv : narrow ty (.int v) = .int v) (hd : decode cc pc = .ok (.ireturn, 1)) : Rz Γ nL (Qm Γ encI k n) k n pc lv [.int v] (rt v) := by
  intro σ H locs ls r hr hP hS hl
  cases hr
  exact W.zret G.1 G.2.1 G.2.2.2.2.2.2.2.2.2.1 hv (fun t ht hW => ⟨rfl, by rw [ht]; exact hP, hS.F ht⟩) hS.2.2 hd G.2.2.2.2.2.2.2.2.1
end StrRules
theorem c_coder (l : Launch) (q : Nat) : Ct l yJ0_coder_7d493 cJ0_coder_7d493 1 (some .byte) 1 encI [.ref (1000 + 2 * q)] (gd (q < 22) (rt (0 : Int32))) := by
  refine ct_of (own := RJ0) (by decide) rfl (Nat.le_of_ble_eq_true rfl) (fun Γ hl G => ?_)
  show Rz Γ 1 (Qm Γ encI 0 0) 0 0 0 [(0, .ref (1000 + 2 * q))] [] _
  refine rz_gd (fun hq => ?_)
  refine rz_gsC G fjJ0_38 (dq jJ0_coder_7d493 0 rfl) ?_
  refine rz_eqN G (tgt := 13) (by decide) rfl (dq jJ0_coder_7d493 1 rfl) ?_
  refine rz_aload_n G 0 rfl rfl (dq jJ0_coder_7d493 2 rfl) ?_
  refine rz_scod G hq fjJ0_15 (dq jJ0_coder_7d493 3 rfl) ?_
  refine rz_goto G (tgt := 14) rfl (dq jJ0_coder_7d493 4 rfl) ?_
  exact rz_nret G rfl (dq jJ0_coder_7d493 6 rfl)
theorem c_isLatin1 (l : Launch) (q : Nat) : Ct l yJ0_isLatin1_aae02 cJ0_isLatin1_aae02 1 (some .boolean) 1 encI [.ref (1000 + 2 * q)] (gd (q < 22) (rt (1 : Int32))) := by
  refine ct_of (own := RJ0) (by decide) rfl (Nat.le_of_ble_eq_true rfl) (fun Γ hl G => ?_)
  show Rz Γ 1 (Qm Γ encI 0 0) 0 0 0 [(0, .ref (1000 + 2 * q))] [] _
  refine rz_gd (fun hq => ?_)
  refine rz_gsC G fjJ0_38 (dq jJ0_isLatin1_aae02 0 rfl) ?_
  refine rz_eqN G (tgt := 17) (by decide) rfl (dq jJ0_isLatin1_aae02 1 rfl) ?_
  refine rz_aload_n G 0 rfl rfl (dq jJ0_isLatin1_aae02 2 rfl) ?_
  refine rz_scod G hq fjJ0_15 (dq jJ0_isLatin1_aae02 3 rfl) ?_
  refine rz_neN G (tgt := 17) rfl rfl (dq jJ0_isLatin1_aae02 4 rfl) ?_
  refine rz_iconst G (v := 1) (dq jJ0_isLatin1_aae02 5 rfl) rfl ?_
  refine rz_goto G (tgt := 18) rfl (dq jJ0_isLatin1_aae02 6 rfl) ?_
  exact rz_zret0 G (by decide) (dq jJ0_isLatin1_aae02 8 rfl)
theorem Ct.eq {α : Type} {l : Launch} {y : MethodName} {cc : ByteArray} {nL : Nat} {ret : Option FieldType} {h : Nat} {enc : α → Option Value} {vs : List Value} {f g : Sg → Option (α × Sg)} (C : Ct l y cc nL ret h enc vs f) (e : ∀ σ, f σ = g σ) : Ct l y cc nL ret h enc vs g := (funext e : f = g) ▸ C
theorem len_ok : ∀ q, q < 22 → (lenJS.getD q 0 = (bytJS.getD q []).length ∧ lenJS.getD q 0 < 2 ^ 31 ∧ ∀ b ∈ bytJS.getD q [], b.toInt8.toInt32 = b) := by decide +kernel
theorem c_SlenG (l : Launch) (q : Nat) {h : Nat} (hh : 2 ≤ h) : Ct l yJ0_length_8abf5 cJ0_length_8abf5 1 (some .int) h encI [.ref (1000 + 2 * q)] (f_Slen q) := by
  have C : Ct l yJ0_length_8abf5 cJ0_length_8abf5 1 (some .int) h encI [.ref (1000 + 2 * q)] (gd (q < 22) (cl (gd (q < 22) (rt (0 : Int32))) (fun v => rt (Int32.ofNat (lenJS.getD q 0) >>> (v &&& 31))))) := by
    refine ct_of (own := RJ0) (by decide) rfl (Nat.le_of_ble_eq_true rfl) (fun Γ hl G => ?_)
    show Rz Γ 1 (Qm Γ encI 0 0) 0 0 0 [(0, .ref (1000 + 2 * q))] [] _
    refine rz_gd (fun hq => ?_)
    refine rz_aload_n G 0 rfl rfl (dq jJ0_length_8abf5 0 rfl) ?_
    refine rz_sval G hq fjJ0_9 (dq jJ0_length_8abf5 1 rfl) ?_
    refine rz_slen G hq (dq jJ0_length_8abf5 2 rfl) ?_
    refine rz_aload_n G 0 rfl rfl (dq jJ0_length_8abf5 3 rfl) ?_
    refine rz_callVSi G (st := [.int (Int32.ofNat (lenJS.getD q 0))]) (c_coder (cLn Γ) q) ljJ0_335 hq rfl rfl hh (Nat.le_of_ble_eq_true rfl) (dq jJ0_length_8abf5 4 rfl) rfl (fun v => ?_)
    refine rz_ishr G (dq jJ0_length_8abf5 5 rfl) ?_
    exact rz_iret G (dq jJ0_length_8abf5 6 rfl)
  refine C.eq (fun σ => ?_)
  by_cases hq : q < 22
  · simp only [f_Slen, gd, cl, rt, if_pos hq, Option.bind_some]
    have h := sc_shr0 (len_ok q hq).2.1
    exact congrArg (fun z => some (z, σ)) h
  · simp only [f_Slen, gd, if_neg hq]
theorem c_Slen (l : Launch) (q : Nat) : Ct l yJ0_length_8abf5 cJ0_length_8abf5 1 (some .int) 7 encI [.ref (1000 + 2 * q)] (f_Slen q) := c_SlenG l q (by decide)
/-- Preconditions.checkIndex: its third argument is not looked at -/
theorem m_pc (l : Launch) (E : En) (σ : Sg) (x y : Int32) (w : Value) (hw : w = .null ∨ ∃ t, w = .ref t) (hx : ¬ x < 0) (hy : x < y) : Met l yJ3_checkIndex_8e157 (.code yJ3_checkIndex_8e157 cJ3_checkIndex_8e157 3 (some .int) :: gT) (rmh 1) (va_Pc [.int x, .int y, w] (WdE E σ)) (QcR E (A0 E) encI (x, σ)) 0 0 (A0 E) := by
  refine Met.ofW (cc := cJ3_checkIndex_8e157) (maxL := 3) (ret := some .int) (by decide) rfl ?_
  intro p e s m args below meth c s₁ B hml hv
  obtain ⟨rfl, hP, hK, hD, hSx⟩ := hv
  have hx9 := B.exec
  have hb := B.bytes
  have hr := B.returns
  have hlocks := B.notSynchronized
  have hc1 : w.category = 1 := by rcases hw with rfl | ⟨t, rfl⟩ <;> rfl
  have hl := lv_entry ([.int x, .int y, w]) (n := 3) (by rcases hw with rfl | ⟨t, rfl⟩ <;> exact Nat.le_of_ble_eq_true rfl)
  rw [lg_entry_eq]
  generalize (lg_sl [.int x, .int y, w] ++ List.replicate (3 - (lg_sl [.int x, .int y, w]).length) Slot.unset).toArray = ls at hl ⊢
  have h0 : ls[0]? = some (.val (.int x)) := lv_at hl 0 rfl
  have h1 : ls[1]? = some (.val (.int y)) := lv_at hl 1 rfl
  refine lv_iload_n hx9 hb (dq jJ3_checkIndex_8e157 0 rfl) rfl h0 ?_
  refine lv_if_lt (tgt := 9) hx9 hb (dq jJ3_checkIndex_8e157 1 rfl) rfl (fun hc => absurd hc hx) (fun _ => ?_)
  refine lv_iload_n hx9 hb (dq jJ3_checkIndex_8e157 2 rfl) rfl h0 ?_
  refine lv_iload_n hx9 hb (dq jJ3_checkIndex_8e157 3 rfl) rfl h1 ?_
  refine lv_icmp_lt (tgt := 16) hx9 hb (dq jJ3_checkIndex_8e157 4 rfl) rfl (fun _ => ?_) (fun hc => absurd hy hc)
  refine lv_iload_n hx9 hb (dq jJ3_checkIndex_8e157 10 rfl) rfl h0 ?_
  exact W.iret hx9 hb hr (fun t ht hW => ⟨rfl, by rw [ht]; exact hP, (va_S.rf (A := A0 E)).F ht⟩) (fun q hq => nomatch hq) (dq jJ3_checkIndex_8e157 11 rfl) hlocks
/-- String.checkIndex -/
def f_chk (x y : Int32) : Sg → Option (Unit × Sg) := gd (¬ x < 0) (gd (x < y) (rt ()))
theorem c_chk (l : Launch) (x y : Int32) : Ct l yJ0_checkIndex_df160 cJ0_checkIndex_df160 2 none 3 encV [.int x, .int y] (f_chk x y) := by
  refine ct_of (own := RJ0) (by decide) rfl (Nat.le_of_ble_eq_true rfl) (fun Γ hl G => ?_)
  show Rz Γ 2 (Qm Γ encV 0 0) 0 0 0 [(0, .int x), (1, .int y)] [] _
  unfold f_chk
  refine rz_gd (fun hx => ?_)
  refine rz_gd (fun hy => ?_)
  refine rz_iload_n G 0 rfl rfl (dq jJ0_checkIndex_df160 0 rfl) ?_
  refine rz_iload_n G 1 rfl rfl (dq jJ0_checkIndex_df160 1 rfl) ?_
  intro σ H locs ls r hr hP hS hl
  obtain ⟨g1, g2, g3, g4, g5, g6, g7, g8, g9, g10, g11, g12, g13, g14⟩ := id G
  have fin : ∀ w : Value, (w = .null ∨ ∃ t, w = .ref t) → WX Γ H locs 0 0 (Qm Γ encV 0 0 r) (F0 (cM Γ) 5 ls (w :: .int y :: [.int x])) := by
    intro w hw
    have hc1 : w.category = 1 := by rcases hw with rfl | ⟨t, rfl⟩ <;> rfl
    obtain ⟨⟨l1, l2, l4, l5⟩, l6, l7⟩ := ljJ0_1059
    have hA : ∀ q, A0 (cE Γ) q → cA Γ q := A0_sub σ g7
    have run := va_runS (e := cEv Γ) (below := cBe Γ) (meth := cMe Γ) (R := cR Γ) (H := H) (locs := locs) (cells := 0) (slots := 0) (rest := []) (g := F0 (cM Γ) 5 ls (w :: .int y :: [.int x])) (Ts := gT) (own := RJ0) (cc := cJ0_checkIndex_df160) (nL := 2) (As := [.int x, .int y, w]) (n := 3) (index := 1059) (bytes := cJ3_checkIndex_8e157) (maxL := 3) (ret := some .int) ⟨g1, g2, g3, g4, g5⟩ (m_pc (cLn Γ) (cE Γ) σ x y w hw hx hy)
      ⟨callB_of 3 g5 (code_in l5) rfl rfl rfl (g5 _ l4) (g5 _ l1) l6 ⟨by show 1 + 1 ≤ _; omega, by show 8 + (3 + 11) + 40 * 1 ≤ _; omega⟩, g5 _ l2⟩ ⟨blind_W, fun U hU hW => ⟨rfl, WdE_at G hP hS hU hW⟩⟩ rfl rfl hl.1 rfl (lv_room (Nat.zero_le _)) (dq jJ0_checkIndex_df160 3 rfl) ⟨g13, g14⟩
    intro T hT X
    obtain ⟨v, st₀, t, T', L, h0, X', hL, e1, e2, ⟨ev, hP1, hF⟩, go⟩ := run T hT X
    cases ev
    obtain ⟨k1, k2, k3⟩ := vx_keep h0 e1 hS (fun q _ => hA q) hA hL hF
    have K : Rz Γ 2 (Qm Γ encV 0 0) 0 0 8 [(0, .int x), (1, .int y)] [.int x] (rt ()) := by
      refine rz_pop G rfl (dq jJ0_checkIndex_df160 4 rfl) ?_
      exact rz_vret G (dq jJ0_checkIndex_df160 5 rfl)
    obtain ⟨t2, a1, b1⟩ := K σ T'.heap (locs ++ L) ls r hr (by rw [e1]; exact hP1) k3 hl T' rfl X'
    exact ⟨t2, go t2 a1, b1⟩
  rcases g8.2.2.2.1 with hz | ⟨t, hz⟩
  · exact va_gets g1 g2 hz hS g4 (g5 _ fjJ0_1053) (fun _ h => h) (dq jJ0_checkIndex_df160 2 rfl) (fin .null (Or.inl rfl))
  · exact va_gets g1 g2 hz hS g4 (g5 _ fjJ0_1053) (fun _ h => h) (dq jJ0_checkIndex_df160 2 rfl) (fin (.ref t) (Or.inr ⟨t, rfl⟩))
/-- StringLatin1.charAt -/
def f_L1ch (q : Nat) (x : Int32) : Sg → Option (Int32 × Sg) := gd (q < 22) (gd (inb x (lenJS.getD q 0) = true) (cl (f_chk x (Int32.ofNat (lenJS.getD q 0))) (fun _ => rt ((((bytJS.getD q []).getD x.toNatClampNeg 0) &&& 255).toUInt32 % 65536).toInt32)))
theorem c_L1ch (l : Launch) (q : Nat) (x : Int32) : Ct l yJ1_charAt_3b067 cJ1_charAt_3b067 2 (some .char) 4 encI [.ref (1001 + 2 * q), .int x] (f_L1ch q x) := by
  refine ct_of (own := RJ1) (by decide) rfl (Nat.le_of_ble_eq_true rfl) (fun Γ hl G => ?_)
  show Rz Γ 2 (Qm Γ encI 0 0) 0 0 0 [(0, .ref (1001 + 2 * q)), (1, .int x)] [] _
  unfold f_L1ch
  refine rz_gd (fun hq => ?_)
  refine rz_gd (fun hin => ?_)
  refine rz_iload_n G 1 rfl rfl (dq jJ1_charAt_3b067 0 rfl) ?_
  refine rz_aload_n G 0 rfl rfl (dq jJ1_charAt_3b067 1 rfl) ?_
  refine rz_slen G hq (dq jJ1_charAt_3b067 2 rfl) ?_
  refine rz_callSv G (st := []) (c_chk (cLn Γ) x (Int32.ofNat (lenJS.getD q 0))) ljJ1_9 rfl (Nat.le_of_ble_eq_true rfl) (Nat.le_of_ble_eq_true rfl) (dq jJ1_charAt_3b067 3 rfl) rfl (fun _ => ?_)
  refine rz_aload_n G 0 rfl rfl (dq jJ1_charAt_3b067 4 rfl) ?_
  refine rz_iload_n G 1 rfl rfl (dq jJ1_charAt_3b067 5 rfl) ?_
  refine rz_sbyt G hq hin (dq jJ1_charAt_3b067 6 rfl) ?_
  refine rz_sipush G (v := 255) (dq jJ1_charAt_3b067 7 rfl) (by decide) ?_
  refine rz_iand G (dq jJ1_charAt_3b067 8 rfl) ?_
  refine rz_i2c G (dq jJ1_charAt_3b067 9 rfl) ?_
  exact rz_nret G (pk_nc _) (dq jJ1_charAt_3b067 10 rfl)
theorem nc_of {w : Int32} (h : (w.toUInt32 % 65536).toInt32 = w) : narrow .char (.int w) = .int w := by
  have h9 := pk_nc w
  rw [h] at h9
  exact h9
theorem inb_lt {x : Int32} {n : Nat} (hn : n < 2 ^ 31) (h : inb x n = true) : ¬ x < 0 ∧ x < Int32.ofNat n ∧ x.toNatClampNeg < n := by
  obtain ⟨j, hj, rfl⟩ := vp_in_of (inb_vp h) hn
  exact ⟨nI_pos (by omega), nI_lt hj hn, by rw [nI_clamp (by omega)]; exact hj⟩
theorem c_SchAt (l : Launch) (q : Nat) (x : Int32) : Ct l yJ0_charAt_5068e cJ0_charAt_5068e 2 (some .char) 7 encI [.ref (1000 + 2 * q), .int x] (f_SchAt q x) := by
  have C : Ct l yJ0_charAt_5068e cJ0_charAt_5068e 2 (some .char) 7 encI [.ref (1000 + 2 * q), .int x] (gd (q < 22) (cl (gd (q < 22) (rt (1 : Int32))) (fun v => br (v = 0) (fun _ => none) (cl (f_L1ch q x) (fun w => gd ((w.toUInt32 % 65536).toInt32 = w) (rt w)))))) := by
    refine ct_of (own := RJ0) (by decide) rfl (Nat.le_of_ble_eq_true rfl) (fun Γ hl G => ?_)
    show Rz Γ 2 (Qm Γ encI 0 0) 0 0 0 [(0, .ref (1000 + 2 * q)), (1, .int x)] [] _
    refine rz_gd (fun hq => ?_)
    refine rz_aload_n G 0 rfl rfl (dq jJ0_charAt_5068e 0 rfl) ?_
    refine rz_callVSi G (st := []) (c_isLatin1 (cLn Γ) q) ljJ0_492 hq rfl rfl (Nat.le_of_ble_eq_true rfl) (Nat.le_of_ble_eq_true rfl) (dq jJ0_charAt_5068e 1 rfl) rfl (fun v => ?_)
    refine rz_if_eq G (tgt := 16) rfl (dq jJ0_charAt_5068e 2 rfl) (fun _ => rz_none) (fun _ => ?_)
    refine rz_aload_n G 0 rfl rfl (dq jJ0_charAt_5068e 3 rfl) ?_
    refine rz_sval G hq fjJ0_9 (dq jJ0_charAt_5068e 4 rfl) ?_
    refine rz_iload_n G 1 rfl rfl (dq jJ0_charAt_5068e 5 rfl) ?_
    refine rz_callSi G (st := []) (c_L1ch (cLn Γ) q x) ljJ0_495 rfl (Nat.le_of_ble_eq_true rfl) (Nat.le_of_ble_eq_true rfl) (dq jJ0_charAt_5068e 6 rfl) rfl (fun w => ?_)
    refine rz_gd (fun hw => ?_)
    exact rz_nret G (nc_of hw) (dq jJ0_charAt_5068e 7 rfl)
  refine C.eq (fun σ => ?_)
  by_cases hq : q < 22
  · by_cases hin : inb x (lenJS.getD q 0) = true
    · obtain ⟨h1, h2, -⟩ := inb_lt (len_ok q hq).2.1 hin
      have h3 := sc_c2 ((bytJS.getD q []).getD x.toNatClampNeg 0)
      simp only [f_SchAt, f_L1ch, f_chk, gd, cl, rt, br, if_pos hq, if_pos hin, Option.bind_some, if_pos h1, if_pos h2]
      rw [if_neg (by decide : ¬ (1 : Int32) = 0)]
      rw [h3, if_pos h3]
    · simp only [f_SchAt, f_L1ch, gd, cl, rt, br, if_pos hq, if_neg hin, Option.bind_some, Option.bind_none]
      rw [if_neg (by decide : ¬ (1 : Int32) = 0)]
  · simp only [f_SchAt, gd, if_neg hq]
def f_can (x : Int32) : Sg → Option (Int32 × Sg) := br (x < 0) (rt 0) (br (255 < x) (rt 0) (rt 1))
theorem c_can (l : Launch) (x : Int32) : Ct l yJ1_canEncode_9a6ad cJ1_canEncode_9a6ad 1 (some .boolean) 1 encI [.int x] (f_can x) := by
  refine ct_of (own := RJ1) (by decide) rfl (Nat.le_of_ble_eq_true rfl) (fun Γ hl G => ?_)
  show Rz Γ 1 (Qm Γ encI 0 0) 0 0 0 [(0, .int x)] [] _
  unfold f_can
  refine rz_iload_n G 0 rfl rfl (dq jJ1_canEncode_9a6ad 0 rfl) ?_
  refine rz_if_lt G (tgt := 15) rfl (dq jJ1_canEncode_9a6ad 1 rfl) (fun _ => ?_) (fun _ => ?_)
  · refine rz_iconst G (v := 0) (dq jJ1_canEncode_9a6ad 7 rfl) rfl ?_
    exact rz_zret0 G (by decide) (dq jJ1_canEncode_9a6ad 8 rfl)
  · refine rz_iload_n G 0 rfl rfl (dq jJ1_canEncode_9a6ad 2 rfl) ?_
    refine rz_sipush G (v := 255) (dq jJ1_canEncode_9a6ad 3 rfl) (by decide) ?_
    refine rz_icmp_gt G (tgt := 15) rfl (dq jJ1_canEncode_9a6ad 4 rfl) (fun _ => ?_) (fun _ => ?_)
    · refine rz_iconst G (v := 0) (dq jJ1_canEncode_9a6ad 7 rfl) rfl ?_
      exact rz_zret0 G (by decide) (dq jJ1_canEncode_9a6ad 8 rfl)
    · refine rz_iconst G (v := 1) (dq jJ1_canEncode_9a6ad 5 rfl) rfl ?_
      refine rz_goto G (tgt := 16) rfl (dq jJ1_canEncode_9a6ad 6 rfl) ?_
      exact rz_zret0 G (by decide) (dq jJ1_canEncode_9a6ad 8 rfl)
def f_ixl (q : Nat) (x3 x4 : Int32) : Nat → Int32 → Sg → Option (Int32 × Sg)
  | 0, _ => fun _ => none
  | fu + 1, x5 => br (x3 ≤ x5) (rt (-1)) (gd (q < 22) (gd (inb x5 (lenJS.getD q 0) = true) (br ((bytJS.getD q []).getD x5.toNatClampNeg 0 = x4) (rt x5) (f_ixl q x3 x4 fu (x5 + 1)))))
theorem z_ixl {Γ : Cx} {q : Nat} {x3 x4 : Int32} (G : GG Γ RJ1 cJ1_indexOfChar_4cfef 6 (some .int) 1 0 0) : ∀ (fu : Nat) (x5 : Int32), Rz Γ 6 (Qm Γ encI 0 0) 0 0 7 [(0, .ref (1001 + 2 * q)), (3, .int x3), (4, .int x4), (5, .int x5)] [] (f_ixl q x3 x4 fu x5) := by
  intro fu
  induction fu with
  | zero => intro _; exact rz_none
  | succ fu ih =>
    intro x5
    rw [f_ixl]
    refine rz_iload G 3 rfl (dq jJ1_indexOfChar_4cfef 5 rfl) ?_
    refine rz_iload_n G 1 rfl rfl (dq jJ1_indexOfChar_4cfef 6 rfl) ?_
    refine rz_icmp_ge G (tgt := 31) rfl (dq jJ1_indexOfChar_4cfef 7 rfl) (fun _ => ?_) (fun _ => ?_)
    · refine rz_iconst G (v := (-1)) (dq jJ1_indexOfChar_4cfef 17 rfl) rfl ?_
      exact rz_iret G (dq jJ1_indexOfChar_4cfef 18 rfl)
    · refine rz_gd (fun hq => ?_)
      refine rz_gd (fun hin => ?_)
      refine rz_aload_n G 0 rfl rfl (dq jJ1_indexOfChar_4cfef 8 rfl) ?_
      refine rz_iload G 3 rfl (dq jJ1_indexOfChar_4cfef 9 rfl) ?_
      refine rz_sbyt G hq hin (dq jJ1_indexOfChar_4cfef 10 rfl) ?_
      refine rz_iload G 2 rfl (dq jJ1_indexOfChar_4cfef 11 rfl) ?_
      refine rz_icmp_ne G (tgt := 25) rfl (dq jJ1_indexOfChar_4cfef 12 rfl) (fun _ => ?_) (fun _ => ?_)
      · refine rz_iload G 3 rfl (dq jJ1_indexOfChar_4cfef 13 rfl) ?_
        exact rz_iret G (dq jJ1_indexOfChar_4cfef 14 rfl)
      · refine rz_iinc G 3 (v := x5 + 1) (lv' := [(5, .int (x5 + 1)), (0, .ref (1001 + 2 * q)), (3, .int x3), (4, .int x4)]) rfl (congrArg (HAdd.hAdd _) (by decide)) (Nat.le_of_ble_eq_true rfl) rfl (dq jJ1_indexOfChar_4cfef 15 rfl) ?_
        refine rz_goto G (tgt := 7) rfl (dq jJ1_indexOfChar_4cfef 16 rfl) ?_
        exact rz_lv [1, 2, 3, 0] rfl (ih (x5 + 1))
def f_ixc (q : Nat) (x1 x2 x3 : Int32) : Sg → Option (Int32 × Sg) := lt (x1.toInt8.toInt32 : Int32) (fun w => f_ixl q x3 w FU x2)
theorem c_ixc (l : Launch) (q : Nat) (x1 x2 x3 : Int32) : Ct l yJ1_indexOfChar_4cfef cJ1_indexOfChar_4cfef 6 (some .int) 1 encI [.ref (1001 + 2 * q), .int x1, .int x2, .int x3] (f_ixc q x1 x2 x3) := by
  refine ct_of (own := RJ1) (by decide) rfl (Nat.le_of_ble_eq_true rfl) (fun Γ hl G => ?_)
  show Rz Γ 6 (Qm Γ encI 0 0) 0 0 0 [(0, .ref (1001 + 2 * q)), (1, .int x1), (2, .int x2), (3, .int x3)] [] _
  unfold f_ixc
  refine rz_iload_n G 1 rfl rfl (dq jJ1_indexOfChar_4cfef 0 rfl) ?_
  refine rz_i2b G (dq jJ1_indexOfChar_4cfef 1 rfl) ?_
  refine rz_lti (fun w e_w => ?_)
  refine rz_istore G (lv' := [(4, .int w), (0, .ref (1001 + 2 * q)), (1, .int x1), (2, .int x2), (3, .int x3)]) (Nat.le_of_ble_eq_true rfl) rfl (dq jJ1_indexOfChar_4cfef 2 rfl) ?_
  refine rz_iload_n G 3 rfl rfl (dq jJ1_indexOfChar_4cfef 3 rfl) ?_
  refine rz_istore G (lv' := [(5, .int x2), (4, .int w), (0, .ref (1001 + 2 * q)), (1, .int x1), (2, .int x2), (3, .int x3)]) (Nat.le_of_ble_eq_true rfl) rfl (dq jJ1_indexOfChar_4cfef 4 rfl) ?_
  exact rz_lv [2, 5, 1, 0] rfl (z_ixl G FU x2)
def f_L1ix (q : Nat) (x1 x2 x3 : Int32) : Sg → Option (Int32 × Sg) := gd (q < 22) (cl (f_can x1) (fun v => br (v = 0) (rt (-1)) (lt (if x2 < 0 then 0 else x2 : Int32) (fun a => lt (if Int32.ofNat (lenJS.getD q 0) < x3 then Int32.ofNat (lenJS.getD q 0) else x3 : Int32) (fun b => br (a < b) (cl (f_ixc q x1 a b) (fun r => rt r)) (rt (-1)))))))
theorem c_L1ix (l : Launch) (q : Nat) (x1 x2 x3 : Int32) : Ct l yJ1_indexOf_4cfef cJ1_indexOf_4cfef 4 (some .int) 2 encI [.ref (1001 + 2 * q), .int x1, .int x2, .int x3] (f_L1ix q x1 x2 x3) := by
  refine ct_of (own := RJ1) (by decide) rfl (Nat.le_of_ble_eq_true rfl) (fun Γ hl G => ?_)
  show Rz Γ 4 (Qm Γ encI 0 0) 0 0 0 [(0, .ref (1001 + 2 * q)), (1, .int x1), (2, .int x2), (3, .int x3)] [] _
  unfold f_L1ix
  refine rz_gd (fun hq => ?_)
  refine rz_iload_n G 1 rfl rfl (dq jJ1_indexOf_4cfef 0 rfl) ?_
  refine rz_callSi G (st := []) (c_can (cLn Γ) x1) ljJ1_88 rfl (Nat.le_of_ble_eq_true rfl) (Nat.le_of_ble_eq_true rfl) (dq jJ1_indexOf_4cfef 1 rfl) rfl (fun v => ?_)
  refine rz_if_ne G (tgt := 9) rfl (dq jJ1_indexOf_4cfef 2 rfl) (fun _ => ?_) (fun _ => ?_)
  · refine rz_iconst G (v := (-1)) (dq jJ1_indexOf_4cfef 3 rfl) rfl ?_
    exact rz_iret G (dq jJ1_indexOf_4cfef 4 rfl)
  · refine rz_iload_n G 2 rfl rfl (dq jJ1_indexOf_4cfef 5 rfl) ?_
    refine rz_iconst G (v := 0) (dq jJ1_indexOf_4cfef 6 rfl) rfl ?_
    refine rz_mmax G mj_92 (by decide) (Nat.le_of_ble_eq_true rfl) (dq jJ1_indexOf_4cfef 7 rfl) ?_
    refine rz_lti (fun a e_a => ?_)
    refine rz_istore_n G (lv' := [(2, .int a), (0, .ref (1001 + 2 * q)), (1, .int x1), (3, .int x3)]) rfl (Nat.le_of_ble_eq_true rfl) rfl (dq jJ1_indexOf_4cfef 8 rfl) ?_
    refine rz_iload_n G 3 rfl rfl (dq jJ1_indexOf_4cfef 9 rfl) ?_
    refine rz_aload_n G 1 rfl rfl (dq jJ1_indexOf_4cfef 10 rfl) ?_
    refine rz_slen G hq (dq jJ1_indexOf_4cfef 11 rfl) ?_
    refine rz_mmin G mj_38 (by decide) (Nat.le_of_ble_eq_true rfl) (dq jJ1_indexOf_4cfef 12 rfl) ?_
    refine rz_lti (fun b e_b => ?_)
    refine rz_istore_n G (lv' := [(3, .int b), (2, .int a), (0, .ref (1001 + 2 * q)), (1, .int x1)]) rfl (Nat.le_of_ble_eq_true rfl) rfl (dq jJ1_indexOf_4cfef 13 rfl) ?_
    refine rz_iload_n G 1 rfl rfl (dq jJ1_indexOf_4cfef 14 rfl) ?_
    refine rz_iload_n G 0 rfl rfl (dq jJ1_indexOf_4cfef 15 rfl) ?_
    refine rz_icmp_lt G (tgt := 29) rfl (dq jJ1_indexOf_4cfef 16 rfl) (fun _ => ?_) (fun _ => ?_)
    · refine rz_aload_n G 2 rfl rfl (dq jJ1_indexOf_4cfef 19 rfl) ?_
      refine rz_iload_n G 3 rfl rfl (dq jJ1_indexOf_4cfef 20 rfl) ?_
      refine rz_iload_n G 1 rfl rfl (dq jJ1_indexOf_4cfef 21 rfl) ?_
      refine rz_iload_n G 0 rfl rfl (dq jJ1_indexOf_4cfef 22 rfl) ?_
      refine rz_callSi G (st := []) (c_ixc (cLn Γ) q x1 a b) ljJ1_95 rfl (Nat.le_of_ble_eq_true rfl) (Nat.le_of_ble_eq_true rfl) (dq jJ1_indexOf_4cfef 23 rfl) rfl (fun r => ?_)
      exact rz_iret G (dq jJ1_indexOf_4cfef 24 rfl)
    · refine rz_iconst G (v := (-1)) (dq jJ1_indexOf_4cfef 17 rfl) rfl ?_
      exact rz_iret G (dq jJ1_indexOf_4cfef 18 rfl)
def f_S2 (q : Nat) (x1 x2 : Int32) : Sg → Option (Int32 × Sg) := gd (q < 22) (cl (gd (q < 22) (rt (1 : Int32))) (fun v => br (v = 0) (fun _ => none) (cl (f_Slen q) (fun z => cl (f_L1ix q x1 x2 z) (fun r => rt r)))))
theorem c_S2 (l : Launch) (q : Nat) (x1 x2 : Int32) : Ct l yJ0_indexOf_7cf53 cJ0_indexOf_7cf53 3 (some .int) 4 encI [.ref (1000 + 2 * q), .int x1, .int x2] (f_S2 q x1 x2) := by
  refine ct_of (own := RJ0) (by decide) rfl (Nat.le_of_ble_eq_true rfl) (fun Γ hl G => ?_)
  show Rz Γ 3 (Qm Γ encI 0 0) 0 0 0 [(0, .ref (1000 + 2 * q)), (1, .int x1), (2, .int x2)] [] _
  unfold f_S2
  refine rz_gd (fun hq => ?_)
  refine rz_aload_n G 0 rfl rfl (dq jJ0_indexOf_7cf53 0 rfl) ?_
  refine rz_callVSi G (st := []) (c_isLatin1 (cLn Γ) q) ljJ0_492 hq rfl rfl (Nat.le_of_ble_eq_true rfl) (Nat.le_of_ble_eq_true rfl) (dq jJ0_indexOf_7cf53 1 rfl) rfl (fun v => ?_)
  refine rz_if_eq G (tgt := 23) rfl (dq jJ0_indexOf_7cf53 2 rfl) (fun _ => rz_none) (fun _ => ?_)
  refine rz_aload_n G 0 rfl rfl (dq jJ0_indexOf_7cf53 3 rfl) ?_
  refine rz_sval G hq fjJ0_9 (dq jJ0_indexOf_7cf53 4 rfl) ?_
  refine rz_iload_n G 1 rfl rfl (dq jJ0_indexOf_7cf53 5 rfl) ?_
  refine rz_iload_n G 2 rfl rfl (dq jJ0_indexOf_7cf53 6 rfl) ?_
  refine rz_aload_n G 0 rfl rfl (dq jJ0_indexOf_7cf53 7 rfl) ?_
  refine rz_callVSi G (st := [.int x2, .int x1, .ref (1001 + 2 * q)]) (c_SlenG (cLn Γ) q (h := 2) (by decide)) ljJ0_505 hq rfl rfl (Nat.le_of_ble_eq_true rfl) (Nat.le_of_ble_eq_true rfl) (dq jJ0_indexOf_7cf53 8 rfl) rfl (fun z => ?_)
  refine rz_callSi G (st := []) (c_L1ix (cLn Γ) q x1 x2 z) ljJ0_637 rfl (Nat.le_of_ble_eq_true rfl) (Nat.le_of_ble_eq_true rfl) (dq jJ0_indexOf_7cf53 9 rfl) rfl (fun r => ?_)
  refine rz_goto G (tgt := 36) rfl (dq jJ0_indexOf_7cf53 10 rfl) ?_
  exact rz_iret G (dq jJ0_indexOf_7cf53 18 rfl)
theorem ixF_out {c : Int32} (h : ∀ b : Int32, ¬ b &&& 255 = c) : ∀ (l : List Int32) (k : Nat), ixF c l k = -1 := by
  intro l
  induction l with
  | nil => intro k; rfl
  | cons b l ih => intro k; rw [ixF, if_neg (h b)]; exact ih (k + 1)
theorem ixl_eq {q n : Nat} (hq : q < 22) (hn : n < 256) (σ : Sg) : ∀ (l : List Int32) (k fu : Nat), k ≤ lenJS.getD q 0 → (bytJS.getD q []).drop k = l → l.length < fu → f_ixl q (Int32.ofNat (lenJS.getD q 0)) (nI n).toInt8.toInt32 fu (nI k) σ = some (ixF (nI n) l k, σ) := by
  obtain ⟨hl, hL, hb⟩ := len_ok q hq
  intro l
  induction l with
  | nil =>
    intro k fu hk e hf
    have h9 : (bytJS.getD q []).length ≤ k := List.drop_eq_nil_iff.mp e
    obtain ⟨fu, rfl⟩ : ∃ z, fu = z + 1 := ⟨fu - 1, by omega⟩
    have hle : Int32.ofNat (lenJS.getD q 0) ≤ nI k := nI_le (by omega) (by omega)
    rw [f_ixl, br, if_pos hle]
    rfl
  | cons b l ih =>
    intro k fu hk e hf
    obtain ⟨h1, h2, h3, h4⟩ := sc_dropC e
    obtain ⟨fu, rfl⟩ : ∃ z, fu = z + 1 := ⟨fu - 1, by simp only [List.length_cons] at hf; omega⟩
    have hin : inb (nI k) (lenJS.getD q 0) = true := by
      simp only [inb, Bool.and_eq_true, decide_eq_true_eq]
      exact vp_in_iff.mp (vp_in_nI (by omega) (by omega))
    have hle : ¬ Int32.ofNat (lenJS.getD q 0) ≤ nI k := nI_ge (a := k) (b := lenJS.getD q 0) (by omega) (by omega)
    rw [f_ixl, br, if_neg hle, gd, if_pos hq, gd, if_pos hin, br, nI_clamp (by omega), h2, ixF]
    by_cases hc : b &&& 255 = nI n
    · rw [if_pos hc, if_pos ((sc_eq (hb b h4) hn).mpr hc)]; rfl
    · rw [if_neg hc, if_neg (fun z => hc ((sc_eq (hb b h4) hn).mp z)), ← nI_succ]
      exact ih (k + 1) fu (by omega) h3 (by simp only [List.length_cons] at hf; omega)
theorem c_Sidx (l : Launch) (q : Nat) (x : Int32) : Ct l yJ0_indexOf_0f7a4 cJ0_indexOf_0f7a4 2 (some .int) 7 encI [.ref (1000 + 2 * q), .int x] (f_Sidx q x) := by
  have C : Ct l yJ0_indexOf_0f7a4 cJ0_indexOf_0f7a4 2 (some .int) 7 encI [.ref (1000 + 2 * q), .int x] (gd (q < 22) (cl (f_S2 q x 0) (fun r => rt r))) := by
    refine ct_of (own := RJ0) (by decide) rfl (Nat.le_of_ble_eq_true rfl) (fun Γ hl G => ?_)
    show Rz Γ 2 (Qm Γ encI 0 0) 0 0 0 [(0, .ref (1000 + 2 * q)), (1, .int x)] [] _
    refine rz_gd (fun hq => ?_)
    refine rz_aload_n G 0 rfl rfl (dq jJ0_indexOf_0f7a4 0 rfl) ?_
    refine rz_iload_n G 1 rfl rfl (dq jJ0_indexOf_0f7a4 1 rfl) ?_
    refine rz_iconst G (v := 0) (dq jJ0_indexOf_0f7a4 2 rfl) rfl ?_
    refine rz_callVSi G (st := []) (c_S2 (cLn Γ) q x 0) ljJ0_633 hq rfl rfl (Nat.le_of_ble_eq_true rfl) (Nat.le_of_ble_eq_true rfl) (dq jJ0_indexOf_0f7a4 3 rfl) rfl (fun r => ?_)
    exact rz_iret G (dq jJ0_indexOf_0f7a4 4 rfl)
  refine C.eq (fun σ => ?_)
  by_cases hq : q < 22
  · have h1 : (1 : Int32) ≠ 0 := by decide
    have h0 : ¬ (0 : Int32) < 0 := by decide
    have hll : ¬ Int32.ofNat (lenJS.getD q 0) < Int32.ofNat (lenJS.getD q 0) := nI_nlt (Nat.le_refl _) (len_ok q hq).2.1
    by_cases hx0 : x < 0
    · have hno : ∀ b : Int32, ¬ b &&& 255 = x := by
        intro b e
        obtain ⟨j, hj, e2⟩ := pk_andE b (m := 255) 8 (by decide)
        rw [e] at e2
        subst e2
        exact nI_pos (by omega) hx0
      simp only [f_Sidx, f_S2, f_Slen, f_L1ix, f_can, gd, cl, rt, br, lt, if_pos hq, Option.bind_some, if_neg h1, if_pos hx0, if_true, ixF_out hno]
    · by_cases hx1 : 255 < x
      · have hno : ∀ b : Int32, ¬ b &&& 255 = x := by
          intro b e
          obtain ⟨j, hj, e2⟩ := pk_andE b (m := 255) 8 (by decide)
          rw [e] at e2
          subst e2
          exact nI_nlt (a := 255) (b := j) (by omega) (by omega) hx1
        simp only [f_Sidx, f_S2, f_Slen, f_L1ix, f_can, gd, cl, rt, br, lt, if_pos hq, Option.bind_some, if_neg h1, if_neg hx0, if_pos hx1, if_true, ixF_out hno]
      · obtain ⟨n, hn, rfl⟩ : ∃ n : Nat, n < 256 ∧ x = nI n := by
          obtain ⟨j, hj, e⟩ := nI_of hx0
          refine ⟨j, ?_, e⟩
          subst e
          rcases Nat.lt_or_ge j 256 with h | h
          · exact h
          · exact absurd (nI_lt (a := 255) (b := j) (by omega) hj) hx1
        have hlen := len_ok q hq
        have hpos : (0 : Int32) < Int32.ofNat (lenJS.getD q 0) := by
          have h9 : ∀ q, q < 22 → 0 < lenJS.getD q 0 := by decide +kernel
          exact nI_lt (a := 0) (h9 q hq) hlen.2.1
        have hlo := ixl_eq hq hn σ (bytJS.getD q []) 0 FU (Nat.zero_le _) (List.drop_zero) (by
          have h9 : ∀ q, q < 22 → (bytJS.getD q []).length < FU := by decide +kernel
          exact h9 q hq)
        simp only [f_Sidx, f_S2, f_Slen, f_L1ix, f_can, f_ixc, gd, cl, rt, br, lt, if_pos hq, Option.bind_some, if_neg h1, if_neg hx0, if_neg hx1, if_neg h0, if_neg hll, if_pos hpos]
        rw [show (0 : Int32) = nI 0 from rfl, hlo]
        rfl
  · simp only [f_Sidx, gd, if_neg hq]
