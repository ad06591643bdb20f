-- ===== the constructors =====
abbrev ob (ci : Nat) (fs : List Value) : va_E := .inr (ci, fs)
abbrev ap (a b : List va_E) : List va_E := a ++ b
theorem hfs_of {ty : Nat → FieldType} {N : Nat} {fs : List Value} (h : (List.range N).map (fun j => defaultValue (ty j)) = fs) : ∀ j, j < N → defaultValue (ty j) = vp_V fs j := by
  intro j hj
  rw [← h]
  simp [vp_V, hj]
theorem cwaI : Cond.arrayClass .int ∈ gT := gT_tab 66 (by decide +kernel) rfl
theorem cwaB : Cond.arrayClass .byte ∈ gT := gT_tab 65 (by decide +kernel) rfl
theorem cwaZ : Cond.arrayClass .boolean ∈ gT := gT_tab 1689 (by decide +kernel) rfl
theorem cwaL : Cond.arrayClass .long ∈ gT := gT_tab 438 (by decide +kernel) rfl
theorem cwoI : Cond.instanceMethod objectInit ∈ gT := gT_tab 33 (by decide +kernel) rfl
theorem cwoC : Cond.code objectInit ⟨#[0xb1]⟩ 1 none ∈ gT := gT_tab 34 (by decide +kernel) rfl
theorem lkoX0 : Cond.methodLink RX0 3 objectInit ∈ gT := gT_tab 444 (by decide +kernel) rfl
theorem lkoX1 : Cond.methodLink RX1 3 objectInit ∈ gT := gT_tab 290 (by decide +kernel) rfl
theorem lkoX3 : Cond.methodLink RX3 3 objectInit ∈ gT := gT_tab 262 (by decide +kernel) rfl
theorem lkoX5 : Cond.methodLink RX5 1 objectInit ∈ gT := gT_tab 203 (by decide +kernel) rfl
theorem lkoX6 : Cond.methodLink RX6 3 objectInit ∈ gT := gT_tab 46 (by decide +kernel) rfl
theorem lkoX7 : Cond.methodLink RX7 3 objectInit ∈ gT := gT_tab 153 (by decide +kernel) rfl
theorem lkoX9 : Cond.methodLink RX9 3 objectInit ∈ gT := gT_tab 422 (by decide +kernel) rfl
theorem lkoX2 : Cond.methodLink RX2 3 objectInit ∈ gT := gT_tab 40 (by decide +kernel) rfl
theorem clX2_18 : Cond.classLink RX2 18 RX6 ∈ gT := gT_tab 41 (by decide +kernel) rfl
theorem cwgX6 : Cond.instantiable RX6 5 ∈ gT := gT_tab 42 (by decide +kernel) rfl
theorem cwiX6_init : Cond.instanceMethod yX6_init ∈ gT := gT_tab 44 (by decide +kernel) rfl
theorem cwcX6_init : Cond.code yX6_init cX6_init 1 none ∈ gT := gT_tab 45 (by decide +kernel) rfl
theorem lkiX2_20 : LkI RX2 20 yX6_init cX6_init 1 0 := ⟨⟨gT_tab 43 (by decide +kernel) rfl, cwiX6_init, cwnX6, cwcX6_init⟩, ⟨by decide, by decide, by decide +kernel⟩, by decide, rfl⟩
theorem lkX2_25 : LkV RX2 25 yX2_clear cX2_clear 1 none 0 := ⟨⟨gT_tab 67 (by decide +kernel) rfl, cwiX2_clear, cwsX2_clear, cwnX2, cwcX2_clear⟩, ⟨by decide, by decide, by decide +kernel⟩, by decide⟩
theorem lkoX8 : Cond.methodLink RX8 3 objectInit ∈ gT := gT_tab 197 (by decide +kernel) rfl
theorem clX8_9 : Cond.classLink RX8 9 RX5 ∈ gT := gT_tab 198 (by decide +kernel) rfl
theorem cwgX5 : Cond.instantiable RX5 6 ∈ gT := gT_tab 199 (by decide +kernel) rfl
theorem cwiX5_init : Cond.instanceMethod yX5_init ∈ gT := gT_tab 201 (by decide +kernel) rfl
theorem cwcX5_init : Cond.code yX5_init cX5_init 1 none ∈ gT := gT_tab 202 (by decide +kernel) rfl
theorem lkiX8_11 : LkI RX8 11 yX5_init cX5_init 1 0 := ⟨⟨gT_tab 200 (by decide +kernel) rfl, cwiX5_init, cwnX5, cwcX5_init⟩, ⟨by decide, by decide, by decide +kernel⟩, by decide, rfl⟩
theorem clX8_18 : Cond.classLink RX8 18 RX2 ∈ gT := gT_tab 226 (by decide +kernel) rfl
theorem cwgX2 : Cond.instantiable RX2 13 ∈ gT := gT_tab 36 (by decide +kernel) rfl
theorem cwiX2_init : Cond.instanceMethod yX2_init ∈ gT := gT_tab 38 (by decide +kernel) rfl
theorem cwcX2_init : Cond.code yX2_init cX2_init 1 none ∈ gT := gT_tab 39 (by decide +kernel) rfl
theorem lkiX8_20 : LkI RX8 20 yX2_init cX2_init 1 0 := ⟨⟨gT_tab 227 (by decide +kernel) rfl, cwiX2_init, cwnX2, cwcX2_init⟩, ⟨by decide, by decide, by decide +kernel⟩, by decide, rfl⟩
theorem lkoX4 : Cond.methodLink RX4 3 objectInit ∈ gT := gT_tab 254 (by decide +kernel) rfl
theorem clX4_9 : Cond.classLink RX4 9 RX1 ∈ gT := gT_tab 255 (by decide +kernel) rfl
theorem clX4_23 : Cond.classLink RX4 23 RX3 ∈ gT := gT_tab 257 (by decide +kernel) rfl
theorem cwgX3 : Cond.instantiable RX3 5 ∈ gT := gT_tab 258 (by decide +kernel) rfl
theorem cwiX3_init : Cond.instanceMethod yX3_init ∈ gT := gT_tab 260 (by decide +kernel) rfl
theorem cwcX3_init : Cond.code yX3_init cX3_init 1 none ∈ gT := gT_tab 261 (by decide +kernel) rfl
theorem lkiX4_25 : LkI RX4 25 yX3_init cX3_init 1 0 := ⟨⟨gT_tab 259 (by decide +kernel) rfl, cwiX3_init, cwnX3, cwcX3_init⟩, ⟨by decide, by decide, by decide +kernel⟩, by decide, rfl⟩
theorem clX4_30 : Cond.classLink RX4 30 RX2 ∈ gT := gT_tab 284 (by decide +kernel) rfl
theorem lkiX4_32 : LkI RX4 32 yX2_init cX2_init 1 0 := ⟨⟨gT_tab 285 (by decide +kernel) rfl, cwiX2_init, cwnX2, cwcX2_init⟩, ⟨by decide, by decide, by decide +kernel⟩, by decide, rfl⟩
theorem cwgX1 : Cond.instantiable RX1 16 ∈ gT := gT_tab 286 (by decide +kernel) rfl
theorem cwiX1_init : Cond.instanceMethod yX1_init ∈ gT := gT_tab 288 (by decide +kernel) rfl
theorem cwcX1_init : Cond.code yX1_init cX1_init 2 none ∈ gT := gT_tab 289 (by decide +kernel) rfl
theorem lkiX4_37 : LkI RX4 37 yX1_init cX1_init 2 1 := ⟨⟨gT_tab 287 (by decide +kernel) rfl, cwiX1_init, cwnX1, cwcX1_init⟩, ⟨by decide, by decide, by decide +kernel⟩, by decide, rfl⟩
theorem lkoX10 : Cond.methodLink RX10 1 objectInit ∈ gT := gT_tab 32 (by decide +kernel) rfl
theorem clX10_29 : Cond.classLink RX10 29 RX2 ∈ gT := gT_tab 35 (by decide +kernel) rfl
theorem lkiX10_31 : LkI RX10 31 yX2_init cX2_init 1 0 := ⟨⟨gT_tab 37 (by decide +kernel) rfl, cwiX2_init, cwnX2, cwcX2_init⟩, ⟨by decide, by decide, by decide +kernel⟩, by decide, rfl⟩
theorem clX10_36 : Cond.classLink RX10 36 RX7 ∈ gT := gT_tab 148 (by decide +kernel) rfl
theorem cwgX7 : Cond.instantiable RX7 10 ∈ gT := gT_tab 149 (by decide +kernel) rfl
theorem cwiX7_init : Cond.instanceMethod yX7_init ∈ gT := gT_tab 151 (by decide +kernel) rfl
theorem cwcX7_init : Cond.code yX7_init cX7_init 1 none ∈ gT := gT_tab 152 (by decide +kernel) rfl
theorem lkiX10_38 : LkI RX10 38 yX7_init cX7_init 1 0 := ⟨⟨gT_tab 150 (by decide +kernel) rfl, cwiX7_init, cwnX7, cwcX7_init⟩, ⟨by decide, by decide, by decide +kernel⟩, by decide, rfl⟩
theorem clX10_50 : Cond.classLink RX10 50 RX8 ∈ gT := gT_tab 192 (by decide +kernel) rfl
theorem cwgX8 : Cond.instantiable RX8 6 ∈ gT := gT_tab 193 (by decide +kernel) rfl
theorem cwiX8_init : Cond.instanceMethod yX8_init ∈ gT := gT_tab 195 (by decide +kernel) rfl
theorem cwcX8_init : Cond.code yX8_init cX8_init 1 none ∈ gT := gT_tab 196 (by decide +kernel) rfl
theorem lkiX10_52 : LkI RX10 52 yX8_init cX8_init 1 0 := ⟨⟨gT_tab 194 (by decide +kernel) rfl, cwiX8_init, cwnX8, cwcX8_init⟩, ⟨by decide, by decide, by decide +kernel⟩, by decide, rfl⟩
theorem clX10_57 : Cond.classLink RX10 57 RX4 ∈ gT := gT_tab 249 (by decide +kernel) rfl
theorem cwgX4 : Cond.instantiable RX4 16 ∈ gT := gT_tab 250 (by decide +kernel) rfl
theorem cwiX4_init : Cond.instanceMethod yX4_init ∈ gT := gT_tab 252 (by decide +kernel) rfl
theorem cwcX4_init : Cond.code yX4_init cX4_init 2 none ∈ gT := gT_tab 253 (by decide +kernel) rfl
theorem lkiX10_59 : LkI RX10 59 yX4_init cX4_init 2 0 := ⟨⟨gT_tab 251 (by decide +kernel) rfl, cwiX4_init, cwnX4, cwcX4_init⟩, ⟨by decide, by decide, by decide +kernel⟩, by decide, rfl⟩
theorem clX10_64 : Cond.classLink RX10 64 RX9 ∈ gT := gT_tab 417 (by decide +kernel) rfl
theorem cwgX9 : Cond.instantiable RX9 4 ∈ gT := gT_tab 418 (by decide +kernel) rfl
theorem cwiX9_init : Cond.instanceMethod yX9_init ∈ gT := gT_tab 420 (by decide +kernel) rfl
theorem cwcX9_init : Cond.code yX9_init cX9_init 1 none ∈ gT := gT_tab 421 (by decide +kernel) rfl
theorem lkiX10_66 : LkI RX10 66 yX9_init cX9_init 1 0 := ⟨⟨gT_tab 419 (by decide +kernel) rfl, cwiX9_init, cwnX9, cwcX9_init⟩, ⟨by decide, by decide, by decide +kernel⟩, by decide, rfl⟩
theorem clX10_71 : Cond.classLink RX10 71 RX0 ∈ gT := gT_tab 439 (by decide +kernel) rfl
theorem cwgX0 : Cond.instantiable RX0 4 ∈ gT := gT_tab 440 (by decide +kernel) rfl
theorem cwiX0_init : Cond.instanceMethod yX0_init ∈ gT := gT_tab 442 (by decide +kernel) rfl
theorem cwcX0_init : Cond.code yX0_init cX0_init 1 none ∈ gT := gT_tab 443 (by decide +kernel) rfl
theorem lkiX10_73 : LkI RX10 73 yX0_init cX0_init 1 0 := ⟨⟨gT_tab 441 (by decide +kernel) rfl, cwiX0_init, cwnX0, cwcX0_init⟩, ⟨by decide, by decide, by decide +kernel⟩, by decide, rfl⟩
theorem lkoX11 : Cond.methodLink RX11 1 objectInit ∈ gT := gT_tab 1414 (by decide +kernel) rfl
def esX0_init (E : En) (h : Nat) : List va_E := (ap [ob 0 [.ref (h + 1), .long 0, .long 0, .int 0]] [.inl (E.2.2 0, 8, .inl (fun _ => 0))])
set_option maxRecDepth 8000 in
theorem c_X0_init (l : Launch) (E : En) (h : Nat) : CtN l yX0_init cX0_init 1 1 1 8 E h [.ref h] [ob 0 [.null, .long 0, .long 0, .int 0]] (esX0_init E h) := by
  refine ctN_of (own := RX0) (by decide) rfl (Nat.le_of_ble_eq_true rfl) (fun Γ hl hE G hr hi => ?_)
  subst hl
  subst hE
  show Nz Γ 1 _ h 0 0 0 [(0, .ref h)] [] [ob 0 [.null, .long 0, .long 0, .int 0]]
  refine nz_aload_n G 0 rfl rfl (dq jX0_init 0 rfl) ?_
  refine nz_obj G lkoX0 (by decide) (Nat.le_of_ble_eq_true rfl) cwoI cwoC (dq jX0_init 1 rfl) ?_
  refine nz_aload_n G 0 rfl rfl (dq jX0_init 2 rfl) ?_
  refine nz_bipush G (v := 8) (dq jX0_init 3 rfl) rfl ?_
  refine nz_newa (atype := .int) (t0 := 0) (cA := (cE Γ).2.2 0) (N := 8) (a0 := (8, .inl (fun _ => 0))) (k' := 1) (n' := 8) G rfl cwaI rfl (fun _ h9 => h9) (fun _ => rfl) (by decide) (by decide) (by decide) ⟨rfl, rfl⟩ (by decide) (dq jX0_init 4 rfl) ?_
  refine nz_putF (j := 0) (es' := (ap [ob 0 [.ref (h + 1), .long 0, .long 0, .int 0]] [.inl ((cE Γ).2.2 0, 8, .inl (fun _ => 0))])) G hi flX0_9 (fun q hq => by cases hq; rfl) rfl (Nat.le_of_ble_eq_true rfl) rfl rfl rfl (dq jX0_init 5 rfl) ?_
  exact nz_vret G hr ⟨rfl, rfl⟩ (dq jX0_init 6 rfl)
def esX1_init (E : En) (h : Nat) (me : Int32) : List va_E := (ap [ob 1 [.int me, .int 0, .int 0, .int 0, .int 0, .int 0, .int 0, .int 0, .int 0, .int 0, .int 0, .int 0, .int 0, .int 0, .int 0, .ref (h + 1)]] [.inl (E.2.2 0, 6, .inl (fun _ => 0))])
set_option maxRecDepth 8000 in
theorem c_X1_init (l : Launch) (E : En) (h : Nat) (me : Int32) : CtN l yX1_init cX1_init 2 1 1 6 E h [.ref h, .int me] [ob 1 [.int 0, .int 0, .int 0, .int 0, .int 0, .int 0, .int 0, .int 0, .int 0, .int 0, .int 0, .int 0, .int 0, .int 0, .int 0, .null]] (esX1_init E h me) := by
  refine ctN_of (own := RX1) (by decide) rfl (Nat.le_of_ble_eq_true rfl) (fun Γ hl hE G hr hi => ?_)
  subst hl
  subst hE
  show Nz Γ 2 _ h 0 0 0 [(0, .ref h), (1, .int me)] [] [ob 1 [.int 0, .int 0, .int 0, .int 0, .int 0, .int 0, .int 0, .int 0, .int 0, .int 0, .int 0, .int 0, .int 0, .int 0, .int 0, .null]]
  refine nz_aload_n G 0 rfl rfl (dq jX1_init 0 rfl) ?_
  refine nz_obj G lkoX1 (by decide) (Nat.le_of_ble_eq_true rfl) cwoI cwoC (dq jX1_init 1 rfl) ?_
  refine nz_aload_n G 0 rfl rfl (dq jX1_init 2 rfl) ?_
  refine nz_bipush G (v := 6) (dq jX1_init 3 rfl) rfl ?_
  refine nz_newa (atype := .int) (t0 := 0) (cA := (cE Γ).2.2 0) (N := 6) (a0 := (6, .inl (fun _ => 0))) (k' := 1) (n' := 6) G rfl cwaI rfl (fun _ h9 => h9) (fun _ => rfl) (by decide) (by decide) (by decide) ⟨rfl, rfl⟩ (by decide) (dq jX1_init 4 rfl) ?_
  refine nz_putF (j := 0) (es' := (ap [ob 1 [.int 0, .int 0, .int 0, .int 0, .int 0, .int 0, .int 0, .int 0, .int 0, .int 0, .int 0, .int 0, .int 0, .int 0, .int 0, .ref (h + 1)]] [.inl ((cE Γ).2.2 0, 6, .inl (fun _ => 0))])) G hi flX1_9 (fun q hq => by cases hq; rfl) rfl (Nat.le_of_ble_eq_true rfl) rfl rfl rfl (dq jX1_init 5 rfl) ?_
  refine nz_aload_n G 0 rfl rfl (dq jX1_init 6 rfl) ?_
  refine nz_iload_n G 1 rfl rfl (dq jX1_init 7 rfl) ?_
  refine nz_putF (j := 0) (es' := (ap [ob 1 [.int me, .int 0, .int 0, .int 0, .int 0, .int 0, .int 0, .int 0, .int 0, .int 0, .int 0, .int 0, .int 0, .int 0, .int 0, .ref (h + 1)]] [.inl ((cE Γ).2.2 0, 6, .inl (fun _ => 0))])) G hi flX1_15 (fun q hq => by cases hq; rfl) rfl (Nat.le_of_ble_eq_true rfl) rfl rfl rfl (dq jX1_init 8 rfl) ?_
  exact nz_vret G hr ⟨rfl, rfl⟩ (dq jX1_init 9 rfl)
def esX3_init (E : En) (h : Nat) : List va_E := (ap [ob 3 [.ref (h + 1), .int 0, .int 0, .int 0, .int 0]] [.inl (E.2.2 0, 3000, .inl (fun _ => 0))])
set_option maxRecDepth 8000 in
theorem c_X3_init (l : Launch) (E : En) (h : Nat) : CtN l yX3_init cX3_init 1 1 1 3000 E h [.ref h] [ob 3 [.null, .int 0, .int 0, .int 0, .int 0]] (esX3_init E h) := by
  refine ctN_of (own := RX3) (by decide) rfl (Nat.le_of_ble_eq_true rfl) (fun Γ hl hE G hr hi => ?_)
  subst hl
  subst hE
  show Nz Γ 1 _ h 0 0 0 [(0, .ref h)] [] [ob 3 [.null, .int 0, .int 0, .int 0, .int 0]]
  refine nz_aload_n G 0 rfl rfl (dq jX3_init 0 rfl) ?_
  refine nz_obj G lkoX3 (by decide) (Nat.le_of_ble_eq_true rfl) cwoI cwoC (dq jX3_init 1 rfl) ?_
  refine nz_aload_n G 0 rfl rfl (dq jX3_init 2 rfl) ?_
  refine nz_sipush G (v := 3000) (dq jX3_init 3 rfl) rfl ?_
  refine nz_newa (atype := .int) (t0 := 0) (cA := (cE Γ).2.2 0) (N := 3000) (a0 := (3000, .inl (fun _ => 0))) (k' := 1) (n' := 3000) G rfl cwaI rfl (fun _ h9 => h9) (fun _ => rfl) (by decide) (by decide) (by decide) ⟨rfl, rfl⟩ (by decide) (dq jX3_init 4 rfl) ?_
  refine nz_putF (j := 0) (es' := (ap [ob 3 [.ref (h + 1), .int 0, .int 0, .int 0, .int 0]] [.inl ((cE Γ).2.2 0, 3000, .inl (fun _ => 0))])) G hi flX3_11 (fun q hq => by cases hq; rfl) rfl (Nat.le_of_ble_eq_true rfl) rfl rfl rfl (dq jX3_init 5 rfl) ?_
  exact nz_vret G hr ⟨rfl, rfl⟩ (dq jX3_init 6 rfl)
def esX5_init (E : En) (h : Nat) : List va_E := (ap [ob 5 [.ref (h + 1), .int 0, .int 0, .int 0, .int 0, .int 0]] [.inl (E.2.2 1, 0, .inl (fun _ => 0))])
set_option maxRecDepth 8000 in
theorem c_X5_init (l : Launch) (E : En) (h : Nat) : CtN l yX5_init cX5_init 1 1 1 0 E h [.ref h] [ob 5 [.null, .int 0, .int 0, .int 0, .int 0, .int 0]] (esX5_init E h) := by
  refine ctN_of (own := RX5) (by decide) rfl (Nat.le_of_ble_eq_true rfl) (fun Γ hl hE G hr hi => ?_)
  subst hl
  subst hE
  show Nz Γ 1 _ h 0 0 0 [(0, .ref h)] [] [ob 5 [.null, .int 0, .int 0, .int 0, .int 0, .int 0]]
  refine nz_aload_n G 0 rfl rfl (dq jX5_init 0 rfl) ?_
  refine nz_obj G lkoX5 (by decide) (Nat.le_of_ble_eq_true rfl) cwoI cwoC (dq jX5_init 1 rfl) ?_
  refine nz_aload_n G 0 rfl rfl (dq jX5_init 2 rfl) ?_
  refine nz_iconst G (v := 0) (dq jX5_init 3 rfl) rfl ?_
  refine nz_newa (atype := .byte) (t0 := 1) (cA := (cE Γ).2.2 1) (N := 0) (a0 := (0, .inl (fun _ => 0))) (k' := 1) (n' := 0) G rfl cwaB rfl (fun _ h9 => h9) (fun _ => rfl) (by decide) (by decide) (by decide) ⟨rfl, rfl⟩ (by decide) (dq jX5_init 4 rfl) ?_
  refine nz_put (j := 0) (es' := (ap [ob 5 [.ref (h + 1), .int 0, .int 0, .int 0, .int 0, .int 0]] [.inl ((cE Γ).2.2 1, 0, .inl (fun _ => 0))])) G flX5_7 rfl (Nat.le_of_ble_eq_true rfl) rfl rfl rfl (dq jX5_init 5 rfl) ?_
  exact nz_vret G hr ⟨rfl, rfl⟩ (dq jX5_init 6 rfl)
def esX6_init (E : En) (h : Nat) : List va_E := (ap (ap (ap [ob 6 [.ref (h + 1), .ref (h + 2), .ref (h + 3), .int 0, .int 0]] [.inl (E.2.2 0, 600, .inl (fun _ => 0))]) [.inl (E.2.2 0, 4, .inl (fun _ => 0))]) [.inl (E.2.2 0, 40, .inl (fun _ => 0))])
set_option maxRecDepth 8000 in
theorem c_X6_init (l : Launch) (E : En) (h : Nat) : CtN l yX6_init cX6_init 1 1 3 644 E h [.ref h] [ob 6 [.null, .null, .null, .int 0, .int 0]] (esX6_init E h) := by
  refine ctN_of (own := RX6) (by decide) rfl (Nat.le_of_ble_eq_true rfl) (fun Γ hl hE G hr hi => ?_)
  subst hl
  subst hE
  show Nz Γ 1 _ h 0 0 0 [(0, .ref h)] [] [ob 6 [.null, .null, .null, .int 0, .int 0]]
  refine nz_aload_n G 0 rfl rfl (dq jX6_init 0 rfl) ?_
  refine nz_obj G lkoX6 (by decide) (Nat.le_of_ble_eq_true rfl) cwoI cwoC (dq jX6_init 1 rfl) ?_
  refine nz_aload_n G 0 rfl rfl (dq jX6_init 2 rfl) ?_
  refine nz_sipush G (v := 600) (dq jX6_init 3 rfl) rfl ?_
  refine nz_newa (atype := .int) (t0 := 0) (cA := (cE Γ).2.2 0) (N := 600) (a0 := (600, .inl (fun _ => 0))) (k' := 1) (n' := 600) G rfl cwaI rfl (fun _ h9 => h9) (fun _ => rfl) (by decide) (by decide) (by decide) ⟨rfl, rfl⟩ (by decide) (dq jX6_init 4 rfl) ?_
  refine nz_putF (j := 0) (es' := (ap [ob 6 [.ref (h + 1), .null, .null, .int 0, .int 0]] [.inl ((cE Γ).2.2 0, 600, .inl (fun _ => 0))])) G hi flX6_9 (fun q hq => by cases hq; rfl) rfl (Nat.le_of_ble_eq_true rfl) rfl rfl rfl (dq jX6_init 5 rfl) ?_
  refine nz_aload_n G 0 rfl rfl (dq jX6_init 6 rfl) ?_
  refine nz_iconst G (v := 4) (dq jX6_init 7 rfl) rfl ?_
  refine nz_newa (atype := .int) (t0 := 0) (cA := (cE Γ).2.2 0) (N := 4) (a0 := (4, .inl (fun _ => 0))) (k' := 2) (n' := 604) G rfl cwaI rfl (fun _ h9 => h9) (fun _ => rfl) (by decide) (by decide) (by decide) ⟨rfl, rfl⟩ (by decide) (dq jX6_init 8 rfl) ?_
  refine nz_putF (j := 0) (es' := (ap (ap [ob 6 [.ref (h + 1), .ref (h + 2), .null, .int 0, .int 0]] [.inl ((cE Γ).2.2 0, 600, .inl (fun _ => 0))]) [.inl ((cE Γ).2.2 0, 4, .inl (fun _ => 0))])) G hi flX6_15 (fun q hq => by cases hq; rfl) rfl (Nat.le_of_ble_eq_true rfl) rfl rfl rfl (dq jX6_init 9 rfl) ?_
  refine nz_aload_n G 0 rfl rfl (dq jX6_init 10 rfl) ?_
  refine nz_bipush G (v := 40) (dq jX6_init 11 rfl) rfl ?_
  refine nz_newa (atype := .int) (t0 := 0) (cA := (cE Γ).2.2 0) (N := 40) (a0 := (40, .inl (fun _ => 0))) (k' := 3) (n' := 644) G rfl cwaI rfl (fun _ h9 => h9) (fun _ => rfl) (by decide) (by decide) (by decide) ⟨rfl, rfl⟩ (by decide) (dq jX6_init 12 rfl) ?_
  refine nz_putF (j := 0) (es' := (ap (ap (ap [ob 6 [.ref (h + 1), .ref (h + 2), .ref (h + 3), .int 0, .int 0]] [.inl ((cE Γ).2.2 0, 600, .inl (fun _ => 0))]) [.inl ((cE Γ).2.2 0, 4, .inl (fun _ => 0))]) [.inl ((cE Γ).2.2 0, 40, .inl (fun _ => 0))])) G hi flX6_18 (fun q hq => by cases hq; rfl) rfl (Nat.le_of_ble_eq_true rfl) rfl rfl rfl (dq jX6_init 13 rfl) ?_
  exact nz_vret G hr ⟨rfl, rfl⟩ (dq jX6_init 14 rfl)
set_option maxRecDepth 8000 in
theorem c9_X6_clear (l : Launch) (E : En) (h : Nat) : CtN l yX6_clear cX6_clear 1 0 0 0 E h [.ref h] (ap (ap (ap [ob 6 [.ref (h + 1), .ref (h + 2), .ref (h + 3), .int 0, .int 0]] [.inl (E.2.2 0, 600, .inl (fun _ => 0))]) [.inl (E.2.2 0, 4, .inl (fun _ => 0))]) [.inl (E.2.2 0, 40, .inl (fun _ => 0))]) (ap (ap (ap [ob 6 [.ref (h + 1), .ref (h + 2), .ref (h + 3), .int 0, .int 0]] [.inl (E.2.2 0, 600, .inl (fun _ => 0))]) [.inl (E.2.2 0, 4, .inl (fun _ => 0))]) [.inl (E.2.2 0, 40, .inl (fun _ => 0))]) := by
  refine ctN_of (own := RX6) (by decide) rfl (Nat.le_of_ble_eq_true rfl) (fun Γ hl hE G hr hi => ?_)
  subst hl
  subst hE
  show Nz Γ 1 _ h 0 0 0 [(0, .ref h)] [] (ap (ap (ap [ob 6 [.ref (h + 1), .ref (h + 2), .ref (h + 3), .int 0, .int 0]] [.inl ((cE Γ).2.2 0, 600, .inl (fun _ => 0))]) [.inl ((cE Γ).2.2 0, 4, .inl (fun _ => 0))]) [.inl ((cE Γ).2.2 0, 40, .inl (fun _ => 0))])
  refine nz_aload_n G 0 rfl rfl (dq jX6_clear 0 rfl) ?_
  refine nz_iconst G (v := 0) (dq jX6_clear 1 rfl) rfl ?_
  refine nz_put (j := 0) (es' := (ap (ap (ap [ob 6 [.ref (h + 1), .ref (h + 2), .ref (h + 3), .int 0, .int 0]] [.inl ((cE Γ).2.2 0, 600, .inl (fun _ => 0))]) [.inl ((cE Γ).2.2 0, 4, .inl (fun _ => 0))]) [.inl ((cE Γ).2.2 0, 40, .inl (fun _ => 0))])) G flX6_21 rfl (Nat.le_of_ble_eq_true rfl) rfl rfl rfl (dq jX6_clear 2 rfl) ?_
  refine nz_aload_n G 0 rfl rfl (dq jX6_clear 3 rfl) ?_
  refine nz_iconst G (v := 0) (dq jX6_clear 4 rfl) rfl ?_
  refine nz_put (j := 0) (es' := (ap (ap (ap [ob 6 [.ref (h + 1), .ref (h + 2), .ref (h + 3), .int 0, .int 0]] [.inl ((cE Γ).2.2 0, 600, .inl (fun _ => 0))]) [.inl ((cE Γ).2.2 0, 4, .inl (fun _ => 0))]) [.inl ((cE Γ).2.2 0, 40, .inl (fun _ => 0))])) G flX6_25 rfl (Nat.le_of_ble_eq_true rfl) rfl rfl rfl (dq jX6_clear 5 rfl) ?_
  exact nz_vret G hr ⟨rfl, rfl⟩ (dq jX6_clear 6 rfl)
def esX7_init (E : En) (h : Nat) : List va_E := (ap (ap (ap (ap (ap [ob 7 [.ref (h + 1), .int 0, .int (-1), .int 200, .ref (h + 2), .ref (h + 3), .ref (h + 4), .int 0, .ref (h + 5), .int 0]] [.inl (E.2.2 0, 24, .inl (fun _ => 0))]) [.inl (E.2.2 0, 40, .inl (fun _ => 0))]) [.inl (E.2.2 0, 40, .inl (fun _ => 0))]) [.inl (E.2.2 0, 40, .inl (fun _ => 0))]) [.inl (E.2.2 0, 20, .inl (fun _ => 0))])
set_option maxRecDepth 8000 in
theorem c_X7_init (l : Launch) (E : En) (h : Nat) : CtN l yX7_init cX7_init 1 1 5 164 E h [.ref h] [ob 7 [.null, .int 0, .int 0, .int 0, .null, .null, .null, .int 0, .null, .int 0]] (esX7_init E h) := by
  refine ctN_of (own := RX7) (by decide) rfl (Nat.le_of_ble_eq_true rfl) (fun Γ hl hE G hr hi => ?_)
  subst hl
  subst hE
  show Nz Γ 1 _ h 0 0 0 [(0, .ref h)] [] [ob 7 [.null, .int 0, .int 0, .int 0, .null, .null, .null, .int 0, .null, .int 0]]
  refine nz_aload_n G 0 rfl rfl (dq jX7_init 0 rfl) ?_
  refine nz_obj G lkoX7 (by decide) (Nat.le_of_ble_eq_true rfl) cwoI cwoC (dq jX7_init 1 rfl) ?_
  refine nz_aload_n G 0 rfl rfl (dq jX7_init 2 rfl) ?_
  refine nz_bipush G (v := 24) (dq jX7_init 3 rfl) rfl ?_
  refine nz_newa (atype := .int) (t0 := 0) (cA := (cE Γ).2.2 0) (N := 24) (a0 := (24, .inl (fun _ => 0))) (k' := 1) (n' := 24) G rfl cwaI rfl (fun _ h9 => h9) (fun _ => rfl) (by decide) (by decide) (by decide) ⟨rfl, rfl⟩ (by decide) (dq jX7_init 4 rfl) ?_
  refine nz_putF (j := 0) (es' := (ap [ob 7 [.ref (h + 1), .int 0, .int 0, .int 0, .null, .null, .null, .int 0, .null, .int 0]] [.inl ((cE Γ).2.2 0, 24, .inl (fun _ => 0))])) G hi flX7_9 (fun q hq => by cases hq; rfl) rfl (Nat.le_of_ble_eq_true rfl) rfl rfl rfl (dq jX7_init 5 rfl) ?_
  refine nz_aload_n G 0 rfl rfl (dq jX7_init 6 rfl) ?_
  refine nz_iconst G (v := (-1)) (dq jX7_init 7 rfl) rfl ?_
  refine nz_put (j := 0) (es' := (ap [ob 7 [.ref (h + 1), .int 0, .int (-1), .int 0, .null, .null, .null, .int 0, .null, .int 0]] [.inl ((cE Γ).2.2 0, 24, .inl (fun _ => 0))])) G flX7_15 rfl (Nat.le_of_ble_eq_true rfl) rfl rfl rfl (dq jX7_init 8 rfl) ?_
  refine nz_aload_n G 0 rfl rfl (dq jX7_init 9 rfl) ?_
  refine nz_sipush G (v := 200) (dq jX7_init 10 rfl) rfl ?_
  refine nz_put (j := 0) (es' := (ap [ob 7 [.ref (h + 1), .int 0, .int (-1), .int 200, .null, .null, .null, .int 0, .null, .int 0]] [.inl ((cE Γ).2.2 0, 24, .inl (fun _ => 0))])) G flX7_19 rfl (Nat.le_of_ble_eq_true rfl) rfl rfl rfl (dq jX7_init 11 rfl) ?_
  refine nz_aload_n G 0 rfl rfl (dq jX7_init 12 rfl) ?_
  refine nz_bipush G (v := 40) (dq jX7_init 13 rfl) rfl ?_
  refine nz_newa (atype := .int) (t0 := 0) (cA := (cE Γ).2.2 0) (N := 40) (a0 := (40, .inl (fun _ => 0))) (k' := 2) (n' := 64) G rfl cwaI rfl (fun _ h9 => h9) (fun _ => rfl) (by decide) (by decide) (by decide) ⟨rfl, rfl⟩ (by decide) (dq jX7_init 14 rfl) ?_
  refine nz_putF (j := 0) (es' := (ap (ap [ob 7 [.ref (h + 1), .int 0, .int (-1), .int 200, .ref (h + 2), .null, .null, .int 0, .null, .int 0]] [.inl ((cE Γ).2.2 0, 24, .inl (fun _ => 0))]) [.inl ((cE Γ).2.2 0, 40, .inl (fun _ => 0))])) G hi flX7_22 (fun q hq => by cases hq; rfl) rfl (Nat.le_of_ble_eq_true rfl) rfl rfl rfl (dq jX7_init 15 rfl) ?_
  refine nz_aload_n G 0 rfl rfl (dq jX7_init 16 rfl) ?_
  refine nz_bipush G (v := 40) (dq jX7_init 17 rfl) rfl ?_
  refine nz_newa (atype := .int) (t0 := 0) (cA := (cE Γ).2.2 0) (N := 40) (a0 := (40, .inl (fun _ => 0))) (k' := 3) (n' := 104) G rfl cwaI rfl (fun _ h9 => h9) (fun _ => rfl) (by decide) (by decide) (by decide) ⟨rfl, rfl⟩ (by decide) (dq jX7_init 18 rfl) ?_
  refine nz_putF (j := 0) (es' := (ap (ap (ap [ob 7 [.ref (h + 1), .int 0, .int (-1), .int 200, .ref (h + 2), .ref (h + 3), .null, .int 0, .null, .int 0]] [.inl ((cE Γ).2.2 0, 24, .inl (fun _ => 0))]) [.inl ((cE Γ).2.2 0, 40, .inl (fun _ => 0))]) [.inl ((cE Γ).2.2 0, 40, .inl (fun _ => 0))])) G hi flX7_25 (fun q hq => by cases hq; rfl) rfl (Nat.le_of_ble_eq_true rfl) rfl rfl rfl (dq jX7_init 19 rfl) ?_
  refine nz_aload_n G 0 rfl rfl (dq jX7_init 20 rfl) ?_
  refine nz_bipush G (v := 40) (dq jX7_init 21 rfl) rfl ?_
  refine nz_newa (atype := .int) (t0 := 0) (cA := (cE Γ).2.2 0) (N := 40) (a0 := (40, .inl (fun _ => 0))) (k' := 4) (n' := 144) G rfl cwaI rfl (fun _ h9 => h9) (fun _ => rfl) (by decide) (by decide) (by decide) ⟨rfl, rfl⟩ (by decide) (dq jX7_init 22 rfl) ?_
  refine nz_putF (j := 0) (es' := (ap (ap (ap (ap [ob 7 [.ref (h + 1), .int 0, .int (-1), .int 200, .ref (h + 2), .ref (h + 3), .ref (h + 4), .int 0, .null, .int 0]] [.inl ((cE Γ).2.2 0, 24, .inl (fun _ => 0))]) [.inl ((cE Γ).2.2 0, 40, .inl (fun _ => 0))]) [.inl ((cE Γ).2.2 0, 40, .inl (fun _ => 0))]) [.inl ((cE Γ).2.2 0, 40, .inl (fun _ => 0))])) G hi flX7_28 (fun q hq => by cases hq; rfl) rfl (Nat.le_of_ble_eq_true rfl) rfl rfl rfl (dq jX7_init 23 rfl) ?_
  refine nz_aload_n G 0 rfl rfl (dq jX7_init 24 rfl) ?_
  refine nz_bipush G (v := 20) (dq jX7_init 25 rfl) rfl ?_
  refine nz_newa (atype := .int) (t0 := 0) (cA := (cE Γ).2.2 0) (N := 20) (a0 := (20, .inl (fun _ => 0))) (k' := 5) (n' := 164) G rfl cwaI rfl (fun _ h9 => h9) (fun _ => rfl) (by decide) (by decide) (by decide) ⟨rfl, rfl⟩ (by decide) (dq jX7_init 26 rfl) ?_
  refine nz_putF (j := 0) (es' := (ap (ap (ap (ap (ap [ob 7 [.ref (h + 1), .int 0, .int (-1), .int 200, .ref (h + 2), .ref (h + 3), .ref (h + 4), .int 0, .ref (h + 5), .int 0]] [.inl ((cE Γ).2.2 0, 24, .inl (fun _ => 0))]) [.inl ((cE Γ).2.2 0, 40, .inl (fun _ => 0))]) [.inl ((cE Γ).2.2 0, 40, .inl (fun _ => 0))]) [.inl ((cE Γ).2.2 0, 40, .inl (fun _ => 0))]) [.inl ((cE Γ).2.2 0, 20, .inl (fun _ => 0))])) G hi flX7_31 (fun q hq => by cases hq; rfl) rfl (Nat.le_of_ble_eq_true rfl) rfl rfl rfl (dq jX7_init 27 rfl) ?_
  exact nz_vret G hr ⟨rfl, rfl⟩ (dq jX7_init 28 rfl)
def esX9_init (E : En) (h : Nat) : List va_E := (ap (ap [ob 9 [.ref (h + 1), .ref (h + 2), .long 0, .long 0]] [.inl (E.2.2 3, 41, .inr (.inl (fun _ => 0)))]) [.inl (E.2.2 3, 41, .inr (.inl (fun _ => 0)))])
set_option maxRecDepth 8000 in
theorem c_X9_init (l : Launch) (E : En) (h : Nat) : CtN l yX9_init cX9_init 1 1 2 82 E h [.ref h] [ob 9 [.null, .null, .long 0, .long 0]] (esX9_init E h) := by
  refine ctN_of (own := RX9) (by decide) rfl (Nat.le_of_ble_eq_true rfl) (fun Γ hl hE G hr hi => ?_)
  subst hl
  subst hE
  show Nz Γ 1 _ h 0 0 0 [(0, .ref h)] [] [ob 9 [.null, .null, .long 0, .long 0]]
  refine nz_aload_n G 0 rfl rfl (dq jX9_init 0 rfl) ?_
  refine nz_obj G lkoX9 (by decide) (Nat.le_of_ble_eq_true rfl) cwoI cwoC (dq jX9_init 1 rfl) ?_
  refine nz_aload_n G 0 rfl rfl (dq jX9_init 2 rfl) ?_
  refine nz_bipush G (v := 41) (dq jX9_init 3 rfl) rfl ?_
  refine nz_newa (atype := .long) (t0 := 3) (cA := (cE Γ).2.2 3) (N := 41) (a0 := (41, .inr (.inl (fun _ => 0)))) (k' := 1) (n' := 41) G rfl cwaL rfl (fun _ h9 => h9) (fun _ => rfl) (by decide) (by decide) (by decide) ⟨rfl, rfl⟩ (by decide) (dq jX9_init 4 rfl) ?_
  refine nz_putF (j := 0) (es' := (ap [ob 9 [.ref (h + 1), .null, .long 0, .long 0]] [.inl ((cE Γ).2.2 3, 41, .inr (.inl (fun _ => 0)))])) G hi flX9_11 (fun q hq => by cases hq; rfl) rfl (Nat.le_of_ble_eq_true rfl) rfl rfl rfl (dq jX9_init 5 rfl) ?_
  refine nz_aload_n G 0 rfl rfl (dq jX9_init 6 rfl) ?_
  refine nz_bipush G (v := 41) (dq jX9_init 7 rfl) rfl ?_
  refine nz_newa (atype := .long) (t0 := 3) (cA := (cE Γ).2.2 3) (N := 41) (a0 := (41, .inr (.inl (fun _ => 0)))) (k' := 2) (n' := 82) G rfl cwaL rfl (fun _ h9 => h9) (fun _ => rfl) (by decide) (by decide) (by decide) ⟨rfl, rfl⟩ (by decide) (dq jX9_init 8 rfl) ?_
  refine nz_putF (j := 0) (es' := (ap (ap [ob 9 [.ref (h + 1), .ref (h + 2), .long 0, .long 0]] [.inl ((cE Γ).2.2 3, 41, .inr (.inl (fun _ => 0)))]) [.inl ((cE Γ).2.2 3, 41, .inr (.inl (fun _ => 0)))])) G hi flX9_15 (fun q hq => by cases hq; rfl) rfl (Nat.le_of_ble_eq_true rfl) rfl rfl rfl (dq jX9_init 9 rfl) ?_
  exact nz_vret G hr ⟨rfl, rfl⟩ (dq jX9_init 10 rfl)
set_option maxRecDepth 8000 in
theorem c9_X2_clear (l : Launch) (E : En) (h : Nat) : CtN l yX2_clear cX2_clear 1 1 0 0 E h [.ref h] (ap (ap (ap [ob 2 [.int 0, .int 0, .int 0, .int 0, .int 0, .int 0, .int 0, .int 0, .ref (h + 1), .int 0, .ref (h + 2), .int 0, .ref (h + 3)]] [.inl (E.2.2 0, 24, .inl (fun _ => 0))]) [.inl (E.2.2 0, 8, .inl (fun _ => 0))]) (esX6_init E (h + 3))) (ap (ap (ap [ob 2 [.int 3, .int 9, .int 80, .int 0, .int 1, .int 0, .int 1, .int 0, .ref (h + 1), .int 0, .ref (h + 2), .int 0, .ref (h + 3)]] [.inl (E.2.2 0, 24, .inl (fun _ => 0))]) [.inl (E.2.2 0, 8, .inl (fun _ => 0))]) (esX6_init E (h + 3))) := by
  refine ctN_of (own := RX2) (by decide) rfl (Nat.le_of_ble_eq_true rfl) (fun Γ hl hE G hr hi => ?_)
  subst hl
  subst hE
  show Nz Γ 1 _ h 0 0 0 [(0, .ref h)] [] (ap (ap (ap [ob 2 [.int 0, .int 0, .int 0, .int 0, .int 0, .int 0, .int 0, .int 0, .ref (h + 1), .int 0, .ref (h + 2), .int 0, .ref (h + 3)]] [.inl ((cE Γ).2.2 0, 24, .inl (fun _ => 0))]) [.inl ((cE Γ).2.2 0, 8, .inl (fun _ => 0))]) (esX6_init (cE Γ) (h + 3)))
  refine nz_aload_n G 0 rfl rfl (dq jX2_clear 0 rfl) ?_
  refine nz_iconst G (v := 3) (dq jX2_clear 1 rfl) rfl ?_
  refine nz_put (j := 0) (es' := (ap (ap (ap [ob 2 [.int 3, .int 0, .int 0, .int 0, .int 0, .int 0, .int 0, .int 0, .ref (h + 1), .int 0, .ref (h + 2), .int 0, .ref (h + 3)]] [.inl ((cE Γ).2.2 0, 24, .inl (fun _ => 0))]) [.inl ((cE Γ).2.2 0, 8, .inl (fun _ => 0))]) (esX6_init (cE Γ) (h + 3)))) G flX2_28 rfl (Nat.le_of_ble_eq_true rfl) rfl rfl rfl (dq jX2_clear 2 rfl) ?_
  refine nz_aload_n G 0 rfl rfl (dq jX2_clear 3 rfl) ?_
  refine nz_bipush G (v := 9) (dq jX2_clear 4 rfl) rfl ?_
  refine nz_put (j := 0) (es' := (ap (ap (ap [ob 2 [.int 3, .int 9, .int 0, .int 0, .int 0, .int 0, .int 0, .int 0, .ref (h + 1), .int 0, .ref (h + 2), .int 0, .ref (h + 3)]] [.inl ((cE Γ).2.2 0, 24, .inl (fun _ => 0))]) [.inl ((cE Γ).2.2 0, 8, .inl (fun _ => 0))]) (esX6_init (cE Γ) (h + 3)))) G flX2_32 rfl (Nat.le_of_ble_eq_true rfl) rfl rfl rfl (dq jX2_clear 5 rfl) ?_
  refine nz_aload_n G 0 rfl rfl (dq jX2_clear 6 rfl) ?_
  refine nz_bipush G (v := 80) (dq jX2_clear 7 rfl) rfl ?_
  refine nz_put (j := 0) (es' := (ap (ap (ap [ob 2 [.int 3, .int 9, .int 80, .int 0, .int 0, .int 0, .int 0, .int 0, .ref (h + 1), .int 0, .ref (h + 2), .int 0, .ref (h + 3)]] [.inl ((cE Γ).2.2 0, 24, .inl (fun _ => 0))]) [.inl ((cE Γ).2.2 0, 8, .inl (fun _ => 0))]) (esX6_init (cE Γ) (h + 3)))) G flX2_35 rfl (Nat.le_of_ble_eq_true rfl) rfl rfl rfl (dq jX2_clear 8 rfl) ?_
  refine nz_aload_n G 0 rfl rfl (dq jX2_clear 9 rfl) ?_
  refine nz_iconst G (v := 0) (dq jX2_clear 10 rfl) rfl ?_
  refine nz_put (j := 0) (es' := (ap (ap (ap [ob 2 [.int 3, .int 9, .int 80, .int 0, .int 0, .int 0, .int 0, .int 0, .ref (h + 1), .int 0, .ref (h + 2), .int 0, .ref (h + 3)]] [.inl ((cE Γ).2.2 0, 24, .inl (fun _ => 0))]) [.inl ((cE Γ).2.2 0, 8, .inl (fun _ => 0))]) (esX6_init (cE Γ) (h + 3)))) G flX2_38 rfl (Nat.le_of_ble_eq_true rfl) rfl rfl rfl (dq jX2_clear 11 rfl) ?_
  refine nz_aload_n G 0 rfl rfl (dq jX2_clear 12 rfl) ?_
  refine nz_iconst G (v := 1) (dq jX2_clear 13 rfl) rfl ?_
  refine nz_put (j := 0) (es' := (ap (ap (ap [ob 2 [.int 3, .int 9, .int 80, .int 0, .int 1, .int 0, .int 0, .int 0, .ref (h + 1), .int 0, .ref (h + 2), .int 0, .ref (h + 3)]] [.inl ((cE Γ).2.2 0, 24, .inl (fun _ => 0))]) [.inl ((cE Γ).2.2 0, 8, .inl (fun _ => 0))]) (esX6_init (cE Γ) (h + 3)))) G flX2_41 rfl (Nat.le_of_ble_eq_true rfl) rfl rfl rfl (dq jX2_clear 14 rfl) ?_
  refine nz_aload_n G 0 rfl rfl (dq jX2_clear 15 rfl) ?_
  refine nz_iconst G (v := 0) (dq jX2_clear 16 rfl) rfl ?_
  refine nz_put (j := 0) (es' := (ap (ap (ap [ob 2 [.int 3, .int 9, .int 80, .int 0, .int 1, .int 0, .int 0, .int 0, .ref (h + 1), .int 0, .ref (h + 2), .int 0, .ref (h + 3)]] [.inl ((cE Γ).2.2 0, 24, .inl (fun _ => 0))]) [.inl ((cE Γ).2.2 0, 8, .inl (fun _ => 0))]) (esX6_init (cE Γ) (h + 3)))) G flX2_44 rfl (Nat.le_of_ble_eq_true rfl) rfl rfl rfl (dq jX2_clear 17 rfl) ?_
  refine nz_aload_n G 0 rfl rfl (dq jX2_clear 18 rfl) ?_
  refine nz_iconst G (v := 1) (dq jX2_clear 19 rfl) rfl ?_
  refine nz_put (j := 0) (es' := (ap (ap (ap [ob 2 [.int 3, .int 9, .int 80, .int 0, .int 1, .int 0, .int 1, .int 0, .ref (h + 1), .int 0, .ref (h + 2), .int 0, .ref (h + 3)]] [.inl ((cE Γ).2.2 0, 24, .inl (fun _ => 0))]) [.inl ((cE Γ).2.2 0, 8, .inl (fun _ => 0))]) (esX6_init (cE Γ) (h + 3)))) G flX2_47 rfl (Nat.le_of_ble_eq_true rfl) rfl rfl rfl (dq jX2_clear 20 rfl) ?_
  refine nz_aload_n G 0 rfl rfl (dq jX2_clear 21 rfl) ?_
  refine nz_iconst G (v := 0) (dq jX2_clear 22 rfl) rfl ?_
  refine nz_put (j := 0) (es' := (ap (ap (ap [ob 2 [.int 3, .int 9, .int 80, .int 0, .int 1, .int 0, .int 1, .int 0, .ref (h + 1), .int 0, .ref (h + 2), .int 0, .ref (h + 3)]] [.inl ((cE Γ).2.2 0, 24, .inl (fun _ => 0))]) [.inl ((cE Γ).2.2 0, 8, .inl (fun _ => 0))]) (esX6_init (cE Γ) (h + 3)))) G flX2_50 rfl (Nat.le_of_ble_eq_true rfl) rfl rfl rfl (dq jX2_clear 23 rfl) ?_
  refine nz_aload_n G 0 rfl rfl (dq jX2_clear 24 rfl) ?_
  refine nz_iconst G (v := 0) (dq jX2_clear 25 rfl) rfl ?_
  refine nz_put (j := 0) (es' := (ap (ap (ap [ob 2 [.int 3, .int 9, .int 80, .int 0, .int 1, .int 0, .int 1, .int 0, .ref (h + 1), .int 0, .ref (h + 2), .int 0, .ref (h + 3)]] [.inl ((cE Γ).2.2 0, 24, .inl (fun _ => 0))]) [.inl ((cE Γ).2.2 0, 8, .inl (fun _ => 0))]) (esX6_init (cE Γ) (h + 3)))) G flX2_53 rfl (Nat.le_of_ble_eq_true rfl) rfl rfl rfl (dq jX2_clear 26 rfl) ?_
  refine nz_aload_n G 0 rfl rfl (dq jX2_clear 27 rfl) ?_
  refine nz_iconst G (v := 0) (dq jX2_clear 28 rfl) rfl ?_
  refine nz_put (j := 0) (es' := (ap (ap (ap [ob 2 [.int 3, .int 9, .int 80, .int 0, .int 1, .int 0, .int 1, .int 0, .ref (h + 1), .int 0, .ref (h + 2), .int 0, .ref (h + 3)]] [.inl ((cE Γ).2.2 0, 24, .inl (fun _ => 0))]) [.inl ((cE Γ).2.2 0, 8, .inl (fun _ => 0))]) (esX6_init (cE Γ) (h + 3)))) G flX2_56 rfl (Nat.le_of_ble_eq_true rfl) rfl rfl rfl (dq jX2_clear 29 rfl) ?_
  refine nz_aload_n G 0 rfl rfl (dq jX2_clear 30 rfl) ?_
  refine nz_get (j := 0) (v := .ref (h + 3)) G flX2_21 rfl rfl (dq jX2_clear 31 rfl) ?_
  refine nz_callV (ea := (ap (ap [ob 2 [.int 3, .int 9, .int 80, .int 0, .int 1, .int 0, .int 1, .int 0, .ref (h + 1), .int 0, .ref (h + 2), .int 0, .ref (h + 3)]] [.inl ((cE Γ).2.2 0, 24, .inl (fun _ => 0))]) [.inl ((cE Γ).2.2 0, 8, .inl (fun _ => 0))])) (e0 := (esX6_init (cE Γ) (h + 3))) (ci := 6) (h1 := (h + 3)) (As := []) (st := []) (k' := 0) (n' := 0) G (c9_X6_clear (cLn Γ) (cE Γ) (h + 3)) lkX2_59 rfl rfl rfl rfl rfl rfl (by decide) (Nat.le_of_ble_eq_true rfl) (dq jX2_clear 32 rfl) rfl ⟨rfl, rfl⟩ (by decide) ?_
  exact nz_vret G hr ⟨rfl, rfl⟩ (dq jX2_clear 33 rfl)
def esX2_init (E : En) (h : Nat) : List va_E := (ap (ap (ap [ob 2 [.int 3, .int 9, .int 80, .int 0, .int 1, .int 0, .int 1, .int 0, .ref (h + 1), .int 0, .ref (h + 2), .int 0, .ref (h + 3)]] [.inl (E.2.2 0, 24, .inl (fun _ => 0))]) [.inl (E.2.2 0, 8, .inl (fun _ => 0))]) (esX6_init E (h + 3)))
set_option maxRecDepth 8000 in
theorem c_X2_init (l : Launch) (E : En) (h : Nat) : CtN l yX2_init cX2_init 1 2 6 681 E h [.ref h] [ob 2 [.int 0, .int 0, .int 0, .int 0, .int 0, .int 0, .int 0, .int 0, .null, .int 0, .null, .int 0, .null]] (esX2_init E h) := by
  refine ctN_of (own := RX2) (by decide) rfl (Nat.le_of_ble_eq_true rfl) (fun Γ hl hE G hr hi => ?_)
  subst hl
  subst hE
  show Nz Γ 1 _ h 0 0 0 [(0, .ref h)] [] [ob 2 [.int 0, .int 0, .int 0, .int 0, .int 0, .int 0, .int 0, .int 0, .null, .int 0, .null, .int 0, .null]]
  refine nz_aload_n G 0 rfl rfl (dq jX2_init 0 rfl) ?_
  refine nz_obj G lkoX2 (by decide) (Nat.le_of_ble_eq_true rfl) cwoI cwoC (dq jX2_init 1 rfl) ?_
  refine nz_aload_n G 0 rfl rfl (dq jX2_init 2 rfl) ?_
  refine nz_bipush G (v := 24) (dq jX2_init 3 rfl) rfl ?_
  refine nz_newa (atype := .int) (t0 := 0) (cA := (cE Γ).2.2 0) (N := 24) (a0 := (24, .inl (fun _ => 0))) (k' := 1) (n' := 24) G rfl cwaI rfl (fun _ h9 => h9) (fun _ => rfl) (by decide) (by decide) (by decide) ⟨rfl, rfl⟩ (by decide) (dq jX2_init 4 rfl) ?_
  refine nz_putF (j := 0) (es' := (ap [ob 2 [.int 0, .int 0, .int 0, .int 0, .int 0, .int 0, .int 0, .int 0, .ref (h + 1), .int 0, .null, .int 0, .null]] [.inl ((cE Γ).2.2 0, 24, .inl (fun _ => 0))])) G hi flX2_9 (fun q hq => by cases hq; rfl) rfl (Nat.le_of_ble_eq_true rfl) rfl rfl rfl (dq jX2_init 5 rfl) ?_
  refine nz_aload_n G 0 rfl rfl (dq jX2_init 6 rfl) ?_
  refine nz_bipush G (v := 8) (dq jX2_init 7 rfl) rfl ?_
  refine nz_newa (atype := .int) (t0 := 0) (cA := (cE Γ).2.2 0) (N := 8) (a0 := (8, .inl (fun _ => 0))) (k' := 2) (n' := 32) G rfl cwaI rfl (fun _ h9 => h9) (fun _ => rfl) (by decide) (by decide) (by decide) ⟨rfl, rfl⟩ (by decide) (dq jX2_init 8 rfl) ?_
  refine nz_putF (j := 0) (es' := (ap (ap [ob 2 [.int 0, .int 0, .int 0, .int 0, .int 0, .int 0, .int 0, .int 0, .ref (h + 1), .int 0, .ref (h + 2), .int 0, .null]] [.inl ((cE Γ).2.2 0, 24, .inl (fun _ => 0))]) [.inl ((cE Γ).2.2 0, 8, .inl (fun _ => 0))])) G hi flX2_15 (fun q hq => by cases hq; rfl) rfl (Nat.le_of_ble_eq_true rfl) rfl rfl rfl (dq jX2_init 9 rfl) ?_
  refine nz_aload_n G 0 rfl rfl (dq jX2_init 10 rfl) ?_
  refine nz_new (ci := 6) (fs := [.null, .null, .null, .int 0, .int 0]) (k' := 3) (n' := 37) G rfl uwsX6 tyX6 tyX6_ok clX2_18 cwgX6 cwnX6 (hfs_of rfl) ⟨rfl, rfl⟩ (by decide) (dq jX2_init 11 rfl) ?_
  refine nz_dup G rfl (dq jX2_init 12 rfl) ?_
  refine nz_callI (ea := (ap (ap [ob 2 [.int 0, .int 0, .int 0, .int 0, .int 0, .int 0, .int 0, .int 0, .ref (h + 1), .int 0, .ref (h + 2), .int 0, .null]] [.inl ((cE Γ).2.2 0, 24, .inl (fun _ => 0))]) [.inl ((cE Γ).2.2 0, 8, .inl (fun _ => 0))])) (e0 := [ob 6 [.null, .null, .null, .int 0, .int 0]]) (h1 := (h + 3)) (As := []) (st := [.ref (h + 3), .ref h]) (k' := 6) (n' := 681) G (c_X6_init (cLn Γ) (cE Γ) (h + 3)) lkiX2_20 rfl rfl rfl (by decide) (Nat.le_of_ble_eq_true rfl) (dq jX2_init 13 rfl) rfl ⟨rfl, rfl⟩ (by decide) ?_
  refine nz_putF (j := 0) (es' := (ap (ap (ap [ob 2 [.int 0, .int 0, .int 0, .int 0, .int 0, .int 0, .int 0, .int 0, .ref (h + 1), .int 0, .ref (h + 2), .int 0, .ref (h + 3)]] [.inl ((cE Γ).2.2 0, 24, .inl (fun _ => 0))]) [.inl ((cE Γ).2.2 0, 8, .inl (fun _ => 0))]) (esX6_init (cE Γ) (h + 3)))) G hi flX2_21 (fun q hq => by cases hq; rfl) rfl (Nat.le_of_ble_eq_true rfl) rfl rfl rfl (dq jX2_init 14 rfl) ?_
  refine nz_aload_n G 0 rfl rfl (dq jX2_init 15 rfl) ?_
  refine nz_callV (ea := []) (e0 := (ap (ap (ap [ob 2 [.int 0, .int 0, .int 0, .int 0, .int 0, .int 0, .int 0, .int 0, .ref (h + 1), .int 0, .ref (h + 2), .int 0, .ref (h + 3)]] [.inl ((cE Γ).2.2 0, 24, .inl (fun _ => 0))]) [.inl ((cE Γ).2.2 0, 8, .inl (fun _ => 0))]) (esX6_init (cE Γ) (h + 3)))) (ci := 2) (h1 := h) (As := []) (st := []) (k' := 6) (n' := 681) G (c9_X2_clear (cLn Γ) (cE Γ) h) lkX2_25 rfl rfl rfl rfl rfl rfl (by decide) (Nat.le_of_ble_eq_true rfl) (dq jX2_init 16 rfl) rfl ⟨rfl, rfl⟩ (by decide) ?_
  exact nz_vret G hr ⟨rfl, rfl⟩ (dq jX2_init 17 rfl)
def esX8_init (E : En) (h : Nat) : List va_E := (ap (ap [ob 8 [.ref (h + 1), .ref (h + 3), .int 0, .int 0, .int 0, .int 0]] (esX5_init E (h + 1))) (esX2_init E (h + 3)))
set_option maxRecDepth 8000 in
theorem c_X8_init (l : Launch) (E : En) (h : Nat) : CtN l yX8_init cX8_init 1 3 9 700 E h [.ref h] [ob 8 [.null, .null, .int 0, .int 0, .int 0, .int 0]] (esX8_init E h) := by
  refine ctN_of (own := RX8) (by decide) rfl (Nat.le_of_ble_eq_true rfl) (fun Γ hl hE G hr hi => ?_)
  subst hl
  subst hE
  show Nz Γ 1 _ h 0 0 0 [(0, .ref h)] [] [ob 8 [.null, .null, .int 0, .int 0, .int 0, .int 0]]
  refine nz_aload_n G 0 rfl rfl (dq jX8_init 0 rfl) ?_
  refine nz_obj G lkoX8 (by decide) (Nat.le_of_ble_eq_true rfl) cwoI cwoC (dq jX8_init 1 rfl) ?_
  refine nz_aload_n G 0 rfl rfl (dq jX8_init 2 rfl) ?_
  refine nz_new (ci := 5) (fs := [.null, .int 0, .int 0, .int 0, .int 0, .int 0]) (k' := 1) (n' := 6) G rfl uwsX5 tyX5 tyX5_ok clX8_9 cwgX5 cwnX5 (hfs_of rfl) ⟨rfl, rfl⟩ (by decide) (dq jX8_init 3 rfl) ?_
  refine nz_dup G rfl (dq jX8_init 4 rfl) ?_
  refine nz_callI (ea := [ob 8 [.null, .null, .int 0, .int 0, .int 0, .int 0]]) (e0 := [ob 5 [.null, .int 0, .int 0, .int 0, .int 0, .int 0]]) (h1 := (h + 1)) (As := []) (st := [.ref (h + 1), .ref h]) (k' := 2) (n' := 6) G (c_X5_init (cLn Γ) (cE Γ) (h + 1)) lkiX8_11 rfl rfl rfl (by decide) (Nat.le_of_ble_eq_true rfl) (dq jX8_init 5 rfl) rfl ⟨rfl, rfl⟩ (by decide) ?_
  refine nz_putF (j := 0) (es' := (ap [ob 8 [.ref (h + 1), .null, .int 0, .int 0, .int 0, .int 0]] (esX5_init (cE Γ) (h + 1)))) G hi flX8_12 (fun q hq => by cases hq; rfl) rfl (Nat.le_of_ble_eq_true rfl) rfl rfl rfl (dq jX8_init 6 rfl) ?_
  refine nz_aload_n G 0 rfl rfl (dq jX8_init 7 rfl) ?_
  refine nz_new (ci := 2) (fs := [.int 0, .int 0, .int 0, .int 0, .int 0, .int 0, .int 0, .int 0, .null, .int 0, .null, .int 0, .null]) (k' := 3) (n' := 19) G rfl uwsX2 tyX2 tyX2_ok clX8_18 cwgX2 cwnX2 (hfs_of rfl) ⟨rfl, rfl⟩ (by decide) (dq jX8_init 8 rfl) ?_
  refine nz_dup G rfl (dq jX8_init 9 rfl) ?_
  refine nz_callI (ea := (ap [ob 8 [.ref (h + 1), .null, .int 0, .int 0, .int 0, .int 0]] (esX5_init (cE Γ) (h + 1)))) (e0 := [ob 2 [.int 0, .int 0, .int 0, .int 0, .int 0, .int 0, .int 0, .int 0, .null, .int 0, .null, .int 0, .null]]) (h1 := (h + 3)) (As := []) (st := [.ref (h + 3), .ref h]) (k' := 9) (n' := 700) G (c_X2_init (cLn Γ) (cE Γ) (h + 3)) lkiX8_20 rfl rfl rfl (by decide) (Nat.le_of_ble_eq_true rfl) (dq jX8_init 10 rfl) rfl ⟨rfl, rfl⟩ (by decide) ?_
  refine nz_put (j := 0) (es' := (ap (ap [ob 8 [.ref (h + 1), .ref (h + 3), .int 0, .int 0, .int 0, .int 0]] (esX5_init (cE Γ) (h + 1))) (esX2_init (cE Γ) (h + 3)))) G flX8_21 rfl (Nat.le_of_ble_eq_true rfl) rfl rfl rfl (dq jX8_init 11 rfl) ?_
  exact nz_vret G hr ⟨rfl, rfl⟩ (dq jX8_init 12 rfl)
def esX4_init (E : En) (h : Nat) : List va_E := (ap (ap (ap (ap (ap (ap (ap (ap [ob 4 [.ref (h + 1), .ref (h + 2), .ref (h + 3), .ref (h + 5), .int 0, .int 0, .int 0, .int 0, .ref (h + 12), .int 0, .int 0, .int 0, .int 0, .int 0, .int 0, .int 0]] [.inl (E.2.2 4, 4, .inr (.inr (.inr (.inr (va_up (va_up (va_up (va_up (fun _ => none) (0 : Int32).toNatClampNeg (some (h + 12))) (1 : Int32).toNatClampNeg (some (h + 14))) (2 : Int32).toNatClampNeg (some (h + 16))) (3 : Int32).toNatClampNeg (some (h + 18)))))))]) [.inl (E.2.2 0, 8, .inl (fun _ => 0))]) (esX3_init E (h + 3))) (esX2_init E (h + 5))) (esX1_init E (h + 12) 0)) (esX1_init E (h + 14) 1)) (esX1_init E (h + 16) 2)) (esX1_init E (h + 18) 3))
set_option maxRecDepth 8000 in
theorem c_X4_init (l : Launch) (E : En) (h : Nat) : CtN l yX4_init cX4_init 2 3 19 3799 E h [.ref h] [ob 4 [.null, .null, .null, .null, .int 0, .int 0, .int 0, .int 0, .null, .int 0, .int 0, .int 0, .int 0, .int 0, .int 0, .int 0]] (esX4_init E h) := by
  refine ctN_of (own := RX4) (by decide) rfl (Nat.le_of_ble_eq_true rfl) (fun Γ hl hE G hr hi => ?_)
  subst hl
  subst hE
  show Nz Γ 2 _ h 0 0 0 [(0, .ref h)] [] [ob 4 [.null, .null, .null, .null, .int 0, .int 0, .int 0, .int 0, .null, .int 0, .int 0, .int 0, .int 0, .int 0, .int 0, .int 0]]
  refine nz_aload_n G 0 rfl rfl (dq jX4_init 0 rfl) ?_
  refine nz_obj G lkoX4 (by decide) (Nat.le_of_ble_eq_true rfl) cwoI cwoC (dq jX4_init 1 rfl) ?_
  refine nz_aload_n G 0 rfl rfl (dq jX4_init 2 rfl) ?_
  refine nz_iconst G (v := 4) (dq jX4_init 3 rfl) rfl ?_
  refine nz_anew (N := 4) (k' := 1) (n' := 4) G clX4_9 (by decide) (by decide) (by decide) ⟨rfl, rfl⟩ (by decide) (dq jX4_init 4 rfl) ?_
  refine nz_putF (j := 0) (es' := (ap [ob 4 [.ref (h + 1), .null, .null, .null, .int 0, .int 0, .int 0, .int 0, .null, .int 0, .int 0, .int 0, .int 0, .int 0, .int 0, .int 0]] [.inl ((cE Γ).2.2 4, 4, .inr (.inr (.inr (.inr (fun _ => none)))))])) G hi flX4_11 (fun q hq => by cases hq; rfl) rfl (Nat.le_of_ble_eq_true rfl) rfl rfl rfl (dq jX4_init 5 rfl) ?_
  refine nz_aload_n G 0 rfl rfl (dq jX4_init 6 rfl) ?_
  refine nz_bipush G (v := 8) (dq jX4_init 7 rfl) rfl ?_
  refine nz_newa (atype := .int) (t0 := 0) (cA := (cE Γ).2.2 0) (N := 8) (a0 := (8, .inl (fun _ => 0))) (k' := 2) (n' := 12) G rfl cwaI rfl (fun _ h9 => h9) (fun _ => rfl) (by decide) (by decide) (by decide) ⟨rfl, rfl⟩ (by decide) (dq jX4_init 8 rfl) ?_
  refine nz_putF (j := 0) (es' := (ap (ap [ob 4 [.ref (h + 1), .ref (h + 2), .null, .null, .int 0, .int 0, .int 0, .int 0, .null, .int 0, .int 0, .int 0, .int 0, .int 0, .int 0, .int 0]] [.inl ((cE Γ).2.2 4, 4, .inr (.inr (.inr (.inr (fun _ => none)))))]) [.inl ((cE Γ).2.2 0, 8, .inl (fun _ => 0))])) G hi flX4_19 (fun q hq => by cases hq; rfl) rfl (Nat.le_of_ble_eq_true rfl) rfl rfl rfl (dq jX4_init 9 rfl) ?_
  refine nz_aload_n G 0 rfl rfl (dq jX4_init 10 rfl) ?_
  refine nz_new (ci := 3) (fs := [.null, .int 0, .int 0, .int 0, .int 0]) (k' := 3) (n' := 17) G rfl uwsX3 tyX3 tyX3_ok clX4_23 cwgX3 cwnX3 (hfs_of rfl) ⟨rfl, rfl⟩ (by decide) (dq jX4_init 11 rfl) ?_
  refine nz_dup G rfl (dq jX4_init 12 rfl) ?_
  refine nz_callI (ea := (ap (ap [ob 4 [.ref (h + 1), .ref (h + 2), .null, .null, .int 0, .int 0, .int 0, .int 0, .null, .int 0, .int 0, .int 0, .int 0, .int 0, .int 0, .int 0]] [.inl ((cE Γ).2.2 4, 4, .inr (.inr (.inr (.inr (fun _ => none)))))]) [.inl ((cE Γ).2.2 0, 8, .inl (fun _ => 0))])) (e0 := [ob 3 [.null, .int 0, .int 0, .int 0, .int 0]]) (h1 := (h + 3)) (As := []) (st := [.ref (h + 3), .ref h]) (k' := 4) (n' := 3017) G (c_X3_init (cLn Γ) (cE Γ) (h + 3)) lkiX4_25 rfl rfl rfl (by decide) (Nat.le_of_ble_eq_true rfl) (dq jX4_init 13 rfl) rfl ⟨rfl, rfl⟩ (by decide) ?_
  refine nz_putF (j := 0) (es' := (ap (ap (ap [ob 4 [.ref (h + 1), .ref (h + 2), .ref (h + 3), .null, .int 0, .int 0, .int 0, .int 0, .null, .int 0, .int 0, .int 0, .int 0, .int 0, .int 0, .int 0]] [.inl ((cE Γ).2.2 4, 4, .inr (.inr (.inr (.inr (fun _ => none)))))]) [.inl ((cE Γ).2.2 0, 8, .inl (fun _ => 0))]) (esX3_init (cE Γ) (h + 3)))) G hi flX4_26 (fun q hq => by cases hq; rfl) rfl (Nat.le_of_ble_eq_true rfl) rfl rfl rfl (dq jX4_init 14 rfl) ?_
  refine nz_aload_n G 0 rfl rfl (dq jX4_init 15 rfl) ?_
  refine nz_new (ci := 2) (fs := [.int 0, .int 0, .int 0, .int 0, .int 0, .int 0, .int 0, .int 0, .null, .int 0, .null, .int 0, .null]) (k' := 5) (n' := 3030) G rfl uwsX2 tyX2 tyX2_ok clX4_30 cwgX2 cwnX2 (hfs_of rfl) ⟨rfl, rfl⟩ (by decide) (dq jX4_init 16 rfl) ?_
  refine nz_dup G rfl (dq jX4_init 17 rfl) ?_
  refine nz_callI (ea := (ap (ap (ap [ob 4 [.ref (h + 1), .ref (h + 2), .ref (h + 3), .null, .int 0, .int 0, .int 0, .int 0, .null, .int 0, .int 0, .int 0, .int 0, .int 0, .int 0, .int 0]] [.inl ((cE Γ).2.2 4, 4, .inr (.inr (.inr (.inr (fun _ => none)))))]) [.inl ((cE Γ).2.2 0, 8, .inl (fun _ => 0))]) (esX3_init (cE Γ) (h + 3)))) (e0 := [ob 2 [.int 0, .int 0, .int 0, .int 0, .int 0, .int 0, .int 0, .int 0, .null, .int 0, .null, .int 0, .null]]) (h1 := (h + 5)) (As := []) (st := [.ref (h + 5), .ref h]) (k' := 11) (n' := 3711) G (c_X2_init (cLn Γ) (cE Γ) (h + 5)) lkiX4_32 rfl rfl rfl (by decide) (Nat.le_of_ble_eq_true rfl) (dq jX4_init 18 rfl) rfl ⟨rfl, rfl⟩ (by decide) ?_
  refine nz_put (j := 0) (es' := (ap (ap (ap (ap [ob 4 [.ref (h + 1), .ref (h + 2), .ref (h + 3), .ref (h + 5), .int 0, .int 0, .int 0, .int 0, .null, .int 0, .int 0, .int 0, .int 0, .int 0, .int 0, .int 0]] [.inl ((cE Γ).2.2 4, 4, .inr (.inr (.inr (.inr (fun _ => none)))))]) [.inl ((cE Γ).2.2 0, 8, .inl (fun _ => 0))]) (esX3_init (cE Γ) (h + 3))) (esX2_init (cE Γ) (h + 5)))) G flX4_33 rfl (Nat.le_of_ble_eq_true rfl) rfl rfl rfl (dq jX4_init 19 rfl) ?_
  refine nz_iconst G (v := 0) (dq jX4_init 20 rfl) rfl ?_
  refine nz_istore_n (lv' := [(1, .int 0), (0, .ref h)]) G rfl (by decide) rfl (dq jX4_init 21 rfl) ?_
  refine nz_iload_n G 0 rfl rfl (dq jX4_init 22 rfl) ?_
  refine nz_aload_n G 1 rfl rfl (dq jX4_init 23 rfl) ?_
  refine nz_get (j := 0) (v := .ref (h + 1)) G flX4_11 rfl rfl (dq jX4_init 24 rfl) ?_
  refine nz_alen (j := 1) (t0 := 4) (v := 4) G rfl rfl rfl (dq jX4_init 25 rfl) ?_
  refine nz_ge_f G (tgt := 73) (by decide) rfl (dq jX4_init 26 rfl) ?_
  refine nz_aload_n G 1 rfl rfl (dq jX4_init 27 rfl) ?_
  refine nz_get (j := 0) (v := .ref (h + 1)) G flX4_11 rfl rfl (dq jX4_init 28 rfl) ?_
  refine nz_iload_n G 0 rfl rfl (dq jX4_init 29 rfl) ?_
  refine nz_new (ci := 1) (fs := [.int 0, .int 0, .int 0, .int 0, .int 0, .int 0, .int 0, .int 0, .int 0, .int 0, .int 0, .int 0, .int 0, .int 0, .int 0, .null]) (k' := 12) (n' := 3727) G rfl uwsX1 tyX1 tyX1_ok clX4_9 cwgX1 cwnX1 (hfs_of rfl) ⟨rfl, rfl⟩ (by decide) (dq jX4_init 30 rfl) ?_
  refine nz_dup G rfl (dq jX4_init 31 rfl) ?_
  refine nz_iload_n G 0 rfl rfl (dq jX4_init 32 rfl) ?_
  refine nz_callI (ea := (ap (ap (ap (ap [ob 4 [.ref (h + 1), .ref (h + 2), .ref (h + 3), .ref (h + 5), .int 0, .int 0, .int 0, .int 0, .null, .int 0, .int 0, .int 0, .int 0, .int 0, .int 0, .int 0]] [.inl ((cE Γ).2.2 4, 4, .inr (.inr (.inr (.inr (fun _ => none)))))]) [.inl ((cE Γ).2.2 0, 8, .inl (fun _ => 0))]) (esX3_init (cE Γ) (h + 3))) (esX2_init (cE Γ) (h + 5)))) (e0 := [ob 1 [.int 0, .int 0, .int 0, .int 0, .int 0, .int 0, .int 0, .int 0, .int 0, .int 0, .int 0, .int 0, .int 0, .int 0, .int 0, .null]]) (h1 := (h + 12)) (As := [.int 0]) (st := [.ref (h + 12), .int 0, .ref (h + 1)]) (k' := 13) (n' := 3733) G (c_X1_init (cLn Γ) (cE Γ) (h + 12) 0) lkiX4_37 rfl rfl rfl (by decide) (Nat.le_of_ble_eq_true rfl) (dq jX4_init 33 rfl) rfl ⟨rfl, rfl⟩ (by decide) ?_
  refine nz_aast (j := 1) (jv := 12) (ci := 1) (es' := (ap (ap (ap (ap (ap [ob 4 [.ref (h + 1), .ref (h + 2), .ref (h + 3), .ref (h + 5), .int 0, .int 0, .int 0, .int 0, .null, .int 0, .int 0, .int 0, .int 0, .int 0, .int 0, .int 0]] [.inl ((cE Γ).2.2 4, 4, .inr (.inr (.inr (.inr (va_up (fun _ => none) (0 : Int32).toNatClampNeg (some (h + 12)))))))]) [.inl ((cE Γ).2.2 0, 8, .inl (fun _ => 0))]) (esX3_init (cE Γ) (h + 3))) (esX2_init (cE Γ) (h + 5))) (esX1_init (cE Γ) (h + 12) 0))) G rfl rfl rfl rfl (inb_vp (by decide)) rfl (dq jX4_init 34 rfl) ?_
  refine nz_iinc (v := 1) (lv' := [(1, .int 1), (0, .ref h)]) G 0 rfl (by decide) (by decide) rfl (dq jX4_init 35 rfl) ?_
  refine nz_goto G (tgt := 44) rfl (dq jX4_init 36 rfl) ?_
  refine nz_iload_n G 0 rfl rfl (dq jX4_init 22 rfl) ?_
  refine nz_aload_n G 1 rfl rfl (dq jX4_init 23 rfl) ?_
  refine nz_get (j := 0) (v := .ref (h + 1)) G flX4_11 rfl rfl (dq jX4_init 24 rfl) ?_
  refine nz_alen (j := 1) (t0 := 4) (v := 4) G rfl rfl rfl (dq jX4_init 25 rfl) ?_
  refine nz_ge_f G (tgt := 73) (by decide) rfl (dq jX4_init 26 rfl) ?_
  refine nz_aload_n G 1 rfl rfl (dq jX4_init 27 rfl) ?_
  refine nz_get (j := 0) (v := .ref (h + 1)) G flX4_11 rfl rfl (dq jX4_init 28 rfl) ?_
  refine nz_iload_n G 0 rfl rfl (dq jX4_init 29 rfl) ?_
  refine nz_new (ci := 1) (fs := [.int 0, .int 0, .int 0, .int 0, .int 0, .int 0, .int 0, .int 0, .int 0, .int 0, .int 0, .int 0, .int 0, .int 0, .int 0, .null]) (k' := 14) (n' := 3749) G rfl uwsX1 tyX1 tyX1_ok clX4_9 cwgX1 cwnX1 (hfs_of rfl) ⟨rfl, rfl⟩ (by decide) (dq jX4_init 30 rfl) ?_
  refine nz_dup G rfl (dq jX4_init 31 rfl) ?_
  refine nz_iload_n G 0 rfl rfl (dq jX4_init 32 rfl) ?_
  refine nz_callI (ea := (ap (ap (ap (ap (ap [ob 4 [.ref (h + 1), .ref (h + 2), .ref (h + 3), .ref (h + 5), .int 0, .int 0, .int 0, .int 0, .null, .int 0, .int 0, .int 0, .int 0, .int 0, .int 0, .int 0]] [.inl ((cE Γ).2.2 4, 4, .inr (.inr (.inr (.inr (va_up (fun _ => none) (0 : Int32).toNatClampNeg (some (h + 12)))))))]) [.inl ((cE Γ).2.2 0, 8, .inl (fun _ => 0))]) (esX3_init (cE Γ) (h + 3))) (esX2_init (cE Γ) (h + 5))) (esX1_init (cE Γ) (h + 12) 0))) (e0 := [ob 1 [.int 0, .int 0, .int 0, .int 0, .int 0, .int 0, .int 0, .int 0, .int 0, .int 0, .int 0, .int 0, .int 0, .int 0, .int 0, .null]]) (h1 := (h + 14)) (As := [.int 1]) (st := [.ref (h + 14), .int 1, .ref (h + 1)]) (k' := 15) (n' := 3755) G (c_X1_init (cLn Γ) (cE Γ) (h + 14) 1) lkiX4_37 rfl rfl rfl (by decide) (Nat.le_of_ble_eq_true rfl) (dq jX4_init 33 rfl) rfl ⟨rfl, rfl⟩ (by decide) ?_
  refine nz_aast (j := 1) (jv := 14) (ci := 1) (es' := (ap (ap (ap (ap (ap (ap [ob 4 [.ref (h + 1), .ref (h + 2), .ref (h + 3), .ref (h + 5), .int 0, .int 0, .int 0, .int 0, .null, .int 0, .int 0, .int 0, .int 0, .int 0, .int 0, .int 0]] [.inl ((cE Γ).2.2 4, 4, .inr (.inr (.inr (.inr (va_up (va_up (fun _ => none) (0 : Int32).toNatClampNeg (some (h + 12))) (1 : Int32).toNatClampNeg (some (h + 14)))))))]) [.inl ((cE Γ).2.2 0, 8, .inl (fun _ => 0))]) (esX3_init (cE Γ) (h + 3))) (esX2_init (cE Γ) (h + 5))) (esX1_init (cE Γ) (h + 12) 0)) (esX1_init (cE Γ) (h + 14) 1))) G rfl rfl rfl rfl (inb_vp (by decide)) rfl (dq jX4_init 34 rfl) ?_
  refine nz_iinc (v := 2) (lv' := [(1, .int 2), (0, .ref h)]) G 0 rfl (by decide) (by decide) rfl (dq jX4_init 35 rfl) ?_
  refine nz_goto G (tgt := 44) rfl (dq jX4_init 36 rfl) ?_
  refine nz_iload_n G 0 rfl rfl (dq jX4_init 22 rfl) ?_
  refine nz_aload_n G 1 rfl rfl (dq jX4_init 23 rfl) ?_
  refine nz_get (j := 0) (v := .ref (h + 1)) G flX4_11 rfl rfl (dq jX4_init 24 rfl) ?_
  refine nz_alen (j := 1) (t0 := 4) (v := 4) G rfl rfl rfl (dq jX4_init 25 rfl) ?_
  refine nz_ge_f G (tgt := 73) (by decide) rfl (dq jX4_init 26 rfl) ?_
  refine nz_aload_n G 1 rfl rfl (dq jX4_init 27 rfl) ?_
  refine nz_get (j := 0) (v := .ref (h + 1)) G flX4_11 rfl rfl (dq jX4_init 28 rfl) ?_
  refine nz_iload_n G 0 rfl rfl (dq jX4_init 29 rfl) ?_
  refine nz_new (ci := 1) (fs := [.int 0, .int 0, .int 0, .int 0, .int 0, .int 0, .int 0, .int 0, .int 0, .int 0, .int 0, .int 0, .int 0, .int 0, .int 0, .null]) (k' := 16) (n' := 3771) G rfl uwsX1 tyX1 tyX1_ok clX4_9 cwgX1 cwnX1 (hfs_of rfl) ⟨rfl, rfl⟩ (by decide) (dq jX4_init 30 rfl) ?_
  refine nz_dup G rfl (dq jX4_init 31 rfl) ?_
  refine nz_iload_n G 0 rfl rfl (dq jX4_init 32 rfl) ?_
  refine nz_callI (ea := (ap (ap (ap (ap (ap (ap [ob 4 [.ref (h + 1), .ref (h + 2), .ref (h + 3), .ref (h + 5), .int 0, .int 0, .int 0, .int 0, .null, .int 0, .int 0, .int 0, .int 0, .int 0, .int 0, .int 0]] [.inl ((cE Γ).2.2 4, 4, .inr (.inr (.inr (.inr (va_up (va_up (fun _ => none) (0 : Int32).toNatClampNeg (some (h + 12))) (1 : Int32).toNatClampNeg (some (h + 14)))))))]) [.inl ((cE Γ).2.2 0, 8, .inl (fun _ => 0))]) (esX3_init (cE Γ) (h + 3))) (esX2_init (cE Γ) (h + 5))) (esX1_init (cE Γ) (h + 12) 0)) (esX1_init (cE Γ) (h + 14) 1))) (e0 := [ob 1 [.int 0, .int 0, .int 0, .int 0, .int 0, .int 0, .int 0, .int 0, .int 0, .int 0, .int 0, .int 0, .int 0, .int 0, .int 0, .null]]) (h1 := (h + 16)) (As := [.int 2]) (st := [.ref (h + 16), .int 2, .ref (h + 1)]) (k' := 17) (n' := 3777) G (c_X1_init (cLn Γ) (cE Γ) (h + 16) 2) lkiX4_37 rfl rfl rfl (by decide) (Nat.le_of_ble_eq_true rfl) (dq jX4_init 33 rfl) rfl ⟨rfl, rfl⟩ (by decide) ?_
  refine nz_aast (j := 1) (jv := 16) (ci := 1) (es' := (ap (ap (ap (ap (ap (ap (ap [ob 4 [.ref (h + 1), .ref (h + 2), .ref (h + 3), .ref (h + 5), .int 0, .int 0, .int 0, .int 0, .null, .int 0, .int 0, .int 0, .int 0, .int 0, .int 0, .int 0]] [.inl ((cE Γ).2.2 4, 4, .inr (.inr (.inr (.inr (va_up (va_up (va_up (fun _ => none) (0 : Int32).toNatClampNeg (some (h + 12))) (1 : Int32).toNatClampNeg (some (h + 14))) (2 : Int32).toNatClampNeg (some (h + 16)))))))]) [.inl ((cE Γ).2.2 0, 8, .inl (fun _ => 0))]) (esX3_init (cE Γ) (h + 3))) (esX2_init (cE Γ) (h + 5))) (esX1_init (cE Γ) (h + 12) 0)) (esX1_init (cE Γ) (h + 14) 1)) (esX1_init (cE Γ) (h + 16) 2))) G rfl rfl rfl rfl (inb_vp (by decide)) rfl (dq jX4_init 34 rfl) ?_
  refine nz_iinc (v := 3) (lv' := [(1, .int 3), (0, .ref h)]) G 0 rfl (by decide) (by decide) rfl (dq jX4_init 35 rfl) ?_
  refine nz_goto G (tgt := 44) rfl (dq jX4_init 36 rfl) ?_
  refine nz_iload_n G 0 rfl rfl (dq jX4_init 22 rfl) ?_
  refine nz_aload_n G 1 rfl rfl (dq jX4_init 23 rfl) ?_
  refine nz_get (j := 0) (v := .ref (h + 1)) G flX4_11 rfl rfl (dq jX4_init 24 rfl) ?_
  refine nz_alen (j := 1) (t0 := 4) (v := 4) G rfl rfl rfl (dq jX4_init 25 rfl) ?_
  refine nz_ge_f G (tgt := 73) (by decide) rfl (dq jX4_init 26 rfl) ?_
  refine nz_aload_n G 1 rfl rfl (dq jX4_init 27 rfl) ?_
  refine nz_get (j := 0) (v := .ref (h + 1)) G flX4_11 rfl rfl (dq jX4_init 28 rfl) ?_
  refine nz_iload_n G 0 rfl rfl (dq jX4_init 29 rfl) ?_
  refine nz_new (ci := 1) (fs := [.int 0, .int 0, .int 0, .int 0, .int 0, .int 0, .int 0, .int 0, .int 0, .int 0, .int 0, .int 0, .int 0, .int 0, .int 0, .null]) (k' := 18) (n' := 3793) G rfl uwsX1 tyX1 tyX1_ok clX4_9 cwgX1 cwnX1 (hfs_of rfl) ⟨rfl, rfl⟩ (by decide) (dq jX4_init 30 rfl) ?_
  refine nz_dup G rfl (dq jX4_init 31 rfl) ?_
  refine nz_iload_n G 0 rfl rfl (dq jX4_init 32 rfl) ?_
  refine nz_callI (ea := (ap (ap (ap (ap (ap (ap (ap [ob 4 [.ref (h + 1), .ref (h + 2), .ref (h + 3), .ref (h + 5), .int 0, .int 0, .int 0, .int 0, .null, .int 0, .int 0, .int 0, .int 0, .int 0, .int 0, .int 0]] [.inl ((cE Γ).2.2 4, 4, .inr (.inr (.inr (.inr (va_up (va_up (va_up (fun _ => none) (0 : Int32).toNatClampNeg (some (h + 12))) (1 : Int32).toNatClampNeg (some (h + 14))) (2 : Int32).toNatClampNeg (some (h + 16)))))))]) [.inl ((cE Γ).2.2 0, 8, .inl (fun _ => 0))]) (esX3_init (cE Γ) (h + 3))) (esX2_init (cE Γ) (h + 5))) (esX1_init (cE Γ) (h + 12) 0)) (esX1_init (cE Γ) (h + 14) 1)) (esX1_init (cE Γ) (h + 16) 2))) (e0 := [ob 1 [.int 0, .int 0, .int 0, .int 0, .int 0, .int 0, .int 0, .int 0, .int 0, .int 0, .int 0, .int 0, .int 0, .int 0, .int 0, .null]]) (h1 := (h + 18)) (As := [.int 3]) (st := [.ref (h + 18), .int 3, .ref (h + 1)]) (k' := 19) (n' := 3799) G (c_X1_init (cLn Γ) (cE Γ) (h + 18) 3) lkiX4_37 rfl rfl rfl (by decide) (Nat.le_of_ble_eq_true rfl) (dq jX4_init 33 rfl) rfl ⟨rfl, rfl⟩ (by decide) ?_
  refine nz_aast (j := 1) (jv := 18) (ci := 1) (es' := (ap (ap (ap (ap (ap (ap (ap (ap [ob 4 [.ref (h + 1), .ref (h + 2), .ref (h + 3), .ref (h + 5), .int 0, .int 0, .int 0, .int 0, .null, .int 0, .int 0, .int 0, .int 0, .int 0, .int 0, .int 0]] [.inl ((cE Γ).2.2 4, 4, .inr (.inr (.inr (.inr (va_up (va_up (va_up (va_up (fun _ => none) (0 : Int32).toNatClampNeg (some (h + 12))) (1 : Int32).toNatClampNeg (some (h + 14))) (2 : Int32).toNatClampNeg (some (h + 16))) (3 : Int32).toNatClampNeg (some (h + 18)))))))]) [.inl ((cE Γ).2.2 0, 8, .inl (fun _ => 0))]) (esX3_init (cE Γ) (h + 3))) (esX2_init (cE Γ) (h + 5))) (esX1_init (cE Γ) (h + 12) 0)) (esX1_init (cE Γ) (h + 14) 1)) (esX1_init (cE Γ) (h + 16) 2)) (esX1_init (cE Γ) (h + 18) 3))) G rfl rfl rfl rfl (inb_vp (by decide)) rfl (dq jX4_init 34 rfl) ?_
  refine nz_iinc (v := 4) (lv' := [(1, .int 4), (0, .ref h)]) G 0 rfl (by decide) (by decide) rfl (dq jX4_init 35 rfl) ?_
  refine nz_goto G (tgt := 44) rfl (dq jX4_init 36 rfl) ?_
  refine nz_iload_n G 0 rfl rfl (dq jX4_init 22 rfl) ?_
  refine nz_aload_n G 1 rfl rfl (dq jX4_init 23 rfl) ?_
  refine nz_get (j := 0) (v := .ref (h + 1)) G flX4_11 rfl rfl (dq jX4_init 24 rfl) ?_
  refine nz_alen (j := 1) (t0 := 4) (v := 4) G rfl rfl rfl (dq jX4_init 25 rfl) ?_
  refine nz_ge_t G (tgt := 73) (by decide) rfl (dq jX4_init 26 rfl) ?_
  refine nz_aload_n G 1 rfl rfl (dq jX4_init 37 rfl) ?_
  refine nz_aload_n G 1 rfl rfl (dq jX4_init 38 rfl) ?_
  refine nz_get (j := 0) (v := .ref (h + 1)) G flX4_11 rfl rfl (dq jX4_init 39 rfl) ?_
  refine nz_iconst G (v := 0) (dq jX4_init 40 rfl) rfl ?_
  refine nz_aald (j := 1) (v := .ref (h + 12)) G rfl (inb_vp (by decide)) rfl (dq jX4_init 41 rfl) ?_
  refine nz_put (j := 0) (es' := (ap (ap (ap (ap (ap (ap (ap (ap [ob 4 [.ref (h + 1), .ref (h + 2), .ref (h + 3), .ref (h + 5), .int 0, .int 0, .int 0, .int 0, .ref (h + 12), .int 0, .int 0, .int 0, .int 0, .int 0, .int 0, .int 0]] [.inl ((cE Γ).2.2 4, 4, .inr (.inr (.inr (.inr (va_up (va_up (va_up (va_up (fun _ => none) (0 : Int32).toNatClampNeg (some (h + 12))) (1 : Int32).toNatClampNeg (some (h + 14))) (2 : Int32).toNatClampNeg (some (h + 16))) (3 : Int32).toNatClampNeg (some (h + 18)))))))]) [.inl ((cE Γ).2.2 0, 8, .inl (fun _ => 0))]) (esX3_init (cE Γ) (h + 3))) (esX2_init (cE Γ) (h + 5))) (esX1_init (cE Γ) (h + 12) 0)) (esX1_init (cE Γ) (h + 14) 1)) (esX1_init (cE Γ) (h + 16) 2)) (esX1_init (cE Γ) (h + 18) 3))) G flX4_40 rfl (Nat.le_of_ble_eq_true rfl) rfl rfl rfl (dq jX4_init 42 rfl) ?_
  exact nz_vret G hr ⟨rfl, rfl⟩ (dq jX4_init 43 rfl)
def esX10_init (E : En) (h : Nat) : List va_E := (ap (ap (ap (ap (ap (ap (ap (ap [ob 10 [.ref (h + 1), .int 0, .int (-1), .int 0, .int 0, .int 0, .ref (h + 2), .ref (h + 9), .ref (h + 15), .int 0, .ref (h + 21), .ref (h + 31), .ref (h + 51), .ref (h + 54)]] [.inl (E.2.2 1, 600, .inl (fun _ => 0))]) (esX2_init E (h + 2))) (esX7_init E (h + 9))) (esX7_init E (h + 15))) (esX8_init E (h + 21))) (esX4_init E (h + 31))) (esX9_init E (h + 51))) (esX0_init E (h + 54)))
set_option maxRecDepth 8000 in
theorem c_X10_init (l : Launch) (E : En) (h : Nat) : CtN l yX10_init cX10_init 1 4 55 6261 E h [.ref h] [ob 10 [.null, .int 0, .int 0, .int 0, .int 0, .int 0, .null, .null, .null, .int 0, .null, .null, .null, .null]] (esX10_init E h) := by
  refine ctN_of (own := RX10) (by decide) rfl (Nat.le_of_ble_eq_true rfl) (fun Γ hl hE G hr hi => ?_)
  subst hl
  subst hE
  show Nz Γ 1 _ h 0 0 0 [(0, .ref h)] [] [ob 10 [.null, .int 0, .int 0, .int 0, .int 0, .int 0, .null, .null, .null, .int 0, .null, .null, .null, .null]]
  refine nz_aload_n G 0 rfl rfl (dq jX10_init 0 rfl) ?_
  refine nz_obj G lkoX10 (by decide) (Nat.le_of_ble_eq_true rfl) cwoI cwoC (dq jX10_init 1 rfl) ?_
  refine nz_aload_n G 0 rfl rfl (dq jX10_init 2 rfl) ?_
  refine nz_sipush G (v := 600) (dq jX10_init 3 rfl) rfl ?_
  refine nz_newa (atype := .byte) (t0 := 1) (cA := (cE Γ).2.2 1) (N := 600) (a0 := (600, .inl (fun _ => 0))) (k' := 1) (n' := 600) G rfl cwaB rfl (fun _ h9 => h9) (fun _ => rfl) (by decide) (by decide) (by decide) ⟨rfl, rfl⟩ (by decide) (dq jX10_init 4 rfl) ?_
  refine nz_putF (j := 0) (es' := (ap [ob 10 [.ref (h + 1), .int 0, .int 0, .int 0, .int 0, .int 0, .null, .null, .null, .int 0, .null, .null, .null, .null]] [.inl ((cE Γ).2.2 1, 600, .inl (fun _ => 0))])) G hi flX10_9 (fun q hq => by cases hq; rfl) rfl (Nat.le_of_ble_eq_true rfl) rfl rfl rfl (dq jX10_init 5 rfl) ?_
  refine nz_aload_n G 0 rfl rfl (dq jX10_init 6 rfl) ?_
  refine nz_iconst G (v := 0) (dq jX10_init 7 rfl) rfl ?_
  refine nz_put (j := 0) (es' := (ap [ob 10 [.ref (h + 1), .int 0, .int 0, .int 0, .int 0, .int 0, .null, .null, .null, .int 0, .null, .null, .null, .null]] [.inl ((cE Γ).2.2 1, 600, .inl (fun _ => 0))])) G flX10_13 rfl (Nat.le_of_ble_eq_true rfl) rfl rfl rfl (dq jX10_init 8 rfl) ?_
  refine nz_aload_n G 0 rfl rfl (dq jX10_init 9 rfl) ?_
  refine nz_iconst G (v := (-1)) (dq jX10_init 10 rfl) rfl ?_
  refine nz_put (j := 0) (es' := (ap [ob 10 [.ref (h + 1), .int 0, .int (-1), .int 0, .int 0, .int 0, .null, .null, .null, .int 0, .null, .null, .null, .null]] [.inl ((cE Γ).2.2 1, 600, .inl (fun _ => 0))])) G flX10_17 rfl (Nat.le_of_ble_eq_true rfl) rfl rfl rfl (dq jX10_init 11 rfl) ?_
  refine nz_aload_n G 0 rfl rfl (dq jX10_init 12 rfl) ?_
  refine nz_iconst G (v := 0) (dq jX10_init 13 rfl) rfl ?_
  refine nz_put (j := 0) (es' := (ap [ob 10 [.ref (h + 1), .int 0, .int (-1), .int 0, .int 0, .int 0, .null, .null, .null, .int 0, .null, .null, .null, .null]] [.inl ((cE Γ).2.2 1, 600, .inl (fun _ => 0))])) G flX10_20 rfl (Nat.le_of_ble_eq_true rfl) rfl rfl rfl (dq jX10_init 14 rfl) ?_
  refine nz_aload_n G 0 rfl rfl (dq jX10_init 15 rfl) ?_
  refine nz_iconst G (v := 0) (dq jX10_init 16 rfl) rfl ?_
  refine nz_put (j := 0) (es' := (ap [ob 10 [.ref (h + 1), .int 0, .int (-1), .int 0, .int 0, .int 0, .null, .null, .null, .int 0, .null, .null, .null, .null]] [.inl ((cE Γ).2.2 1, 600, .inl (fun _ => 0))])) G flX10_23 rfl (Nat.le_of_ble_eq_true rfl) rfl rfl rfl (dq jX10_init 17 rfl) ?_
  refine nz_aload_n G 0 rfl rfl (dq jX10_init 18 rfl) ?_
  refine nz_iconst G (v := 0) (dq jX10_init 19 rfl) rfl ?_
  refine nz_put (j := 0) (es' := (ap [ob 10 [.ref (h + 1), .int 0, .int (-1), .int 0, .int 0, .int 0, .null, .null, .null, .int 0, .null, .null, .null, .null]] [.inl ((cE Γ).2.2 1, 600, .inl (fun _ => 0))])) G flX10_26 rfl (Nat.le_of_ble_eq_true rfl) rfl rfl rfl (dq jX10_init 20 rfl) ?_
  refine nz_aload_n G 0 rfl rfl (dq jX10_init 21 rfl) ?_
  refine nz_new (ci := 2) (fs := [.int 0, .int 0, .int 0, .int 0, .int 0, .int 0, .int 0, .int 0, .null, .int 0, .null, .int 0, .null]) (k' := 2) (n' := 613) G rfl uwsX2 tyX2 tyX2_ok clX10_29 cwgX2 cwnX2 (hfs_of rfl) ⟨rfl, rfl⟩ (by decide) (dq jX10_init 22 rfl) ?_
  refine nz_dup G rfl (dq jX10_init 23 rfl) ?_
  refine nz_callI (ea := (ap [ob 10 [.ref (h + 1), .int 0, .int (-1), .int 0, .int 0, .int 0, .null, .null, .null, .int 0, .null, .null, .null, .null]] [.inl ((cE Γ).2.2 1, 600, .inl (fun _ => 0))])) (e0 := [ob 2 [.int 0, .int 0, .int 0, .int 0, .int 0, .int 0, .int 0, .int 0, .null, .int 0, .null, .int 0, .null]]) (h1 := (h + 2)) (As := []) (st := [.ref (h + 2), .ref h]) (k' := 8) (n' := 1294) G (c_X2_init (cLn Γ) (cE Γ) (h + 2)) lkiX10_31 rfl rfl rfl (by decide) (Nat.le_of_ble_eq_true rfl) (dq jX10_init 24 rfl) rfl ⟨rfl, rfl⟩ (by decide) ?_
  refine nz_put (j := 0) (es' := (ap (ap [ob 10 [.ref (h + 1), .int 0, .int (-1), .int 0, .int 0, .int 0, .ref (h + 2), .null, .null, .int 0, .null, .null, .null, .null]] [.inl ((cE Γ).2.2 1, 600, .inl (fun _ => 0))]) (esX2_init (cE Γ) (h + 2)))) G flX10_32 rfl (Nat.le_of_ble_eq_true rfl) rfl rfl rfl (dq jX10_init 25 rfl) ?_
  refine nz_aload_n G 0 rfl rfl (dq jX10_init 26 rfl) ?_
  refine nz_new (ci := 7) (fs := [.null, .int 0, .int 0, .int 0, .null, .null, .null, .int 0, .null, .int 0]) (k' := 9) (n' := 1304) G rfl uwsX7 tyX7 tyX7_ok clX10_36 cwgX7 cwnX7 (hfs_of rfl) ⟨rfl, rfl⟩ (by decide) (dq jX10_init 27 rfl) ?_
  refine nz_dup G rfl (dq jX10_init 28 rfl) ?_
  refine nz_callI (ea := (ap (ap [ob 10 [.ref (h + 1), .int 0, .int (-1), .int 0, .int 0, .int 0, .ref (h + 2), .null, .null, .int 0, .null, .null, .null, .null]] [.inl ((cE Γ).2.2 1, 600, .inl (fun _ => 0))]) (esX2_init (cE Γ) (h + 2)))) (e0 := [ob 7 [.null, .int 0, .int 0, .int 0, .null, .null, .null, .int 0, .null, .int 0]]) (h1 := (h + 9)) (As := []) (st := [.ref (h + 9), .ref h]) (k' := 14) (n' := 1468) G (c_X7_init (cLn Γ) (cE Γ) (h + 9)) lkiX10_38 rfl rfl rfl (by decide) (Nat.le_of_ble_eq_true rfl) (dq jX10_init 29 rfl) rfl ⟨rfl, rfl⟩ (by decide) ?_
  refine nz_putF (j := 0) (es' := (ap (ap (ap [ob 10 [.ref (h + 1), .int 0, .int (-1), .int 0, .int 0, .int 0, .ref (h + 2), .ref (h + 9), .null, .int 0, .null, .null, .null, .null]] [.inl ((cE Γ).2.2 1, 600, .inl (fun _ => 0))]) (esX2_init (cE Γ) (h + 2))) (esX7_init (cE Γ) (h + 9)))) G hi flX10_39 (fun q hq => by cases hq; rfl) rfl (Nat.le_of_ble_eq_true rfl) rfl rfl rfl (dq jX10_init 30 rfl) ?_
  refine nz_aload_n G 0 rfl rfl (dq jX10_init 31 rfl) ?_
  refine nz_new (ci := 7) (fs := [.null, .int 0, .int 0, .int 0, .null, .null, .null, .int 0, .null, .int 0]) (k' := 15) (n' := 1478) G rfl uwsX7 tyX7 tyX7_ok clX10_36 cwgX7 cwnX7 (hfs_of rfl) ⟨rfl, rfl⟩ (by decide) (dq jX10_init 32 rfl) ?_
  refine nz_dup G rfl (dq jX10_init 33 rfl) ?_
  refine nz_callI (ea := (ap (ap (ap [ob 10 [.ref (h + 1), .int 0, .int (-1), .int 0, .int 0, .int 0, .ref (h + 2), .ref (h + 9), .null, .int 0, .null, .null, .null, .null]] [.inl ((cE Γ).2.2 1, 600, .inl (fun _ => 0))]) (esX2_init (cE Γ) (h + 2))) (esX7_init (cE Γ) (h + 9)))) (e0 := [ob 7 [.null, .int 0, .int 0, .int 0, .null, .null, .null, .int 0, .null, .int 0]]) (h1 := (h + 15)) (As := []) (st := [.ref (h + 15), .ref h]) (k' := 20) (n' := 1642) G (c_X7_init (cLn Γ) (cE Γ) (h + 15)) lkiX10_38 rfl rfl rfl (by decide) (Nat.le_of_ble_eq_true rfl) (dq jX10_init 34 rfl) rfl ⟨rfl, rfl⟩ (by decide) ?_
  refine nz_putF (j := 0) (es' := (ap (ap (ap (ap [ob 10 [.ref (h + 1), .int 0, .int (-1), .int 0, .int 0, .int 0, .ref (h + 2), .ref (h + 9), .ref (h + 15), .int 0, .null, .null, .null, .null]] [.inl ((cE Γ).2.2 1, 600, .inl (fun _ => 0))]) (esX2_init (cE Γ) (h + 2))) (esX7_init (cE Γ) (h + 9))) (esX7_init (cE Γ) (h + 15)))) G hi flX10_43 (fun q hq => by cases hq; rfl) rfl (Nat.le_of_ble_eq_true rfl) rfl rfl rfl (dq jX10_init 35 rfl) ?_
  refine nz_aload_n G 0 rfl rfl (dq jX10_init 36 rfl) ?_
  refine nz_iconst G (v := 0) (dq jX10_init 37 rfl) rfl ?_
  refine nz_put (j := 0) (es' := (ap (ap (ap (ap [ob 10 [.ref (h + 1), .int 0, .int (-1), .int 0, .int 0, .int 0, .ref (h + 2), .ref (h + 9), .ref (h + 15), .int 0, .null, .null, .null, .null]] [.inl ((cE Γ).2.2 1, 600, .inl (fun _ => 0))]) (esX2_init (cE Γ) (h + 2))) (esX7_init (cE Γ) (h + 9))) (esX7_init (cE Γ) (h + 15)))) G flX10_46 rfl (Nat.le_of_ble_eq_true rfl) rfl rfl rfl (dq jX10_init 38 rfl) ?_
  refine nz_aload_n G 0 rfl rfl (dq jX10_init 39 rfl) ?_
  refine nz_new (ci := 8) (fs := [.null, .null, .int 0, .int 0, .int 0, .int 0]) (k' := 21) (n' := 1648) G rfl uwsX8 tyX8 tyX8_ok clX10_50 cwgX8 cwnX8 (hfs_of rfl) ⟨rfl, rfl⟩ (by decide) (dq jX10_init 40 rfl) ?_
  refine nz_dup G rfl (dq jX10_init 41 rfl) ?_
  refine nz_callI (ea := (ap (ap (ap (ap [ob 10 [.ref (h + 1), .int 0, .int (-1), .int 0, .int 0, .int 0, .ref (h + 2), .ref (h + 9), .ref (h + 15), .int 0, .null, .null, .null, .null]] [.inl ((cE Γ).2.2 1, 600, .inl (fun _ => 0))]) (esX2_init (cE Γ) (h + 2))) (esX7_init (cE Γ) (h + 9))) (esX7_init (cE Γ) (h + 15)))) (e0 := [ob 8 [.null, .null, .int 0, .int 0, .int 0, .int 0]]) (h1 := (h + 21)) (As := []) (st := [.ref (h + 21), .ref h]) (k' := 30) (n' := 2348) G (c_X8_init (cLn Γ) (cE Γ) (h + 21)) lkiX10_52 rfl rfl rfl (by decide) (Nat.le_of_ble_eq_true rfl) (dq jX10_init 42 rfl) rfl ⟨rfl, rfl⟩ (by decide) ?_
  refine nz_putF (j := 0) (es' := (ap (ap (ap (ap (ap [ob 10 [.ref (h + 1), .int 0, .int (-1), .int 0, .int 0, .int 0, .ref (h + 2), .ref (h + 9), .ref (h + 15), .int 0, .ref (h + 21), .null, .null, .null]] [.inl ((cE Γ).2.2 1, 600, .inl (fun _ => 0))]) (esX2_init (cE Γ) (h + 2))) (esX7_init (cE Γ) (h + 9))) (esX7_init (cE Γ) (h + 15))) (esX8_init (cE Γ) (h + 21)))) G hi flX10_53 (fun q hq => by cases hq; rfl) rfl (Nat.le_of_ble_eq_true rfl) rfl rfl rfl (dq jX10_init 43 rfl) ?_
  refine nz_aload_n G 0 rfl rfl (dq jX10_init 44 rfl) ?_
  refine nz_new (ci := 4) (fs := [.null, .null, .null, .null, .int 0, .int 0, .int 0, .int 0, .null, .int 0, .int 0, .int 0, .int 0, .int 0, .int 0, .int 0]) (k' := 31) (n' := 2364) G rfl uwsX4 tyX4 tyX4_ok clX10_57 cwgX4 cwnX4 (hfs_of rfl) ⟨rfl, rfl⟩ (by decide) (dq jX10_init 45 rfl) ?_
  refine nz_dup G rfl (dq jX10_init 46 rfl) ?_
  refine nz_callI (ea := (ap (ap (ap (ap (ap [ob 10 [.ref (h + 1), .int 0, .int (-1), .int 0, .int 0, .int 0, .ref (h + 2), .ref (h + 9), .ref (h + 15), .int 0, .ref (h + 21), .null, .null, .null]] [.inl ((cE Γ).2.2 1, 600, .inl (fun _ => 0))]) (esX2_init (cE Γ) (h + 2))) (esX7_init (cE Γ) (h + 9))) (esX7_init (cE Γ) (h + 15))) (esX8_init (cE Γ) (h + 21)))) (e0 := [ob 4 [.null, .null, .null, .null, .int 0, .int 0, .int 0, .int 0, .null, .int 0, .int 0, .int 0, .int 0, .int 0, .int 0, .int 0]]) (h1 := (h + 31)) (As := []) (st := [.ref (h + 31), .ref h]) (k' := 50) (n' := 6163) G (c_X4_init (cLn Γ) (cE Γ) (h + 31)) lkiX10_59 rfl rfl rfl (by decide) (Nat.le_of_ble_eq_true rfl) (dq jX10_init 47 rfl) rfl ⟨rfl, rfl⟩ (by decide) ?_
  refine nz_putF (j := 0) (es' := (ap (ap (ap (ap (ap (ap [ob 10 [.ref (h + 1), .int 0, .int (-1), .int 0, .int 0, .int 0, .ref (h + 2), .ref (h + 9), .ref (h + 15), .int 0, .ref (h + 21), .ref (h + 31), .null, .null]] [.inl ((cE Γ).2.2 1, 600, .inl (fun _ => 0))]) (esX2_init (cE Γ) (h + 2))) (esX7_init (cE Γ) (h + 9))) (esX7_init (cE Γ) (h + 15))) (esX8_init (cE Γ) (h + 21))) (esX4_init (cE Γ) (h + 31)))) G hi flX10_60 (fun q hq => by cases hq; rfl) rfl (Nat.le_of_ble_eq_true rfl) rfl rfl rfl (dq jX10_init 48 rfl) ?_
  refine nz_aload_n G 0 rfl rfl (dq jX10_init 49 rfl) ?_
  refine nz_new (ci := 9) (fs := [.null, .null, .long 0, .long 0]) (k' := 51) (n' := 6167) G rfl uwsX9 tyX9 tyX9_ok clX10_64 cwgX9 cwnX9 (hfs_of rfl) ⟨rfl, rfl⟩ (by decide) (dq jX10_init 50 rfl) ?_
  refine nz_dup G rfl (dq jX10_init 51 rfl) ?_
  refine nz_callI (ea := (ap (ap (ap (ap (ap (ap [ob 10 [.ref (h + 1), .int 0, .int (-1), .int 0, .int 0, .int 0, .ref (h + 2), .ref (h + 9), .ref (h + 15), .int 0, .ref (h + 21), .ref (h + 31), .null, .null]] [.inl ((cE Γ).2.2 1, 600, .inl (fun _ => 0))]) (esX2_init (cE Γ) (h + 2))) (esX7_init (cE Γ) (h + 9))) (esX7_init (cE Γ) (h + 15))) (esX8_init (cE Γ) (h + 21))) (esX4_init (cE Γ) (h + 31)))) (e0 := [ob 9 [.null, .null, .long 0, .long 0]]) (h1 := (h + 51)) (As := []) (st := [.ref (h + 51), .ref h]) (k' := 53) (n' := 6249) G (c_X9_init (cLn Γ) (cE Γ) (h + 51)) lkiX10_66 rfl rfl rfl (by decide) (Nat.le_of_ble_eq_true rfl) (dq jX10_init 52 rfl) rfl ⟨rfl, rfl⟩ (by decide) ?_
  refine nz_putF (j := 0) (es' := (ap (ap (ap (ap (ap (ap (ap [ob 10 [.ref (h + 1), .int 0, .int (-1), .int 0, .int 0, .int 0, .ref (h + 2), .ref (h + 9), .ref (h + 15), .int 0, .ref (h + 21), .ref (h + 31), .ref (h + 51), .null]] [.inl ((cE Γ).2.2 1, 600, .inl (fun _ => 0))]) (esX2_init (cE Γ) (h + 2))) (esX7_init (cE Γ) (h + 9))) (esX7_init (cE Γ) (h + 15))) (esX8_init (cE Γ) (h + 21))) (esX4_init (cE Γ) (h + 31))) (esX9_init (cE Γ) (h + 51)))) G hi flX10_67 (fun q hq => by cases hq; rfl) rfl (Nat.le_of_ble_eq_true rfl) rfl rfl rfl (dq jX10_init 53 rfl) ?_
  refine nz_aload_n G 0 rfl rfl (dq jX10_init 54 rfl) ?_
  refine nz_new (ci := 0) (fs := [.null, .long 0, .long 0, .int 0]) (k' := 54) (n' := 6253) G rfl uwsX0 tyX0 tyX0_ok clX10_71 cwgX0 cwnX0 (hfs_of rfl) ⟨rfl, rfl⟩ (by decide) (dq jX10_init 55 rfl) ?_
  refine nz_dup G rfl (dq jX10_init 56 rfl) ?_
  refine nz_callI (ea := (ap (ap (ap (ap (ap (ap (ap [ob 10 [.ref (h + 1), .int 0, .int (-1), .int 0, .int 0, .int 0, .ref (h + 2), .ref (h + 9), .ref (h + 15), .int 0, .ref (h + 21), .ref (h + 31), .ref (h + 51), .null]] [.inl ((cE Γ).2.2 1, 600, .inl (fun _ => 0))]) (esX2_init (cE Γ) (h + 2))) (esX7_init (cE Γ) (h + 9))) (esX7_init (cE Γ) (h + 15))) (esX8_init (cE Γ) (h + 21))) (esX4_init (cE Γ) (h + 31))) (esX9_init (cE Γ) (h + 51)))) (e0 := [ob 0 [.null, .long 0, .long 0, .int 0]]) (h1 := (h + 54)) (As := []) (st := [.ref (h + 54), .ref h]) (k' := 55) (n' := 6261) G (c_X0_init (cLn Γ) (cE Γ) (h + 54)) lkiX10_73 rfl rfl rfl (by decide) (Nat.le_of_ble_eq_true rfl) (dq jX10_init 57 rfl) rfl ⟨rfl, rfl⟩ (by decide) ?_
  refine nz_putF (j := 0) (es' := (ap (ap (ap (ap (ap (ap (ap (ap [ob 10 [.ref (h + 1), .int 0, .int (-1), .int 0, .int 0, .int 0, .ref (h + 2), .ref (h + 9), .ref (h + 15), .int 0, .ref (h + 21), .ref (h + 31), .ref (h + 51), .ref (h + 54)]] [.inl ((cE Γ).2.2 1, 600, .inl (fun _ => 0))]) (esX2_init (cE Γ) (h + 2))) (esX7_init (cE Γ) (h + 9))) (esX7_init (cE Γ) (h + 15))) (esX8_init (cE Γ) (h + 21))) (esX4_init (cE Γ) (h + 31))) (esX9_init (cE Γ) (h + 51))) (esX0_init (cE Γ) (h + 54)))) G hi flX10_74 (fun q hq => by cases hq; rfl) rfl (Nat.le_of_ble_eq_true rfl) rfl rfl rfl (dq jX10_init 58 rfl) ?_
  exact nz_vret G hr ⟨rfl, rfl⟩ (dq jX10_init 59 rfl)
