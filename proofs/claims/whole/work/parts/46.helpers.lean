-- ===== links of the law =====
theorem cwcX10_garden : Cond.code yX10_garden cX10_garden 4 (some .int) ∈ gT := gT_tab 771 (by decide +kernel) rfl
theorem cwiX10_garden : Cond.instanceMethod yX10_garden ∈ gT := gT_tab 769 (by decide +kernel) rfl
theorem cwsX10_garden : Cond.selects yX10_garden.cls yX10_garden yX10_garden ∈ gT := gT_tab 770 (by decide +kernel) rfl
theorem lkL_7 : LkV RL 7 yX10_garden cX10_garden 4 (some .int) 1 := ⟨⟨gT_tab 768 (by decide +kernel) rfl, cwiX10_garden, cwsX10_garden, cwnX10, cwcX10_garden⟩, ⟨by decide, by decide, by decide +kernel⟩, by decide⟩
theorem cwcX10_count : Cond.code yX10_count cX10_count 2 (some .int) ∈ gT := gT_tab 1114 (by decide +kernel) rfl
theorem cwiX10_count : Cond.instanceMethod yX10_count ∈ gT := gT_tab 1112 (by decide +kernel) rfl
theorem cwsX10_count : Cond.selects yX10_count.cls yX10_count yX10_count ∈ gT := gT_tab 1113 (by decide +kernel) rfl
theorem lkL_15 : LkV RL 15 yX10_count cX10_count 2 (some .int) 1 := ⟨⟨gT_tab 1111 (by decide +kernel) rfl, cwiX10_count, cwsX10_count, cwnX10, cwcX10_count⟩, ⟨by decide, by decide, by decide +kernel⟩, by decide⟩
theorem cwcX10_jumper : Cond.code yX10_jumper cX10_jumper 3 (some .int) ∈ gT := gT_tab 1148 (by decide +kernel) rfl
theorem cwiX10_jumper : Cond.instanceMethod yX10_jumper ∈ gT := gT_tab 1146 (by decide +kernel) rfl
theorem cwsX10_jumper : Cond.selects yX10_jumper.cls yX10_jumper yX10_jumper ∈ gT := gT_tab 1147 (by decide +kernel) rfl
theorem lkL_20 : LkV RL 20 yX10_jumper cX10_jumper 3 (some .int) 2 := ⟨⟨gT_tab 1145 (by decide +kernel) rfl, cwiX10_jumper, cwsX10_jumper, cwnX10, cwcX10_jumper⟩, ⟨by decide, by decide, by decide +kernel⟩, by decide⟩
theorem cwcX10_become : Cond.code yX10_become cX10_become 4 (some .int) ∈ gT := gT_tab 1159 (by decide +kernel) rfl
theorem cwiX10_become : Cond.instanceMethod yX10_become ∈ gT := gT_tab 1157 (by decide +kernel) rfl
theorem cwsX10_become : Cond.selects yX10_become.cls yX10_become yX10_become ∈ gT := gT_tab 1158 (by decide +kernel) rfl
theorem lkL_24 : LkV RL 24 yX10_become cX10_become 4 (some .int) 3 := ⟨⟨gT_tab 1156 (by decide +kernel) rfl, cwiX10_become, cwsX10_become, cwnX10, cwcX10_become⟩, ⟨by decide, by decide, by decide +kernel⟩, by decide⟩
theorem cwcX10_ran : Cond.code yX10_ran cX10_ran 4 (some .int) ∈ gT := gT_tab 1169 (by decide +kernel) rfl
theorem cwiX10_ran : Cond.instanceMethod yX10_ran ∈ gT := gT_tab 1167 (by decide +kernel) rfl
theorem cwsX10_ran : Cond.selects yX10_ran.cls yX10_ran yX10_ran ∈ gT := gT_tab 1168 (by decide +kernel) rfl
theorem lkL_28 : LkV RL 28 yX10_ran cX10_ran 4 (some .int) 2 := ⟨⟨gT_tab 1166 (by decide +kernel) rfl, cwiX10_ran, cwsX10_ran, cwnX10, cwcX10_ran⟩, ⟨by decide, by decide, by decide +kernel⟩, by decide⟩
theorem cwcX10_lands : Cond.code yX10_lands cX10_lands 3 (some .int) ∈ gT := gT_tab 1185 (by decide +kernel) rfl
theorem cwiX10_lands : Cond.instanceMethod yX10_lands ∈ gT := gT_tab 1183 (by decide +kernel) rfl
theorem cwsX10_lands : Cond.selects yX10_lands.cls yX10_lands yX10_lands ∈ gT := gT_tab 1184 (by decide +kernel) rfl
theorem lkL_31 : LkV RL 31 yX10_lands cX10_lands 3 (some .int) 2 := ⟨⟨gT_tab 1182 (by decide +kernel) rfl, cwiX10_lands, cwsX10_lands, cwnX10, cwcX10_lands⟩, ⟨by decide, by decide, by decide +kernel⟩, by decide⟩
theorem cwcX10_film : Cond.code yX10_film cX10_film 3 (some .int) ∈ gT := gT_tab 1196 (by decide +kernel) rfl
theorem cwiX10_film : Cond.instanceMethod yX10_film ∈ gT := gT_tab 1194 (by decide +kernel) rfl
theorem cwsX10_film : Cond.selects yX10_film.cls yX10_film yX10_film ∈ gT := gT_tab 1195 (by decide +kernel) rfl
theorem lkL_34 : LkV RL 34 yX10_film cX10_film 3 (some .int) 2 := ⟨⟨gT_tab 1193 (by decide +kernel) rfl, cwiX10_film, cwsX10_film, cwnX10, cwcX10_film⟩, ⟨by decide, by decide, by decide +kernel⟩, by decide⟩
theorem cwcX10_mat : Cond.code yX10_mat cX10_mat 2 (some .int) ∈ gT := gT_tab 1211 (by decide +kernel) rfl
theorem cwiX10_mat : Cond.instanceMethod yX10_mat ∈ gT := gT_tab 1209 (by decide +kernel) rfl
theorem cwsX10_mat : Cond.selects yX10_mat.cls yX10_mat yX10_mat ∈ gT := gT_tab 1210 (by decide +kernel) rfl
theorem lkL_37 : LkV RL 37 yX10_mat cX10_mat 2 (some .int) 1 := ⟨⟨gT_tab 1208 (by decide +kernel) rfl, cwiX10_mat, cwsX10_mat, cwnX10, cwcX10_mat⟩, ⟨by decide, by decide, by decide +kernel⟩, by decide⟩
theorem cwcX10_landing : Cond.code yX10_landing cX10_landing 3 (some .int) ∈ gT := gT_tab 1218 (by decide +kernel) rfl
theorem cwiX10_landing : Cond.instanceMethod yX10_landing ∈ gT := gT_tab 1216 (by decide +kernel) rfl
theorem cwsX10_landing : Cond.selects yX10_landing.cls yX10_landing yX10_landing ∈ gT := gT_tab 1217 (by decide +kernel) rfl
theorem lkL_40 : LkV RL 40 yX10_landing cX10_landing 3 (some .int) 2 := ⟨⟨gT_tab 1215 (by decide +kernel) rfl, cwiX10_landing, cwsX10_landing, cwnX10, cwcX10_landing⟩, ⟨by decide, by decide, by decide +kernel⟩, by decide⟩
theorem cwcX10_moment : Cond.code yX10_moment cX10_moment 7 (some .int) ∈ gT := gT_tab 1229 (by decide +kernel) rfl
theorem cwiX10_moment : Cond.instanceMethod yX10_moment ∈ gT := gT_tab 1227 (by decide +kernel) rfl
theorem cwsX10_moment : Cond.selects yX10_moment.cls yX10_moment yX10_moment ∈ gT := gT_tab 1228 (by decide +kernel) rfl
theorem lkL_43 : LkV RL 43 yX10_moment cX10_moment 7 (some .int) 2 := ⟨⟨gT_tab 1226 (by decide +kernel) rfl, cwiX10_moment, cwsX10_moment, cwnX10, cwcX10_moment⟩, ⟨by decide, by decide, by decide +kernel⟩, by decide⟩
theorem cwcX10_step : Cond.code yX10_step cX10_step 5 (some .int) ∈ gT := gT_tab 1240 (by decide +kernel) rfl
theorem cwiX10_step : Cond.instanceMethod yX10_step ∈ gT := gT_tab 1238 (by decide +kernel) rfl
theorem cwsX10_step : Cond.selects yX10_step.cls yX10_step yX10_step ∈ gT := gT_tab 1239 (by decide +kernel) rfl
theorem lkL_46 : LkV RL 46 yX10_step cX10_step 5 (some .int) 3 := ⟨⟨gT_tab 1237 (by decide +kernel) rfl, cwiX10_step, cwsX10_step, cwnX10, cwcX10_step⟩, ⟨by decide, by decide, by decide +kernel⟩, by decide⟩
theorem cwcX10_danger : Cond.code yX10_danger cX10_danger 3 (some .int) ∈ gT := gT_tab 1260 (by decide +kernel) rfl
theorem cwiX10_danger : Cond.instanceMethod yX10_danger ∈ gT := gT_tab 1258 (by decide +kernel) rfl
theorem cwsX10_danger : Cond.selects yX10_danger.cls yX10_danger yX10_danger ∈ gT := gT_tab 1259 (by decide +kernel) rfl
theorem lkL_49 : LkV RL 49 yX10_danger cX10_danger 3 (some .int) 1 := ⟨⟨gT_tab 1257 (by decide +kernel) rfl, cwiX10_danger, cwsX10_danger, cwnX10, cwcX10_danger⟩, ⟨by decide, by decide, by decide +kernel⟩, by decide⟩
theorem cwcX10_without : Cond.code yX10_without cX10_without 4 (some .int) ∈ gT := gT_tab 1268 (by decide +kernel) rfl
theorem cwiX10_without : Cond.instanceMethod yX10_without ∈ gT := gT_tab 1266 (by decide +kernel) rfl
theorem cwsX10_without : Cond.selects yX10_without.cls yX10_without yX10_without ∈ gT := gT_tab 1267 (by decide +kernel) rfl
theorem lkL_52 : LkV RL 52 yX10_without cX10_without 4 (some .int) 2 := ⟨⟨gT_tab 1265 (by decide +kernel) rfl, cwiX10_without, cwsX10_without, cwnX10, cwcX10_without⟩, ⟨by decide, by decide, by decide +kernel⟩, by decide⟩
theorem cwcX10_falls : Cond.code yX10_falls cX10_falls 6 (some .long) ∈ gT := gT_tab 1275 (by decide +kernel) rfl
theorem cwiX10_falls : Cond.instanceMethod yX10_falls ∈ gT := gT_tab 1273 (by decide +kernel) rfl
theorem cwsX10_falls : Cond.selects yX10_falls.cls yX10_falls yX10_falls ∈ gT := gT_tab 1274 (by decide +kernel) rfl
theorem lkL_55 : LkV RL 55 yX10_falls cX10_falls 6 (some .long) 5 := ⟨⟨gT_tab 1272 (by decide +kernel) rfl, cwiX10_falls, cwsX10_falls, cwnX10, cwcX10_falls⟩, ⟨by decide, by decide, by decide +kernel⟩, by decide⟩
theorem cwcX10_wanders : Cond.code yX10_wanders cX10_wanders 7 (some .long) ∈ gT := gT_tab 1321 (by decide +kernel) rfl
theorem cwiX10_wanders : Cond.instanceMethod yX10_wanders ∈ gT := gT_tab 1319 (by decide +kernel) rfl
theorem cwsX10_wanders : Cond.selects yX10_wanders.cls yX10_wanders yX10_wanders ∈ gT := gT_tab 1320 (by decide +kernel) rfl
theorem lkL_59 : LkV RL 59 yX10_wanders cX10_wanders 7 (some .long) 6 := ⟨⟨gT_tab 1318 (by decide +kernel) rfl, cwiX10_wanders, cwsX10_wanders, cwnX10, cwcX10_wanders⟩, ⟨by decide, by decide, by decide +kernel⟩, by decide⟩
theorem cwcX10_correct : Cond.code yX10_correct cX10_correct 8 (some .int) ∈ gT := gT_tab 1332 (by decide +kernel) rfl
theorem cwiX10_correct : Cond.instanceMethod yX10_correct ∈ gT := gT_tab 1330 (by decide +kernel) rfl
theorem cwsX10_correct : Cond.selects yX10_correct.cls yX10_correct yX10_correct ∈ gT := gT_tab 1331 (by decide +kernel) rfl
theorem lkL_63 : LkV RL 63 yX10_correct cX10_correct 8 (some .int) 3 := ⟨⟨gT_tab 1329 (by decide +kernel) rfl, cwiX10_correct, cwsX10_correct, cwnX10, cwcX10_correct⟩, ⟨by decide, by decide, by decide +kernel⟩, by decide⟩
theorem cwcX10_broken : Cond.code yX10_broken cX10_broken 2 (some .int) ∈ gT := gT_tab 1339 (by decide +kernel) rfl
theorem cwiX10_broken : Cond.instanceMethod yX10_broken ∈ gT := gT_tab 1337 (by decide +kernel) rfl
theorem cwsX10_broken : Cond.selects yX10_broken.cls yX10_broken yX10_broken ∈ gT := gT_tab 1338 (by decide +kernel) rfl
theorem lkL_66 : LkV RL 66 yX10_broken cX10_broken 2 (some .int) 1 := ⟨⟨gT_tab 1336 (by decide +kernel) rfl, cwiX10_broken, cwsX10_broken, cwnX10, cwcX10_broken⟩, ⟨by decide, by decide, by decide +kernel⟩, by decide⟩
theorem cwcX10_second : Cond.code yX10_second cX10_second 10 (some .int) ∈ gT := gT_tab 1350 (by decide +kernel) rfl
theorem cwiX10_second : Cond.instanceMethod yX10_second ∈ gT := gT_tab 1348 (by decide +kernel) rfl
theorem cwsX10_second : Cond.selects yX10_second.cls yX10_second yX10_second ∈ gT := gT_tab 1349 (by decide +kernel) rfl
theorem lkL_69 : LkV RL 69 yX10_second cX10_second 10 (some .int) 6 := ⟨⟨gT_tab 1347 (by decide +kernel) rfl, cwiX10_second, cwsX10_second, cwnX10, cwcX10_second⟩, ⟨by decide, by decide, by decide +kernel⟩, by decide⟩
theorem cwcX10_compare : Cond.code yX10_compare cX10_compare 3 (some .int) ∈ gT := gT_tab 1357 (by decide +kernel) rfl
theorem cwiX10_compare : Cond.instanceMethod yX10_compare ∈ gT := gT_tab 1355 (by decide +kernel) rfl
theorem cwsX10_compare : Cond.selects yX10_compare.cls yX10_compare yX10_compare ∈ gT := gT_tab 1356 (by decide +kernel) rfl
theorem lkL_73 : LkV RL 73 yX10_compare cX10_compare 3 (some .int) 2 := ⟨⟨gT_tab 1354 (by decide +kernel) rfl, cwiX10_compare, cwsX10_compare, cwnX10, cwcX10_compare⟩, ⟨by decide, by decide, by decide +kernel⟩, by decide⟩
theorem cwcX10_egg : Cond.code yX10_egg cX10_egg 2 (some .long) ∈ gT := gT_tab 1364 (by decide +kernel) rfl
theorem cwiX10_egg : Cond.instanceMethod yX10_egg ∈ gT := gT_tab 1362 (by decide +kernel) rfl
theorem cwsX10_egg : Cond.selects yX10_egg.cls yX10_egg yX10_egg ∈ gT := gT_tab 1363 (by decide +kernel) rfl
theorem lkL_76 : LkV RL 76 yX10_egg cX10_egg 2 (some .long) 1 := ⟨⟨gT_tab 1361 (by decide +kernel) rfl, cwiX10_egg, cwsX10_egg, cwnX10, cwcX10_egg⟩, ⟨by decide, by decide, by decide +kernel⟩, by decide⟩
theorem cwcX10_afternoons : Cond.code yX10_afternoons cX10_afternoons 10 (some .int) ∈ gT := gT_tab 1380 (by decide +kernel) rfl
theorem cwiX10_afternoons : Cond.instanceMethod yX10_afternoons ∈ gT := gT_tab 1378 (by decide +kernel) rfl
theorem cwsX10_afternoons : Cond.selects yX10_afternoons.cls yX10_afternoons yX10_afternoons ∈ gT := gT_tab 1379 (by decide +kernel) rfl
theorem lkL_80 : LkV RL 80 yX10_afternoons cX10_afternoons 10 (some .int) 3 := ⟨⟨gT_tab 1377 (by decide +kernel) rfl, cwiX10_afternoons, cwsX10_afternoons, cwnX10, cwcX10_afternoons⟩, ⟨by decide, by decide, by decide +kernel⟩, by decide⟩
theorem cwcX10_safe : Cond.code yX10_safe cX10_safe 7 (some .long) ∈ gT := gT_tab 1389 (by decide +kernel) rfl
theorem cwiX10_safe : Cond.instanceMethod yX10_safe ∈ gT := gT_tab 1387 (by decide +kernel) rfl
theorem cwsX10_safe : Cond.selects yX10_safe.cls yX10_safe yX10_safe ∈ gT := gT_tab 1388 (by decide +kernel) rfl
theorem lkL_83 : LkV RL 83 yX10_safe cX10_safe 7 (some .long) 3 := ⟨⟨gT_tab 1386 (by decide +kernel) rfl, cwiX10_safe, cwsX10_safe, cwnX10, cwcX10_safe⟩, ⟨by decide, by decide, by decide +kernel⟩, by decide⟩
theorem cwcX10_stop : Cond.code yX10_stop cX10_stop 2 (some .int) ∈ gT := gT_tab 1401 (by decide +kernel) rfl
theorem cwiX10_stop : Cond.instanceMethod yX10_stop ∈ gT := gT_tab 1399 (by decide +kernel) rfl
theorem cwsX10_stop : Cond.selects yX10_stop.cls yX10_stop yX10_stop ∈ gT := gT_tab 1400 (by decide +kernel) rfl
theorem lkL_87 : LkV RL 87 yX10_stop cX10_stop 2 (some .int) 1 := ⟨⟨gT_tab 1398 (by decide +kernel) rfl, cwiX10_stop, cwsX10_stop, cwnX10, cwcX10_stop⟩, ⟨by decide, by decide, by decide +kernel⟩, by decide⟩
theorem cwcX10_over : Cond.code yX10_over cX10_over 7 (some .int) ∈ gT := gT_tab 1408 (by decide +kernel) rfl
theorem cwiX10_over : Cond.instanceMethod yX10_over ∈ gT := gT_tab 1406 (by decide +kernel) rfl
theorem cwsX10_over : Cond.selects yX10_over.cls yX10_over yX10_over ∈ gT := gT_tab 1407 (by decide +kernel) rfl
theorem lkL_90 : LkV RL 90 yX10_over cX10_over 7 (some .int) 3 := ⟨⟨gT_tab 1405 (by decide +kernel) rfl, cwiX10_over, cwsX10_over, cwnX10, cwcX10_over⟩, ⟨by decide, by decide, by decide +kernel⟩, by decide⟩
theorem clRL_13 : Cond.classLink RL 13 "java/lang/IllegalArgumentException" ∈ gT := gT_tab 767 (by decide +kernel) rfl
theorem clRL_18 : Cond.classLink RL 18 "java/util/NoSuchElementException" ∈ gT := gT_tab 1110 (by decide +kernel) rfl
theorem GG.upW {Γ : Cx} {own : String} {cc : ByteArray} {nL : Nat} {ret : Option FieldType} {h k n k' n' : Nat} (G : GG Γ own cc nL ret h k n) {mc ms : Nat} (hN : (cR Γ).cells = mc ∧ (cR Γ).slots = ms) (h1 : k' ≤ mc) (h2 : n' ≤ ms) : GG Γ own cc nL ret h k' n' := by
  obtain ⟨g1, g2, g3, g4, g5, g6, g7, g8, g9, g10, g11, g12, g13, g14⟩ := G
  exact ⟨g1, g2, g3, g4, g5, g6, g7, g8, g9, g10, g11, g12, by rw [hN.1]; exact h1, by rw [hN.2]; exact h2⟩
def f_L_garden (x1 : Int32) : Sg → Option (Int32 × Sg) := clH (f_X10_garden x1) (fun v => pL 95 (0 : Int32).toNatClampNeg v.toInt64 (rt 0)) (fun b => cond b (rt 1) (fun _ => none))
theorem c_L_garden (l : Launch) (hlt : l.stackTraces = false) (x1 : Int32) : CtW l yL_garden cL_garden 4 (some .int) [(0, 9, 12, 13)] 133 4 24 encI [.ref 0, .int x1, .ref 95] (f_L_garden x1) := by
  refine ctW_of (own := RL) (by decide) rfl (Nat.le_of_ble_eq_true rfl) (fun Γ hl0 G htb hR => ?_)
  subst hl0
  show Rz Γ 4 (Qm Γ encI 4 24) 0 0 0 [(0, .ref 0), (1, .int x1), (2, .ref 95)] [] _
  unfold f_L_garden
  refine rz_aload_n G 2 rfl rfl (dq jL_garden 0 rfl) ?_
  refine rz_iconst G (v := 0) (dq jL_garden 1 rfl) rfl ?_
  refine rz_aload_n G 0 rfl rfl (dq jL_garden 2 rfl) ?_
  refine rz_iload_n G 1 rfl rfl (dq jL_garden 3 rfl) ?_
  refine rz_callH (st := [.int 0, .ref 95]) (As := [.int x1]) G (c_X10_garden (cLn Γ) hlt x1) lkL_7 sh0 rfl rfl rfl (Nat.le_of_ble_eq_true rfl) (Nat.le_of_ble_eq_true rfl) (dq jL_garden 4 rfl) rfl (k' := 4) (n' := 24) ⟨rfl, rfl⟩ ⟨Nat.le_of_eq hR.1.symm, Nat.le_of_eq hR.2.symm⟩ (fun v => ?_) (fun b => ?_)
  · have G := G.upW (k' := 4) (n' := 24) hR (by decide) (by decide)
    show Rz Γ 4 (Qm Γ encI 4 24) 4 24 7 [(0, .ref 0), (1, .int x1), (2, .ref 95)] [.int v, .int 0, .ref 95] _
    refine rz_i2l G (dq jL_garden 5 rfl) ?_
    refine rz_lastN G (by decide) sh95 (dq jL_garden 6 rfl) ?_
    refine rz_goto G (tgt := 15) rfl (dq jL_garden 7 rfl) ?_
    refine rz_iconst G (v := 0) (dq jL_garden 11 rfl) rfl ?_
    exact rz_iretH G (by decide) (dq jL_garden 12 rfl)
  · have G := G.upW (k' := 4) (n' := 24) hR (by decide) (by decide)
    cases b
    · exact Or.inl (fun _ => rfl)
    · refine Or.inr ⟨[(0, .ref 0), (1, .int x1), (2, .ref 95)], 13, ⟨[], ⟨0, 9, 12, 13⟩, [], 3, htb.trans rfl, (fun z hz => nomatch hz), by decide, by decide, clRL_13, by decide, Or.inr ⟨3, rfl, (dq jL_garden 8 rfl), rfl⟩, rfl⟩, ?_⟩
      show Rz Γ 4 (Qm Γ encI 4 24) 4 24 13 [(0, .ref 0), (1, .int x1), (2, .ref 95)] [] (rt 1)
      refine rz_iconst G (v := 1) (dq jL_garden 9 rfl) rfl ?_
      exact rz_iretH G (by decide) (dq jL_garden 10 rfl)
def f_L_count (x1 : Int32) : Sg → Option (Int32 × Sg) := clH (f_X10_count x1) (fun v => pL 95 (0 : Int32).toNatClampNeg v.toInt64 (rt 0)) (fun b => cond b (fun _ => none) (rt 1))
theorem c_L_count (l : Launch) (hlt : l.stackTraces = false) (x1 : Int32) : CtW l yL_count cL_count 4 (some .int) [(0, 9, 12, 18)] 10 4 24 encI [.ref 0, .int x1, .ref 95] (f_L_count x1) := by
  refine ctW_of (own := RL) (by decide) rfl (Nat.le_of_ble_eq_true rfl) (fun Γ hl0 G htb hR => ?_)
  subst hl0
  show Rz Γ 4 (Qm Γ encI 4 24) 0 0 0 [(0, .ref 0), (1, .int x1), (2, .ref 95)] [] _
  unfold f_L_count
  refine rz_aload_n G 2 rfl rfl (dq jL_count 0 rfl) ?_
  refine rz_iconst G (v := 0) (dq jL_count 1 rfl) rfl ?_
  refine rz_aload_n G 0 rfl rfl (dq jL_count 2 rfl) ?_
  refine rz_iload_n G 1 rfl rfl (dq jL_count 3 rfl) ?_
  refine rz_callH (st := [.int 0, .ref 95]) (As := [.int x1]) G (c_X10_count (cLn Γ) hlt x1) lkL_15 sh0 rfl rfl rfl (Nat.le_of_ble_eq_true rfl) (Nat.le_of_ble_eq_true rfl) (dq jL_count 4 rfl) rfl (k' := 4) (n' := 24) ⟨rfl, rfl⟩ ⟨Nat.le_of_eq hR.1.symm, Nat.le_of_eq hR.2.symm⟩ (fun v => ?_) (fun b => ?_)
  · have G := G.upW (k' := 4) (n' := 24) hR (by decide) (by decide)
    show Rz Γ 4 (Qm Γ encI 4 24) 4 24 7 [(0, .ref 0), (1, .int x1), (2, .ref 95)] [.int v, .int 0, .ref 95] _
    refine rz_i2l G (dq jL_count 5 rfl) ?_
    refine rz_lastN G (by decide) sh95 (dq jL_count 6 rfl) ?_
    refine rz_goto G (tgt := 15) rfl (dq jL_count 7 rfl) ?_
    refine rz_iconst G (v := 0) (dq jL_count 11 rfl) rfl ?_
    exact rz_iretH G (by decide) (dq jL_count 12 rfl)
  · have G := G.upW (k' := 4) (n' := 24) hR (by decide) (by decide)
    cases b
    · refine Or.inr ⟨[(0, .ref 0), (1, .int x1), (2, .ref 95)], 13, ⟨[], ⟨0, 9, 12, 18⟩, [], 3, htb.trans rfl, (fun z hz => nomatch hz), by decide, by decide, clRL_18, by decide, Or.inr ⟨3, rfl, (dq jL_count 8 rfl), rfl⟩, rfl⟩, ?_⟩
      show Rz Γ 4 (Qm Γ encI 4 24) 4 24 13 [(0, .ref 0), (1, .int x1), (2, .ref 95)] [] (rt 1)
      refine rz_iconst G (v := 1) (dq jL_count 9 rfl) rfl ?_
      exact rz_iretH G (by decide) (dq jL_count 10 rfl)
    · exact Or.inl (fun _ => rfl)
def f_L_jumper (x1 : Int32) (x2 : Int32) : Sg → Option (Int32 × Sg) := clH (f_X10_jumper x1 x2) (fun v => pL 95 (0 : Int32).toNatClampNeg v.toInt64 (rt 0)) (fun b => cond b (fun _ => none) (rt 1))
theorem c_L_jumper (l : Launch) (hlt : l.stackTraces = false) (x1 : Int32) (x2 : Int32) : CtW l yL_jumper cL_jumper 5 (some .int) [(0, 10, 13, 18)] 10 4 24 encI [.ref 0, .int x1, .int x2, .ref 95] (f_L_jumper x1 x2) := by
  refine ctW_of (own := RL) (by decide) rfl (Nat.le_of_ble_eq_true rfl) (fun Γ hl0 G htb hR => ?_)
  subst hl0
  show Rz Γ 5 (Qm Γ encI 4 24) 0 0 0 [(0, .ref 0), (1, .int x1), (2, .int x2), (3, .ref 95)] [] _
  unfold f_L_jumper
  refine rz_aload_n G 3 rfl rfl (dq jL_jumper 0 rfl) ?_
  refine rz_iconst G (v := 0) (dq jL_jumper 1 rfl) rfl ?_
  refine rz_aload_n G 0 rfl rfl (dq jL_jumper 2 rfl) ?_
  refine rz_iload_n G 1 rfl rfl (dq jL_jumper 3 rfl) ?_
  refine rz_iload_n G 2 rfl rfl (dq jL_jumper 4 rfl) ?_
  refine rz_callH (st := [.int 0, .ref 95]) (As := [.int x1, .int x2]) G (c_X10_jumper (cLn Γ) hlt x1 x2) lkL_20 sh0 rfl rfl rfl (Nat.le_of_ble_eq_true rfl) (Nat.le_of_ble_eq_true rfl) (dq jL_jumper 5 rfl) rfl (k' := 4) (n' := 24) ⟨rfl, rfl⟩ ⟨Nat.le_of_eq hR.1.symm, Nat.le_of_eq hR.2.symm⟩ (fun v => ?_) (fun b => ?_)
  · have G := G.upW (k' := 4) (n' := 24) hR (by decide) (by decide)
    show Rz Γ 5 (Qm Γ encI 4 24) 4 24 8 [(0, .ref 0), (1, .int x1), (2, .int x2), (3, .ref 95)] [.int v, .int 0, .ref 95] _
    refine rz_i2l G (dq jL_jumper 6 rfl) ?_
    refine rz_lastN G (by decide) sh95 (dq jL_jumper 7 rfl) ?_
    refine rz_goto G (tgt := 17) rfl (dq jL_jumper 8 rfl) ?_
    refine rz_iconst G (v := 0) (dq jL_jumper 12 rfl) rfl ?_
    exact rz_iretH G (by decide) (dq jL_jumper 13 rfl)
  · have G := G.upW (k' := 4) (n' := 24) hR (by decide) (by decide)
    cases b
    · refine Or.inr ⟨[(0, .ref 0), (1, .int x1), (2, .int x2), (3, .ref 95)], 15, ⟨[], ⟨0, 10, 13, 18⟩, [], 4, htb.trans rfl, (fun z hz => nomatch hz), by decide, by decide, clRL_18, by decide, Or.inl ⟨(dq jL_jumper 9 rfl), rfl⟩, rfl⟩, ?_⟩
      show Rz Γ 5 (Qm Γ encI 4 24) 4 24 15 [(0, .ref 0), (1, .int x1), (2, .int x2), (3, .ref 95)] [] (rt 1)
      refine rz_iconst G (v := 1) (dq jL_jumper 10 rfl) rfl ?_
      exact rz_iretH G (by decide) (dq jL_jumper 11 rfl)
    · exact Or.inl (fun _ => rfl)
def f_L_become (x1 : Int32) (x2 : Int32) (x3 : Int32) : Sg → Option (Int32 × Sg) := clH (f_X10_become x1 x2 x3) (fun v => pL 95 (0 : Int32).toNatClampNeg v.toInt64 (rt 0)) (fun b => cond b (fun _ => none) (rt 1))
theorem c_L_become (l : Launch) (hlt : l.stackTraces = false) (x1 : Int32) (x2 : Int32) (x3 : Int32) : CtW l yL_become cL_become 6 (some .int) [(0, 12, 15, 18)] 10 4 24 encI [.ref 0, .int x1, .int x2, .int x3, .ref 95] (f_L_become x1 x2 x3) := by
  refine ctW_of (own := RL) (by decide) rfl (Nat.le_of_ble_eq_true rfl) (fun Γ hl0 G htb hR => ?_)
  subst hl0
  show Rz Γ 6 (Qm Γ encI 4 24) 0 0 0 [(0, .ref 0), (1, .int x1), (2, .int x2), (3, .int x3), (4, .ref 95)] [] _
  unfold f_L_become
  refine rz_aload G 4 rfl (dq jL_become 0 rfl) ?_
  refine rz_iconst G (v := 0) (dq jL_become 1 rfl) rfl ?_
  refine rz_aload_n G 0 rfl rfl (dq jL_become 2 rfl) ?_
  refine rz_iload_n G 1 rfl rfl (dq jL_become 3 rfl) ?_
  refine rz_iload_n G 2 rfl rfl (dq jL_become 4 rfl) ?_
  refine rz_iload_n G 3 rfl rfl (dq jL_become 5 rfl) ?_
  refine rz_callH (st := [.int 0, .ref 95]) (As := [.int x1, .int x2, .int x3]) G (c_X10_become (cLn Γ) hlt x1 x2 x3) lkL_24 sh0 rfl rfl rfl (Nat.le_of_ble_eq_true rfl) (Nat.le_of_ble_eq_true rfl) (dq jL_become 6 rfl) rfl (k' := 4) (n' := 24) ⟨rfl, rfl⟩ ⟨Nat.le_of_eq hR.1.symm, Nat.le_of_eq hR.2.symm⟩ (fun v => ?_) (fun b => ?_)
  · have G := G.upW (k' := 4) (n' := 24) hR (by decide) (by decide)
    show Rz Γ 6 (Qm Γ encI 4 24) 4 24 10 [(0, .ref 0), (1, .int x1), (2, .int x2), (3, .int x3), (4, .ref 95)] [.int v, .int 0, .ref 95] _
    refine rz_i2l G (dq jL_become 7 rfl) ?_
    refine rz_lastN G (by decide) sh95 (dq jL_become 8 rfl) ?_
    refine rz_goto G (tgt := 19) rfl (dq jL_become 9 rfl) ?_
    refine rz_iconst G (v := 0) (dq jL_become 13 rfl) rfl ?_
    exact rz_iretH G (by decide) (dq jL_become 14 rfl)
  · have G := G.upW (k' := 4) (n' := 24) hR (by decide) (by decide)
    cases b
    · refine Or.inr ⟨[(0, .ref 0), (1, .int x1), (2, .int x2), (3, .int x3), (4, .ref 95)], 17, ⟨[], ⟨0, 12, 15, 18⟩, [], 5, htb.trans rfl, (fun z hz => nomatch hz), by decide, by decide, clRL_18, by decide, Or.inl ⟨(dq jL_become 10 rfl), rfl⟩, rfl⟩, ?_⟩
      show Rz Γ 6 (Qm Γ encI 4 24) 4 24 17 [(0, .ref 0), (1, .int x1), (2, .int x2), (3, .int x3), (4, .ref 95)] [] (rt 1)
      refine rz_iconst G (v := 1) (dq jL_become 11 rfl) rfl ?_
      exact rz_iretH G (by decide) (dq jL_become 12 rfl)
    · exact Or.inl (fun _ => rfl)
def f_L_ran (x1 : Int32) (x2 : Int32) : Sg → Option (Int32 × Sg) := clH (f_X10_ran x1 x2) (fun v => pL 95 (0 : Int32).toNatClampNeg v.toInt64 (rt 0)) (fun b => cond b (fun _ => none) (rt 1))
theorem c_L_ran (l : Launch) (hlt : l.stackTraces = false) (x1 : Int32) (x2 : Int32) : CtW l yL_ran cL_ran 5 (some .int) [(0, 10, 13, 18)] 10 4 24 encI [.ref 0, .int x1, .int x2, .ref 95] (f_L_ran x1 x2) := by
  refine ctW_of (own := RL) (by decide) rfl (Nat.le_of_ble_eq_true rfl) (fun Γ hl0 G htb hR => ?_)
  subst hl0
  show Rz Γ 5 (Qm Γ encI 4 24) 0 0 0 [(0, .ref 0), (1, .int x1), (2, .int x2), (3, .ref 95)] [] _
  unfold f_L_ran
  refine rz_aload_n G 3 rfl rfl (dq jL_ran 0 rfl) ?_
  refine rz_iconst G (v := 0) (dq jL_ran 1 rfl) rfl ?_
  refine rz_aload_n G 0 rfl rfl (dq jL_ran 2 rfl) ?_
  refine rz_iload_n G 1 rfl rfl (dq jL_ran 3 rfl) ?_
  refine rz_iload_n G 2 rfl rfl (dq jL_ran 4 rfl) ?_
  refine rz_callH (st := [.int 0, .ref 95]) (As := [.int x1, .int x2]) G (c_X10_ran (cLn Γ) hlt x1 x2) lkL_28 sh0 rfl rfl rfl (Nat.le_of_ble_eq_true rfl) (Nat.le_of_ble_eq_true rfl) (dq jL_ran 5 rfl) rfl (k' := 4) (n' := 24) ⟨rfl, rfl⟩ ⟨Nat.le_of_eq hR.1.symm, Nat.le_of_eq hR.2.symm⟩ (fun v => ?_) (fun b => ?_)
  · have G := G.upW (k' := 4) (n' := 24) hR (by decide) (by decide)
    show Rz Γ 5 (Qm Γ encI 4 24) 4 24 8 [(0, .ref 0), (1, .int x1), (2, .int x2), (3, .ref 95)] [.int v, .int 0, .ref 95] _
    refine rz_i2l G (dq jL_ran 6 rfl) ?_
    refine rz_lastN G (by decide) sh95 (dq jL_ran 7 rfl) ?_
    refine rz_goto G (tgt := 17) rfl (dq jL_ran 8 rfl) ?_
    refine rz_iconst G (v := 0) (dq jL_ran 12 rfl) rfl ?_
    exact rz_iretH G (by decide) (dq jL_ran 13 rfl)
  · have G := G.upW (k' := 4) (n' := 24) hR (by decide) (by decide)
    cases b
    · refine Or.inr ⟨[(0, .ref 0), (1, .int x1), (2, .int x2), (3, .ref 95)], 15, ⟨[], ⟨0, 10, 13, 18⟩, [], 4, htb.trans rfl, (fun z hz => nomatch hz), by decide, by decide, clRL_18, by decide, Or.inl ⟨(dq jL_ran 9 rfl), rfl⟩, rfl⟩, ?_⟩
      show Rz Γ 5 (Qm Γ encI 4 24) 4 24 15 [(0, .ref 0), (1, .int x1), (2, .int x2), (3, .ref 95)] [] (rt 1)
      refine rz_iconst G (v := 1) (dq jL_ran 10 rfl) rfl ?_
      exact rz_iretH G (by decide) (dq jL_ran 11 rfl)
    · exact Or.inl (fun _ => rfl)
def f_L_lands (x1 : Int32) (x2 : Int32) : Sg → Option (Int32 × Sg) := clH (f_X10_lands x1 x2) (fun v => pL 95 (0 : Int32).toNatClampNeg v.toInt64 (rt 0)) (fun b => cond b (fun _ => none) (rt 1))
theorem c_L_lands (l : Launch) (hlt : l.stackTraces = false) (x1 : Int32) (x2 : Int32) : CtW l yL_lands cL_lands 5 (some .int) [(0, 10, 13, 18)] 10 4 24 encI [.ref 0, .int x1, .int x2, .ref 95] (f_L_lands x1 x2) := by
  refine ctW_of (own := RL) (by decide) rfl (Nat.le_of_ble_eq_true rfl) (fun Γ hl0 G htb hR => ?_)
  subst hl0
  show Rz Γ 5 (Qm Γ encI 4 24) 0 0 0 [(0, .ref 0), (1, .int x1), (2, .int x2), (3, .ref 95)] [] _
  unfold f_L_lands
  refine rz_aload_n G 3 rfl rfl (dq jL_lands 0 rfl) ?_
  refine rz_iconst G (v := 0) (dq jL_lands 1 rfl) rfl ?_
  refine rz_aload_n G 0 rfl rfl (dq jL_lands 2 rfl) ?_
  refine rz_iload_n G 1 rfl rfl (dq jL_lands 3 rfl) ?_
  refine rz_iload_n G 2 rfl rfl (dq jL_lands 4 rfl) ?_
  refine rz_callH (st := [.int 0, .ref 95]) (As := [.int x1, .int x2]) G (c_X10_lands (cLn Γ) hlt x1 x2) lkL_31 sh0 rfl rfl rfl (Nat.le_of_ble_eq_true rfl) (Nat.le_of_ble_eq_true rfl) (dq jL_lands 5 rfl) rfl (k' := 4) (n' := 24) ⟨rfl, rfl⟩ ⟨Nat.le_of_eq hR.1.symm, Nat.le_of_eq hR.2.symm⟩ (fun v => ?_) (fun b => ?_)
  · have G := G.upW (k' := 4) (n' := 24) hR (by decide) (by decide)
    show Rz Γ 5 (Qm Γ encI 4 24) 4 24 8 [(0, .ref 0), (1, .int x1), (2, .int x2), (3, .ref 95)] [.int v, .int 0, .ref 95] _
    refine rz_i2l G (dq jL_lands 6 rfl) ?_
    refine rz_lastN G (by decide) sh95 (dq jL_lands 7 rfl) ?_
    refine rz_goto G (tgt := 17) rfl (dq jL_lands 8 rfl) ?_
    refine rz_iconst G (v := 0) (dq jL_lands 12 rfl) rfl ?_
    exact rz_iretH G (by decide) (dq jL_lands 13 rfl)
  · have G := G.upW (k' := 4) (n' := 24) hR (by decide) (by decide)
    cases b
    · refine Or.inr ⟨[(0, .ref 0), (1, .int x1), (2, .int x2), (3, .ref 95)], 15, ⟨[], ⟨0, 10, 13, 18⟩, [], 4, htb.trans rfl, (fun z hz => nomatch hz), by decide, by decide, clRL_18, by decide, Or.inl ⟨(dq jL_lands 9 rfl), rfl⟩, rfl⟩, ?_⟩
      show Rz Γ 5 (Qm Γ encI 4 24) 4 24 15 [(0, .ref 0), (1, .int x1), (2, .int x2), (3, .ref 95)] [] (rt 1)
      refine rz_iconst G (v := 1) (dq jL_lands 10 rfl) rfl ?_
      exact rz_iretH G (by decide) (dq jL_lands 11 rfl)
    · exact Or.inl (fun _ => rfl)
def f_L_film (x1 : Int32) (x2 : Int32) : Sg → Option (Int32 × Sg) := clH (f_X10_film x1 x2) (fun v => pL 95 (0 : Int32).toNatClampNeg v.toInt64 (rt 0)) (fun b => cond b (fun _ => none) (rt 1))
theorem c_L_film (l : Launch) (hlt : l.stackTraces = false) (x1 : Int32) (x2 : Int32) : CtW l yL_film cL_film 5 (some .int) [(0, 10, 13, 18)] 10 4 24 encI [.ref 0, .int x1, .int x2, .ref 95] (f_L_film x1 x2) := by
  refine ctW_of (own := RL) (by decide) rfl (Nat.le_of_ble_eq_true rfl) (fun Γ hl0 G htb hR => ?_)
  subst hl0
  show Rz Γ 5 (Qm Γ encI 4 24) 0 0 0 [(0, .ref 0), (1, .int x1), (2, .int x2), (3, .ref 95)] [] _
  unfold f_L_film
  refine rz_aload_n G 3 rfl rfl (dq jL_film 0 rfl) ?_
  refine rz_iconst G (v := 0) (dq jL_film 1 rfl) rfl ?_
  refine rz_aload_n G 0 rfl rfl (dq jL_film 2 rfl) ?_
  refine rz_iload_n G 1 rfl rfl (dq jL_film 3 rfl) ?_
  refine rz_iload_n G 2 rfl rfl (dq jL_film 4 rfl) ?_
  refine rz_callH (st := [.int 0, .ref 95]) (As := [.int x1, .int x2]) G (c_X10_film (cLn Γ) hlt x1 x2) lkL_34 sh0 rfl rfl rfl (Nat.le_of_ble_eq_true rfl) (Nat.le_of_ble_eq_true rfl) (dq jL_film 5 rfl) rfl (k' := 4) (n' := 24) ⟨rfl, rfl⟩ ⟨Nat.le_of_eq hR.1.symm, Nat.le_of_eq hR.2.symm⟩ (fun v => ?_) (fun b => ?_)
  · have G := G.upW (k' := 4) (n' := 24) hR (by decide) (by decide)
    show Rz Γ 5 (Qm Γ encI 4 24) 4 24 8 [(0, .ref 0), (1, .int x1), (2, .int x2), (3, .ref 95)] [.int v, .int 0, .ref 95] _
    refine rz_i2l G (dq jL_film 6 rfl) ?_
    refine rz_lastN G (by decide) sh95 (dq jL_film 7 rfl) ?_
    refine rz_goto G (tgt := 17) rfl (dq jL_film 8 rfl) ?_
    refine rz_iconst G (v := 0) (dq jL_film 12 rfl) rfl ?_
    exact rz_iretH G (by decide) (dq jL_film 13 rfl)
  · have G := G.upW (k' := 4) (n' := 24) hR (by decide) (by decide)
    cases b
    · refine Or.inr ⟨[(0, .ref 0), (1, .int x1), (2, .int x2), (3, .ref 95)], 15, ⟨[], ⟨0, 10, 13, 18⟩, [], 4, htb.trans rfl, (fun z hz => nomatch hz), by decide, by decide, clRL_18, by decide, Or.inl ⟨(dq jL_film 9 rfl), rfl⟩, rfl⟩, ?_⟩
      show Rz Γ 5 (Qm Γ encI 4 24) 4 24 15 [(0, .ref 0), (1, .int x1), (2, .int x2), (3, .ref 95)] [] (rt 1)
      refine rz_iconst G (v := 1) (dq jL_film 10 rfl) rfl ?_
      exact rz_iretH G (by decide) (dq jL_film 11 rfl)
    · exact Or.inl (fun _ => rfl)
def f_L_mat (x1 : Int32) : Sg → Option (Int32 × Sg) := clH (f_X10_mat x1) (fun v => pL 95 (0 : Int32).toNatClampNeg v.toInt64 (rt 0)) (fun b => cond b (fun _ => none) (rt 1))
theorem c_L_mat (l : Launch) (hlt : l.stackTraces = false) (x1 : Int32) : CtW l yL_mat cL_mat 4 (some .int) [(0, 9, 12, 18)] 10 4 24 encI [.ref 0, .int x1, .ref 95] (f_L_mat x1) := by
  refine ctW_of (own := RL) (by decide) rfl (Nat.le_of_ble_eq_true rfl) (fun Γ hl0 G htb hR => ?_)
  subst hl0
  show Rz Γ 4 (Qm Γ encI 4 24) 0 0 0 [(0, .ref 0), (1, .int x1), (2, .ref 95)] [] _
  unfold f_L_mat
  refine rz_aload_n G 2 rfl rfl (dq jL_mat 0 rfl) ?_
  refine rz_iconst G (v := 0) (dq jL_mat 1 rfl) rfl ?_
  refine rz_aload_n G 0 rfl rfl (dq jL_mat 2 rfl) ?_
  refine rz_iload_n G 1 rfl rfl (dq jL_mat 3 rfl) ?_
  refine rz_callH (st := [.int 0, .ref 95]) (As := [.int x1]) G (c_X10_mat (cLn Γ) hlt x1) lkL_37 sh0 rfl rfl rfl (Nat.le_of_ble_eq_true rfl) (Nat.le_of_ble_eq_true rfl) (dq jL_mat 4 rfl) rfl (k' := 4) (n' := 24) ⟨rfl, rfl⟩ ⟨Nat.le_of_eq hR.1.symm, Nat.le_of_eq hR.2.symm⟩ (fun v => ?_) (fun b => ?_)
  · have G := G.upW (k' := 4) (n' := 24) hR (by decide) (by decide)
    show Rz Γ 4 (Qm Γ encI 4 24) 4 24 7 [(0, .ref 0), (1, .int x1), (2, .ref 95)] [.int v, .int 0, .ref 95] _
    refine rz_i2l G (dq jL_mat 5 rfl) ?_
    refine rz_lastN G (by decide) sh95 (dq jL_mat 6 rfl) ?_
    refine rz_goto G (tgt := 15) rfl (dq jL_mat 7 rfl) ?_
    refine rz_iconst G (v := 0) (dq jL_mat 11 rfl) rfl ?_
    exact rz_iretH G (by decide) (dq jL_mat 12 rfl)
  · have G := G.upW (k' := 4) (n' := 24) hR (by decide) (by decide)
    cases b
    · refine Or.inr ⟨[(0, .ref 0), (1, .int x1), (2, .ref 95)], 13, ⟨[], ⟨0, 9, 12, 18⟩, [], 3, htb.trans rfl, (fun z hz => nomatch hz), by decide, by decide, clRL_18, by decide, Or.inr ⟨3, rfl, (dq jL_mat 8 rfl), rfl⟩, rfl⟩, ?_⟩
      show Rz Γ 4 (Qm Γ encI 4 24) 4 24 13 [(0, .ref 0), (1, .int x1), (2, .ref 95)] [] (rt 1)
      refine rz_iconst G (v := 1) (dq jL_mat 9 rfl) rfl ?_
      exact rz_iretH G (by decide) (dq jL_mat 10 rfl)
    · exact Or.inl (fun _ => rfl)
def f_L_landing (x1 : Int32) (x2 : Int32) : Sg → Option (Int32 × Sg) := clH (f_X10_landing x1 x2) (fun v => pL 95 (0 : Int32).toNatClampNeg v.toInt64 (rt 0)) (fun b => cond b (fun _ => none) (rt 1))
theorem c_L_landing (l : Launch) (hlt : l.stackTraces = false) (x1 : Int32) (x2 : Int32) : CtW l yL_landing cL_landing 5 (some .int) [(0, 10, 13, 18)] 10 4 24 encI [.ref 0, .int x1, .int x2, .ref 95] (f_L_landing x1 x2) := by
  refine ctW_of (own := RL) (by decide) rfl (Nat.le_of_ble_eq_true rfl) (fun Γ hl0 G htb hR => ?_)
  subst hl0
  show Rz Γ 5 (Qm Γ encI 4 24) 0 0 0 [(0, .ref 0), (1, .int x1), (2, .int x2), (3, .ref 95)] [] _
  unfold f_L_landing
  refine rz_aload_n G 3 rfl rfl (dq jL_landing 0 rfl) ?_
  refine rz_iconst G (v := 0) (dq jL_landing 1 rfl) rfl ?_
  refine rz_aload_n G 0 rfl rfl (dq jL_landing 2 rfl) ?_
  refine rz_iload_n G 1 rfl rfl (dq jL_landing 3 rfl) ?_
  refine rz_iload_n G 2 rfl rfl (dq jL_landing 4 rfl) ?_
  refine rz_callH (st := [.int 0, .ref 95]) (As := [.int x1, .int x2]) G (c_X10_landing (cLn Γ) hlt x1 x2) lkL_40 sh0 rfl rfl rfl (Nat.le_of_ble_eq_true rfl) (Nat.le_of_ble_eq_true rfl) (dq jL_landing 5 rfl) rfl (k' := 4) (n' := 24) ⟨rfl, rfl⟩ ⟨Nat.le_of_eq hR.1.symm, Nat.le_of_eq hR.2.symm⟩ (fun v => ?_) (fun b => ?_)
  · have G := G.upW (k' := 4) (n' := 24) hR (by decide) (by decide)
    show Rz Γ 5 (Qm Γ encI 4 24) 4 24 8 [(0, .ref 0), (1, .int x1), (2, .int x2), (3, .ref 95)] [.int v, .int 0, .ref 95] _
    refine rz_i2l G (dq jL_landing 6 rfl) ?_
    refine rz_lastN G (by decide) sh95 (dq jL_landing 7 rfl) ?_
    refine rz_goto G (tgt := 17) rfl (dq jL_landing 8 rfl) ?_
    refine rz_iconst G (v := 0) (dq jL_landing 12 rfl) rfl ?_
    exact rz_iretH G (by decide) (dq jL_landing 13 rfl)
  · have G := G.upW (k' := 4) (n' := 24) hR (by decide) (by decide)
    cases b
    · refine Or.inr ⟨[(0, .ref 0), (1, .int x1), (2, .int x2), (3, .ref 95)], 15, ⟨[], ⟨0, 10, 13, 18⟩, [], 4, htb.trans rfl, (fun z hz => nomatch hz), by decide, by decide, clRL_18, by decide, Or.inl ⟨(dq jL_landing 9 rfl), rfl⟩, rfl⟩, ?_⟩
      show Rz Γ 5 (Qm Γ encI 4 24) 4 24 15 [(0, .ref 0), (1, .int x1), (2, .int x2), (3, .ref 95)] [] (rt 1)
      refine rz_iconst G (v := 1) (dq jL_landing 10 rfl) rfl ?_
      exact rz_iretH G (by decide) (dq jL_landing 11 rfl)
    · exact Or.inl (fun _ => rfl)
def f_L_moment (x1 : Int32) (x2 : Int32) : Sg → Option (Int32 × Sg) := clH (f_X10_moment x1 x2) (fun v => pL 95 (0 : Int32).toNatClampNeg v.toInt64 (rt 0)) (fun b => cond b (fun _ => none) (rt 1))
theorem c_L_moment (l : Launch) (hlt : l.stackTraces = false) (x1 : Int32) (x2 : Int32) : CtW l yL_moment cL_moment 5 (some .int) [(0, 10, 13, 18)] 10 4 24 encI [.ref 0, .int x1, .int x2, .ref 95] (f_L_moment x1 x2) := by
  refine ctW_of (own := RL) (by decide) rfl (Nat.le_of_ble_eq_true rfl) (fun Γ hl0 G htb hR => ?_)
  subst hl0
  show Rz Γ 5 (Qm Γ encI 4 24) 0 0 0 [(0, .ref 0), (1, .int x1), (2, .int x2), (3, .ref 95)] [] _
  unfold f_L_moment
  refine rz_aload_n G 3 rfl rfl (dq jL_moment 0 rfl) ?_
  refine rz_iconst G (v := 0) (dq jL_moment 1 rfl) rfl ?_
  refine rz_aload_n G 0 rfl rfl (dq jL_moment 2 rfl) ?_
  refine rz_iload_n G 1 rfl rfl (dq jL_moment 3 rfl) ?_
  refine rz_iload_n G 2 rfl rfl (dq jL_moment 4 rfl) ?_
  refine rz_callH (st := [.int 0, .ref 95]) (As := [.int x1, .int x2]) G (c_X10_moment (cLn Γ) hlt x1 x2) lkL_43 sh0 rfl rfl rfl (Nat.le_of_ble_eq_true rfl) (Nat.le_of_ble_eq_true rfl) (dq jL_moment 5 rfl) rfl (k' := 4) (n' := 24) ⟨rfl, rfl⟩ ⟨Nat.le_of_eq hR.1.symm, Nat.le_of_eq hR.2.symm⟩ (fun v => ?_) (fun b => ?_)
  · have G := G.upW (k' := 4) (n' := 24) hR (by decide) (by decide)
    show Rz Γ 5 (Qm Γ encI 4 24) 4 24 8 [(0, .ref 0), (1, .int x1), (2, .int x2), (3, .ref 95)] [.int v, .int 0, .ref 95] _
    refine rz_i2l G (dq jL_moment 6 rfl) ?_
    refine rz_lastN G (by decide) sh95 (dq jL_moment 7 rfl) ?_
    refine rz_goto G (tgt := 17) rfl (dq jL_moment 8 rfl) ?_
    refine rz_iconst G (v := 0) (dq jL_moment 12 rfl) rfl ?_
    exact rz_iretH G (by decide) (dq jL_moment 13 rfl)
  · have G := G.upW (k' := 4) (n' := 24) hR (by decide) (by decide)
    cases b
    · refine Or.inr ⟨[(0, .ref 0), (1, .int x1), (2, .int x2), (3, .ref 95)], 15, ⟨[], ⟨0, 10, 13, 18⟩, [], 4, htb.trans rfl, (fun z hz => nomatch hz), by decide, by decide, clRL_18, by decide, Or.inl ⟨(dq jL_moment 9 rfl), rfl⟩, rfl⟩, ?_⟩
      show Rz Γ 5 (Qm Γ encI 4 24) 4 24 15 [(0, .ref 0), (1, .int x1), (2, .int x2), (3, .ref 95)] [] (rt 1)
      refine rz_iconst G (v := 1) (dq jL_moment 10 rfl) rfl ?_
      exact rz_iretH G (by decide) (dq jL_moment 11 rfl)
    · exact Or.inl (fun _ => rfl)
def f_L_step (x1 : Int32) (x2 : Int32) (x3 : Int32) : Sg → Option (Int32 × Sg) := clH (f_X10_step x1 x2 x3) (fun v => pL 95 (0 : Int32).toNatClampNeg v.toInt64 (rt 0)) (fun b => cond b (rt 2) (rt 1))
theorem c_L_step (l : Launch) (hlt : l.stackTraces = false) (x1 : Int32) (x2 : Int32) (x3 : Int32) : CtW l yL_step cL_step 6 (some .int) [(0, 12, 15, 18), (0, 12, 19, 13)] 10 4 24 encI [.ref 0, .int x1, .int x2, .int x3, .ref 95] (f_L_step x1 x2 x3) := by
  refine ctW_of (own := RL) (by decide) rfl (Nat.le_of_ble_eq_true rfl) (fun Γ hl0 G htb hR => ?_)
  subst hl0
  show Rz Γ 6 (Qm Γ encI 4 24) 0 0 0 [(0, .ref 0), (1, .int x1), (2, .int x2), (3, .int x3), (4, .ref 95)] [] _
  unfold f_L_step
  refine rz_aload G 4 rfl (dq jL_step 0 rfl) ?_
  refine rz_iconst G (v := 0) (dq jL_step 1 rfl) rfl ?_
  refine rz_aload_n G 0 rfl rfl (dq jL_step 2 rfl) ?_
  refine rz_iload_n G 1 rfl rfl (dq jL_step 3 rfl) ?_
  refine rz_iload_n G 2 rfl rfl (dq jL_step 4 rfl) ?_
  refine rz_iload_n G 3 rfl rfl (dq jL_step 5 rfl) ?_
  refine rz_callH (st := [.int 0, .ref 95]) (As := [.int x1, .int x2, .int x3]) G (c_X10_step (cLn Γ) hlt x1 x2 x3) lkL_46 sh0 rfl rfl rfl (Nat.le_of_ble_eq_true rfl) (Nat.le_of_ble_eq_true rfl) (dq jL_step 6 rfl) rfl (k' := 4) (n' := 24) ⟨rfl, rfl⟩ ⟨Nat.le_of_eq hR.1.symm, Nat.le_of_eq hR.2.symm⟩ (fun v => ?_) (fun b => ?_)
  · have G := G.upW (k' := 4) (n' := 24) hR (by decide) (by decide)
    show Rz Γ 6 (Qm Γ encI 4 24) 4 24 10 [(0, .ref 0), (1, .int x1), (2, .int x2), (3, .int x3), (4, .ref 95)] [.int v, .int 0, .ref 95] _
    refine rz_i2l G (dq jL_step 7 rfl) ?_
    refine rz_lastN G (by decide) sh95 (dq jL_step 8 rfl) ?_
    refine rz_goto G (tgt := 23) rfl (dq jL_step 9 rfl) ?_
    refine rz_iconst G (v := 0) (dq jL_step 16 rfl) rfl ?_
    exact rz_iretH G (by decide) (dq jL_step 17 rfl)
  · have G := G.upW (k' := 4) (n' := 24) hR (by decide) (by decide)
    cases b
    · refine Or.inr ⟨[(0, .ref 0), (1, .int x1), (2, .int x2), (3, .int x3), (4, .ref 95)], 17, ⟨[], ⟨0, 12, 15, 18⟩, [⟨0, 12, 19, 13⟩], 5, htb.trans rfl, (fun z hz => nomatch hz), by decide, by decide, clRL_18, by decide, Or.inl ⟨(dq jL_step 10 rfl), rfl⟩, rfl⟩, ?_⟩
      show Rz Γ 6 (Qm Γ encI 4 24) 4 24 17 [(0, .ref 0), (1, .int x1), (2, .int x2), (3, .int x3), (4, .ref 95)] [] (rt 1)
      refine rz_iconst G (v := 1) (dq jL_step 11 rfl) rfl ?_
      exact rz_iretH G (by decide) (dq jL_step 12 rfl)
    · refine Or.inr ⟨[(0, .ref 0), (1, .int x1), (2, .int x2), (3, .int x3), (4, .ref 95)], 21, ⟨[⟨0, 12, 15, 18⟩], ⟨0, 12, 19, 13⟩, [], 5, htb.trans rfl, (fun z hz => by cases List.mem_singleton.mp hz; exact Or.inr ⟨by decide, _, clRL_18, G.2.2.2.2.2.2.2.1.2.2.2.2.2.2.2⟩), by decide, by decide, clRL_13, by decide, Or.inl ⟨(dq jL_step 13 rfl), rfl⟩, rfl⟩, ?_⟩
      show Rz Γ 6 (Qm Γ encI 4 24) 4 24 21 [(0, .ref 0), (1, .int x1), (2, .int x2), (3, .int x3), (4, .ref 95)] [] (rt 2)
      refine rz_iconst G (v := 2) (dq jL_step 14 rfl) rfl ?_
      exact rz_iretH G (by decide) (dq jL_step 15 rfl)
def f_L_danger (x1 : Int32) : Sg → Option (Int32 × Sg) := clH (f_X10_danger x1) (fun v => pL 95 (0 : Int32).toNatClampNeg v.toInt64 (rt 0)) (fun b => cond b (fun _ => none) (rt 1))
theorem c_L_danger (l : Launch) (hlt : l.stackTraces = false) (x1 : Int32) : CtW l yL_danger cL_danger 4 (some .int) [(0, 9, 12, 18)] 10 4 24 encI [.ref 0, .int x1, .ref 95] (f_L_danger x1) := by
  refine ctW_of (own := RL) (by decide) rfl (Nat.le_of_ble_eq_true rfl) (fun Γ hl0 G htb hR => ?_)
  subst hl0
  show Rz Γ 4 (Qm Γ encI 4 24) 0 0 0 [(0, .ref 0), (1, .int x1), (2, .ref 95)] [] _
  unfold f_L_danger
  refine rz_aload_n G 2 rfl rfl (dq jL_danger 0 rfl) ?_
  refine rz_iconst G (v := 0) (dq jL_danger 1 rfl) rfl ?_
  refine rz_aload_n G 0 rfl rfl (dq jL_danger 2 rfl) ?_
  refine rz_iload_n G 1 rfl rfl (dq jL_danger 3 rfl) ?_
  refine rz_callH (st := [.int 0, .ref 95]) (As := [.int x1]) G (c_X10_danger (cLn Γ) hlt x1) lkL_49 sh0 rfl rfl rfl (Nat.le_of_ble_eq_true rfl) (Nat.le_of_ble_eq_true rfl) (dq jL_danger 4 rfl) rfl (k' := 4) (n' := 24) ⟨rfl, rfl⟩ ⟨Nat.le_of_eq hR.1.symm, Nat.le_of_eq hR.2.symm⟩ (fun v => ?_) (fun b => ?_)
  · have G := G.upW (k' := 4) (n' := 24) hR (by decide) (by decide)
    show Rz Γ 4 (Qm Γ encI 4 24) 4 24 7 [(0, .ref 0), (1, .int x1), (2, .ref 95)] [.int v, .int 0, .ref 95] _
    refine rz_i2l G (dq jL_danger 5 rfl) ?_
    refine rz_lastN G (by decide) sh95 (dq jL_danger 6 rfl) ?_
    refine rz_goto G (tgt := 15) rfl (dq jL_danger 7 rfl) ?_
    refine rz_iconst G (v := 0) (dq jL_danger 11 rfl) rfl ?_
    exact rz_iretH G (by decide) (dq jL_danger 12 rfl)
  · have G := G.upW (k' := 4) (n' := 24) hR (by decide) (by decide)
    cases b
    · refine Or.inr ⟨[(0, .ref 0), (1, .int x1), (2, .ref 95)], 13, ⟨[], ⟨0, 9, 12, 18⟩, [], 3, htb.trans rfl, (fun z hz => nomatch hz), by decide, by decide, clRL_18, by decide, Or.inr ⟨3, rfl, (dq jL_danger 8 rfl), rfl⟩, rfl⟩, ?_⟩
      show Rz Γ 4 (Qm Γ encI 4 24) 4 24 13 [(0, .ref 0), (1, .int x1), (2, .ref 95)] [] (rt 1)
      refine rz_iconst G (v := 1) (dq jL_danger 9 rfl) rfl ?_
      exact rz_iretH G (by decide) (dq jL_danger 10 rfl)
    · exact Or.inl (fun _ => rfl)
def f_L_without (x1 : Int32) (x2 : Int32) : Sg → Option (Int32 × Sg) := clH (f_X10_without x1 x2) (fun v => pL 95 (0 : Int32).toNatClampNeg v.toInt64 (rt 0)) (fun b => cond b (rt 2) (rt 1))
theorem c_L_without (l : Launch) (hlt : l.stackTraces = false) (x1 : Int32) (x2 : Int32) : CtW l yL_without cL_without 5 (some .int) [(0, 10, 13, 18), (0, 10, 17, 13)] 10 4 24 encI [.ref 0, .int x1, .int x2, .ref 95] (f_L_without x1 x2) := by
  refine ctW_of (own := RL) (by decide) rfl (Nat.le_of_ble_eq_true rfl) (fun Γ hl0 G htb hR => ?_)
  subst hl0
  show Rz Γ 5 (Qm Γ encI 4 24) 0 0 0 [(0, .ref 0), (1, .int x1), (2, .int x2), (3, .ref 95)] [] _
  unfold f_L_without
  refine rz_aload_n G 3 rfl rfl (dq jL_without 0 rfl) ?_
  refine rz_iconst G (v := 0) (dq jL_without 1 rfl) rfl ?_
  refine rz_aload_n G 0 rfl rfl (dq jL_without 2 rfl) ?_
  refine rz_iload_n G 1 rfl rfl (dq jL_without 3 rfl) ?_
  refine rz_iload_n G 2 rfl rfl (dq jL_without 4 rfl) ?_
  refine rz_callH (st := [.int 0, .ref 95]) (As := [.int x1, .int x2]) G (c_X10_without (cLn Γ) hlt x1 x2) lkL_52 sh0 rfl rfl rfl (Nat.le_of_ble_eq_true rfl) (Nat.le_of_ble_eq_true rfl) (dq jL_without 5 rfl) rfl (k' := 4) (n' := 24) ⟨rfl, rfl⟩ ⟨Nat.le_of_eq hR.1.symm, Nat.le_of_eq hR.2.symm⟩ (fun v => ?_) (fun b => ?_)
  · have G := G.upW (k' := 4) (n' := 24) hR (by decide) (by decide)
    show Rz Γ 5 (Qm Γ encI 4 24) 4 24 8 [(0, .ref 0), (1, .int x1), (2, .int x2), (3, .ref 95)] [.int v, .int 0, .ref 95] _
    refine rz_i2l G (dq jL_without 6 rfl) ?_
    refine rz_lastN G (by decide) sh95 (dq jL_without 7 rfl) ?_
    refine rz_goto G (tgt := 21) rfl (dq jL_without 8 rfl) ?_
    refine rz_iconst G (v := 0) (dq jL_without 15 rfl) rfl ?_
    exact rz_iretH G (by decide) (dq jL_without 16 rfl)
  · have G := G.upW (k' := 4) (n' := 24) hR (by decide) (by decide)
    cases b
    · refine Or.inr ⟨[(0, .ref 0), (1, .int x1), (2, .int x2), (3, .ref 95)], 15, ⟨[], ⟨0, 10, 13, 18⟩, [⟨0, 10, 17, 13⟩], 4, htb.trans rfl, (fun z hz => nomatch hz), by decide, by decide, clRL_18, by decide, Or.inl ⟨(dq jL_without 9 rfl), rfl⟩, rfl⟩, ?_⟩
      show Rz Γ 5 (Qm Γ encI 4 24) 4 24 15 [(0, .ref 0), (1, .int x1), (2, .int x2), (3, .ref 95)] [] (rt 1)
      refine rz_iconst G (v := 1) (dq jL_without 10 rfl) rfl ?_
      exact rz_iretH G (by decide) (dq jL_without 11 rfl)
    · refine Or.inr ⟨[(0, .ref 0), (1, .int x1), (2, .int x2), (3, .ref 95)], 19, ⟨[⟨0, 10, 13, 18⟩], ⟨0, 10, 17, 13⟩, [], 4, htb.trans rfl, (fun z hz => by cases List.mem_singleton.mp hz; exact Or.inr ⟨by decide, _, clRL_18, G.2.2.2.2.2.2.2.1.2.2.2.2.2.2.2⟩), by decide, by decide, clRL_13, by decide, Or.inl ⟨(dq jL_without 12 rfl), rfl⟩, rfl⟩, ?_⟩
      show Rz Γ 5 (Qm Γ encI 4 24) 4 24 19 [(0, .ref 0), (1, .int x1), (2, .int x2), (3, .ref 95)] [] (rt 2)
      refine rz_iconst G (v := 2) (dq jL_without 13 rfl) rfl ?_
      exact rz_iretH G (by decide) (dq jL_without 14 rfl)
def f_L_falls (x1 : Int32) (x2 : Int32) (x3 : Int32) (x4 : Int32) (x5 : Int32) : Sg → Option (Int32 × Sg) := clH (f_X10_falls x1 x2 x3 x4 x5) (fun v => pL 95 (0 : Int32).toNatClampNeg v (rt 0)) (fun b => cond b (rt 2) (rt 1))
theorem c_L_falls (l : Launch) (hlt : l.stackTraces = false) (x1 : Int32) (x2 : Int32) (x3 : Int32) (x4 : Int32) (x5 : Int32) : CtW l yL_falls cL_falls 8 (some .int) [(0, 15, 18, 18), (0, 15, 22, 13)] 10 4 24 encI [.ref 0, .int x1, .int x2, .int x3, .int x4, .int x5, .ref 95] (f_L_falls x1 x2 x3 x4 x5) := by
  refine ctW_of (own := RL) (by decide) rfl (Nat.le_of_ble_eq_true rfl) (fun Γ hl0 G htb hR => ?_)
  subst hl0
  show Rz Γ 8 (Qm Γ encI 4 24) 0 0 0 [(0, .ref 0), (1, .int x1), (2, .int x2), (3, .int x3), (4, .int x4), (5, .int x5), (6, .ref 95)] [] _
  unfold f_L_falls
  refine rz_aload G 6 rfl (dq jL_falls 0 rfl) ?_
  refine rz_iconst G (v := 0) (dq jL_falls 1 rfl) rfl ?_
  refine rz_aload_n G 0 rfl rfl (dq jL_falls 2 rfl) ?_
  refine rz_iload_n G 1 rfl rfl (dq jL_falls 3 rfl) ?_
  refine rz_iload_n G 2 rfl rfl (dq jL_falls 4 rfl) ?_
  refine rz_iload_n G 3 rfl rfl (dq jL_falls 5 rfl) ?_
  refine rz_iload G 4 rfl (dq jL_falls 6 rfl) ?_
  refine rz_iload G 5 rfl (dq jL_falls 7 rfl) ?_
  refine rz_callH (st := [.int 0, .ref 95]) (As := [.int x1, .int x2, .int x3, .int x4, .int x5]) G (c_X10_falls (cLn Γ) hlt x1 x2 x3 x4 x5) lkL_55 sh0 rfl rfl rfl (Nat.le_of_ble_eq_true rfl) (Nat.le_of_ble_eq_true rfl) (dq jL_falls 8 rfl) rfl (k' := 4) (n' := 24) ⟨rfl, rfl⟩ ⟨Nat.le_of_eq hR.1.symm, Nat.le_of_eq hR.2.symm⟩ (fun v => ?_) (fun b => ?_)
  · have G := G.upW (k' := 4) (n' := 24) hR (by decide) (by decide)
    show Rz Γ 8 (Qm Γ encI 4 24) 4 24 14 [(0, .ref 0), (1, .int x1), (2, .int x2), (3, .int x3), (4, .int x4), (5, .int x5), (6, .ref 95)] [.long v, .int 0, .ref 95] _
    refine rz_lastN G (by decide) sh95 (dq jL_falls 9 rfl) ?_
    refine rz_goto G (tgt := 26) rfl (dq jL_falls 10 rfl) ?_
    refine rz_iconst G (v := 0) (dq jL_falls 17 rfl) rfl ?_
    exact rz_iretH G (by decide) (dq jL_falls 18 rfl)
  · have G := G.upW (k' := 4) (n' := 24) hR (by decide) (by decide)
    cases b
    · refine Or.inr ⟨[(0, .ref 0), (1, .int x1), (2, .int x2), (3, .int x3), (4, .int x4), (5, .int x5), (6, .ref 95)], 20, ⟨[], ⟨0, 15, 18, 18⟩, [⟨0, 15, 22, 13⟩], 7, htb.trans rfl, (fun z hz => nomatch hz), by decide, by decide, clRL_18, by decide, Or.inl ⟨(dq jL_falls 11 rfl), rfl⟩, rfl⟩, ?_⟩
      show Rz Γ 8 (Qm Γ encI 4 24) 4 24 20 [(0, .ref 0), (1, .int x1), (2, .int x2), (3, .int x3), (4, .int x4), (5, .int x5), (6, .ref 95)] [] (rt 1)
      refine rz_iconst G (v := 1) (dq jL_falls 12 rfl) rfl ?_
      exact rz_iretH G (by decide) (dq jL_falls 13 rfl)
    · refine Or.inr ⟨[(0, .ref 0), (1, .int x1), (2, .int x2), (3, .int x3), (4, .int x4), (5, .int x5), (6, .ref 95)], 24, ⟨[⟨0, 15, 18, 18⟩], ⟨0, 15, 22, 13⟩, [], 7, htb.trans rfl, (fun z hz => by cases List.mem_singleton.mp hz; exact Or.inr ⟨by decide, _, clRL_18, G.2.2.2.2.2.2.2.1.2.2.2.2.2.2.2⟩), by decide, by decide, clRL_13, by decide, Or.inl ⟨(dq jL_falls 14 rfl), rfl⟩, rfl⟩, ?_⟩
      show Rz Γ 8 (Qm Γ encI 4 24) 4 24 24 [(0, .ref 0), (1, .int x1), (2, .int x2), (3, .int x3), (4, .int x4), (5, .int x5), (6, .ref 95)] [] (rt 2)
      refine rz_iconst G (v := 2) (dq jL_falls 15 rfl) rfl ?_
      exact rz_iretH G (by decide) (dq jL_falls 16 rfl)
def f_L_wanders (x1 : Int32) (x2 : Int32) (x3 : Int32) (x4 : Int32) (x5 : Int32) (x6 : Int32) : Sg → Option (Int32 × Sg) := clH (f_X10_wanders x1 x2 x3 x4 x5 x6) (fun v => pL 95 (0 : Int32).toNatClampNeg v (rt 0)) (fun b => cond b (rt 2) (rt 1))
theorem c_L_wanders (l : Launch) (hlt : l.stackTraces = false) (x1 : Int32) (x2 : Int32) (x3 : Int32) (x4 : Int32) (x5 : Int32) (x6 : Int32) : CtW l yL_wanders cL_wanders 9 (some .int) [(0, 17, 20, 18), (0, 17, 24, 13)] 10 4 24 encI [.ref 0, .int x1, .int x2, .int x3, .int x4, .int x5, .int x6, .ref 95] (f_L_wanders x1 x2 x3 x4 x5 x6) := by
  refine ctW_of (own := RL) (by decide) rfl (Nat.le_of_ble_eq_true rfl) (fun Γ hl0 G htb hR => ?_)
  subst hl0
  show Rz Γ 9 (Qm Γ encI 4 24) 0 0 0 [(0, .ref 0), (1, .int x1), (2, .int x2), (3, .int x3), (4, .int x4), (5, .int x5), (6, .int x6), (7, .ref 95)] [] _
  unfold f_L_wanders
  refine rz_aload G 7 rfl (dq jL_wanders 0 rfl) ?_
  refine rz_iconst G (v := 0) (dq jL_wanders 1 rfl) rfl ?_
  refine rz_aload_n G 0 rfl rfl (dq jL_wanders 2 rfl) ?_
  refine rz_iload_n G 1 rfl rfl (dq jL_wanders 3 rfl) ?_
  refine rz_iload_n G 2 rfl rfl (dq jL_wanders 4 rfl) ?_
  refine rz_iload_n G 3 rfl rfl (dq jL_wanders 5 rfl) ?_
  refine rz_iload G 4 rfl (dq jL_wanders 6 rfl) ?_
  refine rz_iload G 5 rfl (dq jL_wanders 7 rfl) ?_
  refine rz_iload G 6 rfl (dq jL_wanders 8 rfl) ?_
  refine rz_callH (st := [.int 0, .ref 95]) (As := [.int x1, .int x2, .int x3, .int x4, .int x5, .int x6]) G (c_X10_wanders (cLn Γ) hlt x1 x2 x3 x4 x5 x6) lkL_59 sh0 rfl rfl rfl (Nat.le_of_ble_eq_true rfl) (Nat.le_of_ble_eq_true rfl) (dq jL_wanders 9 rfl) rfl (k' := 4) (n' := 24) ⟨rfl, rfl⟩ ⟨Nat.le_of_eq hR.1.symm, Nat.le_of_eq hR.2.symm⟩ (fun v => ?_) (fun b => ?_)
  · have G := G.upW (k' := 4) (n' := 24) hR (by decide) (by decide)
    show Rz Γ 9 (Qm Γ encI 4 24) 4 24 16 [(0, .ref 0), (1, .int x1), (2, .int x2), (3, .int x3), (4, .int x4), (5, .int x5), (6, .int x6), (7, .ref 95)] [.long v, .int 0, .ref 95] _
    refine rz_lastN G (by decide) sh95 (dq jL_wanders 10 rfl) ?_
    refine rz_goto G (tgt := 28) rfl (dq jL_wanders 11 rfl) ?_
    refine rz_iconst G (v := 0) (dq jL_wanders 18 rfl) rfl ?_
    exact rz_iretH G (by decide) (dq jL_wanders 19 rfl)
  · have G := G.upW (k' := 4) (n' := 24) hR (by decide) (by decide)
    cases b
    · refine Or.inr ⟨[(0, .ref 0), (1, .int x1), (2, .int x2), (3, .int x3), (4, .int x4), (5, .int x5), (6, .int x6), (7, .ref 95)], 22, ⟨[], ⟨0, 17, 20, 18⟩, [⟨0, 17, 24, 13⟩], 8, htb.trans rfl, (fun z hz => nomatch hz), by decide, by decide, clRL_18, by decide, Or.inl ⟨(dq jL_wanders 12 rfl), rfl⟩, rfl⟩, ?_⟩
      show Rz Γ 9 (Qm Γ encI 4 24) 4 24 22 [(0, .ref 0), (1, .int x1), (2, .int x2), (3, .int x3), (4, .int x4), (5, .int x5), (6, .int x6), (7, .ref 95)] [] (rt 1)
      refine rz_iconst G (v := 1) (dq jL_wanders 13 rfl) rfl ?_
      exact rz_iretH G (by decide) (dq jL_wanders 14 rfl)
    · refine Or.inr ⟨[(0, .ref 0), (1, .int x1), (2, .int x2), (3, .int x3), (4, .int x4), (5, .int x5), (6, .int x6), (7, .ref 95)], 26, ⟨[⟨0, 17, 20, 18⟩], ⟨0, 17, 24, 13⟩, [], 8, htb.trans rfl, (fun z hz => by cases List.mem_singleton.mp hz; exact Or.inr ⟨by decide, _, clRL_18, G.2.2.2.2.2.2.2.1.2.2.2.2.2.2.2⟩), by decide, by decide, clRL_13, by decide, Or.inl ⟨(dq jL_wanders 15 rfl), rfl⟩, rfl⟩, ?_⟩
      show Rz Γ 9 (Qm Γ encI 4 24) 4 24 26 [(0, .ref 0), (1, .int x1), (2, .int x2), (3, .int x3), (4, .int x4), (5, .int x5), (6, .int x6), (7, .ref 95)] [] (rt 2)
      refine rz_iconst G (v := 2) (dq jL_wanders 16 rfl) rfl ?_
      exact rz_iretH G (by decide) (dq jL_wanders 17 rfl)
def f_L_correct (x1 : Int32) (x2 : Int32) (x3 : Int32) : Sg → Option (Int32 × Sg) := clH (f_X10_correct x1 x2 x3) (fun v => pL 95 (0 : Int32).toNatClampNeg v.toInt64 (rt 0)) (fun b => cond b (rt 1) (fun _ => none))
theorem c_L_correct (l : Launch) (hlt : l.stackTraces = false) (x1 : Int32) (x2 : Int32) (x3 : Int32) : CtW l yL_correct cL_correct 6 (some .int) [(0, 12, 15, 13)] 10 4 24 encI [.ref 0, .int x1, .int x2, .int x3, .ref 95] (f_L_correct x1 x2 x3) := by
  refine ctW_of (own := RL) (by decide) rfl (Nat.le_of_ble_eq_true rfl) (fun Γ hl0 G htb hR => ?_)
  subst hl0
  show Rz Γ 6 (Qm Γ encI 4 24) 0 0 0 [(0, .ref 0), (1, .int x1), (2, .int x2), (3, .int x3), (4, .ref 95)] [] _
  unfold f_L_correct
  refine rz_aload G 4 rfl (dq jL_correct 0 rfl) ?_
  refine rz_iconst G (v := 0) (dq jL_correct 1 rfl) rfl ?_
  refine rz_aload_n G 0 rfl rfl (dq jL_correct 2 rfl) ?_
  refine rz_iload_n G 1 rfl rfl (dq jL_correct 3 rfl) ?_
  refine rz_iload_n G 2 rfl rfl (dq jL_correct 4 rfl) ?_
  refine rz_iload_n G 3 rfl rfl (dq jL_correct 5 rfl) ?_
  refine rz_callH (st := [.int 0, .ref 95]) (As := [.int x1, .int x2, .int x3]) G (c_X10_correct (cLn Γ) hlt x1 x2 x3) lkL_63 sh0 rfl rfl rfl (Nat.le_of_ble_eq_true rfl) (Nat.le_of_ble_eq_true rfl) (dq jL_correct 6 rfl) rfl (k' := 4) (n' := 24) ⟨rfl, rfl⟩ ⟨Nat.le_of_eq hR.1.symm, Nat.le_of_eq hR.2.symm⟩ (fun v => ?_) (fun b => ?_)
  · have G := G.upW (k' := 4) (n' := 24) hR (by decide) (by decide)
    show Rz Γ 6 (Qm Γ encI 4 24) 4 24 10 [(0, .ref 0), (1, .int x1), (2, .int x2), (3, .int x3), (4, .ref 95)] [.int v, .int 0, .ref 95] _
    refine rz_i2l G (dq jL_correct 7 rfl) ?_
    refine rz_lastN G (by decide) sh95 (dq jL_correct 8 rfl) ?_
    refine rz_goto G (tgt := 19) rfl (dq jL_correct 9 rfl) ?_
    refine rz_iconst G (v := 0) (dq jL_correct 13 rfl) rfl ?_
    exact rz_iretH G (by decide) (dq jL_correct 14 rfl)
  · have G := G.upW (k' := 4) (n' := 24) hR (by decide) (by decide)
    cases b
    · exact Or.inl (fun _ => rfl)
    · refine Or.inr ⟨[(0, .ref 0), (1, .int x1), (2, .int x2), (3, .int x3), (4, .ref 95)], 17, ⟨[], ⟨0, 12, 15, 13⟩, [], 5, htb.trans rfl, (fun z hz => nomatch hz), by decide, by decide, clRL_13, by decide, Or.inl ⟨(dq jL_correct 10 rfl), rfl⟩, rfl⟩, ?_⟩
      show Rz Γ 6 (Qm Γ encI 4 24) 4 24 17 [(0, .ref 0), (1, .int x1), (2, .int x2), (3, .int x3), (4, .ref 95)] [] (rt 1)
      refine rz_iconst G (v := 1) (dq jL_correct 11 rfl) rfl ?_
      exact rz_iretH G (by decide) (dq jL_correct 12 rfl)
def f_L_broken (x1 : Int32) : Sg → Option (Int32 × Sg) := clH (f_X10_broken x1) (fun v => pL 95 (0 : Int32).toNatClampNeg v.toInt64 (rt 0)) (fun b => cond b (rt 1) (fun _ => none))
theorem c_L_broken (l : Launch) (hlt : l.stackTraces = false) (x1 : Int32) : CtW l yL_broken cL_broken 4 (some .int) [(0, 9, 12, 13)] 10 4 24 encI [.ref 0, .int x1, .ref 95] (f_L_broken x1) := by
  refine ctW_of (own := RL) (by decide) rfl (Nat.le_of_ble_eq_true rfl) (fun Γ hl0 G htb hR => ?_)
  subst hl0
  show Rz Γ 4 (Qm Γ encI 4 24) 0 0 0 [(0, .ref 0), (1, .int x1), (2, .ref 95)] [] _
  unfold f_L_broken
  refine rz_aload_n G 2 rfl rfl (dq jL_broken 0 rfl) ?_
  refine rz_iconst G (v := 0) (dq jL_broken 1 rfl) rfl ?_
  refine rz_aload_n G 0 rfl rfl (dq jL_broken 2 rfl) ?_
  refine rz_iload_n G 1 rfl rfl (dq jL_broken 3 rfl) ?_
  refine rz_callH (st := [.int 0, .ref 95]) (As := [.int x1]) G (c_X10_broken (cLn Γ) hlt x1) lkL_66 sh0 rfl rfl rfl (Nat.le_of_ble_eq_true rfl) (Nat.le_of_ble_eq_true rfl) (dq jL_broken 4 rfl) rfl (k' := 4) (n' := 24) ⟨rfl, rfl⟩ ⟨Nat.le_of_eq hR.1.symm, Nat.le_of_eq hR.2.symm⟩ (fun v => ?_) (fun b => ?_)
  · have G := G.upW (k' := 4) (n' := 24) hR (by decide) (by decide)
    show Rz Γ 4 (Qm Γ encI 4 24) 4 24 7 [(0, .ref 0), (1, .int x1), (2, .ref 95)] [.int v, .int 0, .ref 95] _
    refine rz_i2l G (dq jL_broken 5 rfl) ?_
    refine rz_lastN G (by decide) sh95 (dq jL_broken 6 rfl) ?_
    refine rz_goto G (tgt := 15) rfl (dq jL_broken 7 rfl) ?_
    refine rz_iconst G (v := 0) (dq jL_broken 11 rfl) rfl ?_
    exact rz_iretH G (by decide) (dq jL_broken 12 rfl)
  · have G := G.upW (k' := 4) (n' := 24) hR (by decide) (by decide)
    cases b
    · exact Or.inl (fun _ => rfl)
    · refine Or.inr ⟨[(0, .ref 0), (1, .int x1), (2, .ref 95)], 13, ⟨[], ⟨0, 9, 12, 13⟩, [], 3, htb.trans rfl, (fun z hz => nomatch hz), by decide, by decide, clRL_13, by decide, Or.inr ⟨3, rfl, (dq jL_broken 8 rfl), rfl⟩, rfl⟩, ?_⟩
      show Rz Γ 4 (Qm Γ encI 4 24) 4 24 13 [(0, .ref 0), (1, .int x1), (2, .ref 95)] [] (rt 1)
      refine rz_iconst G (v := 1) (dq jL_broken 9 rfl) rfl ?_
      exact rz_iretH G (by decide) (dq jL_broken 10 rfl)
def f_L_second (x1 : Int32) (x2 : Int32) (x3 : Int32) (x4 : Int32) (x5 : Int32) (x6 : Int32) : Sg → Option (Int32 × Sg) := clH (f_X10_second x1 x2 x3 x4 x5 x6) (fun v => pL 95 (0 : Int32).toNatClampNeg v.toInt64 (rt 0)) (fun b => cond b (rt 2) (rt 1))
theorem c_L_second (l : Launch) (hlt : l.stackTraces = false) (x1 : Int32) (x2 : Int32) (x3 : Int32) (x4 : Int32) (x5 : Int32) (x6 : Int32) : CtW l yL_second cL_second 9 (some .int) [(0, 18, 21, 18), (0, 18, 25, 13)] 10 4 24 encI [.ref 0, .int x1, .int x2, .int x3, .int x4, .int x5, .int x6, .ref 95] (f_L_second x1 x2 x3 x4 x5 x6) := by
  refine ctW_of (own := RL) (by decide) rfl (Nat.le_of_ble_eq_true rfl) (fun Γ hl0 G htb hR => ?_)
  subst hl0
  show Rz Γ 9 (Qm Γ encI 4 24) 0 0 0 [(0, .ref 0), (1, .int x1), (2, .int x2), (3, .int x3), (4, .int x4), (5, .int x5), (6, .int x6), (7, .ref 95)] [] _
  unfold f_L_second
  refine rz_aload G 7 rfl (dq jL_second 0 rfl) ?_
  refine rz_iconst G (v := 0) (dq jL_second 1 rfl) rfl ?_
  refine rz_aload_n G 0 rfl rfl (dq jL_second 2 rfl) ?_
  refine rz_iload_n G 1 rfl rfl (dq jL_second 3 rfl) ?_
  refine rz_iload_n G 2 rfl rfl (dq jL_second 4 rfl) ?_
  refine rz_iload_n G 3 rfl rfl (dq jL_second 5 rfl) ?_
  refine rz_iload G 4 rfl (dq jL_second 6 rfl) ?_
  refine rz_iload G 5 rfl (dq jL_second 7 rfl) ?_
  refine rz_iload G 6 rfl (dq jL_second 8 rfl) ?_
  refine rz_callH (st := [.int 0, .ref 95]) (As := [.int x1, .int x2, .int x3, .int x4, .int x5, .int x6]) G (c_X10_second (cLn Γ) hlt x1 x2 x3 x4 x5 x6) lkL_69 sh0 rfl rfl rfl (Nat.le_of_ble_eq_true rfl) (Nat.le_of_ble_eq_true rfl) (dq jL_second 9 rfl) rfl (k' := 4) (n' := 24) ⟨rfl, rfl⟩ ⟨Nat.le_of_eq hR.1.symm, Nat.le_of_eq hR.2.symm⟩ (fun v => ?_) (fun b => ?_)
  · have G := G.upW (k' := 4) (n' := 24) hR (by decide) (by decide)
    show Rz Γ 9 (Qm Γ encI 4 24) 4 24 16 [(0, .ref 0), (1, .int x1), (2, .int x2), (3, .int x3), (4, .int x4), (5, .int x5), (6, .int x6), (7, .ref 95)] [.int v, .int 0, .ref 95] _
    refine rz_i2l G (dq jL_second 10 rfl) ?_
    refine rz_lastN G (by decide) sh95 (dq jL_second 11 rfl) ?_
    refine rz_goto G (tgt := 29) rfl (dq jL_second 12 rfl) ?_
    refine rz_iconst G (v := 0) (dq jL_second 19 rfl) rfl ?_
    exact rz_iretH G (by decide) (dq jL_second 20 rfl)
  · have G := G.upW (k' := 4) (n' := 24) hR (by decide) (by decide)
    cases b
    · refine Or.inr ⟨[(0, .ref 0), (1, .int x1), (2, .int x2), (3, .int x3), (4, .int x4), (5, .int x5), (6, .int x6), (7, .ref 95)], 23, ⟨[], ⟨0, 18, 21, 18⟩, [⟨0, 18, 25, 13⟩], 8, htb.trans rfl, (fun z hz => nomatch hz), by decide, by decide, clRL_18, by decide, Or.inl ⟨(dq jL_second 13 rfl), rfl⟩, rfl⟩, ?_⟩
      show Rz Γ 9 (Qm Γ encI 4 24) 4 24 23 [(0, .ref 0), (1, .int x1), (2, .int x2), (3, .int x3), (4, .int x4), (5, .int x5), (6, .int x6), (7, .ref 95)] [] (rt 1)
      refine rz_iconst G (v := 1) (dq jL_second 14 rfl) rfl ?_
      exact rz_iretH G (by decide) (dq jL_second 15 rfl)
    · refine Or.inr ⟨[(0, .ref 0), (1, .int x1), (2, .int x2), (3, .int x3), (4, .int x4), (5, .int x5), (6, .int x6), (7, .ref 95)], 27, ⟨[⟨0, 18, 21, 18⟩], ⟨0, 18, 25, 13⟩, [], 8, htb.trans rfl, (fun z hz => by cases List.mem_singleton.mp hz; exact Or.inr ⟨by decide, _, clRL_18, G.2.2.2.2.2.2.2.1.2.2.2.2.2.2.2⟩), by decide, by decide, clRL_13, by decide, Or.inl ⟨(dq jL_second 16 rfl), rfl⟩, rfl⟩, ?_⟩
      show Rz Γ 9 (Qm Γ encI 4 24) 4 24 27 [(0, .ref 0), (1, .int x1), (2, .int x2), (3, .int x3), (4, .int x4), (5, .int x5), (6, .int x6), (7, .ref 95)] [] (rt 2)
      refine rz_iconst G (v := 2) (dq jL_second 17 rfl) rfl ?_
      exact rz_iretH G (by decide) (dq jL_second 18 rfl)
def f_L_compare (x1 : Int32) (x2 : Int32) : Sg → Option (Int32 × Sg) := clH (f_X10_compare x1 x2) (fun v => pL 95 (0 : Int32).toNatClampNeg v.toInt64 (rt 0)) (fun b => cond b (fun _ => none) (rt 1))
theorem c_L_compare (l : Launch) (hlt : l.stackTraces = false) (x1 : Int32) (x2 : Int32) : CtW l yL_compare cL_compare 5 (some .int) [(0, 10, 13, 18)] 10 4 24 encI [.ref 0, .int x1, .int x2, .ref 95] (f_L_compare x1 x2) := by
  refine ctW_of (own := RL) (by decide) rfl (Nat.le_of_ble_eq_true rfl) (fun Γ hl0 G htb hR => ?_)
  subst hl0
  show Rz Γ 5 (Qm Γ encI 4 24) 0 0 0 [(0, .ref 0), (1, .int x1), (2, .int x2), (3, .ref 95)] [] _
  unfold f_L_compare
  refine rz_aload_n G 3 rfl rfl (dq jL_compare 0 rfl) ?_
  refine rz_iconst G (v := 0) (dq jL_compare 1 rfl) rfl ?_
  refine rz_aload_n G 0 rfl rfl (dq jL_compare 2 rfl) ?_
  refine rz_iload_n G 1 rfl rfl (dq jL_compare 3 rfl) ?_
  refine rz_iload_n G 2 rfl rfl (dq jL_compare 4 rfl) ?_
  refine rz_callH (st := [.int 0, .ref 95]) (As := [.int x1, .int x2]) G (c_X10_compare (cLn Γ) hlt x1 x2) lkL_73 sh0 rfl rfl rfl (Nat.le_of_ble_eq_true rfl) (Nat.le_of_ble_eq_true rfl) (dq jL_compare 5 rfl) rfl (k' := 4) (n' := 24) ⟨rfl, rfl⟩ ⟨Nat.le_of_eq hR.1.symm, Nat.le_of_eq hR.2.symm⟩ (fun v => ?_) (fun b => ?_)
  · have G := G.upW (k' := 4) (n' := 24) hR (by decide) (by decide)
    show Rz Γ 5 (Qm Γ encI 4 24) 4 24 8 [(0, .ref 0), (1, .int x1), (2, .int x2), (3, .ref 95)] [.int v, .int 0, .ref 95] _
    refine rz_i2l G (dq jL_compare 6 rfl) ?_
    refine rz_lastN G (by decide) sh95 (dq jL_compare 7 rfl) ?_
    refine rz_goto G (tgt := 17) rfl (dq jL_compare 8 rfl) ?_
    refine rz_iconst G (v := 0) (dq jL_compare 12 rfl) rfl ?_
    exact rz_iretH G (by decide) (dq jL_compare 13 rfl)
  · have G := G.upW (k' := 4) (n' := 24) hR (by decide) (by decide)
    cases b
    · refine Or.inr ⟨[(0, .ref 0), (1, .int x1), (2, .int x2), (3, .ref 95)], 15, ⟨[], ⟨0, 10, 13, 18⟩, [], 4, htb.trans rfl, (fun z hz => nomatch hz), by decide, by decide, clRL_18, by decide, Or.inl ⟨(dq jL_compare 9 rfl), rfl⟩, rfl⟩, ?_⟩
      show Rz Γ 5 (Qm Γ encI 4 24) 4 24 15 [(0, .ref 0), (1, .int x1), (2, .int x2), (3, .ref 95)] [] (rt 1)
      refine rz_iconst G (v := 1) (dq jL_compare 10 rfl) rfl ?_
      exact rz_iretH G (by decide) (dq jL_compare 11 rfl)
    · exact Or.inl (fun _ => rfl)
def f_L_egg (x1 : Int32) : Sg → Option (Int32 × Sg) := clH (f_X10_egg x1) (fun v => pL 95 (0 : Int32).toNatClampNeg v (rt 0)) (fun b => cond b (fun _ => none) (rt 1))
theorem c_L_egg (l : Launch) (hlt : l.stackTraces = false) (x1 : Int32) : CtW l yL_egg cL_egg 4 (some .int) [(0, 8, 11, 18)] 10 4 24 encI [.ref 0, .int x1, .ref 95] (f_L_egg x1) := by
  refine ctW_of (own := RL) (by decide) rfl (Nat.le_of_ble_eq_true rfl) (fun Γ hl0 G htb hR => ?_)
  subst hl0
  show Rz Γ 4 (Qm Γ encI 4 24) 0 0 0 [(0, .ref 0), (1, .int x1), (2, .ref 95)] [] _
  unfold f_L_egg
  refine rz_aload_n G 2 rfl rfl (dq jL_egg 0 rfl) ?_
  refine rz_iconst G (v := 0) (dq jL_egg 1 rfl) rfl ?_
  refine rz_aload_n G 0 rfl rfl (dq jL_egg 2 rfl) ?_
  refine rz_iload_n G 1 rfl rfl (dq jL_egg 3 rfl) ?_
  refine rz_callH (st := [.int 0, .ref 95]) (As := [.int x1]) G (c_X10_egg (cLn Γ) hlt x1) lkL_76 sh0 rfl rfl rfl (Nat.le_of_ble_eq_true rfl) (Nat.le_of_ble_eq_true rfl) (dq jL_egg 4 rfl) rfl (k' := 4) (n' := 24) ⟨rfl, rfl⟩ ⟨Nat.le_of_eq hR.1.symm, Nat.le_of_eq hR.2.symm⟩ (fun v => ?_) (fun b => ?_)
  · have G := G.upW (k' := 4) (n' := 24) hR (by decide) (by decide)
    show Rz Γ 4 (Qm Γ encI 4 24) 4 24 7 [(0, .ref 0), (1, .int x1), (2, .ref 95)] [.long v, .int 0, .ref 95] _
    refine rz_lastN G (by decide) sh95 (dq jL_egg 5 rfl) ?_
    refine rz_goto G (tgt := 14) rfl (dq jL_egg 6 rfl) ?_
    refine rz_iconst G (v := 0) (dq jL_egg 10 rfl) rfl ?_
    exact rz_iretH G (by decide) (dq jL_egg 11 rfl)
  · have G := G.upW (k' := 4) (n' := 24) hR (by decide) (by decide)
    cases b
    · refine Or.inr ⟨[(0, .ref 0), (1, .int x1), (2, .ref 95)], 12, ⟨[], ⟨0, 8, 11, 18⟩, [], 3, htb.trans rfl, (fun z hz => nomatch hz), by decide, by decide, clRL_18, by decide, Or.inr ⟨3, rfl, (dq jL_egg 7 rfl), rfl⟩, rfl⟩, ?_⟩
      show Rz Γ 4 (Qm Γ encI 4 24) 4 24 12 [(0, .ref 0), (1, .int x1), (2, .ref 95)] [] (rt 1)
      refine rz_iconst G (v := 1) (dq jL_egg 8 rfl) rfl ?_
      exact rz_iretH G (by decide) (dq jL_egg 9 rfl)
    · exact Or.inl (fun _ => rfl)
def f_L_afternoons (x1 : Int32) (x2 : Int32) (x3 : Int32) : Sg → Option (Int32 × Sg) := clH (f_X10_afternoons x1 x2 x3) (fun v => pL 95 (0 : Int32).toNatClampNeg v.toInt64 (rt 0)) (fun b => cond b (rt 2) (rt 1))
theorem c_L_afternoons (l : Launch) (hlt : l.stackTraces = false) (x1 : Int32) (x2 : Int32) (x3 : Int32) : CtW l yL_afternoons cL_afternoons 6 (some .int) [(0, 12, 15, 18), (0, 12, 19, 13)] 10 4 24 encI [.ref 0, .int x1, .int x2, .int x3, .ref 95] (f_L_afternoons x1 x2 x3) := by
  refine ctW_of (own := RL) (by decide) rfl (Nat.le_of_ble_eq_true rfl) (fun Γ hl0 G htb hR => ?_)
  subst hl0
  show Rz Γ 6 (Qm Γ encI 4 24) 0 0 0 [(0, .ref 0), (1, .int x1), (2, .int x2), (3, .int x3), (4, .ref 95)] [] _
  unfold f_L_afternoons
  refine rz_aload G 4 rfl (dq jL_afternoons 0 rfl) ?_
  refine rz_iconst G (v := 0) (dq jL_afternoons 1 rfl) rfl ?_
  refine rz_aload_n G 0 rfl rfl (dq jL_afternoons 2 rfl) ?_
  refine rz_iload_n G 1 rfl rfl (dq jL_afternoons 3 rfl) ?_
  refine rz_iload_n G 2 rfl rfl (dq jL_afternoons 4 rfl) ?_
  refine rz_iload_n G 3 rfl rfl (dq jL_afternoons 5 rfl) ?_
  refine rz_callH (st := [.int 0, .ref 95]) (As := [.int x1, .int x2, .int x3]) G (c_X10_afternoons (cLn Γ) hlt x1 x2 x3) lkL_80 sh0 rfl rfl rfl (Nat.le_of_ble_eq_true rfl) (Nat.le_of_ble_eq_true rfl) (dq jL_afternoons 6 rfl) rfl (k' := 4) (n' := 24) ⟨rfl, rfl⟩ ⟨Nat.le_of_eq hR.1.symm, Nat.le_of_eq hR.2.symm⟩ (fun v => ?_) (fun b => ?_)
  · have G := G.upW (k' := 4) (n' := 24) hR (by decide) (by decide)
    show Rz Γ 6 (Qm Γ encI 4 24) 4 24 10 [(0, .ref 0), (1, .int x1), (2, .int x2), (3, .int x3), (4, .ref 95)] [.int v, .int 0, .ref 95] _
    refine rz_i2l G (dq jL_afternoons 7 rfl) ?_
    refine rz_lastN G (by decide) sh95 (dq jL_afternoons 8 rfl) ?_
    refine rz_goto G (tgt := 23) rfl (dq jL_afternoons 9 rfl) ?_
    refine rz_iconst G (v := 0) (dq jL_afternoons 16 rfl) rfl ?_
    exact rz_iretH G (by decide) (dq jL_afternoons 17 rfl)
  · have G := G.upW (k' := 4) (n' := 24) hR (by decide) (by decide)
    cases b
    · refine Or.inr ⟨[(0, .ref 0), (1, .int x1), (2, .int x2), (3, .int x3), (4, .ref 95)], 17, ⟨[], ⟨0, 12, 15, 18⟩, [⟨0, 12, 19, 13⟩], 5, htb.trans rfl, (fun z hz => nomatch hz), by decide, by decide, clRL_18, by decide, Or.inl ⟨(dq jL_afternoons 10 rfl), rfl⟩, rfl⟩, ?_⟩
      show Rz Γ 6 (Qm Γ encI 4 24) 4 24 17 [(0, .ref 0), (1, .int x1), (2, .int x2), (3, .int x3), (4, .ref 95)] [] (rt 1)
      refine rz_iconst G (v := 1) (dq jL_afternoons 11 rfl) rfl ?_
      exact rz_iretH G (by decide) (dq jL_afternoons 12 rfl)
    · refine Or.inr ⟨[(0, .ref 0), (1, .int x1), (2, .int x2), (3, .int x3), (4, .ref 95)], 21, ⟨[⟨0, 12, 15, 18⟩], ⟨0, 12, 19, 13⟩, [], 5, htb.trans rfl, (fun z hz => by cases List.mem_singleton.mp hz; exact Or.inr ⟨by decide, _, clRL_18, G.2.2.2.2.2.2.2.1.2.2.2.2.2.2.2⟩), by decide, by decide, clRL_13, by decide, Or.inl ⟨(dq jL_afternoons 13 rfl), rfl⟩, rfl⟩, ?_⟩
      show Rz Γ 6 (Qm Γ encI 4 24) 4 24 21 [(0, .ref 0), (1, .int x1), (2, .int x2), (3, .int x3), (4, .ref 95)] [] (rt 2)
      refine rz_iconst G (v := 2) (dq jL_afternoons 14 rfl) rfl ?_
      exact rz_iretH G (by decide) (dq jL_afternoons 15 rfl)
def f_L_safe (x1 : Int32) (x2 : Int32) (x3 : Int32) : Sg → Option (Int32 × Sg) := clH (f_X10_safe x1 x2 x3) (fun v => pL 95 (0 : Int32).toNatClampNeg v (rt 0)) (fun b => cond b (rt 1) (fun _ => none))
theorem c_L_safe (l : Launch) (hlt : l.stackTraces = false) (x1 : Int32) (x2 : Int32) (x3 : Int32) : CtW l yL_safe cL_safe 6 (some .int) [(0, 11, 14, 13)] 10 4 24 encI [.ref 0, .int x1, .int x2, .int x3, .ref 95] (f_L_safe x1 x2 x3) := by
  refine ctW_of (own := RL) (by decide) rfl (Nat.le_of_ble_eq_true rfl) (fun Γ hl0 G htb hR => ?_)
  subst hl0
  show Rz Γ 6 (Qm Γ encI 4 24) 0 0 0 [(0, .ref 0), (1, .int x1), (2, .int x2), (3, .int x3), (4, .ref 95)] [] _
  unfold f_L_safe
  refine rz_aload G 4 rfl (dq jL_safe 0 rfl) ?_
  refine rz_iconst G (v := 0) (dq jL_safe 1 rfl) rfl ?_
  refine rz_aload_n G 0 rfl rfl (dq jL_safe 2 rfl) ?_
  refine rz_iload_n G 1 rfl rfl (dq jL_safe 3 rfl) ?_
  refine rz_iload_n G 2 rfl rfl (dq jL_safe 4 rfl) ?_
  refine rz_iload_n G 3 rfl rfl (dq jL_safe 5 rfl) ?_
  refine rz_callH (st := [.int 0, .ref 95]) (As := [.int x1, .int x2, .int x3]) G (c_X10_safe (cLn Γ) hlt x1 x2 x3) lkL_83 sh0 rfl rfl rfl (Nat.le_of_ble_eq_true rfl) (Nat.le_of_ble_eq_true rfl) (dq jL_safe 6 rfl) rfl (k' := 4) (n' := 24) ⟨rfl, rfl⟩ ⟨Nat.le_of_eq hR.1.symm, Nat.le_of_eq hR.2.symm⟩ (fun v => ?_) (fun b => ?_)
  · have G := G.upW (k' := 4) (n' := 24) hR (by decide) (by decide)
    show Rz Γ 6 (Qm Γ encI 4 24) 4 24 10 [(0, .ref 0), (1, .int x1), (2, .int x2), (3, .int x3), (4, .ref 95)] [.long v, .int 0, .ref 95] _
    refine rz_lastN G (by decide) sh95 (dq jL_safe 7 rfl) ?_
    refine rz_goto G (tgt := 18) rfl (dq jL_safe 8 rfl) ?_
    refine rz_iconst G (v := 0) (dq jL_safe 12 rfl) rfl ?_
    exact rz_iretH G (by decide) (dq jL_safe 13 rfl)
  · have G := G.upW (k' := 4) (n' := 24) hR (by decide) (by decide)
    cases b
    · exact Or.inl (fun _ => rfl)
    · refine Or.inr ⟨[(0, .ref 0), (1, .int x1), (2, .int x2), (3, .int x3), (4, .ref 95)], 16, ⟨[], ⟨0, 11, 14, 13⟩, [], 5, htb.trans rfl, (fun z hz => nomatch hz), by decide, by decide, clRL_13, by decide, Or.inl ⟨(dq jL_safe 9 rfl), rfl⟩, rfl⟩, ?_⟩
      show Rz Γ 6 (Qm Γ encI 4 24) 4 24 16 [(0, .ref 0), (1, .int x1), (2, .int x2), (3, .int x3), (4, .ref 95)] [] (rt 1)
      refine rz_iconst G (v := 1) (dq jL_safe 10 rfl) rfl ?_
      exact rz_iretH G (by decide) (dq jL_safe 11 rfl)
def f_L_stop (x1 : Int32) : Sg → Option (Int32 × Sg) := clH (f_X10_stop x1) (fun v => pL 95 (0 : Int32).toNatClampNeg v.toInt64 (rt 0)) (fun b => cond b (fun _ => none) (rt 1))
theorem c_L_stop (l : Launch) (hlt : l.stackTraces = false) (x1 : Int32) : CtW l yL_stop cL_stop 4 (some .int) [(0, 9, 12, 18)] 10 4 24 encI [.ref 0, .int x1, .ref 95] (f_L_stop x1) := by
  refine ctW_of (own := RL) (by decide) rfl (Nat.le_of_ble_eq_true rfl) (fun Γ hl0 G htb hR => ?_)
  subst hl0
  show Rz Γ 4 (Qm Γ encI 4 24) 0 0 0 [(0, .ref 0), (1, .int x1), (2, .ref 95)] [] _
  unfold f_L_stop
  refine rz_aload_n G 2 rfl rfl (dq jL_stop 0 rfl) ?_
  refine rz_iconst G (v := 0) (dq jL_stop 1 rfl) rfl ?_
  refine rz_aload_n G 0 rfl rfl (dq jL_stop 2 rfl) ?_
  refine rz_iload_n G 1 rfl rfl (dq jL_stop 3 rfl) ?_
  refine rz_callH (st := [.int 0, .ref 95]) (As := [.int x1]) G (c_X10_stop (cLn Γ) hlt x1) lkL_87 sh0 rfl rfl rfl (Nat.le_of_ble_eq_true rfl) (Nat.le_of_ble_eq_true rfl) (dq jL_stop 4 rfl) rfl (k' := 4) (n' := 24) ⟨rfl, rfl⟩ ⟨Nat.le_of_eq hR.1.symm, Nat.le_of_eq hR.2.symm⟩ (fun v => ?_) (fun b => ?_)
  · have G := G.upW (k' := 4) (n' := 24) hR (by decide) (by decide)
    show Rz Γ 4 (Qm Γ encI 4 24) 4 24 7 [(0, .ref 0), (1, .int x1), (2, .ref 95)] [.int v, .int 0, .ref 95] _
    refine rz_i2l G (dq jL_stop 5 rfl) ?_
    refine rz_lastN G (by decide) sh95 (dq jL_stop 6 rfl) ?_
    refine rz_goto G (tgt := 15) rfl (dq jL_stop 7 rfl) ?_
    refine rz_iconst G (v := 0) (dq jL_stop 11 rfl) rfl ?_
    exact rz_iretH G (by decide) (dq jL_stop 12 rfl)
  · have G := G.upW (k' := 4) (n' := 24) hR (by decide) (by decide)
    cases b
    · refine Or.inr ⟨[(0, .ref 0), (1, .int x1), (2, .ref 95)], 13, ⟨[], ⟨0, 9, 12, 18⟩, [], 3, htb.trans rfl, (fun z hz => nomatch hz), by decide, by decide, clRL_18, by decide, Or.inr ⟨3, rfl, (dq jL_stop 8 rfl), rfl⟩, rfl⟩, ?_⟩
      show Rz Γ 4 (Qm Γ encI 4 24) 4 24 13 [(0, .ref 0), (1, .int x1), (2, .ref 95)] [] (rt 1)
      refine rz_iconst G (v := 1) (dq jL_stop 9 rfl) rfl ?_
      exact rz_iretH G (by decide) (dq jL_stop 10 rfl)
    · exact Or.inl (fun _ => rfl)
def f_L_over (x1 : Int32) (x2 : Int32) (x3 : Int32) : Sg → Option (Int32 × Sg) := clH (f_X10_over x1 x2 x3) (fun v => pL 95 (0 : Int32).toNatClampNeg v.toInt64 (rt 0)) (fun b => cond b (rt 2) (rt 1))
theorem c_L_over (l : Launch) (hlt : l.stackTraces = false) (x1 : Int32) (x2 : Int32) (x3 : Int32) : CtW l yL_over cL_over 6 (some .int) [(0, 12, 15, 18), (0, 12, 19, 13)] 10 4 24 encI [.ref 0, .int x1, .int x2, .int x3, .ref 95] (f_L_over x1 x2 x3) := by
  refine ctW_of (own := RL) (by decide) rfl (Nat.le_of_ble_eq_true rfl) (fun Γ hl0 G htb hR => ?_)
  subst hl0
  show Rz Γ 6 (Qm Γ encI 4 24) 0 0 0 [(0, .ref 0), (1, .int x1), (2, .int x2), (3, .int x3), (4, .ref 95)] [] _
  unfold f_L_over
  refine rz_aload G 4 rfl (dq jL_over 0 rfl) ?_
  refine rz_iconst G (v := 0) (dq jL_over 1 rfl) rfl ?_
  refine rz_aload_n G 0 rfl rfl (dq jL_over 2 rfl) ?_
  refine rz_iload_n G 1 rfl rfl (dq jL_over 3 rfl) ?_
  refine rz_iload_n G 2 rfl rfl (dq jL_over 4 rfl) ?_
  refine rz_iload_n G 3 rfl rfl (dq jL_over 5 rfl) ?_
  refine rz_callH (st := [.int 0, .ref 95]) (As := [.int x1, .int x2, .int x3]) G (c_X10_over (cLn Γ) hlt x1 x2 x3) lkL_90 sh0 rfl rfl rfl (Nat.le_of_ble_eq_true rfl) (Nat.le_of_ble_eq_true rfl) (dq jL_over 6 rfl) rfl (k' := 4) (n' := 24) ⟨rfl, rfl⟩ ⟨Nat.le_of_eq hR.1.symm, Nat.le_of_eq hR.2.symm⟩ (fun v => ?_) (fun b => ?_)
  · have G := G.upW (k' := 4) (n' := 24) hR (by decide) (by decide)
    show Rz Γ 6 (Qm Γ encI 4 24) 4 24 10 [(0, .ref 0), (1, .int x1), (2, .int x2), (3, .int x3), (4, .ref 95)] [.int v, .int 0, .ref 95] _
    refine rz_i2l G (dq jL_over 7 rfl) ?_
    refine rz_lastN G (by decide) sh95 (dq jL_over 8 rfl) ?_
    refine rz_goto G (tgt := 23) rfl (dq jL_over 9 rfl) ?_
    refine rz_iconst G (v := 0) (dq jL_over 16 rfl) rfl ?_
    exact rz_iretH G (by decide) (dq jL_over 17 rfl)
  · have G := G.upW (k' := 4) (n' := 24) hR (by decide) (by decide)
    cases b
    · refine Or.inr ⟨[(0, .ref 0), (1, .int x1), (2, .int x2), (3, .int x3), (4, .ref 95)], 17, ⟨[], ⟨0, 12, 15, 18⟩, [⟨0, 12, 19, 13⟩], 5, htb.trans rfl, (fun z hz => nomatch hz), by decide, by decide, clRL_18, by decide, Or.inl ⟨(dq jL_over 10 rfl), rfl⟩, rfl⟩, ?_⟩
      show Rz Γ 6 (Qm Γ encI 4 24) 4 24 17 [(0, .ref 0), (1, .int x1), (2, .int x2), (3, .int x3), (4, .ref 95)] [] (rt 1)
      refine rz_iconst G (v := 1) (dq jL_over 11 rfl) rfl ?_
      exact rz_iretH G (by decide) (dq jL_over 12 rfl)
    · refine Or.inr ⟨[(0, .ref 0), (1, .int x1), (2, .int x2), (3, .int x3), (4, .ref 95)], 21, ⟨[⟨0, 12, 15, 18⟩], ⟨0, 12, 19, 13⟩, [], 5, htb.trans rfl, (fun z hz => by cases List.mem_singleton.mp hz; exact Or.inr ⟨by decide, _, clRL_18, G.2.2.2.2.2.2.2.1.2.2.2.2.2.2.2⟩), by decide, by decide, clRL_13, by decide, Or.inl ⟨(dq jL_over 13 rfl), rfl⟩, rfl⟩, ?_⟩
      show Rz Γ 6 (Qm Γ encI 4 24) 4 24 21 [(0, .ref 0), (1, .int x1), (2, .int x2), (3, .int x3), (4, .ref 95)] [] (rt 2)
      refine rz_iconst G (v := 2) (dq jL_over 14 rfl) rfl ?_
      exact rz_iretH G (by decide) (dq jL_over 15 rfl)
