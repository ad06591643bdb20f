-- ===== the law's loop =====
theorem and63 (y : Int32) : ∃ c, c < 64 ∧ y &&& 63 = nI c := by
  refine ⟨y.toBitVec.toNat % 64, Nat.mod_lt _ (by omega), ?_⟩
  apply Int32.toBitVec_inj.mp
  apply BitVec.eq_of_toNat_eq
  rw [Int32.toBitVec_and, BitVec.toNat_and]
  show y.toBitVec.toNat &&& 63 = _
  have h := Nat.and_two_pow_sub_one_eq_mod y.toBitVec.toNat 6
  rw [show 2 ^ 6 - 1 = 63 by decide, show 2 ^ 6 = 64 by decide] at h
  rw [h]
  show _ = (BitVec.ofNat 32 (y.toBitVec.toNat % 64)).toNat
  rw [BitVec.toNat_ofNat]
  omega
theorem head_more {L i : Nat} (hL : L ≤ 3584) (hi : i ≤ 4000) (h : ¬ nI L - 7 < nI i) : i + 7 ≤ L := by
  have e1 := nI_toInt (show L < 2 ^ 31 by omega)
  have e2 := nI_toInt (show i < 2 ^ 31 by omega)
  have e7 : (7 : Int32).toInt = 7 := by decide
  have e3 : (nI L - 7).toInt = (L : Int) - 7 := by
    rw [toInt_sub_s (by rw [e1, e7]; omega), e1, e7]
  have : ¬ (nI L - 7).toInt < (nI i).toInt := fun q => h (Int32.lt_iff_toInt_lt.mpr q)
  rw [e3, e2] at this
  omega
set_option maxHeartbeats 4000000 in
theorem one_case {Γ : Cx} {Q : Unit → State → Prop} {k n i L c : Nat} {xs : Nat → Int32} (G : GG Γ RL cL_law 8 (some .boolean) 2000 k n) (X : SX Γ L xs) (hlt : (cLn Γ).stackTraces = false) (hR : k + 4 ≤ (cR Γ).cells ∧ n + 24 ≤ (cR Γ).slots) (hi : i + 7 ≤ L) (hL : L ≤ 3584) (hc : c < 64) (K : Rz Γ 8 Q (k + 4) (n + 24) 2219 (lvL i) [] dnI) : Rz Γ 8 Q k n 40 (lvL i) [.int (nI c)] dnI := by
  have ti : (nI c).toInt = (c : Int) := nI_toInt (by omega)
  by_cases h : c ≤ 36
  · rcases (by omega : c = 0 ∨ c = 1 ∨ c = 2 ∨ c = 3 ∨ c = 4 ∨ c = 5 ∨ c = 6 ∨ c = 7 ∨ c = 8 ∨ c = 9 ∨ c = 10 ∨ c = 11 ∨ c = 12 ∨ c = 13 ∨ c = 14 ∨ c = 15 ∨ c = 16 ∨ c = 17 ∨ c = 18 ∨ c = 19 ∨ c = 20 ∨ c = 21 ∨ c = 22 ∨ c = 23 ∨ c = 24 ∨ c = 25 ∨ c = 26 ∨ c = 27 ∨ c = 28 ∨ c = 29 ∨ c = 30 ∨ c = 31 ∨ c = 32 ∨ c = 33 ∨ c = 34 ∨ c = 35 ∨ c = 36) with rfl | rfl | rfl | rfl | rfl | rfl | rfl | rfl | rfl | rfl | rfl | rfl | rfl | rfl | rfl | rfl | rfl | rfl | rfl | rfl | rfl | rfl | rfl | rfl | rfl | rfl | rfl | rfl | rfl | rfl | rfl | rfl | rfl | rfl | rfl | rfl | rfl
    · refine rz_tableIn G 0 (off := 164) (tgt := 204) swL_law_40 (by rw [ti]; rfl) (by decide) rfl rfl ?_
      exact rz_sub (fun σ r h => by cases r; exact dA_ok (ag_feed _ _ _ _ _) (dnI_inv h)) (cs_feed G X hlt hR hi hL K)
    · refine rz_tableIn G 1 (off := 237) (tgt := 277) swL_law_40 (by rw [ti]; rfl) (by decide) rfl rfl ?_
      exact rz_sub (fun σ r h => by cases r; rw [hx_garden]; exact dB_ok cI0 (ag_garden _) (dnI_inv h)) (cs_garden G X hlt hR hi hL K)
    · refine rz_tableIn G 2 (off := 293) (tgt := 333) swL_law_40 (by rw [ti]; rfl) (by decide) rfl rfl ?_
      exact rz_sub (fun σ r h => by cases r; exact dA_ok (ag_fault) (dnI_inv h)) (cs_fault G X hlt hR hi hL K)
    · refine rz_tableIn G 3 (off := 306) (tgt := 346) swL_law_40 (by rw [ti]; rfl) (by decide) rfl rfl ?_
      exact rz_sub (fun σ r h => by cases r; rw [hx_count]; exact dB_ok cN0 (ag_count _) (dnI_inv h)) (cs_count G X hlt hR hi hL K)
    · refine rz_tableIn G 4 (off := 362) (tgt := 402) swL_law_40 (by rw [ti]; rfl) (by decide) rfl rfl ?_
      exact rz_sub (fun σ r h => by cases r; rw [hx_jumper]; exact dB_ok cN0 (ag_jumper _ _) (dnI_inv h)) (cs_jumper G X hlt hR hi hL K)
    · refine rz_tableIn G 5 (off := 430) (tgt := 470) swL_law_40 (by rw [ti]; rfl) (by decide) rfl rfl ?_
      exact rz_sub (fun σ r h => by cases r; rw [hx_become]; exact dB_ok cN0 (ag_become _ _ _) (dnI_inv h)) (cs_become G X hlt hR hi hL K)
    · refine rz_tableIn G 6 (off := 510) (tgt := 550) swL_law_40 (by rw [ti]; rfl) (by decide) rfl rfl ?_
      exact rz_sub (fun σ r h => by cases r; exact dA_ok (ag_obey _) (dnI_inv h)) (cs_obey G X hlt hR hi hL K)
    · refine rz_tableIn G 7 (off := 535) (tgt := 575) swL_law_40 (by rw [ti]; rfl) (by decide) rfl rfl ?_
      exact rz_sub (fun σ r h => by cases r; exact dA_ok (ag_last _) (dnI_inv h)) (cs_last G X hlt hR hi hL K)
    · refine rz_tableIn G 8 (off := 560) (tgt := 600) swL_law_40 (by rw [ti]; rfl) (by decide) rfl rfl ?_
      exact rz_sub (fun σ r h => by cases r; exact dA_ok (ag_undo) (dnI_inv h)) (cs_undo G X hlt hR hi hL K)
    · refine rz_tableIn G 9 (off := 573) (tgt := 613) swL_law_40 (by rw [ti]; rfl) (by decide) rfl rfl ?_
      exact rz_sub (fun σ r h => by cases r; rw [hx_ran]; exact dB_ok cN0 (ag_ran _ _) (dnI_inv h)) (cs_ran G X hlt hR hi hL K)
    · refine rz_tableIn G 10 (off := 641) (tgt := 681) swL_law_40 (by rw [ti]; rfl) (by decide) rfl rfl ?_
      exact rz_sub (fun σ r h => by cases r; rw [hx_lands]; exact dB_ok cN0 (ag_lands _ _) (dnI_inv h)) (cs_lands G X hlt hR hi hL K)
    · refine rz_tableIn G 11 (off := 709) (tgt := 749) swL_law_40 (by rw [ti]; rfl) (by decide) rfl rfl ?_
      exact rz_sub (fun σ r h => by cases r; rw [hx_film]; exact dB_ok cN0 (ag_film _ _) (dnI_inv h)) (cs_film G X hlt hR hi hL K)
    · refine rz_tableIn G 12 (off := 777) (tgt := 817) swL_law_40 (by rw [ti]; rfl) (by decide) rfl rfl ?_
      exact rz_sub (fun σ r h => by cases r; rw [hx_mat]; exact dB_ok cN0 (ag_mat _) (dnI_inv h)) (cs_mat G X hlt hR hi hL K)
    · refine rz_tableIn G 13 (off := 833) (tgt := 873) swL_law_40 (by rw [ti]; rfl) (by decide) rfl rfl ?_
      exact rz_sub (fun σ r h => by cases r; rw [hx_landing]; exact dB_ok cN0 (ag_landing _ _) (dnI_inv h)) (cs_landing G X hlt hR hi hL K)
    · refine rz_tableIn G 14 (off := 901) (tgt := 941) swL_law_40 (by rw [ti]; rfl) (by decide) rfl rfl ?_
      exact rz_sub (fun σ r h => by cases r; rw [hx_moment]; exact dB_ok cN0 (ag_moment _ _) (dnI_inv h)) (cs_moment G X hlt hR hi hL K)
    · refine rz_tableIn G 15 (off := 969) (tgt := 1009) swL_law_40 (by rw [ti]; rfl) (by decide) rfl rfl ?_
      exact rz_sub (fun σ r h => by cases r; rw [hx_step]; exact dB_ok cB0 (ag_step _ _ _) (dnI_inv h)) (cs_step G X hlt hR hi hL K)
    · refine rz_tableIn G 16 (off := 1049) (tgt := 1089) swL_law_40 (by rw [ti]; rfl) (by decide) rfl rfl ?_
      exact rz_sub (fun σ r h => by cases r; rw [hx_danger]; exact dB_ok cN0 (ag_danger _) (dnI_inv h)) (cs_danger G X hlt hR hi hL K)
    · refine rz_tableIn G 17 (off := 1105) (tgt := 1145) swL_law_40 (by rw [ti]; rfl) (by decide) rfl rfl ?_
      exact rz_sub (fun σ r h => by cases r; exact dA_ok (ag_pairs) (dnI_inv h)) (cs_pairs G X hlt hR hi hL K)
    · refine rz_tableIn G 18 (off := 1118) (tgt := 1158) swL_law_40 (by rw [ti]; rfl) (by decide) rfl rfl ?_
      exact rz_sub (fun σ r h => by cases r; exact dA_ok (ag_apart) (dnI_inv h)) (cs_apart G X hlt hR hi hL K)
    · refine rz_tableIn G 19 (off := 1131) (tgt := 1171) swL_law_40 (by rw [ti]; rfl) (by decide) rfl rfl ?_
      exact rz_sub (fun σ r h => by cases r; rw [hx_without]; exact dB_ok cB0 (ag_without _ _) (dnI_inv h)) (cs_without G X hlt hR hi hL K)
    · refine rz_tableIn G 20 (off := 1199) (tgt := 1239) swL_law_40 (by rw [ti]; rfl) (by decide) rfl rfl ?_
      exact rz_sub (fun σ r h => by cases r; rw [hx_falls]; exact dB'_ok cB0 (ag_falls _ _ _ _ _) (dnI_inv h)) (cs_falls G X hlt hR hi hL K)
    · refine rz_tableIn G 21 (off := 1302) (tgt := 1342) swL_law_40 (by rw [ti]; rfl) (by decide) rfl rfl ?_
      exact rz_sub (fun σ r h => by cases r; rw [hx_wanders]; exact dB'_ok cB0 (ag_wanders _ _ _ _ _ _) (dnI_inv h)) (cs_wanders G X hlt hR hi hL K)
    · refine rz_tableIn G 22 (off := 1419) (tgt := 1459) swL_law_40 (by rw [ti]; rfl) (by decide) rfl rfl ?_
      exact rz_sub (fun σ r h => by cases r; rw [hx_correct]; exact dB_ok cI0 (ag_correct _ _ _) (dnI_inv h)) (cs_correct G X hlt hR hi hL K)
    · refine rz_tableIn G 23 (off := 1499) (tgt := 1539) swL_law_40 (by rw [ti]; rfl) (by decide) rfl rfl ?_
      exact rz_sub (fun σ r h => by cases r; exact dA_ok (ag_find _) (dnI_inv h)) (cs_find G X hlt hR hi hL K)
    · refine rz_tableIn G 24 (off := 1524) (tgt := 1564) swL_law_40 (by rw [ti]; rfl) (by decide) rfl rfl ?_
      exact rz_sub (fun σ r h => by cases r; exact dA_ok (ag_forget) (dnI_inv h)) (cs_forget G X hlt hR hi hL K)
    · refine rz_tableIn G 25 (off := 1537) (tgt := 1577) swL_law_40 (by rw [ti]; rfl) (by decide) rfl rfl ?_
      exact rz_sub (fun σ r h => by cases r; rw [hx_broken]; exact dB_ok cI0 (ag_broken _) (dnI_inv h)) (cs_broken G X hlt hR hi hL K)
    · refine rz_tableIn G 26 (off := 1593) (tgt := 1633) swL_law_40 (by rw [ti]; rfl) (by decide) rfl rfl ?_
      exact rz_sub (fun σ r h => by cases r; rw [hx_second]; exact dB_ok cB0 (ag_second _ _ _ _ _ _) (dnI_inv h)) (cs_second G X hlt hR hi hL K)
    · refine rz_tableIn G 27 (off := 1711) (tgt := 1751) swL_law_40 (by rw [ti]; rfl) (by decide) rfl rfl ?_
      exact rz_sub (fun σ r h => by cases r; rw [hx_compare]; exact dB_ok cN0 (ag_compare _ _) (dnI_inv h)) (cs_compare G X hlt hR hi hL K)
    · refine rz_tableIn G 28 (off := 1779) (tgt := 1819) swL_law_40 (by rw [ti]; rfl) (by decide) rfl rfl ?_
      exact rz_sub (fun σ r h => by cases r; exact dA_ok (ag_best) (dnI_inv h)) (cs_best G X hlt hR hi hL K)
    · refine rz_tableIn G 29 (off := 1792) (tgt := 1832) swL_law_40 (by rw [ti]; rfl) (by decide) rfl rfl ?_
      exact rz_sub (fun σ r h => by cases r; rw [hx_egg]; exact dB'_ok cN0 (ag_egg _) (dnI_inv h)) (cs_egg G X hlt hR hi hL K)
    · refine rz_tableIn G 30 (off := 1847) (tgt := 1887) swL_law_40 (by rw [ti]; rfl) (by decide) rfl rfl ?_
      exact rz_sub (fun σ r h => by cases r; rw [hx_afternoons]; exact dB_ok cB0 (ag_afternoons _ _ _) (dnI_inv h)) (cs_afternoons G X hlt hR hi hL K)
    · refine rz_tableIn G 31 (off := 1927) (tgt := 1967) swL_law_40 (by rw [ti]; rfl) (by decide) rfl rfl ?_
      exact rz_sub (fun σ r h => by cases r; rw [hx_safe]; exact dB'_ok cI0 (ag_safe _ _ _) (dnI_inv h)) (cs_safe G X hlt hR hi hL K)
    · refine rz_tableIn G 32 (off := 2006) (tgt := 2046) swL_law_40 (by rw [ti]; rfl) (by decide) rfl rfl ?_
      exact rz_sub (fun σ r h => by cases r; exact dA_ok (ag_atOnce) (dnI_inv h)) (cs_atOnce G X hlt hR hi hL K)
    · refine rz_tableIn G 33 (off := 2019) (tgt := 2059) swL_law_40 (by rw [ti]; rfl) (by decide) rfl rfl ?_
      exact rz_sub (fun σ r h => by cases r; rw [hx_stop]; exact dB_ok cN0 (ag_stop _) (dnI_inv h)) (cs_stop G X hlt hR hi hL K)
    · refine rz_tableIn G 34 (off := 2075) (tgt := 2115) swL_law_40 (by rw [ti]; rfl) (by decide) rfl rfl ?_
      exact rz_sub (fun σ r h => by cases r; rw [hx_over]; exact dB_ok cB0 (ag_over _ _ _) (dnI_inv h)) (cs_over G X hlt hR hi hL K)
    · refine rz_tableIn G 35 (off := 2155) (tgt := 2195) swL_law_40 (by rw [ti]; rfl) (by decide) rfl rfl ?_
      exact rz_sub (fun σ r h => by cases r; exact dC_ok (ag_image) (dnI_inv h)) (cs_image G X hlt hR hi hL K)
    · refine rz_tableIn G 36 (off := 2166) (tgt := 2206) swL_law_40 (by rw [ti]; rfl) (by decide) rfl rfl ?_
      exact rz_sub (fun σ r h => by cases r; exact dA_ok (ag_restore) (dnI_inv h)) (cs_restore G X hlt hR hi hL K)
  · refine rz_tableOut G (tgt := 2219) swL_law_40 (Or.inr (by rw [ti]; omega)) rfl ?_
    exact rz_wid (by omega) (by omega) K
theorem law_loop {Γ : Cx} {Q : Unit → State → Prop} {L : Nat} {xs : Nat → Int32} (hlt : (cLn Γ).stackTraces = false) (X : SX Γ L xs) (hL : L ≤ 3584) (G0 : ∀ k n, k ≤ (cR Γ).cells → n ≤ (cR Γ).slots → GG Γ RL cL_law 8 (some .boolean) 2000 k n) (KE : ∀ k n i, k ≤ (cR Γ).cells → n ≤ (cR Γ).slots → Rz Γ 8 Q k n 2225 (lvL i) [] dnI) : ∀ (d i k n : Nat), i ≤ 4000 → L ≤ i + d → k + 4 * d ≤ (cR Γ).cells → n + 24 * d ≤ (cR Γ).slots → Rz Γ 8 Q k n 23 (lvL i) [] dnI := by
  intro d
  induction d with
  | zero =>
    intro i k n h1 h2 h3 h4
    have G := G0 k n (by omega) (by omega)
    refine rz_iload G 0 rfl (dq jL_law 13 rfl) ?_
    refine rz_aload_n G 4 rfl rfl (dq jL_law 14 rfl) ?_
    refine rz_sclen G X (dq jL_law 15 rfl) ?_
    refine rz_bipush G (v := 7) (dq jL_law 16 rfl) rfl ?_
    refine rz_isub G (dq jL_law 17 rfl) ?_
    refine rz_sub (d0 := br (nI L - 7 < nI i) dnI dnI) (fun σ r h => by unfold br; split <;> exact h) ?_
    refine rz_icmp_gt G (tgt := 2225) rfl (dq jL_law 18 rfl) (fun _ => KE k n i (by omega) (by omega)) (fun q => ?_)
    have := head_more hL h1 q
    omega
  | succ d ih =>
    intro i k n h1 h2 h3 h4
    have G := G0 k n (by omega) (by omega)
    refine rz_iload G 0 rfl (dq jL_law 13 rfl) ?_
    refine rz_aload_n G 4 rfl rfl (dq jL_law 14 rfl) ?_
    refine rz_sclen G X (dq jL_law 15 rfl) ?_
    refine rz_bipush G (v := 7) (dq jL_law 16 rfl) rfl ?_
    refine rz_isub G (dq jL_law 17 rfl) ?_
    refine rz_sub (d0 := br (nI L - 7 < nI i) dnI dnI) (fun σ r h => by unfold br; split <;> exact h) ?_
    refine rz_icmp_gt G (tgt := 2225) rfl (dq jL_law 18 rfl) (fun _ => KE k n i (by omega) (by omega)) (fun q => ?_)
    have hi := head_more hL h1 q
    refine rz_aload_n G 4 rfl rfl (dq jL_law 19 rfl) ?_
    refine rz_iload G 0 rfl (dq jL_law 20 rfl) ?_
    refine rz_sld G X (vp_nI (show i < L by omega) (by omega)) (dq jL_law 21 rfl) ?_
    rw [nI_clamp (by omega)]
    refine rz_bipush G (v := 63) (dq jL_law 22 rfl) rfl ?_
    refine rz_iand G (dq jL_law 23 rfl) ?_
    obtain ⟨c, hc, ec⟩ := and63 (xs i)
    rw [ec]
    refine one_case G X hlt ⟨by omega, by omega⟩ hi hL hc ?_
    have G2 := G0 (k + 4) (n + 24) (by omega) (by omega)
    refine rz_iinc G2 0 (z := 7) (v := nI (i + 7)) (lv' := lvL (i + 7)) rfl (nI_addR (x := 7) (k := 7) rfl i) (by decide) rfl (dq jL_law_s9 145 rfl) ?_
    refine rz_goto G2 (tgt := 23) rfl (dq jL_law_s9 146 rfl) ?_
    exact ih (i + 7) (k + 4) (n + 24) (by omega) (by omega) (by omega) (by omega)
