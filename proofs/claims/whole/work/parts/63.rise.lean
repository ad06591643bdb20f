-- ===== the rise ends, the others go =====
theorem re_st {g n s L : Nat} {σ τ : Sg} (R : Re g n s L σ τ) : Re g n s L (sI σ 17 6 1) (sI τ 56 65 (-1)) := by
  obtain ⟨hC, hD, hF, hK, hZ, hL, hS, hT⟩ := R
  have hg := gd_17 hC.1.1
  refine ⟨?_, ?_, ?_, ?_, ?_, ?_, ?_, ?_⟩
  · simpa [ReC, sI_gt, sI_2, fl_17, fk_17, hg] using hC
  · simpa [ReD, sI_gt, fl_17] using hD
  · simpa [ReF, sI_gt, fl_17] using hF
  · simpa [ReK, sI_gt, fk_17] using hK
  · simpa [ReZ, sI_gt, fl_17] using hZ
  · simpa [ReL, sI_gt] using hL
  · simpa [ReS, sI_gt] using hS
  · left; simp [sI_gt]
theorem nu_still {g n s e t L : Nat} {c : Nat → Nat} {σ σ' : Sg} (hg : isGd g = true) (hn : n ≤ 4) (N : Nu g n s e t L c σ) (h1 : ∀ a b, ¬ a = 17 → σ'.1 a b = σ.1 a b) (h2 : σ'.1 17 6 = 1) (h3 : σ'.1 17 9 = 0) : Nu g n s e t L c σ' := by
  obtain ⟨hG, hF, hA, ⟨c1, c2, c3, c4⟩, hM⟩ := N
  have ag : ∀ b, σ'.1 g b = σ.1 g b := fun b => h1 _ _ (of_eq_false (gd_17 hg))
  have af : ∀ j b, σ'.1 (fl j) b = σ.1 (fl j) b := fun j b => h1 _ _ (of_eq_false fl_17)
  refine ⟨?_, ?_, ?_, ⟨c1, ?_, ?_, c4⟩, Or.inl ⟨h2, h3⟩⟩
  · simp only [NuG, ag]; exact hG
  · simp only [NuF, af]; exact hF
  · simp only [NuA, af]; exact hA
  · simp only [af]; exact c2
  · simp only [af]; exact c3
theorem riseEnds_eq {g n s L b : Nat} {σ τ : Sg} (R : Re g n s L σ τ) (hb : σ.1 17 7 = nI b) : f_X4_riseEnds σ = some (nI (b + 2 * s), σ) := by
  have hgd := R.1.1.1
  have hg : σ.2.2 17 3 = g := R.1.1.2.1
  have hs0 : σ.1 g 0 = nI s := R.1.1.2.2.2.2.2.2.1
  rw [f_X4_riseEnds, ex_dI, ex_dR, hg, ex_gd hgd, ex_dI, ex_rt, hb, hs0, nI_mulL (x := 2) (k := 2) rfl, nI_add]
/-- the height of the taker -/
def hgt (hd l : Nat) : Nat := if 999 < hd + l then 999 else hd + l
theorem endRise_rel {g n s e t L : Nat} {c : Nat → Nat} {k7 : Int32 → Sg → Option (Unit × Sg)} {σ τ : Sg} (R : Re g n s L σ τ) (N : Nu g n s e t L c σ) (U : Ru g σ τ) (ht : t < 600) : ∃ σ' τ', f_X4_endRise (nI t) σ = some ((), σ') ∧ f_X11_runs_b66 k7 (nI t) τ = f_X11_runs_b206 k7 (nI t) τ' ∧ Re g n s L σ' τ' ∧ Nu g n s e t L c σ' ∧ off gs_mrunF τ τ' ∧ (σ'.1 17 6 = 0 → ∃ b, b ≤ 600 ∧ σ'.1 17 7 = nI b ∧ t + 1 ≤ b + 2 * s) := by
  have hn4 : n ≤ 4 := R.1.1.2.2.1
  have hgd := R.1.1.1
  have hg : σ.2.2 17 3 = g := R.1.1.2.1
  have hss : 1 ≤ s ∧ s ≤ 9 := ⟨R.1.1.2.2.2.2.1, R.1.1.2.2.2.2.2.1⟩
  have hs0 : σ.1 g 0 = nI s := R.1.1.2.2.2.2.2.2.1
  have hs1 : τ.1 56 1 = nI s := R.1.1.2.2.2.2.2.2.2
  obtain ⟨s1, s2, s3, s4, s5, s6, s7⟩ := id R.2.2.2.2.2.2.1
  rcases R.2.2.2.2.2.2.2 with ⟨q1, q2⟩ | ⟨q1, b1, i1, hb1, hi1, q2, q3, q4, q5⟩
  · refine ⟨σ, τ, ?_, ?_, R, N, off_rfl, fun z => by rw [q1] at z; exact absurd z (by decide)⟩
    · rw [f_X4_endRise, ex_dI, ex_bf (by rw [q1]; decide), ex_rt]
    · rw [f_X11_runs_b66, ex_dI, ex_bt q2]
  · rcases N.2.2.2.2 with ⟨z, -⟩ | ⟨-, b, i, u, S, m1, m2, m3, m4, m5, m6, m7, m8, m9, m10, m11, m12⟩
    · rw [q1] at z; exact absurd z (by decide)
    · have eb : b1 = b := (nI_eq (by omega) (by omega)).mp (q2.symm.trans m1)
      have ei : i1 = i := fl_eq.mp (q4.symm.trans m5)
      subst eb
      subst ei
      have hne : ¬ τ.1 56 65 = -1 := by rw [q3]; exact neg1_ne hb1
      have hi4 : i1 < 4 := by omega
      have eM : τ.1 56 65 + 2 * τ.1 56 1 = nI (b1 + 2 * s) := by rw [q3, hs1, nI_mulL (x := 2) (k := 2) rfl, nI_add]
      by_cases hr : b1 + 2 * s ≤ t
      · -- it ends
        have htb : t = b1 + 2 * s := by omega
        obtain ⟨⟨w, w1, w2, w3⟩, ⟨l, l1, l2⟩, -⟩ := N.2.1 i1 hi1
        obtain ⟨-, -, ⟨kp, kp1, kp2⟩, -⟩ := N.1
        have hk3 : τ.1 56 3 = nI kp := R.1.2.1.2.1.trans kp2
        have hon : on4 σ ≤ 4 := by
          unfold on4 on1
          split <;> split <;> split <;> split <;> omega
        have hS : S ≤ 395604 := by omega
        have hSk : S * kp ≤ 39560400 := Nat.le_trans (Nat.mul_le_mul hS kp1) (Nat.le_of_ble_eq_true rfl)
        have hd0 : S * kp / 100 ≤ 39560400 := Nat.le_trans (Nat.div_le_self _ _) hSk
        have hd1 : S * kp / 100 / w ≤ 39560400 := Nat.le_trans (Nat.div_le_self _ _) hd0
        have hadC : σ.1 17 9 * σ.1 g 2 / 100 / σ.1 (fl i1) 1 = nI (S * kp / 100 / w) := by
          rw [m11, kp2, w3, nI_mul, show nI (S * kp) / 100 = nI (S * kp / 100) from nI_div (b := 100) (by omega) (by omega) (by omega), nI_div (by omega) (by omega) (by omega)]
        generalize hhd : S * kp / 100 / w = hd at hadC hd1
        have hH : hgt hd l ≤ 999 := by unfold hgt; split <;> omega
        have eH : (if (999 : Int32) < nI hd + nI l then 999 else nI hd + nI l) = nI (hgt hd l) := by
          rw [nI_add, hgt]
          by_cases z : 999 < hd + l
          · rw [if_pos z, if_pos ((nI_ltL (x := 999) (k := 999) rfl (by omega) (by omega)).mpr z)]; rfl
          · rw [if_neg z, if_neg (fun y => z ((nI_ltL (x := 999) (k := 999) rfl (by omega) (by omega)).mp y))]
        -- the state when it is asked whether he may go
        have R2 := re_s13 (re_st (re_s9 R 0)) (σ.1 17 13 + 1)
        have eT : sI (sI (sI τ 56 71 (σ.1 17 13 + 1)) 56 66 0) 56 65 (-1) = sI (sI (sI τ 56 66 0) 56 65 (-1)) 56 71 (σ.1 17 13 + 1) := by
          rw [sI_comm (σ := τ) (a := 56) (b := 71) (by omega), sI_comm (σ := sI τ 56 66 0) (a := 56) (b := 71) (by omega)]
        rw [← eT] at R2
        generalize hσ2 : sI (sI (sI σ 17 9 0) 17 6 1) 17 13 (σ.1 17 13 + 1) = σ2 at R2
        generalize hτ2 : sI (sI (sI τ 56 71 (σ.1 17 13 + 1)) 56 66 0) 56 65 (-1) = τ2 at R2
        have o1 : off gs_play σ σ2 := by rw [← hσ2]; exact off_trans (off_sI rfl) (off_trans (off_sI rfl) (off_sI rfl))
        have o2 : off gs_mrunF τ τ2 := by rw [← hτ2]; exact off_trans (off_sI rfl) (off_trans (off_sI rfl) (off_sI rfl))
        have r2 : ∀ a b, ¬ a = 17 → σ2.1 a b = σ.1 a b := fun a b z => by rw [← hσ2, sI_ne z, sI_ne z, sI_ne z]
        have rf : ∀ j b, σ2.1 (fl j) b = σ.1 (fl j) b := fun j b => r2 _ _ (of_eq_false fl_17)
        have st2 : σ2.1 17 6 = 1 := by rw [← hσ2, sI_nf (by omega), sI_eq]
        have N2 : Nu g n s e t L c σ2 := nu_still hgd hn4 N r2 st2 (by rw [← hσ2, sI_nf (by omega), sI_nf (by omega), sI_eq])
        have U2 := U.off hgd o1 o2
        obtain ⟨v, σ3, τ3, v1, v2, v3, v4, v5⟩ := mayGo_rel (h := nI (hgt hd l)) (t := nI t) R2 U2 hi1
        have R3 := R2.om v4 v5
        have N3 := N2.om hgd hn4 v4
        obtain ⟨x17, xg, x28, x29, xfl, xfk⟩ := Om.facts hgd v4
        have o3 : off gs_mrunF τ τ3 := off_trans o2 (fr_X11_mayGo _ _ _ _ _ v2)
        have t67 : ∀ υ, off gs_mrunF τ υ → True := fun _ _ => trivial
        have k67 : τ2.1 56 67 = nI i1 := by rw [← hτ2, sI_nf (by omega), sI_nf (by omega), sI_nf (by omega)]; exact q5
        have k67' : τ3.1 56 67 = nI i1 := by rw [v5.2 _ _ (by omega)]; exact k67
        -- class up to there
        have eC : f_X4_endRise (nI t) σ = (br (v = 0) (rt ()) (dI 17 12 (fun v6 => dI (fl i1) 1 (fun v7 => pI 17 12 (v6 + (nI hd * v7)) (cl (f_X4_send (fl i1) (nI (hgt hd l)) (nI t)) (fun _ => rt ())))))) σ3 := by
          rw [f_X4_endRise, ex_dI, ex_bt q1, ex_cl (riseEnds_eq R q2), ex_bt ((nI_leI (by omega) (by omega)).mpr hr), ex_dR, q4, ex_gd (isFl_l hi4), ex_dI, ex_bf (by rw [w3]; exact nI_nle (by omega) (by omega)), ex_dI, ex_dR, hg, ex_gd hgd, ex_dI, ex_dI, ex_gd (by rw [w3]; exact nI_ne0 (by omega) (by omega)), hadC, f_X4_endRise_b52, ex_gd (isFl_l hi4), ex_dI, l2, ex_lt, eH, ex_pI, ex_pI, ex_dI, ex_pI, sI_nf (show ¬ 13 = 6 by omega), sI_nf (show ¬ 13 = 9 by omega), hσ2, ex_cl v1]
        have e142 : f_X11_runs_b142 k7 (nI t) (nI hd) (nI (hgt hd l)) τ = (br (v = 0) (f_X11_runs_b206 k7 (nI t)) (dI 56 70 (fun v5 => dI 56 67 (fun v6 => cl (f_X11_weight v6) (fun r7 => pI 56 70 (v5 + (nI hd * r7)) (dI 56 67 (fun v8 => cl (f_X11_goesUp v8 (nI (hgt hd l)) (nI t)) (fun _ => f_X11_runs_b206 k7 (nI t))))))))) τ3 := by
          rw [f_X11_runs_b142, ex_dI, s5, ex_pI, ex_pI, ex_pI, hτ2, ex_dI, k67, ex_cl v2]
        have eM2 : f_X11_runs_b66 k7 (nI t) τ = f_X11_runs_b142 k7 (nI t) (nI hd) (nI (hgt hd l)) τ := by
          have hl6 : τ.1 58 (6 * i1 + 1) = nI l := (R.1.2.2.2 i1 hi1).2.1.trans l2
          have hadM : τ.1 56 66 * τ.1 56 3 / 100 / σ.1 (fl i1) 1 = nI hd := by rw [s1, hk3, ← kp2]; exact hadC
          rw [f_X11_runs_b66, ex_dI, ex_bf hne, ex_dI, ex_dI, eM, ex_bt (by rw [htb]), ex_dI, ex_dI, ex_dI, q5, ex_cl (weight_eq R hi1), ex_gd (by rw [w3]; exact nI_ne0 (by omega) (by omega)), ex_lt, hadM, ex_dI, q5, nI_l6 (x := 1) (k := 1) rfl, ex_gd (inb_nI (show 6 * i1 + 1 < 24 by omega) (by omega)), ex_dI, nI_clamp (show 6 * i1 + 1 < 2 ^ 31 by omega), hl6, ← eH]
          by_cases z : (999 : Int32) < nI hd + nI l
          · rw [if_pos z, ex_bf (Int32.not_le.mpr z)]
          · rw [if_neg z, ex_bt (Int32.not_lt.mp z)]
        rw [eC, eM2, e142]
        by_cases hv : v = 0
        · rw [ex_bt hv, ex_bt hv]
          exact ⟨σ3, τ3, rfl, rfl, R3, N3, o3, fun z => by rw [x17, st2] at z; exact absurd z (by decide)⟩
        · have s70 : τ3.1 56 70 = σ3.1 17 12 := R3.2.2.2.2.2.2.1.2.2.2.1
          have R4 := re_s12 R3 (σ3.1 17 12 + nI hd * σ3.1 (fl i1) 1)
          have f4 : ∀ j b, (sI σ3 17 12 (σ3.1 17 12 + nI hd * σ3.1 (fl i1) 1)).1 (fl j) b = σ3.1 (fl j) b := fun j b => sI_ne (of_eq_false fl_17)
          have st3 : (sI σ3 17 12 (σ3.1 17 12 + nI hd * σ3.1 (fl i1) 1)).1 17 6 = 1 := by rw [sI_nf (by omega), x17]; exact st2
          have N4 : Nu g n s e t L c (sI σ3 17 12 (σ3.1 17 12 + nI hd * σ3.1 (fl i1) 1)) := nu_still hgd hn4 N3 (fun a b z => sI_ne z) st3 (by rw [sI_nf (by omega), x17, ← hσ2, sI_nf (by omega), sI_nf (by omega), sI_eq])
          obtain ⟨σ5, τ5, y1, y2, R5, N5, y3, -⟩ := send_rel (hh := hgt hd l) R4 N4 st3 hi1 (by rw [f4, xfl i1 _ hi4, rf]; exact m6) hH ht ⟨u, by rw [f4, xfl i1 _ hi4, rf]; exact m7, by omega⟩
          rw [ex_bf hv, ex_bf hv, ex_dI, ex_dI, ex_pI, ex_cl y1, ex_dI, ex_dI, k67', ex_cl (weight_eq R3 hi1), ex_pI, s70, ex_dI, sI_nf (by omega), k67', ex_cl y2]
          exact ⟨σ5, τ5, rfl, rfl, R5, N5, off_trans o3 (off_trans (off_sI rfl) (fr_X11_goesUp _ _ _ _ _ y2)), fun z => by rw [y3, st3] at z; exact absurd z (by decide)⟩
      · refine ⟨σ, τ, ?_, ?_, R, N, off_rfl, fun _ => ⟨b1, hb1, q2, by omega⟩⟩
        · rw [f_X4_endRise, ex_dI, ex_bt q1, ex_cl (riseEnds_eq R q2), ex_bf (fun z => hr ((nI_leI (by omega) (by omega)).mp z)), ex_rt]
        · rw [f_X11_runs_b66, ex_dI, ex_bf hne, ex_dI, ex_dI, eM, ex_bf (fun z => by have := (nI_eq (by omega) (by omega)).mp z; omega)]
