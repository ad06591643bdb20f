-- ===== may one go: both =====
/-- the class's scratch alone has changed: values, what waits -/
def Om (g : Nat) (σ σ' : Sg) : Prop := σ'.2 = σ.2 ∧ ∀ a b, ¬ a = 27 → ¬ a = g + 6 → σ'.1 a b = σ.1 a b
theorem Om.rf {g : Nat} {σ : Sg} : Om g σ σ := ⟨rfl, fun _ _ _ _ => rfl⟩
theorem Om.tr {g : Nat} {σ τ υ : Sg} (h : Om g σ τ) (k : Om g τ υ) : Om g σ υ := ⟨k.1.trans h.1, fun a b q r => (k.2 a b q r).trans (h.2 a b q r)⟩
theorem Om.v {g k : Nat} {v : Int32} {σ : Sg} : Om g σ (sI σ 27 k v) := ⟨rfl, fun a b q r => sI_ne q⟩
theorem Om.oc {g : Nat} {σ σ' : Sg} (h : Oc (g + 6) σ σ') : Om g σ σ' := ⟨h.1, fun a b q r => h.2 a b r⟩
theorem Om.facts {g : Nat} {σ σ' : Sg} (hg : isGd g = true) (h : Om g σ σ') : (∀ b, σ'.1 17 b = σ.1 17 b) ∧ (∀ b, σ'.1 g b = σ.1 g b) ∧ (∀ b, σ'.1 28 b = σ.1 28 b) ∧ (∀ b, σ'.1 29 b = σ.1 29 b) ∧ (∀ j b, j < 4 → σ'.1 (fl j) b = σ.1 (fl j) b) ∧ (∀ j b, j < 4 → σ'.1 (fk j) b = σ.1 (fk j) b) := by
  have hg := or3 hg
  refine ⟨fun b => h.2 _ _ (by omega) (by omega), fun b => h.2 _ _ (by omega) (by omega), fun b => h.2 _ _ (by omega) (by omega), fun b => h.2 _ _ (by omega) (by omega), fun j b hj => h.2 _ _ (by unfold fl; omega) (by unfold fl; omega), fun j b hj => h.2 _ _ (by unfold fk; omega) (by unfold fk; omega)⟩
theorem Re.om {g n s L : Nat} {σ σ' τ τ' : Sg} (R : Re g n s L σ τ) (h : Om g σ σ') (k : Oc 72 τ τ') : Re g n s L σ' τ' := by
  obtain ⟨hC, hD, hF, hK, hZ, hL, hS, hT⟩ := R
  have hn4 : n ≤ 4 := hC.1.2.2.1
  obtain ⟨a17, ag, a28, a29, afl, afk⟩ := Om.facts hC.1.1 h
  have t56 : ∀ b, τ'.1 56 b = τ.1 56 b := fun b => k.2 _ _ (by omega)
  have t58 : ∀ b, τ'.1 58 b = τ.1 58 b := fun b => k.2 _ _ (by omega)
  have tt : ∀ a b, 73 ≤ a → τ'.1 a b = τ.1 a b := fun a b h => k.2 _ _ (by omega)
  refine ⟨⟨?_, ?_, ?_, ?_⟩, ?_, ?_, ?_, ⟨?_, ?_⟩, ⟨?_, ?_, ?_⟩, ?_, ?_⟩
  · simp only [h.1, ag, t56]; exact hC.1
  · simp only [ag, t56, a17]; exact hC.2.1
  · intro j hj
    rw [afl j 0 hj]; exact hC.2.2.1 j hj
  · intro j hj
    rw [t58, t58, t58, afl j _ (by omega), afl j _ (by omega), afl j _ (by omega)]; exact hC.2.2.2 j hj
  · intro j hj
    rw [afl j _ hj, afl j _ hj, tt 73 _ (by omega), tt 75 _ (by omega)]; exact hD j hj
  · intro j hj
    have q : ∀ b, σ'.1 (fl j) b = σ.1 (fl j) b := fun b => afl j b (by omega)
    rw [q, q, q, q, q, q, q, q, tt 74 _ (by omega), tt 76 _ (by omega), tt 77 _ (by omega), tt 78 _ (by omega), tt 79 _ (by omega), tt 80 _ (by omega), tt 81 _ (by omega), tt 82 _ (by omega)]
    exact hF j hj
  · intro j hj b hb
    rw [tt 83 _ (by omega), afk j b (by omega)]; exact hK j hj b hb
  · intro j h1 h2
    rw [afl j _ h2, afl j _ h2]; exact hZ.1 j h1 h2
  · intro j h1
    rw [afl j _ h1, afl j _ h1, afl j _ h1]; exact hZ.2 j h1
  · rw [a28]; exact hL.1
  · rw [t56]; exact hL.2.1
  · intro i hi
    rw [tt 85 _ (by omega), a29]; exact hL.2.2 i hi
  · simp only [ReS, t56, a17]; exact hS
  · simp only [ReT, t56, a17, h.1]; exact hT
theorem Nu.om {g n s e t L : Nat} {c : Nat → Nat} {σ σ' : Sg} (hg : isGd g = true) (hn : n ≤ 4) (N : Nu g n s e t L c σ) (h : Om g σ σ') : Nu g n s e t L c σ' := by
  obtain ⟨hG, hF, hA, ⟨c1, c2, c3, c4⟩, hM⟩ := N
  obtain ⟨a17, ag, a28, a29, afl, afk⟩ := Om.facts hg h
  refine ⟨?_, ?_, ?_, ⟨c1, ?_, ?_, c4⟩, ?_⟩
  · simp only [NuG, ag]; exact hG
  · intro j hj
    have q : ∀ b, σ'.1 (fl j) b = σ.1 (fl j) b := fun b => afl j b (by omega)
    simp only [q]; exact hF j hj
  · intro j hj
    have q : ∀ b, σ'.1 (fl j) b = σ.1 (fl j) b := fun b => afl j b (by omega)
    simp only [q]; exact hA j hj
  · intro j hj
    rw [afl j _ (by omega)]; exact c2 j hj
  · intro j hj
    rw [afl j _ (by omega), afl j _ (by omega)]; exact c3 j hj
  · have ho : on4 σ' = on4 σ := on4_same (fun i hi => by rw [afl i _ hi])
    rcases hM with q | ⟨q0, b, i, u, S, q1, q2, q3, q4, q5, q6, q7, q8⟩
    · left; rw [a17, a17]; exact q
    · right
      refine ⟨by rw [a17]; exact q0, b, i, u, S, by rw [a17]; exact q1, q2, q3, q4, by rw [h.1]; exact q5, by rw [afl i _ (by omega)]; exact q6, by rw [afl i _ (by omega)]; exact q7, ?_⟩
      rw [a17, ho]; exact q8
/-- the rules, both -/
def Ru (g : Nat) (σ τ : Sg) : Prop := ∃ m, m ≤ 4 ∧ σ.1 (g + 3) 4 = nI m ∧ τ.1 56 7 = nI m ∧ (∀ r, r < m → ∃ a k ts, (if r = 0 then a = 0 else σ.1 (g + 5) (r - 1) = nI a) ∧ σ.1 (g + 5) r = nI (a + ts.length) ∧ a + ts.length ≤ 600 ∧ CC σ (g + 4) a ts ∧ τ.1 59 r = nI k ∧ k + 2 * ts.length < 1600 ∧ MC τ 61 k ts ∧ wfT 0 ts) ∧ (τ.1 56 46 = -1 ∨ ∃ r, r < m ∧ τ.1 56 46 = nI r)
theorem CC.of {σ σ' : Sg} {c : Nat} (h : ∀ b, σ'.1 c b = σ.1 c b) : ∀ (ts : List Nat) (a : Nat), CC σ c a ts → CC σ' c a ts
  | [], _, _ => trivial
  | _ :: r, a, q => ⟨(h _).trans q.1, CC.of h r (a + 1) q.2⟩
theorem MC.of {σ σ' : Sg} {c : Nat} (h : ∀ b, σ'.1 c b = σ.1 c b) : ∀ (ts : List Nat) (a : Nat), MC σ c a ts → MC σ' c a ts
  | [], _, q => (h _).trans q
  | _ :: r, a, ⟨q1, q2, q3⟩ => ⟨fun z => ⟨(h _).trans (q1 z).1, MC.of h r _ (q1 z).2⟩, fun z y => ⟨(h _).trans (q2 z y).1, (h _).trans (q2 z y).2.1, MC.of h r _ (q2 z y).2.2⟩, fun z => ⟨(h _).trans (q3 z).1, (h _).trans (q3 z).2.1, MC.of h r _ (q3 z).2.2⟩⟩
theorem Ru.off {g : Nat} {σ σ' τ τ' : Sg} (hg : isGd g = true) (R : Ru g σ τ) (h : off gs_play σ σ') (k : off gs_mrunF τ τ') : Ru g σ' τ' := by
  have a3 : ∀ b, σ'.1 (g + 3) b = σ.1 (g + 3) b := fun b => (h _ _ (by rcases or3 hg with rfl | rfl | rfl <;> rfl)).1
  have a4 : ∀ b, σ'.1 (g + 4) b = σ.1 (g + 4) b := fun b => (h _ _ (by rcases or3 hg with rfl | rfl | rfl <;> rfl)).1
  have a5 : ∀ b, σ'.1 (g + 5) b = σ.1 (g + 5) b := fun b => (h _ _ (by rcases or3 hg with rfl | rfl | rfl <;> rfl)).1
  have t59 : ∀ b, τ'.1 59 b = τ.1 59 b := fun b => (k _ _ rfl).1
  have t61 : ∀ b, τ'.1 61 b = τ.1 61 b := fun b => (k _ _ rfl).1
  have t7 : τ'.1 56 7 = τ.1 56 7 := (k _ _ rfl).1
  have t46 : τ'.1 56 46 = τ.1 56 46 := (k _ _ rfl).1
  obtain ⟨m, h1, h2, h3, h4, h5⟩ := R
  refine ⟨m, h1, by rw [a3]; exact h2, by rw [t7]; exact h3, fun r hr => ?_, by rw [t46]; exact h5⟩
  obtain ⟨a, q, ts, b1, b2, b3, b4, b5, b6, b7, b8⟩ := h4 r hr
  exact ⟨a, q, ts, by rw [a5]; exact b1, by rw [a5]; exact b2, b3, CC.of a4 _ _ b4, by rw [t59]; exact b5, b6, MC.of t61 _ _ b7, b8⟩
theorem mayC_vals {g n s L j : Nat} {σ τ : Sg} {h t : Int32} (R : Re g n s L σ τ) (hj : j < n) (h1 : ¬ σ.1 17 4 = -1) : ∃ σ', f_X4_mayGo (fl j) h t σ = (cl (f_X6_holds (g + 3) (σ.1 17 4)) (fun r8 => gd (r8 = 0 ∨ r8 = 1) (rt r8))) σ' ∧ Om g σ σ' ∧ ∀ w, w < 8 → σ'.1 27 w = Vl σ j h t w := by
  have hn4 : n ≤ 4 := R.1.1.2.2.1
  have hj4 : j < 4 := by omega
  have hme := R.1.2.2.1 j hj4
  have hgd := R.1.1.1
  have hg : σ.2.2 17 3 = g := R.1.1.2.1
  generalize h5 : sI (sI (sI (sI (sI σ 27 0 (nI j)) 27 1 (σ.1 (fl j) 1)) 27 2 h) 27 3 (σ.1 (fl j) 6)) 27 4 t = σ5
  have r5 : ∀ a b, ¬ a = 27 → σ5.1 a b = σ.1 a b := by
    intro a b q
    rw [← h5, sI_ne q, sI_ne q, sI_ne q, sI_ne q, sI_ne q]
  have rf : ∀ i b, i < 4 → σ5.1 (fl i) b = σ.1 (fl i) b := fun i b hi => r5 _ _ (of_eq_false (fl_27 hi))
  have hO : Om g σ σ5 := by rw [← h5]; exact Om.v.tr (Om.v.tr (Om.v.tr (Om.v.tr Om.v)))
  have eU : sm (cfU σ5 j) 0 4 = sm (cfU σ j) 0 4 := by
    simp only [sm, cfU, rf 0 5 (by omega), rf 1 5 (by omega), rf 2 5 (by omega), rf 3 5 (by omega)]
  have eO : sm (cfO σ5 j) 0 4 = sm (cfO σ j) 0 4 := by
    simp only [sm, cfO, rf 0 5 (by omega), rf 1 5 (by omega), rf 2 5 (by omega), rf 3 5 (by omega)]
  have eH : sm (cfH σ5 j) 0 4 = sm (cfH σ j) 0 4 := by
    simp only [sm, cfH, rf 0 5 (by omega), rf 1 5 (by omega), rf 2 5 (by omega), rf 3 5 (by omega), rf 0 1 (by omega), rf 1 1 (by omega), rf 2 1 (by omega), rf 3 1 (by omega), rf j 1 hj4]
  have cnt : f_X4_countOthers (fl j) σ5 = some ((), sI (sI (sI σ5 27 5 (0 + sm (cfU σ j) 0 4)) 27 6 (0 + sm (cfO σ j) 0 4)) 27 7 (0 + sm (cfH σ j) 0 4)) := by
    rw [f_X4_countOthers, ex_gd (isFl_l hj4), ← eU, ← eO, ← eH]
    exact countC (fu := 8187) hj4 (by rw [rf j 0 hj4]; exact hme) 4 0 0 0 0 rfl
  refine ⟨sI (sI (sI σ5 27 5 (0 + sm (cfU σ j) 0 4)) 27 6 (0 + sm (cfO σ j) 0 4)) 27 7 (0 + sm (cfH σ j) 0 4), ?_, hO.tr (Om.v.tr (Om.v.tr Om.v)), ?_⟩
  · have e27 : ∀ (υ : Sg) (k b : Nat) (v : Int32), (sI υ 27 k v).1 (fl j) b = υ.1 (fl j) b := fun υ k b v => sI_ne (of_eq_false (fl_27 hj4))
    rw [f_X4_mayGo, ex_gd (isFl_l hj4), ex_dI, ex_bf h1, ex_dI, ex_pI, ex_dI, ex_pI, ex_pI, ex_dI, ex_pI, ex_pI, clamp0, cl1, cl2, cl3, cl4, hme]
    simp only [e27]
    rw [h5, ex_cl cnt, ex_dR, sI_2, sI_2, sI_2, hO.1, hg, ex_gd hgd, ex_dI]
    congr 2
    rw [sI_ne (by omega), sI_ne (by omega), sI_ne (by omega), r5 _ _ (by omega)]
  · intro w hw
    rcases (by omega : w = 0 ∨ w = 1 ∨ w = 2 ∨ w = 3 ∨ w = 4 ∨ w = 5 ∨ w = 6 ∨ w = 7) with rfl | rfl | rfl | rfl | rfl | rfl | rfl | rfl
    · rw [sI_nf (by omega), sI_nf (by omega), sI_nf (by omega), ← h5, sI_nf (by omega), sI_nf (by omega), sI_nf (by omega), sI_nf (by omega), sI_eq]; rfl
    · rw [sI_nf (by omega), sI_nf (by omega), sI_nf (by omega), ← h5, sI_nf (by omega), sI_nf (by omega), sI_nf (by omega), sI_eq]; rfl
    · rw [sI_nf (by omega), sI_nf (by omega), sI_nf (by omega), ← h5, sI_nf (by omega), sI_nf (by omega), sI_eq]; rfl
    · rw [sI_nf (by omega), sI_nf (by omega), sI_nf (by omega), ← h5, sI_nf (by omega), sI_eq]; rfl
    · rw [sI_nf (by omega), sI_nf (by omega), sI_nf (by omega), ← h5, sI_eq]; rfl
    · rw [sI_nf (by omega), sI_nf (by omega), sI_eq]; rfl
    · rw [sI_nf (by omega), sI_eq]; rfl
    · rw [sI_eq]; rfl
theorem mayGo_rel {g n s L j : Nat} {σ τ : Sg} {h t : Int32} (R : Re g n s L σ τ) (U : Ru g σ τ) (hj : j < n) : ∃ v σ' τ', f_X4_mayGo (fl j) h t σ = some (v, σ') ∧ f_X11_mayGo (nI j) h t τ = some (v, τ') ∧ (v = 0 ∨ v = 1) ∧ Om g σ σ' ∧ Oc 72 τ τ' := by
  have hn4 : n ≤ 4 := R.1.1.2.2.1
  have hj4 : j < 4 := by omega
  have hgd := R.1.1.1
  have h46 : τ.1 56 46 = σ.1 17 4 := R.1.2.1.2.2.2.2
  obtain ⟨m, hm, u1, u2, u3, u4⟩ := U
  by_cases hN : σ.1 17 4 = -1
  · refine ⟨1, σ, τ, ?_, ?_, Or.inr rfl, Om.rf, Oc.rf⟩
    · rw [f_X4_mayGo, ex_gd (isFl_l hj4), ex_dI, ex_bt hN, ex_rt]
    · rw [f_X11_mayGo, ex_dI, h46, ex_bt hN, ex_rt]
  · rcases u4 with u4 | ⟨r, hr, u4⟩
    · rw [h46] at u4; exact absurd u4 hN
    · obtain ⟨a, k, ts, b1, b2, b3, b4, b5, b6, b7, b8⟩ := u3 r hr
      have hr4 : r < 4 := by omega
      have e4 : σ.1 17 4 = nI r := h46.symm.trans u4
      obtain ⟨σ1, e1, O1, v1⟩ := mayC_vals (h := h) (t := t) R hj hN
      have hg := or3 hgd
      have s3 : ∀ b, σ1.1 (g + 3) b = σ.1 (g + 3) b := fun b => O1.2 _ _ (by omega) (by omega)
      have s4 : ∀ b, σ1.1 (g + 4) b = σ.1 (g + 4) b := fun b => O1.2 _ _ (by omega) (by omega)
      have s5 : ∀ b, σ1.1 (g + 5) b = σ.1 (g + 5) b := fun b => O1.2 _ _ (by omega) (by omega)
      obtain ⟨v, σ2, τ2, d1, d2, d3, d4, d5⟩ := holds_rel (j := j) (h := h) (t := t) (V := Vl σ j h t) hgd hr4 ts 0 a k (8191 - ts.length) (8191 - ts.length) σ1 τ (CC.of s4 _ _ b4) b7 b8 (by omega) (by rw [s5]; exact b2) b3 b6 (fun i hi => by omega) v1 (fun τ' ho w hw => valueM (R.om Om.rf ho) hj hw)
      have hF : 8191 - ts.length + ts.length + 1 = FU := by
        rw [Nat.sub_add_cancel (by omega)]; rfl
      rw [hF] at d1 d2
      refine ⟨v, σ2, τ2, ?_, ?_, d3, O1.tr (Om.oc d4), d5⟩
      · rw [e1, e4]
        have e2 : f_X6_holds (g + 3) (nI r) σ1 = some (v, σ2) := by
          have q1 : ¬ nI m ≤ nI r := nI_ge hr (by omega)
          have q2 : nI r < 4 := (nI_ltR (x := 4) (k := 4) rfl (by omega) (by omega)).mpr hr4
          rw [f_X6_holds, ex_gd (isRu_g hgd), ex_bf (nI_pos (by omega)), ex_dI, s3, u1, ex_bf q1, ex_bt q2]
          by_cases z : r = 0
          · subst z
            rw [if_pos rfl] at b1
            subst b1
            rw [ex_bt (show nI 0 = 0 from rfl), f_X6_holds_b41, ex_gd (isRu_g hgd)]
            exact d1
          · obtain ⟨r', rfl⟩ : ∃ r', r = r' + 1 := ⟨r - 1, by omega⟩
            rw [if_neg z] at b1
            have z2 : ¬ nI (r' + 1) = 0 := nI_ne0 (by omega) (by omega)
            rw [ex_bf z2, nI_pred, ex_gd (inb_nI (show r' < 4 by omega) (by omega)), ex_dI, nI_clamp (show r' < 2 ^ 31 by omega), show σ1.1 (g + 3 + 2) r' = nI a from (s5 r').trans b1, f_X6_holds_b41, ex_gd (isRu_g hgd)]
            exact d1
        rw [ex_cl e2, ex_gd d3, ex_rt]
      · rw [f_X11_mayGo, ex_dI, u4, ex_bf (by rw [← e4]; exact hN), ex_dI, u4, ex_gd (inb_nI hr4 (by omega)), ex_dI, nI_clamp (show r < 2 ^ 31 by omega), b5]
        exact d2
