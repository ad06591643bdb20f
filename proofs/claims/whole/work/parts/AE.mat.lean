-- ===== broken, mat, slips =====
theorem gd_0 {g k : Nat} (hg : isGd g = true) (hk : k < 35) : ¬ g = k := gd_ne (d := 0) hg (by omega) hk
theorem bd_sI {σ τ : Sg} {a b : Nat} {v : Int32} (h : Bd σ τ) (hab : ¬ (a = 56 ∧ (b = 16 ∨ b = 17))) : Bd σ (sI τ a b v) := h.of (by rw [sI_gt, if_neg (by omega)]) (by rw [sI_gt, if_neg (by omega)])
theorem begins_bad {y : Int32} {σ τ : Sg} (h : Bd σ τ) : ∃ τ', f_X11_begins y τ = some (0, τ') ∧ Bd σ τ' := by
  have e : ∀ v, f_X11_begins_b40 (sI τ 56 35 v) = some (0, sI τ 56 35 v) := fun v => by
    rw [f_X11_begins_b40, ex_cl (good0 (bd_sI h (by omega)).bad), ex_gd (Or.inl rfl), ex_rt]
  have b17 : ∃ τ', f_X11_begins_b17 y τ = some (0, τ') ∧ Bd σ τ' := by
    rw [f_X11_begins_b17, ex_dI, ex_pI, ex_cl (good0 (bd_sI h (by omega)).bad), ex_bt rfl, e]
    exact ⟨_, rfl, bd_sI h (by omega)⟩
  rw [f_X11_begins, ex_dI]
  by_cases z : (τ.1 56 35 >>> (y &&& 31)) &&& 1 = 1
  · rw [ex_bt z, ex_cl (wrong0 h.bad)]; exact b17
  · rw [ex_bf z]; exact b17
theorem broken_rel {B : Nat → Nat} {n g nj e m a0 k0 u p : Nat} {σ τ : Sg} (hn : n ≤ 600) (hB : ∀ i, i < n → B i < 256) (hg : isGd g = true) (hp : p ≤ n) (N : LN B n g nj e 1 m a0 k0 u p σ τ) (ha : a0 ≤ p) (hk : k0 ≤ 2 * p + 8) (h : tK B n p = 256 ∧ tW B n p = 9) : LR B n g p (f_X8_tellBroken σ) (f_X11_line τ) := by
  have kn := knownM hn hp N.1.2.1
  rw [if_pos ⟨h.1, by omega⟩, h.2] at kn
  rw [f_X11_line, ex_cl kn, ex_bf (by decide), ex_bt (by decide), f_X8_tellBroken]
  have tk := tok_at (B := B) hp
  rcases once_rel (i := 1) (x := 2) (y := nI 9) hn hB hp (by omega) N.1 N.2.2.2 (by omega) rfl rfl with ⟨σ1, τ1, c1, c2, L1, S1, o1, o2, o3, q1⟩ | ⟨σ1, τ1, c1, c2, c3⟩
  · have N1 := N.once hg L1 S1 o1 o3
    rw [ex_cl c1, ex_bf l1_0, ex_cl c2, ex_bf l1_0]
    rcases sgd_rel (hi := 3) (x := 3) hn hB tk.2.2.2.1 L1 rfl (by omega) with ⟨σ2, τ2, v, p', d1, d2, L2, d3, d4, d6, d7, d8⟩ | ⟨σ2, τ2, v, d1, d2, d3⟩
    · have N2 := N1.sm hg L2 d6
      rw [ex_cl d1, ex_bf l1_0, ex_dR, L2.2.2.1, ex_gd hg, ex_dI, d3, ex_pI, ex_rt, ex_cl d2, ex_pI]
      exact Or.inl ⟨sI σ2 (g + 0) 3 v, sI τ2 56 30 v, nj, e, m, a0, k0, _, p', rfl, rfl, N2.put hg (by omega) (Or.inl ⟨rfl, by omega, by omega, by omega⟩) (N2.2.1.w3 ⟨rfl, d4.1, d4.2⟩), by omega, d8, by omega, by omega⟩
    · rw [ex_cl d1, ex_bt rfl, ex_rt, ex_cl d2, ex_pI]
      have bd := bd_sI (v := v) d3 (show ¬ ((56 : Nat) = 56 ∧ ((30 : Nat) = 16 ∨ (30 : Nat) = 17)) by omega)
      exact Or.inr ⟨_, _, rfl, b292_bad bd.bad, bd⟩
  · rw [ex_cl c1, ex_bt rfl, ex_rt, ex_cl c2, ex_bt rfl]
    exact Or.inr ⟨_, _, rfl, b292_bad c3.bad, c3⟩
theorem mat_rel {B : Nat → Nat} {n g nj e m a0 k0 u p : Nat} {σ τ : Sg} (hn : n ≤ 600) (hB : ∀ i, i < n → B i < 256) (hg : isGd g = true) (hp : p ≤ n) (N : LN B n g nj e 1 m a0 k0 u p σ τ) (ha : a0 ≤ p) (hk : k0 ≤ 2 * p + 8) (h : tK B n p = 256 ∧ tW B n p = 8) : LR B n g p (f_X8_tellMat σ) (f_X11_line τ) := by
  have kn := knownM hn hp N.1.2.1
  rw [if_pos ⟨h.1, by omega⟩, h.2] at kn
  obtain ⟨j4, jC, jM⟩ := N.2.1.1
  rw [f_X11_line, ex_cl kn, ex_bt (by decide), ex_dI, jM, f_X8_tellMat, ex_dR, N.1.2.2.1, ex_gd hg, ex_dI, jC]
  have tk := tok_at (B := B) hp
  by_cases z : nj = 0
  · subst z
    rw [ex_bt (by decide), ex_bt (by decide), f_X11_line_b23]
    rcases once_rel (i := 0) (x := 1) (y := nI 8) hn hB hp (by omega) N.1 N.2.2.2 (by omega) rfl rfl with ⟨σ1, τ1, c1, c2, L1, S1, o1, o2, o3, q1⟩ | ⟨σ1, τ1, c1, c2, c3⟩
    · have N1 := N.once hg L1 S1 o1 o3
      rw [ex_cl c1, ex_bf l1_0, ex_cl c2, ex_bf l1_0]
      rcases num_rel (lo := 1) (hi := 9) (x1 := 1) (x2 := 9) hn hB tk.2.2.2.1 L1 rfl rfl (by omega) (by omega) with ⟨σ2, τ2, v, p2, d1, d2, L2, d3, d4, d5, d6, d7, d8⟩ | ⟨σ2, τ2, v, d1, d2, d3⟩
      · have N2 := N1.sm hg L2 d6
        have M2 := N2.put (d := 0) (k := 0) (a := 56) (b := 27) (v := nI v) (w := nI v) hg (by omega) (Or.inl ⟨rfl, by omega, by omega, by omega⟩) (N2.2.1.w0 ⟨v, d4, d5, rfl, rfl⟩)
        rw [ex_cl d1, ex_bf l1_0, ex_dR, L2.2.2.1, ex_gd hg, ex_dI, d3, ex_pI, ex_cl d2, ex_pI]
        rcases num_rel (lo := 3) (hi := 20) (x1 := 3) (x2 := 20) hn hB d8 M2.1 rfl rfl (by omega) (by omega) with ⟨σ3, τ3, w, p3, f1, f2, L3, f3, f4, f5, f6, f7, f8⟩ | ⟨σ3, τ3, w, f1, f2, f3⟩
        · have N3 := M2.sm hg L3 f6
          have M3 := N3.put (d := 0) (k := 1) (a := 56) (b := 28) (v := nI w) (w := nI w) (e' := w) hg (by omega) (Or.inl ⟨rfl, by omega, by omega, by omega⟩) (N3.2.1.w1 ⟨f5, rfl, rfl⟩ rfl)
          rw [show g + 0 = g from rfl] at f1
          rw [ex_cl f1, ex_bf l1_0, ex_dR, L3.2.2.1, ex_gd hg, ex_dI, f3, ex_pI, ex_cl f2, ex_pI]
          rcases num_rel (lo := 10) (hi := 100) (x1 := 10) (x2 := 100) hn hB f8 M3.1 rfl rfl (by omega) (by omega) with ⟨σ4, τ4, y, p4, i1, i2, L4, i3, i4, i5, i6, i7, i8⟩ | ⟨σ4, τ4, y, i1, i2, i3⟩
          · have N4 := M3.sm hg L4 i6
            have M4 := N4.put (d := 0) (k := 2) (a := 56) (b := 29) (v := nI y) (w := nI y) hg (by omega) (Or.inl ⟨rfl, by omega, by omega, by omega⟩) (N4.2.1.w2 ⟨y, i5, rfl, rfl⟩)
            rw [show g + 0 = g from rfl] at i1
            rw [ex_cl i1, ex_bf l1_0, ex_dR, L4.2.2.1, ex_gd hg, ex_dI, i3, ex_pI, ex_rt, ex_cl i2, ex_pI]
            exact Or.inl ⟨_, _, 0, w, m, a0, k0, _, p4, rfl, rfl, M4, by omega, i8, by omega, by omega⟩
          · rw [show g + 0 = g from rfl] at i1
            rw [ex_cl i1, ex_bt rfl, ex_rt, ex_cl i2, ex_pI]
            have bd := bd_sI (v := y) i3 (show ¬ ((56 : Nat) = 56 ∧ ((29 : Nat) = 16 ∨ (29 : Nat) = 17)) by omega)
            exact Or.inr ⟨_, _, rfl, b292_bad bd.bad, bd⟩
        · rw [show g + 0 = g from rfl] at f1
          rw [ex_cl f1, ex_bt rfl, ex_rt, ex_cl f2, ex_pI]
          have bd := bd_sI (v := w) f3 (show ¬ ((56 : Nat) = 56 ∧ ((28 : Nat) = 16 ∨ (28 : Nat) = 17)) by omega)
          have bd2 := bd_sI (v := 0) bd (show ¬ ((56 : Nat) = 56 ∧ ((29 : Nat) = 16 ∨ (29 : Nat) = 17)) by omega)
          rw [ex_cl (num_bad bd.bad), ex_pI]
          exact Or.inr ⟨_, _, rfl, b292_bad bd2.bad, bd2⟩
      · rw [ex_cl d1, ex_bt rfl, ex_rt, ex_cl d2, ex_pI]
        have bd := bd_sI (v := v) d3 (show ¬ ((56 : Nat) = 56 ∧ ((27 : Nat) = 16 ∨ (27 : Nat) = 17)) by omega)
        have bd2 := bd_sI (v := 0) bd (show ¬ ((56 : Nat) = 56 ∧ ((28 : Nat) = 16 ∨ (28 : Nat) = 17)) by omega)
        have bd3 := bd_sI (v := 0) bd2 (show ¬ ((56 : Nat) = 56 ∧ ((29 : Nat) = 16 ∨ (29 : Nat) = 17)) by omega)
        rw [ex_cl (num_bad bd.bad), ex_pI, ex_cl (num_bad bd2.bad), ex_pI]
        exact Or.inr ⟨_, _, rfl, b292_bad bd3.bad, bd3⟩
    · rw [ex_cl c1, ex_bt rfl, ex_rt, ex_cl c2, ex_bt rfl, ex_rt]
      exact Or.inr ⟨_, _, rfl, rfl, c3⟩
  · have p1 : ¬ nI nj ≤ 0 := fun q => by have := (nI_leR (x := 0) (k := 0) rfl (by omega) (by omega)).mp q; omega
    have bd := Bd.fw N.1.1 N.1.2.1 l4_0
    obtain ⟨τ', b1, b2⟩ := begins_bad (y := nI 8) bd
    rw [ex_bf p1, faC, ex_bf p1, ex_cl (wrong1 N.1.2.2.2), ← wrS, f_X11_line_b23, ex_cl b1, ex_bt rfl, ex_rt]
    exact Or.inr ⟨_, _, rfl, rfl, b2⟩
theorem slips_rel {B : Nat → Nat} {n g nj e m a0 k0 u p : Nat} {σ τ : Sg} (hn : n ≤ 600) (hB : ∀ i, i < n → B i < 256) (hg : isGd g = true) (hp : p ≤ n) (N : LN B n g nj e 1 m a0 k0 u p σ τ) (ha : a0 ≤ p) (hk : k0 ≤ 2 * p + 8) (h : tK B n p = 256 ∧ tW B n p = 11) : LR B n g p (f_X8_tellSlips σ) (f_X11_line τ) := by
  have kn := knownM hn hp N.1.2.1
  rw [if_pos ⟨h.1, by omega⟩, h.2] at kn
  rw [f_X11_line, ex_cl kn, ex_bf (by decide), ex_bf (by decide), ex_bf (by decide), ex_bt (by decide), f_X8_tellSlips]
  have tk := tok_at (B := B) hp
  have cl0 : (0 : Int32).toNatClampNeg = 0 := rfl
  have cl1 : (1 : Int32).toNatClampNeg = 1 := rfl
  have cl2 : (2 : Int32).toNatClampNeg = 2 := rfl
  rcases once_rel (i := 3) (x := 8) (y := nI 11) hn hB hp (by omega) N.1 N.2.2.2 (by omega) rfl rfl with ⟨σ1, τ1, c1, c2, L1, S1, o1, o2, o3, q1⟩ | ⟨σ1, τ1, c1, c2, c3⟩
  · have N1 := N.once hg L1 S1 o1 o3
    rw [ex_cl c1, ex_bf l1_0, ex_cl c2, ex_bf l1_0]
    rcases num_rel (lo := 0) (hi := 9) (x1 := 0) (x2 := 9) hn hB tk.2.2.2.1 L1 rfl rfl (by omega) (by omega) with ⟨σ2, τ2, v, p2, d1, d2, L2, d3, d4, d5, d6, d7, d8⟩ | ⟨σ2, τ2, v, d1, d2, d3⟩
    · have N2 := N1.sm hg L2 d6
      have M2 := N2.put (d := 0) (k := 5) (a := 64) (b := 0) (v := nI v) (w := nI v) (z' := 0) hg (by omega) (Or.inr (Or.inl rfl)) (N2.2.1.w5 ⟨v, d5, rfl, rfl⟩ rfl)
      rw [ex_cl d1, ex_bf l1_0, ex_dR, L2.2.2.1, ex_gd hg, ex_dI, d3, ex_pI, ex_cl d2, ex_pI, cl0]
      rcases num_rel (lo := 0) (hi := 9) (x1 := 0) (x2 := 9) hn hB d8 M2.1 rfl rfl (by omega) (by omega) with ⟨σ3, τ3, w, p3, f1, f2, L3, f3, f4, f5, f6, f7, f8⟩ | ⟨σ3, τ3, w, f1, f2, f3⟩
      · have N3 := M2.sm hg L3 f6
        have M3 := N3.put (d := 0) (k := 6) (a := 64) (b := 1) (v := nI w) (w := nI w) (z' := 0) hg (by omega) (Or.inr (Or.inl rfl)) (N3.2.1.w6 ⟨w, f5, rfl, rfl⟩ rfl)
        rw [show g + 0 = g from rfl] at f1
        have g5 : σ3.1 g 5 = nI v := by rw [f6.1 _ _ (gd_0 hg (by omega)) (fun q => gd_0 hg (by omega) q.1)]; exact sI_eq
        have t0 : τ3.1 64 0 = nI v := by rw [f6.2.2 _ _ (by omega)]; exact sI_eq
        have hS5 : (sI σ3 g 6 (nI w)).1 g 5 = nI v := by rw [sI_nf (by omega)]; exact g5
        have hT0 : (sI τ3 64 1 (nI w)).1 64 0 = nI v := by rw [sI_nf (by omega)]; exact t0
        rw [ex_cl f1, ex_bf l1_0, ex_dR, L3.2.2.1, ex_gd hg, ex_dI, f3, ex_pI, ex_dR, show (sI σ3 g 6 (nI w)).2.2 14 1 = g from L3.2.2.1, ex_gd hg, ex_dI, hS5, ex_dR, show (sI σ3 g 6 (nI w)).2.2 14 1 = g from L3.2.2.1, ex_gd hg, ex_dI, sI_eq, nI_add, ex_cl f2, ex_pI, cl1, ex_dI, hT0, ex_dI, sI_eq, nI_add]
        have fin : ∀ (lo : Nat) (x : Int32), nI lo = x → lo ≤ 1 → 1 ≤ v + w + lo → LR B n g p (f_X8_tellSlips_b78 x (sI σ3 g 6 (nI w))) (f_X11_line_b191 x 2 (sI τ3 64 1 (nI w))) := by
          intro lo x hx h1 h2
          rw [f_X8_tellSlips_b78, f_X11_line_b191]
          rcases num_rel (lo := lo) (hi := 9) (x1 := x) (x2 := 9) hn hB f8 M3.1 hx rfl (by omega) (by omega) with ⟨σ4, τ4, y, p4, i1, i2, L4, i3, i4, i5, i6, i7, i8⟩ | ⟨σ4, τ4, y, i1, i2, i3⟩
          · have N4 := M3.sm hg L4 i6
            have c5 : σ4.1 g 5 = nI v := by rw [i6.1 _ _ (gd_0 hg (by omega)) (fun q => gd_0 hg (by omega) q.1)]; exact hS5
            have c6 : σ4.1 g 6 = nI w := by rw [i6.1 _ _ (gd_0 hg (by omega)) (fun q => gd_0 hg (by omega) q.1)]; exact sI_eq
            have M4 := N4.put (d := 0) (k := 7) (a := 64) (b := 2) (v := nI y) (w := nI y) (z' := 1) hg (by omega) (Or.inr (Or.inl rfl)) (N4.2.1.w7 ⟨y, i5, rfl, rfl, fun b c hb hc b9 c9 => by
              have e1 : b = v := nI_inj (by omega) (by omega) (hb.symm.trans c5)
              have e2 : c = w := nI_inj (by omega) (by omega) (hc.symm.trans c6)
              omega⟩)
            rw [show g + 0 = g from rfl] at i1
            rw [ex_cl i1, ex_bf l1_0, ex_dR, L4.2.2.1, ex_gd hg, ex_dI, i3, ex_pI, ex_rt, ex_cl i2, ex_gd (by decide), ex_pI, cl2]
            exact Or.inl ⟨_, _, nj, e, m, a0, k0, _, p4, rfl, rfl, M4, by omega, i8, by omega, by omega⟩
          · rw [show g + 0 = g from rfl] at i1
            rw [ex_cl i1, ex_bt rfl, ex_rt, ex_cl i2, ex_gd (by decide), ex_pI]
            have bd := bd_sI (a := 64) (b := (2 : Int32).toNatClampNeg) (v := y) i3 (by omega)
            exact Or.inr ⟨_, _, rfl, b292_bad bd.bad, bd⟩
        by_cases z : v + w = 0
        · rw [ex_bt (show nI (v + w) ≤ 0 by rw [z]; decide), ex_bt (show nI (v + w) = 0 by rw [z]; rfl)]
          exact fin 1 1 rfl (by omega) (by omega)
        · rw [ex_bf (show ¬ nI (v + w) ≤ 0 from fun q => z (by have := (nI_leR (x := 0) (k := 0) rfl (by omega) (by omega)).mp q; omega)), ex_bf (nI_ne0 (by omega) (by omega))]
          exact fin 0 0 rfl (by omega) (by omega)
      · rw [show g + 0 = g from rfl] at f1
        rw [ex_cl f1, ex_bt rfl, ex_rt, ex_cl f2, ex_pI]
        have bd := bd_sI (a := 64) (b := (1 : Int32).toNatClampNeg) (v := w) f3 (by omega)
        have fin : ∀ x : Int32, ∃ τ', f_X11_line_b191 x 2 (sI τ3 64 (1 : Int32).toNatClampNeg w) = some ((), τ') ∧ Bd σ3 τ' := fun x => by
          have bd2 := bd_sI (a := 64) (b := (2 : Int32).toNatClampNeg) (v := 0) bd (by omega)
          exact ⟨_, by rw [f_X11_line_b191, ex_cl (num_bad bd.bad), ex_gd (by decide), ex_pI, b292_bad bd2.bad], bd2⟩
        obtain ⟨τa, ea, ba⟩ := fin 1
        obtain ⟨τb, eb, bb⟩ := fin 0
        rw [ex_dI, ex_dI]
        by_cases z : (sI τ3 64 (1 : Int32).toNatClampNeg w).1 64 0 + (sI τ3 64 (1 : Int32).toNatClampNeg w).1 64 (1 : Int32).toNatClampNeg = 0
        · rw [ex_bt z]; exact Or.inr ⟨_, _, rfl, ea, ba⟩
        · rw [ex_bf z]; exact Or.inr ⟨_, _, rfl, eb, bb⟩
    · rw [ex_cl d1, ex_bt rfl, ex_rt, ex_cl d2, ex_pI]
      have bd := bd_sI (a := 64) (b := (0 : Int32).toNatClampNeg) (v := v) d3 (by omega)
      have bd1 := bd_sI (a := 64) (b := (1 : Int32).toNatClampNeg) (v := 0) bd (by omega)
      rw [ex_cl (num_bad bd.bad), ex_pI, ex_dI, ex_dI]
      have fin : ∀ x : Int32, ∃ τ', f_X11_line_b191 x 2 (sI (sI τ2 64 (0 : Int32).toNatClampNeg v) 64 (1 : Int32).toNatClampNeg 0) = some ((), τ') ∧ Bd σ2 τ' := fun x => by
        have bd2 := bd_sI (a := 64) (b := (2 : Int32).toNatClampNeg) (v := 0) bd1 (by omega)
        exact ⟨_, by rw [f_X11_line_b191, ex_cl (num_bad bd1.bad), ex_gd (by decide), ex_pI, b292_bad bd2.bad], bd2⟩
      obtain ⟨τa, ea, ba⟩ := fin 1
      obtain ⟨τb, eb, bb⟩ := fin 0
      by_cases z : (sI (sI τ2 64 (0 : Int32).toNatClampNeg v) 64 (1 : Int32).toNatClampNeg 0).1 64 (0 : Int32).toNatClampNeg + (sI (sI τ2 64 (0 : Int32).toNatClampNeg v) 64 (1 : Int32).toNatClampNeg 0).1 64 (1 : Int32).toNatClampNeg = 0
      · rw [ex_bt z]; exact Or.inr ⟨_, _, rfl, ea, ba⟩
      · rw [ex_bf z]; exact Or.inr ⟨_, _, rfl, eb, bb⟩
  · rw [ex_cl c1, ex_bt rfl, ex_rt, ex_cl c2, ex_bt rfl, ex_rt]
    exact Or.inr ⟨_, _, rfl, rfl, c3⟩
