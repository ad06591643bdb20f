-- ===== a denotation, step by step =====
section Ex
variable {α β : Type} {σ σ' : Sg} {i k : Nat}
theorem ex_gd {c : Prop} [Decidable c] {d : Sg → Option α} (h : c) : gd c d σ = d σ := if_pos h
theorem ex_bt {c : Prop} [Decidable c] {d e : Sg → Option α} (h : c) : br c d e σ = d σ := if_pos h
theorem ex_bf {c : Prop} [Decidable c] {d e : Sg → Option α} (h : ¬ c) : br c d e σ = e σ := if_neg h
theorem ex_dI {d : Int32 → Sg → Option α} : dI i k d σ = d (σ.1 i k) σ := rfl
theorem ex_dL {d : Int64 → Sg → Option α} : dL i k d σ = d (σ.2.1 i k) σ := rfl
theorem ex_dR {d : Nat → Sg → Option α} : dR i k d σ = d (σ.2.2 i k) σ := rfl
theorem ex_pI {v : Int32} {d : Sg → Option α} : pI i k v d σ = d (sI σ i k v) := rfl
theorem ex_pL {v : Int64} {d : Sg → Option α} : pL i k v d σ = d (sL σ i k v) := rfl
theorem ex_pR {v : Nat} {d : Sg → Option α} : pR i k v d σ = d (sR σ i k v) := rfl
theorem ex_wI {f : Sg → Nat → Int32} {d : Sg → Option α} : wI i f d σ = d (rI σ i (f σ)) := rfl
theorem ex_wL {f : Sg → Nat → Int64} {d : Sg → Option α} : wL i f d σ = d (rL σ i (f σ)) := rfl
theorem ex_lt {v : β} {d : β → Sg → Option α} : lt v d σ = d v σ := rfl
theorem ex_rt {v : α} : rt v σ = some (v, σ) := rfl
theorem ex_cl {f : Sg → Option (β × Sg)} {v : β} {d : β → Sg → Option α} (h : f σ = some (v, σ')) : cl f d σ = d v σ' := by rw [cl, h]; rfl
end Ex
-- ===== rules: their codes =====
/-- a code's number: 1 or, 2 and, 3 not, 4 less, 5 same, 6 plus, 7 minus, 8 times, 9 by; 10 to 17 values; 20 and more numbers -/
def clsT (q : Nat) : Int32 := if q < 18 then -(nI q) else nI (q - 20)
def opM (q : Nat) : Nat := if q = 1 then 5 else if q = 2 then 4 else if q = 3 then 3 else q + 2
def CC (σ : Sg) (c : Nat) : Nat → List Nat → Prop
  | _, [] => True
  | a, q :: r => σ.1 c a = clsT q ∧ CC σ c (a + 1) r
def MC (τ : Sg) (c : Nat) : Nat → List Nat → Prop
  | k, [] => τ.1 c k = 0
  | k, q :: r => (q < 10 → τ.1 c k = nI (opM q) ∧ MC τ c (k + 1) r) ∧ (10 ≤ q → q < 18 → τ.1 c k = 2 ∧ τ.1 c (k + 1) = nI (q - 10) ∧ MC τ c (k + 2) r) ∧ (18 ≤ q → τ.1 c k = 1 ∧ τ.1 c (k + 1) = nI (q - 20) ∧ MC τ c (k + 2) r)
def wfT : Nat → List Nat → Prop
  | d, [] => d = 1
  | d, q :: r => (q < 10 ∧ 1 ≤ q ∧ ((q = 3 ∧ 1 ≤ d ∧ wfT d r) ∨ (¬ q = 3 ∧ 2 ≤ d ∧ wfT (d - 1) r))) ∨ (((10 ≤ q ∧ q < 18) ∨ (20 ≤ q ∧ q < 10020)) ∧ d < 40 ∧ wfT (d + 1) r)
theorem join_works {q : Nat} (h1 : 1 ≤ q) (h2 : q < 10) (h3 : ¬ q = 3) (l r : Int32) (σ τ : Sg) : ∃ v, f_X6_join (clsT q) l r σ = some (v, σ) ∧ f_X11_works (nI (opM q)) l r τ = some (v, τ) := by
  rcases (by omega : q = 1 ∨ q = 2 ∨ q = 4 ∨ q = 5 ∨ q = 6 ∨ q = 7 ∨ q = 8 ∨ q = 9) with rfl | rfl | rfl | rfl | rfl | rfl | rfl | rfl
  · by_cases a : l = 0
    · by_cases b : r = 0
      · exact ⟨0, by simp [f_X6_join, clsT, br, rt, a, b, nI], by simp [f_X11_works, opM, br, rt, a, b, nI]⟩
      · exact ⟨1, by simp [f_X6_join, f_X6_join_b56, clsT, br, rt, a, b, nI], by simp [f_X11_works, f_X11_works_b66, opM, br, rt, a, b, nI]⟩
    · exact ⟨1, by simp [f_X6_join, f_X6_join_b56, clsT, br, rt, a, nI], by simp [f_X11_works, f_X11_works_b66, opM, br, rt, a, nI]⟩
  · by_cases a : l = 0
    · exact ⟨0, by simp [f_X6_join, clsT, br, rt, a, nI], by simp [f_X11_works, opM, br, rt, a, nI]⟩
    · by_cases b : r = 0
      · exact ⟨0, by simp [f_X6_join, clsT, br, rt, a, b, nI], by simp [f_X11_works, opM, br, rt, a, b, nI]⟩
      · exact ⟨1, by simp [f_X6_join, clsT, br, rt, a, b, nI], by simp [f_X11_works, opM, br, rt, a, b, nI]⟩
  · by_cases a : r ≤ l
    · exact ⟨0, by simp [f_X6_join, clsT, br, rt, a, nI], by simp [f_X11_works, opM, br, rt, a, nI]⟩
    · exact ⟨1, by simp only [f_X6_join, clsT, br, rt, nI, if_neg a]; rfl, by simp only [f_X11_works, opM, br, rt, nI, if_neg a]; rfl⟩
  · by_cases a : l = r
    · exact ⟨1, by simp [f_X6_join, clsT, br, rt, a, nI], by simp [f_X11_works, opM, br, rt, a, nI]⟩
    · exact ⟨0, by simp [f_X6_join, clsT, br, rt, a, nI], by simp [f_X11_works, opM, br, rt, a, nI]⟩
  · exact ⟨l + r, by simp [f_X6_join, clsT, br, rt, nI], by simp [f_X11_works, opM, br, rt, nI]⟩
  · exact ⟨l - r, by simp [f_X6_join, clsT, br, rt, nI], by simp [f_X11_works, opM, br, rt, nI]⟩
  · exact ⟨l * r, by simp [f_X6_join, clsT, br, rt, nI], by simp [f_X11_works, opM, br, rt, nI]⟩
  · by_cases a : r = 0
    · exact ⟨0, by simp [f_X6_join, clsT, br, rt, a, nI], by simp [f_X11_works, opM, br, rt, a, nI]⟩
    · exact ⟨l / r, by simp [f_X6_join, clsT, br, rt, gd, a, nI], by simp [f_X11_works, opM, br, rt, gd, a, nI]⟩
theorem isRu_g {g : Nat} (h : isGd g = true) : isRu (g + 3) = true := by rcases or3 h with rfl | rfl | rfl <;> rfl
/-- all but one cell is as it was -/
def Oc (c : Nat) (σ σ' : Sg) : Prop := σ'.2 = σ.2 ∧ ∀ a b, ¬ a = c → σ'.1 a b = σ.1 a b
theorem Oc.rf {c : Nat} {σ : Sg} : Oc c σ σ := ⟨rfl, fun _ _ _ => rfl⟩
theorem Oc.tr {c : Nat} {σ τ υ : Sg} (h : Oc c σ τ) (k : Oc c τ υ) : Oc c σ υ := ⟨k.1.trans h.1, fun a b q => (k.2 a b q).trans (h.2 a b q)⟩
theorem Oc.w {c k : Nat} {v : Int32} {σ : Sg} : Oc c σ (sI σ c k v) := ⟨rfl, fun a b q => sI_ne q⟩
theorem CC.oc {σ σ' : Sg} {c c' : Nat} (h : Oc c' σ σ') (hc : ¬ c = c') : ∀ (ts : List Nat) (a : Nat), CC σ c a ts → CC σ' c a ts
  | [], _, _ => trivial
  | _ :: r, a, q => ⟨(h.2 _ _ hc).trans q.1, CC.oc h hc r (a + 1) q.2⟩
theorem MC.oc {σ σ' : Sg} {c c' : Nat} (h : Oc c' σ σ') (hc : ¬ c = c') : ∀ (ts : List Nat) (a : Nat), MC σ c a ts → MC σ' c a ts
  | [], _, q => (h.2 _ _ hc).trans q
  | _ :: r, a, ⟨q1, q2, q3⟩ => ⟨fun z => ⟨(h.2 _ _ hc).trans (q1 z).1, MC.oc h hc r _ (q1 z).2⟩, fun z y => ⟨(h.2 _ _ hc).trans (q2 z y).1, (h.2 _ _ hc).trans (q2 z y).2.1, MC.oc h hc r _ (q2 z y).2.2⟩, fun z => ⟨(h.2 _ _ hc).trans (q3 z).1, (h.2 _ _ hc).trans (q3 z).2.1, MC.oc h hc r _ (q3 z).2.2⟩⟩
/-- a code is pushed: the class -/
theorem pushC {k43 : Nat → Int32 → Int32 → Int32 → Sg → Option (Int32 × Sg)} {g r d a : Nat} {x : Int32} {σ : Sg} (hg : isGd g = true) (hd : d < 40) : f_X6_holds_b115 k43 (g + 3) (nI r) (nI d) (nI a) x σ = k43 (g + 3) (nI r) (nI (d + 1)) (nI (a + 1)) (sI σ (g + 6) d x) := by
  have e1 : ¬ (40 : Int32) < nI (d + 1) := fun h => by have := (nI_ltL (x := 40) (k := 40) rfl (by omega) (by omega)).mp h; omega
  simp only [f_X6_holds_b115, f_X6_holds_b218, gd, lt, pI, isRu_g hg, if_true, nI_1, if_neg e1, nI_pred, inb_nI hd (show 40 < 2 ^ 31 by omega), nI_clamp (show d < 2 ^ 31 by omega), Nat.add_assoc, Nat.reduceAdd]
theorem l1_0 : ¬ (1 : Int32) = 0 := by decide
theorem l2_0 : ¬ (2 : Int32) = 0 := by decide
theorem l2_1 : ¬ (2 : Int32) = 1 := by decide
theorem clamp0 : (0 : Int32).toNatClampNeg = 0 := by decide
/-- one step of the class -/
theorem holdsC_step {g r d a q l fu : Nat} {σ : Sg} (hg : isGd g = true) (hr : r < 4) (c1 : σ.1 (g + 4) a = clsT q) (he : σ.1 (g + 5) r = nI (a + (l + 1))) (ha : a + (l + 1) ≤ 600) : f_X6_holds_b43 (fu + 1) (g + 3) (nI r) (nI d) (nI a) σ = (br (0 ≤ clsT q) (f_X6_holds_b90 (f_X6_holds_b43 fu) (g + 3) (nI r) (nI d) (nI a) (clsT q) (((-10)) - clsT q)) (br ((((-10)) - clsT q) < 0) (br (clsT q = ((-3))) (br (nI d < 1) (f_X6_holds_b181 (f_X6_holds_b43 fu) (g + 3) (nI r) (nI d) (nI a) (clsT q)) (gd (inb (nI d - 1) 40 = true) (dI (g + 3 + 3) (nI d - 1).toNatClampNeg (fun v9 => br (v9 = 0) (f_X6_holds_b177 (f_X6_holds_b43 fu) (g + 3) (nI r) (nI d) (nI a) 1 (nI d - 1)) (f_X6_holds_b177 (f_X6_holds_b43 fu) (g + 3) (nI r) (nI d) (nI a) 0 (nI d - 1)))))) (f_X6_holds_b181 (f_X6_holds_b43 fu) (g + 3) (nI r) (nI d) (nI a) (clsT q))) (f_X6_holds_b90 (f_X6_holds_b43 fu) (g + 3) (nI r) (nI d) (nI a) (clsT q) (((-10)) - clsT q)))) σ := by
  have n1 : ¬ nI (a + (l + 1)) ≤ nI a := nI_ge (by omega) (by omega)
  have n2 : ¬ (600 : Int32) ≤ nI a := fun z => by have := (nI_leL (x := 600) (k := 600) rfl (by omega) (by omega)).mp z; omega
  rw [f_X6_holds_b43, ex_gd (isRu_g hg), ex_gd (inb_nI hr (by omega)), ex_dI, nI_clamp (show r < 2 ^ 31 by omega), show σ.1 (g + 3 + 2) r = nI (a + (l + 1)) from he, ex_bf n1, ex_bf n2, ex_gd (inb_nI (show a < 600 by omega) (by omega)), ex_dI, nI_clamp (show a < 2 ^ 31 by omega), show σ.1 (g + 3 + 1) a = clsT q from c1]
theorem holdsC_end {g r a fu : Nat} {σ : Sg} (hg : isGd g = true) (hr : r < 4) (he : σ.1 (g + 5) r = nI a) : f_X6_holds_b43 (fu + 1) (g + 3) (nI r) (nI 1) (nI a) σ = if σ.1 (g + 6) 0 = 0 then some (0, σ) else some (1, σ) := by
  have b : ¬ nI 1 < 1 := by decide
  have e : nI 1 - 1 = nI 0 := nI_pred 0
  rw [f_X6_holds_b43, ex_gd (isRu_g hg), ex_gd (inb_nI hr (by omega)), ex_dI, nI_clamp (show r < 2 ^ 31 by omega), show σ.1 (g + 3 + 2) r = nI a from he, ex_bt (Int32.le_refl (nI a)), f_X6_holds_b224, ex_gd (isRu_g hg), ex_bf b, e, ex_gd (inb_nI (show 0 < 40 by omega) (by omega)), ex_dI, nI_clamp (show 0 < 2 ^ 31 by omega)]
  rfl
theorem mayM_end {k fu : Nat} {j : Int32} {h t : Int32} {m : Int32} {τ : Sg} (hk : k < 1600) (hM : τ.1 61 k = 0) : f_X11_mayGo_b24 (fu + 1) j h t m (nI k) τ = if τ.1 72 0 = 0 then some (0, τ) else some (1, τ) := by
  rw [f_X11_mayGo_b24, ex_gd (inb_nI hk (by omega)), ex_dI, nI_clamp (show k < 2 ^ 31 by omega), hM, ex_bt rfl, f_X11_mayGo_b175, ex_dI, clamp0]
  rfl
theorem op_facts {q : Nat} (q1 : q < 10) (q2 : 1 ≤ q) : ¬ 0 ≤ clsT q ∧ (-10) - clsT q < 0 ∧ ¬ nI (opM q) = 0 ∧ ¬ nI (opM q) = 1 ∧ ¬ nI (opM q) = 2 := by
  rcases (by omega : q = 1 ∨ q = 2 ∨ q = 3 ∨ q = 4 ∨ q = 5 ∨ q = 6 ∨ q = 7 ∨ q = 8 ∨ q = 9) with rfl | rfl | rfl | rfl | rfl | rfl | rfl | rfl | rfl <;> decide
theorem op_facts3 {q : Nat} (q1 : q < 10) (q2 : 1 ≤ q) (q3 : ¬ q = 3) : ¬ clsT q = -3 ∧ ¬ nI (opM q) = 3 := by
  rcases (by omega : q = 1 ∨ q = 2 ∨ q = 4 ∨ q = 5 ∨ q = 6 ∨ q = 7 ∨ q = 8 ∨ q = 9) with rfl | rfl | rfl | rfl | rfl | rfl | rfl | rfl <;> decide
theorem val_facts {w : Nat} (h : w < 8) : ¬ 0 ≤ clsT (10 + w) ∧ ¬ (-10) - clsT (10 + w) < 0 ∧ (-10) - clsT (10 + w) = nI w := by
  rcases (by omega : w = 0 ∨ w = 1 ∨ w = 2 ∨ w = 3 ∨ w = 4 ∨ w = 5 ∨ w = 6 ∨ w = 7) with rfl | rfl | rfl | rfl | rfl | rfl | rfl | rfl <;> decide
theorem mayM_read {k fu : Nat} {j h t m v : Int32} {τ : Sg} (hk : k < 1600) (hM : τ.1 61 k = v) (h0 : ¬ v = 0) : f_X11_mayGo_b24 (fu + 1) j h t m (nI k) τ = (br (v = 1) (f_X11_mayGo_b58 (f_X11_mayGo_b24 fu) j h t m (nI k + 1) v) (br (v = 2) (f_X11_mayGo_b58 (f_X11_mayGo_b24 fu) j h t m (nI k + 1) v) (br (v = 3) (gd (inb (m - 1) 800 = true) (dI 72 (m - 1).toNatClampNeg (fun v7 => br (v7 = 0) (f_X11_mayGo_b135 (f_X11_mayGo_b24 fu) j h t m (nI k + 1) 1 (m - 1)) (f_X11_mayGo_b135 (f_X11_mayGo_b24 fu) j h t m (nI k + 1) 0 (m - 1))))) (gd (inb ((m + (-1)) - 1) 800 = true) (dI 72 ((m + (-1)) - 1).toNatClampNeg (fun v9 => gd (inb (m + (-1)) 800 = true) (dI 72 (m + (-1)).toNatClampNeg (fun v10 => cl (f_X11_works v v9 v10) (fun r11 => gd (inb ((m + (-1)) - 1) 800 = true) (pI 72 ((m + (-1)) - 1).toNatClampNeg r11 (f_X11_mayGo_b24 fu j h t (m + (-1)) (nI k + 1))))))))))))  τ := by
  rw [f_X11_mayGo_b24, ex_gd (inb_nI hk (by omega)), ex_dI, nI_clamp (show k < 2 ^ 31 by omega), hM, ex_bf h0, ex_gd (inb_nI hk (by omega)), ex_dI, hM]
theorem mayM_not {k d fu : Nat} {j h t : Int32} {τ : Sg} (hk : k < 1600) (hd : d < 800) (hM : τ.1 61 k = nI (opM 3)) : f_X11_mayGo_b24 (fu + 1) j h t (nI (d + 1)) (nI k) τ = if τ.1 72 d = 0 then f_X11_mayGo_b24 fu j h t (nI (d + 1)) (nI (k + 1)) (sI τ 72 d 1) else f_X11_mayGo_b24 fu j h t (nI (d + 1)) (nI (k + 1)) (sI τ 72 d 0) := by
  obtain ⟨-, -, o0, o1, o2⟩ := op_facts (q := 3) (by omega) (by omega)
  have e : ∀ x : Int32, f_X11_mayGo_b135 (f_X11_mayGo_b24 fu) j h t (nI (d + 1)) (nI (k + 1)) x (nI d) τ = f_X11_mayGo_b24 fu j h t (nI (d + 1)) (nI (k + 1)) (sI τ 72 d x) := fun x => by
    rw [f_X11_mayGo_b135, ex_gd (inb_nI hd (by omega)), ex_pI, nI_clamp (show d < 2 ^ 31 by omega)]
  rw [mayM_read hk hM o0, ex_bf o1, ex_bf o2, ex_bt (show nI (opM 3) = 3 by decide), nI_pred, ex_gd (inb_nI hd (by omega)), ex_dI, nI_clamp (show d < 2 ^ 31 by omega), nI_1]
  by_cases z : τ.1 72 d = 0
  · rw [if_pos z, ex_bt z, e]
  · rw [if_neg z, ex_bf z, e]
theorem mayM_join {k d q fu : Nat} {j h t v : Int32} {τ : Sg} (hk : k < 1600) (hd : d + 1 < 800) (q1 : q < 10) (q2 : 1 ≤ q) (q3 : ¬ q = 3) (hM : τ.1 61 k = nI (opM q)) (hv : f_X11_works (nI (opM q)) (τ.1 72 d) (τ.1 72 (d + 1)) τ = some (v, τ)) : f_X11_mayGo_b24 (fu + 1) j h t (nI (d + 2)) (nI k) τ = f_X11_mayGo_b24 fu j h t (nI (d + 1)) (nI (k + 1)) (sI τ 72 d v) := by
  obtain ⟨-, -, o0, o1, o2⟩ := op_facts q1 q2
  obtain ⟨-, o3⟩ := op_facts3 q1 q2 q3
  have s1 : nI (d + 2) - 1 = nI (d + 1) := nI_pred (d + 1)
  have t1 : nI (d + 2) + (-1) = nI (d + 1) := by rw [← s1]; exact (Int32.sub_eq_add_neg _ _).symm
  have t2 : nI (d + 1) - 1 = nI d := nI_pred d
  rw [mayM_read hk hM o0, ex_bf o1, ex_bf o2, ex_bf o3, t1, t2, ex_gd (inb_nI (show d < 800 by omega) (by omega)), ex_dI, ex_gd (inb_nI hd (by omega)), ex_dI, nI_clamp (show d < 2 ^ 31 by omega), nI_clamp (show d + 1 < 2 ^ 31 by omega), ex_cl hv, ex_gd (inb_nI (show d < 800 by omega) (by omega)), ex_pI, nI_1]
theorem mayM_b94 {fu k d : Nat} {j h t x : Int32} {τ : Sg} (hd : d < 800) : f_X11_mayGo_b94 (f_X11_mayGo_b24 fu) j h t (nI d) (nI (k + 1)) x (nI d) τ = f_X11_mayGo_b24 fu j h t (nI (d + 1)) (nI (k + 2)) (sI τ 72 d x) := by
  rw [f_X11_mayGo_b94, ex_gd (inb_nI hd (by omega)), ex_pI, nI_clamp (show d < 2 ^ 31 by omega), nI_1, nI_1]
theorem mayM_val {k d w fu : Nat} {j : Nat} {h t v : Int32} {τ : Sg} (hk : k + 1 < 1600) (hd : d < 800) (m0 : τ.1 61 k = 2) (m1 : τ.1 61 (k + 1) = nI w) (hv : f_X11_valueOf (nI w) (nI j) h t τ = some (v, τ)) : f_X11_mayGo_b24 (fu + 1) (nI j) h t (nI d) (nI k) τ = f_X11_mayGo_b24 fu (nI j) h t (nI (d + 1)) (nI (k + 2)) (sI τ 72 d v) := by
  rw [mayM_read (show k < 1600 by omega) m0 l2_0, ex_bf l2_1, ex_bt rfl, f_X11_mayGo_b58, ex_bf l2_1, nI_1, ex_gd (inb_nI hk (by omega)), ex_dI, nI_clamp (show k + 1 < 2 ^ 31 by omega), m1, ex_cl hv, mayM_b94 hd]
theorem mayM_num {k d fu : Nat} {j h t v : Int32} {τ : Sg} (hk : k + 1 < 1600) (hd : d < 800) (m0 : τ.1 61 k = 1) (m1 : τ.1 61 (k + 1) = v) : f_X11_mayGo_b24 (fu + 1) j h t (nI d) (nI k) τ = f_X11_mayGo_b24 fu j h t (nI (d + 1)) (nI (k + 2)) (sI τ 72 d v) := by
  rw [mayM_read (show k < 1600 by omega) m0 l1_0, ex_bt rfl, f_X11_mayGo_b58, ex_bt rfl, nI_1, ex_gd (inb_nI hk (by omega)), ex_dI, nI_clamp (show k + 1 < 2 ^ 31 by omega), m1, mayM_b94 hd]
