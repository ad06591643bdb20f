-- ===== fields, arrays, calls, ends =====
/-- a field's link: class ci of vwCl, its field kf, of type ty -/
def FL (own : String) (idx ci kf : Nat) (ty : FieldType) (fin : Bool) : Prop := ∃ (C : String) (T : u_T) (N : Nat) (ty0 : Nat → FieldType), vwCl[ci]? = some (C, T, N) ∧ kf < N ∧ (∀ w ∈ u_ws C T N, w ∈ gT) ∧ Cond.fieldLink own idx (T kf).1 (T kf).2.1 (T kf).2.2.1 ∈ gT ∧ (∀ k, k < N → parseFieldDescriptor (T k).2.2.1 = some (ty0 k)) ∧ (∀ a, a < N → ∀ b, b < N → a ≠ b → (T a).2.1 ≠ (T b).2.1) ∧ ty0 kf = ty ∧ (T kf).2.2.2 = fin
theorem sI_wd {E : En} {σ : Sg} {i ci kf : Nat} {ks : List Nat} {v : Int32} (hq : shp[i]? = some (.inr (ci, ks))) (hk : ks[kf]? = some 0) : (wd E σ).set i (E.1 i, .inr (ci, (ks.mapIdx (fun k kd => fv E σ i k kd)).set kf (.int v))) = wd E (sI σ i kf v) := by
  rw [fvs_set (τ := sI σ i kf v) (fun kd h => by
    rw [hk] at h; cases h
    show Value.int ((rI σ i _).1 i kf) = _
    rw [rI_on]; simp [upd]) (fun j kd hj h => by
    match kd with
    | 0 => show Value.int ((rI σ i _).1 i j) = _; rw [rI_on]; simp [upd, hj, fv]
    | 1 => rfl
    | 2 => rfl
    | d + 3 => rfl)]
  have h9 : cellE E (sI σ i kf v) i (.inr (ci, ks)) = .inr (ci, ks.mapIdx (fun k kd => fv E (sI σ i kf v) i k kd)) := rfl
  rw [← h9]
  exact wd_set (τ := sI σ i kf v) hq (rI_off (f := upd (σ.1 i) kf v))
theorem sL_wd {E : En} {σ : Sg} {i ci kf : Nat} {ks : List Nat} {v : Int64} (hq : shp[i]? = some (.inr (ci, ks))) (hk : ks[kf]? = some 1) : (wd E σ).set i (E.1 i, .inr (ci, (ks.mapIdx (fun k kd => fv E σ i k kd)).set kf (.long v))) = wd E (sL σ i kf v) := by
  rw [fvs_set (τ := sL σ i kf v) (fun kd h => by
    rw [hk] at h; cases h
    show Value.long ((rL σ i _).2.1 i kf) = _
    rw [rL_on]; simp [vp_updL]) (fun j kd hj h => by
    match kd with
    | 0 => rfl
    | 1 => show Value.long ((rL σ i _).2.1 i j) = _; rw [rL_on]; simp [vp_updL, hj, fv]
    | 2 => rfl
    | d + 3 => rfl)]
  have h9 : cellE E (sL σ i kf v) i (.inr (ci, ks)) = .inr (ci, ks.mapIdx (fun k kd => fv E (sL σ i kf v) i k kd)) := rfl
  rw [← h9]
  exact wd_set (τ := sL σ i kf v) hq (rL_off (f := vp_updL (σ.2.1 i) kf v))
theorem sR_wd {E : En} {σ : Sg} {i ci kf v : Nat} {ks : List Nat} (hq : shp[i]? = some (.inr (ci, ks))) (hk : ks[kf]? = some 2) : (wd E σ).set i (E.1 i, .inr (ci, (ks.mapIdx (fun k kd => fv E σ i k kd)).set kf (.ref (E.1 v)))) = wd E (sR σ i kf v) := by
  rw [fvs_set (τ := sR σ i kf v) (fun kd h => by
    rw [hk] at h; cases h
    show Value.ref (E.1 ((rR σ i _).2.2 i kf)) = _
    rw [rR_on]; simp [va_up]) (fun j kd hj h => by
    match kd with
    | 0 => rfl
    | 1 => rfl
    | 2 => show Value.ref (E.1 ((rR σ i _).2.2 i j)) = _; rw [rR_on]; simp [va_up, hj, fv]
    | d + 3 => rfl)]
  have h9 : cellE E (sR σ i kf v) i (.inr (ci, ks)) = .inr (ci, ks.mapIdx (fun k kd => fv E (sR σ i kf v) i k kd)) := rfl
  rw [← h9]
  exact wd_set (τ := sR σ i kf v) hq (rR_off (f := va_up (σ.2.2 i) kf v))
section Heap
variable {ρ : Type} {Γ : Cx} {own : String} {cc : ByteArray} {nL : Nat} {ret : Option FieldType} {h k n pc : Nat} {Q : ρ → State → Prop} {lv lv' : List (Nat × Value)} {st : List Value} {d d1 d2 : Sg → Option ρ}
variable {idx i ci kf : Nat} {ty : FieldType} {fin : Bool} {ks : List Nat}
theorem rz_getI (G : GG Γ own cc nL ret h k n) (F : FL own idx ci kf ty fin) (hq : shp[i]? = some (.inr (ci, ks))) (hk : ks[kf]? = some 0) {d : Int32 → Sg → Option ρ} (hd : decode cc pc = .ok (.getfield idx, 3)) (K : ∀ v, Rz Γ nL Q k n (pc + 3) lv (.int v :: st) (d v)) : Rz Γ nL Q k n pc lv (.ref i :: st) (dI i kf d) := by
  intro σ H locs ls r hr hP hS hl
  obtain ⟨C, T, N, ty0, hc, hkN, hin, hlink, -⟩ := F
  exact va_get (D := (cE Γ).2.1) (ci := ci) (v := .int (σ.1 i kf)) (C := C) (T := T) (N := N) (fs := ks.mapIdx (fun k kd => fv (cE Γ) σ i k kd)) G.1 G.2.1 G.2.2.2.2.1 hin G.2.2.2.1 G.2.2.2.2.2.1 hP i (wd_at hq) hc kf hkN (G.2.2.2.2.1 _ hlink) (fun _ h => h) (fvs_at hk) hd (K _ σ H locs ls r hr hP hS hl)
theorem rz_getL (G : GG Γ own cc nL ret h k n) (F : FL own idx ci kf ty fin) (hq : shp[i]? = some (.inr (ci, ks))) (hk : ks[kf]? = some 1) {d : Int64 → Sg → Option ρ} (hd : decode cc pc = .ok (.getfield idx, 3)) (K : ∀ v, Rz Γ nL Q k n (pc + 3) lv (.long v :: st) (d v)) : Rz Γ nL Q k n pc lv (.ref i :: st) (dL i kf d) := by
  intro σ H locs ls r hr hP hS hl
  obtain ⟨C, T, N, ty0, hc, hkN, hin, hlink, -⟩ := F
  exact va_get (D := (cE Γ).2.1) (ci := ci) (v := .long (σ.2.1 i kf)) (C := C) (T := T) (N := N) (fs := ks.mapIdx (fun k kd => fv (cE Γ) σ i k kd)) G.1 G.2.1 G.2.2.2.2.1 hin G.2.2.2.1 G.2.2.2.2.2.1 hP i (wd_at hq) hc kf hkN (G.2.2.2.2.1 _ hlink) (fun _ h => h) (fvs_at hk) hd (K _ σ H locs ls r hr hP hS hl)
theorem rz_getR (G : GG Γ own cc nL ret h k n) (F : FL own idx ci kf ty fin) (hq : shp[i]? = some (.inr (ci, ks))) (hk : ks[kf]? = some 2) {d : Nat → Sg → Option ρ} (hd : decode cc pc = .ok (.getfield idx, 3)) (K : ∀ v, Rz Γ nL Q k n (pc + 3) lv (.ref v :: st) (d v)) : Rz Γ nL Q k n pc lv (.ref i :: st) (dR i kf d) := by
  intro σ H locs ls r hr hP hS hl
  obtain ⟨C, T, N, ty0, hc, hkN, hin, hlink, -⟩ := F
  exact va_get (D := (cE Γ).2.1) (ci := ci) (v := .ref ((cE Γ).1 (σ.2.2 i kf))) (C := C) (T := T) (N := N) (fs := ks.mapIdx (fun k kd => fv (cE Γ) σ i k kd)) G.1 G.2.1 G.2.2.2.2.1 hin G.2.2.2.1 G.2.2.2.2.2.1 hP i (wd_at hq) hc kf hkN (G.2.2.2.2.1 _ hlink) (fun _ h => h) (fvs_at hk) hd (K _ σ H locs ls r hr hP hS hl)
theorem rz_getC (G : GG Γ own cc nL ret h k n) (F : FL own idx ci kf ty fin) (hq : shp[i]? = some (.inr (ci, ks))) {z t : Nat} (hk : ks[kf]? = some (z + 3)) (ht : i + z = t) (hd : decode cc pc = .ok (.getfield idx, 3)) (K : Rz Γ nL Q k n (pc + 3) lv (.ref t :: st) d) : Rz Γ nL Q k n pc lv (.ref i :: st) d := by
  intro σ H locs ls r hr hP hS hl
  subst ht
  obtain ⟨C, T, N, ty0, hc, hkN, hin, hlink, -⟩ := F
  exact va_get (D := (cE Γ).2.1) (ci := ci) (v := .ref ((cE Γ).1 (i + z))) (C := C) (T := T) (N := N) (fs := ks.mapIdx (fun k kd => fv (cE Γ) σ i k kd)) G.1 G.2.1 G.2.2.2.2.1 hin G.2.2.2.1 G.2.2.2.2.2.1 hP i (wd_at hq) hc kf hkN (G.2.2.2.2.1 _ hlink) (fun _ h => h) (fvs_at hk) hd (K σ H locs ls r hr hP hS hl)
theorem rz_putI (G : GG Γ own cc nL ret h k n) {v : Int32} (F : FL own idx ci kf .int false) (hq : shp[i]? = some (.inr (ci, ks))) (hk : ks[kf]? = some 0) (hd : decode cc pc = .ok (.putfield idx, 3)) (K : Rz Γ nL Q k n (pc + 3) lv st d) : Rz Γ nL Q k n pc lv (.int v :: .ref i :: st) (pI i kf v d) := by
  intro σ H locs ls r hr hP hS hl
  obtain ⟨C, T, N, ty0, hc, hkN, hin, hlink, hty, hnm, het, hfin⟩ := F
  refine va_put (D := (cE Γ).2.1) (ci := ci) (v := .int v) (ty := .int) (C := C) (T := T) (N := N) (fs := ks.mapIdx (fun k kd => fv (cE Γ) σ i k kd)) G.1 G.2.1 G.2.2.2.2.1 hin ty0 hty hnm G.2.2.2.1 G.2.2.2.2.2.1 hP (G.2.2.2.2.2.2.1 σ) hS i (wd_at hq) hc kf hkN (G.2.2.2.2.1 _ hlink) (fun _ h => h) hfin (by rw [hty kf hkN, het]) rfl rfl (by rw [List.length_mapIdx]; exact (List.getElem?_eq_some_iff.mp hk).1) hd (fun H locs hP hD hS => ?_)
  rw [sI_wd hq hk] at hP
  exact K _ H locs ls r hr hP hS hl
theorem rz_putZ (G : GG Γ own cc nL ret h k n) {v : Int32} (hv : v = 0 ∨ v = 1) (F : FL own idx ci kf .boolean false) (hq : shp[i]? = some (.inr (ci, ks))) (hk : ks[kf]? = some 0) (hd : decode cc pc = .ok (.putfield idx, 3)) (K : Rz Γ nL Q k n (pc + 3) lv st d) : Rz Γ nL Q k n pc lv (.int v :: .ref i :: st) (pI i kf v d) := by
  intro σ H locs ls r hr hP hS hl
  obtain ⟨C, T, N, ty0, hc, hkN, hin, hlink, hty, hnm, het, hfin⟩ := F
  refine va_put (D := (cE Γ).2.1) (ci := ci) (v := .int v) (ty := .boolean) (C := C) (T := T) (N := N) (fs := ks.mapIdx (fun k kd => fv (cE Γ) σ i k kd)) G.1 G.2.1 G.2.2.2.2.1 hin ty0 hty hnm G.2.2.2.1 G.2.2.2.2.2.1 hP (G.2.2.2.2.2.2.1 σ) hS i (wd_at hq) hc kf hkN (G.2.2.2.2.1 _ hlink) (fun _ h => h) hfin (by rw [hty kf hkN, het]) (by rcases hv with rfl | rfl <;> rfl) (by rcases hv with rfl | rfl <;> rfl) (by rw [List.length_mapIdx]; exact (List.getElem?_eq_some_iff.mp hk).1) hd (fun H locs hP hD hS => ?_)
  rw [sI_wd hq hk] at hP
  exact K _ H locs ls r hr hP hS hl
theorem rz_putL (G : GG Γ own cc nL ret h k n) {v : Int64} (F : FL own idx ci kf .long false) (hq : shp[i]? = some (.inr (ci, ks))) (hk : ks[kf]? = some 1) (hd : decode cc pc = .ok (.putfield idx, 3)) (K : Rz Γ nL Q k n (pc + 3) lv st d) : Rz Γ nL Q k n pc lv (.long v :: .ref i :: st) (pL i kf v d) := by
  intro σ H locs ls r hr hP hS hl
  obtain ⟨C, T, N, ty0, hc, hkN, hin, hlink, hty, hnm, het, hfin⟩ := F
  refine va_put (D := (cE Γ).2.1) (ci := ci) (v := .long v) (ty := .long) (C := C) (T := T) (N := N) (fs := ks.mapIdx (fun k kd => fv (cE Γ) σ i k kd)) G.1 G.2.1 G.2.2.2.2.1 hin ty0 hty hnm G.2.2.2.1 G.2.2.2.2.2.1 hP (G.2.2.2.2.2.2.1 σ) hS i (wd_at hq) hc kf hkN (G.2.2.2.2.1 _ hlink) (fun _ h => h) hfin (by rw [hty kf hkN, het]) rfl rfl (by rw [List.length_mapIdx]; exact (List.getElem?_eq_some_iff.mp hk).1) hd (fun H locs hP hD hS => ?_)
  rw [sL_wd hq hk] at hP
  exact K _ H locs ls r hr hP hS hl
theorem rz_putR (G : GG Γ own cc nL ret h k n) {v : Nat} {cn : String} (F : FL own idx ci kf (.object cn) false) (hq : shp[i]? = some (.inr (ci, ks))) (hk : ks[kf]? = some 2) (hd : decode cc pc = .ok (.putfield idx, 3)) (K : Rz Γ nL Q k n (pc + 3) lv st d) : Rz Γ nL Q k n pc lv (.ref v :: .ref i :: st) (pR i kf v d) := by
  intro σ H locs ls r hr hP hS hl
  obtain ⟨C, T, N, ty0, hc, hkN, hin, hlink, hty, hnm, het, hfin⟩ := F
  refine va_put (D := (cE Γ).2.1) (ci := ci) (v := .ref ((cE Γ).1 v)) (ty := (.object cn)) (C := C) (T := T) (N := N) (fs := ks.mapIdx (fun k kd => fv (cE Γ) σ i k kd)) G.1 G.2.1 G.2.2.2.2.1 hin ty0 hty hnm G.2.2.2.1 G.2.2.2.2.2.1 hP (G.2.2.2.2.2.2.1 σ) hS i (wd_at hq) hc kf hkN (G.2.2.2.2.1 _ hlink) (fun _ h => h) hfin (by rw [hty kf hkN, het]) rfl rfl (by rw [List.length_mapIdx]; exact (List.getElem?_eq_some_iff.mp hk).1) hd (fun H locs hP hD hS => ?_)
  rw [sR_wd hq hk] at hP
  exact K _ H locs ls r hr hP hS hl
theorem rz_putA (G : GG Γ own cc nL ret h k n) {v : Nat} {cn : FieldType} (F : FL own idx ci kf (.array cn) false) (hq : shp[i]? = some (.inr (ci, ks))) (hk : ks[kf]? = some 2) (hd : decode cc pc = .ok (.putfield idx, 3)) (K : Rz Γ nL Q k n (pc + 3) lv st d) : Rz Γ nL Q k n pc lv (.ref v :: .ref i :: st) (pR i kf v d) := by
  intro σ H locs ls r hr hP hS hl
  obtain ⟨C, T, N, ty0, hc, hkN, hin, hlink, hty, hnm, het, hfin⟩ := F
  refine va_put (D := (cE Γ).2.1) (ci := ci) (v := .ref ((cE Γ).1 v)) (ty := (.array cn)) (C := C) (T := T) (N := N) (fs := ks.mapIdx (fun k kd => fv (cE Γ) σ i k kd)) G.1 G.2.1 G.2.2.2.2.1 hin ty0 hty hnm G.2.2.2.1 G.2.2.2.2.2.1 hP (G.2.2.2.2.2.2.1 σ) hS i (wd_at hq) hc kf hkN (G.2.2.2.2.1 _ hlink) (fun _ h => h) hfin (by rw [hty kf hkN, het]) rfl rfl (by rw [List.length_mapIdx]; exact (List.getElem?_eq_some_iff.mp hk).1) hd (fun H locs hP hD hS => ?_)
  rw [sR_wd hq hk] at hP
  exact K _ H locs ls r hr hP hS hl
theorem row_wd {E : En} {σ : Sg} {i t len : Nat} {f : Nat → Int32} (hq : shp[i]? = some (.inl (t, len))) (ht : t ≠ 3 ∧ t ≠ 4) : (wd E σ).set i (E.1 i, .inl (E.2.2 t, len, .inl f)) = wd E (rI σ i f) := by
  have h9 : cellE E (rI σ i f) i (.inl (t, len)) = .inl (E.2.2 t, len, .inl f) := by
    match t, ht with
    | 0, _ => show Sum.inl (_, _, Sum.inl ((rI σ i f).1 i)) = _; rw [rI_on]
    | 1, _ => show Sum.inl (_, _, Sum.inl ((rI σ i f).1 i)) = _; rw [rI_on]
    | 2, _ => show Sum.inl (_, _, Sum.inl ((rI σ i f).1 i)) = _; rw [rI_on]
    | 3, h => exact absurd rfl h.1
    | 4, h => exact absurd rfl h.2
    | z + 5, _ => show Sum.inl (_, _, Sum.inl ((rI σ i f).1 i)) = _; rw [rI_on]
  rw [← h9]
  exact wd_set hq rI_off
theorem rowL_wd {E : En} {σ : Sg} {i len : Nat} {f : Nat → Int64} (hq : shp[i]? = some (.inl (3, len))) : (wd E σ).set i (E.1 i, .inl (E.2.2 3, len, .inr (.inl f))) = wd E (rL σ i f) := by
  have h9 : cellE E (rL σ i f) i (.inl (3, len)) = .inl (E.2.2 3, len, .inr (.inl f)) := by
    show Sum.inl (_, _, Sum.inr (Sum.inl ((rL σ i f).2.1 i))) = _; rw [rL_on]
  rw [← h9]
  exact wd_set hq rL_off
theorem rz_iald (G : GG Γ own cc nL ret h k n) {x : Int32} {len : Nat} (hq : shp[i]? = some (.inl (0, len))) {d : Int32 → Sg → Option ρ} (hd : decode cc pc = .ok (.iaload, 1)) (K : ∀ v, Rz Γ nL Q k n (pc + 1) lv (.int v :: st) (d v)) : Rz Γ nL Q k n pc lv (.int x :: .ref i :: st) (gd (inb x len = true) (dI i x.toNatClampNeg d)) := by
  refine rz_gd fun hin => ?_
  intro σ H locs ls r hr hP hS hl
  exact va_iald G.1 G.2.1 G.2.2.2.2.2.1 hP i 0 (wd_at hq) rfl (inb_vp hin) hd (K _ σ H locs ls r hr hP hS hl)
theorem rz_ialdN (G : GG Γ own cc nL ret h k n) {x : Int32} {len : Nat} (hin : inb x len = true) (hq : shp[i]? = some (.inl (0, len))) {d : Int32 → Sg → Option ρ} (hd : decode cc pc = .ok (.iaload, 1)) (K : ∀ v, Rz Γ nL Q k n (pc + 1) lv (.int v :: st) (d v)) : Rz Γ nL Q k n pc lv (.int x :: .ref i :: st) (dI i x.toNatClampNeg d) := by
  intro σ H locs ls r hr hP hS hl
  exact va_iald G.1 G.2.1 G.2.2.2.2.2.1 hP i 0 (wd_at hq) rfl (inb_vp hin) hd (K _ σ H locs ls r hr hP hS hl)
theorem rz_bald (G : GG Γ own cc nL ret h k n) {x : Int32} {len : Nat} (hq : shp[i]? = some (.inl (1, len))) {d : Int32 → Sg → Option ρ} (hd : decode cc pc = .ok (.baload, 1)) (K : ∀ v, Rz Γ nL Q k n (pc + 1) lv (.int v :: st) (d v)) : Rz Γ nL Q k n pc lv (.int x :: .ref i :: st) (gd (inb x len = true) (dI i x.toNatClampNeg d)) := by
  refine rz_gd fun hin => ?_
  intro σ H locs ls r hr hP hS hl
  exact va_bald G.1 G.2.1 G.2.2.2.2.2.1 hP i 1 (wd_at hq) rfl (inb_vp hin) hd (K _ σ H locs ls r hr hP hS hl)
theorem rz_baldN (G : GG Γ own cc nL ret h k n) {x : Int32} {len : Nat} (hin : inb x len = true) (hq : shp[i]? = some (.inl (1, len))) {d : Int32 → Sg → Option ρ} (hd : decode cc pc = .ok (.baload, 1)) (K : ∀ v, Rz Γ nL Q k n (pc + 1) lv (.int v :: st) (d v)) : Rz Γ nL Q k n pc lv (.int x :: .ref i :: st) (dI i x.toNatClampNeg d) := by
  intro σ H locs ls r hr hP hS hl
  exact va_bald G.1 G.2.1 G.2.2.2.2.2.1 hP i 1 (wd_at hq) rfl (inb_vp hin) hd (K _ σ H locs ls r hr hP hS hl)
theorem rz_zald (G : GG Γ own cc nL ret h k n) {x : Int32} {len : Nat} (hq : shp[i]? = some (.inl (2, len))) {d : Int32 → Sg → Option ρ} (hd : decode cc pc = .ok (.baload, 1)) (K : ∀ v, Rz Γ nL Q k n (pc + 1) lv (.int v :: st) (d v)) : Rz Γ nL Q k n pc lv (.int x :: .ref i :: st) (gd (inb x len = true) (dI i x.toNatClampNeg d)) := by
  refine rz_gd fun hin => ?_
  intro σ H locs ls r hr hP hS hl
  exact va_zald G.1 G.2.1 G.2.2.2.2.2.1 hP i 2 (wd_at hq) rfl (inb_vp hin) hd (K _ σ H locs ls r hr hP hS hl)
theorem rz_zaldN (G : GG Γ own cc nL ret h k n) {x : Int32} {len : Nat} (hin : inb x len = true) (hq : shp[i]? = some (.inl (2, len))) {d : Int32 → Sg → Option ρ} (hd : decode cc pc = .ok (.baload, 1)) (K : ∀ v, Rz Γ nL Q k n (pc + 1) lv (.int v :: st) (d v)) : Rz Γ nL Q k n pc lv (.int x :: .ref i :: st) (dI i x.toNatClampNeg d) := by
  intro σ H locs ls r hr hP hS hl
  exact va_zald G.1 G.2.1 G.2.2.2.2.2.1 hP i 2 (wd_at hq) rfl (inb_vp hin) hd (K _ σ H locs ls r hr hP hS hl)
theorem rz_lald (G : GG Γ own cc nL ret h k n) {x : Int32} {len : Nat} (hq : shp[i]? = some (.inl (3, len))) {d : Int64 → Sg → Option ρ} (hd : decode cc pc = .ok (.laload, 1)) (K : ∀ v, Rz Γ nL Q k n (pc + 1) lv (.long v :: st) (d v)) : Rz Γ nL Q k n pc lv (.int x :: .ref i :: st) (gd (inb x len = true) (dL i x.toNatClampNeg d)) := by
  refine rz_gd fun hin => ?_
  intro σ H locs ls r hr hP hS hl
  exact va_lald G.1 G.2.1 G.2.2.2.2.2.1 hP i 3 (wd_at hq) rfl (inb_vp hin) hd (K _ σ H locs ls r hr hP hS hl)
theorem rz_laldN (G : GG Γ own cc nL ret h k n) {x : Int32} {len : Nat} (hin : inb x len = true) (hq : shp[i]? = some (.inl (3, len))) {d : Int64 → Sg → Option ρ} (hd : decode cc pc = .ok (.laload, 1)) (K : ∀ v, Rz Γ nL Q k n (pc + 1) lv (.long v :: st) (d v)) : Rz Γ nL Q k n pc lv (.int x :: .ref i :: st) (dL i x.toNatClampNeg d) := by
  intro σ H locs ls r hr hP hS hl
  exact va_lald G.1 G.2.1 G.2.2.2.2.2.1 hP i 3 (wd_at hq) rfl (inb_vp hin) hd (K _ σ H locs ls r hr hP hS hl)
theorem rz_iast (G : GG Γ own cc nL ret h k n) {x : Int32} {v : Int32} {len : Nat} (hq : shp[i]? = some (.inl (0, len))) (hd : decode cc pc = .ok (.iastore, 1)) (K : Rz Γ nL Q k n (pc + 1) lv st d) : Rz Γ nL Q k n pc lv (.int v :: .int x :: .ref i :: st) (gd (inb x len = true) (pI i x.toNatClampNeg v d)) := by
  refine rz_gd fun hin => ?_
  intro σ H locs ls r hr hP hS hl
  refine va_iast G.1 G.2.1 G.2.2.2.2.2.1 hP (G.2.2.2.2.2.2.1 σ) hS i 0 (wd_at hq) rfl (inb_vp hin) hd (fun H locs hP hD hS => ?_)
  rw [row_wd hq (by decide)] at hP
  exact K _ H locs ls r hr hP hS hl
theorem rz_iastN (G : GG Γ own cc nL ret h k n) {x : Int32} {v : Int32} {len : Nat} (hin : inb x len = true) (hq : shp[i]? = some (.inl (0, len))) (hd : decode cc pc = .ok (.iastore, 1)) (K : Rz Γ nL Q k n (pc + 1) lv st d) : Rz Γ nL Q k n pc lv (.int v :: .int x :: .ref i :: st) (pI i x.toNatClampNeg v d) := by
  intro σ H locs ls r hr hP hS hl
  refine va_iast G.1 G.2.1 G.2.2.2.2.2.1 hP (G.2.2.2.2.2.2.1 σ) hS i 0 (wd_at hq) rfl (inb_vp hin) hd (fun H locs hP hD hS => ?_)
  rw [row_wd hq (by decide)] at hP
  exact K _ H locs ls r hr hP hS hl
theorem rz_bast (G : GG Γ own cc nL ret h k n) {x : Int32} {v : Int32} {len : Nat} (hq : shp[i]? = some (.inl (1, len))) (hd : decode cc pc = .ok (.bastore, 1)) (K : Rz Γ nL Q k n (pc + 1) lv st d) : Rz Γ nL Q k n pc lv (.int v :: .int x :: .ref i :: st) (gd (inb x len = true) (pI i x.toNatClampNeg (vp_nar .byte v) d)) := by
  refine rz_gd fun hin => ?_
  intro σ H locs ls r hr hP hS hl
  refine va_bast G.1 G.2.1 G.2.2.2.2.2.1 hP (G.2.2.2.2.2.2.1 σ) hS i 1 (wd_at hq) rfl (inb_vp hin) hd (fun H locs hP hD hS => ?_)
  rw [row_wd hq (by decide)] at hP
  exact K _ H locs ls r hr hP hS hl
theorem rz_bastN (G : GG Γ own cc nL ret h k n) {x : Int32} {v : Int32} {len : Nat} (hin : inb x len = true) (hq : shp[i]? = some (.inl (1, len))) (hd : decode cc pc = .ok (.bastore, 1)) (K : Rz Γ nL Q k n (pc + 1) lv st d) : Rz Γ nL Q k n pc lv (.int v :: .int x :: .ref i :: st) (pI i x.toNatClampNeg (vp_nar .byte v) d) := by
  intro σ H locs ls r hr hP hS hl
  refine va_bast G.1 G.2.1 G.2.2.2.2.2.1 hP (G.2.2.2.2.2.2.1 σ) hS i 1 (wd_at hq) rfl (inb_vp hin) hd (fun H locs hP hD hS => ?_)
  rw [row_wd hq (by decide)] at hP
  exact K _ H locs ls r hr hP hS hl
theorem rz_zast (G : GG Γ own cc nL ret h k n) {x : Int32} {v : Int32} {len : Nat} (hq : shp[i]? = some (.inl (2, len))) (hd : decode cc pc = .ok (.bastore, 1)) (K : Rz Γ nL Q k n (pc + 1) lv st d) : Rz Γ nL Q k n pc lv (.int v :: .int x :: .ref i :: st) (gd (inb x len = true) (pI i x.toNatClampNeg (vp_nar .boolean v) d)) := by
  refine rz_gd fun hin => ?_
  intro σ H locs ls r hr hP hS hl
  refine va_zast G.1 G.2.1 G.2.2.2.2.2.1 hP (G.2.2.2.2.2.2.1 σ) hS i 2 (wd_at hq) rfl (inb_vp hin) hd (fun H locs hP hD hS => ?_)
  rw [row_wd hq (by decide)] at hP
  exact K _ H locs ls r hr hP hS hl
theorem rz_zastN (G : GG Γ own cc nL ret h k n) {x : Int32} {v : Int32} {len : Nat} (hin : inb x len = true) (hq : shp[i]? = some (.inl (2, len))) (hd : decode cc pc = .ok (.bastore, 1)) (K : Rz Γ nL Q k n (pc + 1) lv st d) : Rz Γ nL Q k n pc lv (.int v :: .int x :: .ref i :: st) (pI i x.toNatClampNeg (vp_nar .boolean v) d) := by
  intro σ H locs ls r hr hP hS hl
  refine va_zast G.1 G.2.1 G.2.2.2.2.2.1 hP (G.2.2.2.2.2.2.1 σ) hS i 2 (wd_at hq) rfl (inb_vp hin) hd (fun H locs hP hD hS => ?_)
  rw [row_wd hq (by decide)] at hP
  exact K _ H locs ls r hr hP hS hl
theorem rz_last (G : GG Γ own cc nL ret h k n) {x : Int32} {v : Int64} {len : Nat} (hq : shp[i]? = some (.inl (3, len))) (hd : decode cc pc = .ok (.lastore, 1)) (K : Rz Γ nL Q k n (pc + 1) lv st d) : Rz Γ nL Q k n pc lv (.long v :: .int x :: .ref i :: st) (gd (inb x len = true) (pL i x.toNatClampNeg v d)) := by
  refine rz_gd fun hin => ?_
  intro σ H locs ls r hr hP hS hl
  refine va_last G.1 G.2.1 G.2.2.2.2.2.1 hP (G.2.2.2.2.2.2.1 σ) hS i 3 (wd_at hq) rfl (inb_vp hin) hd (fun H locs hP hD hS => ?_)
  rw [rowL_wd hq] at hP
  exact K _ H locs ls r hr hP hS hl
theorem rz_lastN (G : GG Γ own cc nL ret h k n) {x : Int32} {v : Int64} {len : Nat} (hin : inb x len = true) (hq : shp[i]? = some (.inl (3, len))) (hd : decode cc pc = .ok (.lastore, 1)) (K : Rz Γ nL Q k n (pc + 1) lv st d) : Rz Γ nL Q k n pc lv (.long v :: .int x :: .ref i :: st) (pL i x.toNatClampNeg v d) := by
  intro σ H locs ls r hr hP hS hl
  refine va_last G.1 G.2.1 G.2.2.2.2.2.1 hP (G.2.2.2.2.2.2.1 σ) hS i 3 (wd_at hq) rfl (inb_vp hin) hd (fun H locs hP hD hS => ?_)
  rw [rowL_wd hq] at hP
  exact K _ H locs ls r hr hP hS hl
theorem rz_aald (G : GG Γ own cc nL ret h k n) {x : Int32} {len : Nat} (hq : shp[i]? = some (.inl (4, len))) (hd : decode cc pc = .ok (.aaload, 1)) (K : Rz Γ nL Q k n (pc + 1) lv (.ref (i + 1 + 2 * x.toNatClampNeg) :: st) d) : Rz Γ nL Q k n pc lv (.int x :: .ref i :: st) (gd (inb x len = true) d) := by
  refine rz_gd fun hin => ?_
  intro σ H locs ls r hr hP hS hl
  exact va_aldq (C := "TrampolineMat$Flyer") G.1 G.2.1 G.2.2.2.2.2.1 hP i 4 (wd_at hq) rfl (inb_vp hin) hd (K σ H locs ls r hr hP hS hl)
theorem rz_alen (G : GG Γ own cc nL ret h k n) {t len : Nat} {v : Int32} (hq : shp[i]? = some (.inl (t, len))) (ht : t < 5) (hv : Int32.ofNat len = v) (hd : decode cc pc = .ok (.arraylength, 1)) (K : Rz Γ nL Q k n (pc + 1) lv (.int v :: st) d) : Rz Γ nL Q k n pc lv (.ref i :: st) d := by
  intro σ H locs ls r hr hP hS hl
  match t, ht with
  | 0, _ => exact va_alen (ty := .int) G.1 G.2.1 G.2.2.2.2.2.1 hP i 0 (wd_at hq) rfl hv hd (K σ H locs ls r hr hP hS hl)
  | 1, _ => exact va_alen (ty := .byte) G.1 G.2.1 G.2.2.2.2.2.1 hP i 1 (wd_at hq) rfl hv hd (K σ H locs ls r hr hP hS hl)
  | 2, _ => exact va_alen (ty := .boolean) G.1 G.2.1 G.2.2.2.2.2.1 hP i 2 (wd_at hq) rfl hv hd (K σ H locs ls r hr hP hS hl)
  | 3, _ => exact va_alen (ty := .long) G.1 G.2.1 G.2.2.2.2.2.1 hP i 3 (wd_at hq) rfl hv hd (K σ H locs ls r hr hP hS hl)
  | 4, _ => exact va_alen (ty := .object "TrampolineMat$Flyer") G.1 G.2.1 G.2.2.2.2.2.1 hP i 4 (wd_at hq) rfl hv hd (K σ H locs ls r hr hP hS hl)
theorem rz_mmax (G : GG Γ own cc nL ret h k n) {x y : Int32} (w : Cond.methodLink own idx Lib.Math.max.name ∈ gT ∧ Cond.static Lib.Math.max.name ∈ gT ∧ Cond.initialized "java/lang/Math" ∈ gT ∧ Cond.code Lib.Math.max.name Lib.Math.max.code 2 (some .int) ∈ gT) (hh : 1 ≤ h) (hs : (st.map (fun v => v.category)).sum ≤ 8) (hd : decode cc pc = .ok (.invokestatic idx, 3)) (K : Rz Γ nL Q k n (pc + 3) lv (.int (if x < y then y else x) :: st) d) : Rz Γ nL Q k n pc lv (.int y :: .int x :: st) d := by
  intro σ H locs ls r hr hP hS hl
  obtain ⟨g1, g2, g3, g4, g5, g6, g7, g8, g9, g10, g11, g12, g13, g14⟩ := G
  refine va_mmax g1 g2 (g3.trans hl.1.symm) g4 (g5 _ w.1) (g5 _ w.2.1) (g5 _ w.2.2.1) (g5 _ w.2.2.2) (by omega) ?_ g13 g14 hd (K σ H locs ls r hr hP hS hl)
  rw [List.map_map, show ((fun v => v.category) ∘ cv (cE Γ)) = (fun v => v.category) from funext (fun v => cv_cat _ v)]
  omega
theorem rz_mmin (G : GG Γ own cc nL ret h k n) {x y : Int32} (w : Cond.methodLink own idx Lib.Math.min.name ∈ gT ∧ Cond.static Lib.Math.min.name ∈ gT ∧ Cond.initialized "java/lang/Math" ∈ gT ∧ Cond.code Lib.Math.min.name Lib.Math.min.code 2 (some .int) ∈ gT) (hh : 1 ≤ h) (hs : (st.map (fun v => v.category)).sum ≤ 8) (hd : decode cc pc = .ok (.invokestatic idx, 3)) (K : Rz Γ nL Q k n (pc + 3) lv (.int (if y < x then y else x) :: st) d) : Rz Γ nL Q k n pc lv (.int y :: .int x :: st) d := by
  intro σ H locs ls r hr hP hS hl
  obtain ⟨g1, g2, g3, g4, g5, g6, g7, g8, g9, g10, g11, g12, g13, g14⟩ := G
  refine va_mmin g1 g2 (g3.trans hl.1.symm) g4 (g5 _ w.1) (g5 _ w.2.1) (g5 _ w.2.2.1) (g5 _ w.2.2.2) (by omega) ?_ g13 g14 hd (K σ H locs ls r hr hP hS hl)
  rw [List.map_map, show ((fun v => v.category) ∘ cv (cE Γ)) = (fun v => v.category) from funext (fun v => cv_cat _ v)]
  omega
theorem rz_mabs (G : GG Γ own cc nL ret h k n) {x : Int32} (w : Cond.methodLink own idx Lib.Math.abs.name ∈ gT ∧ Cond.static Lib.Math.abs.name ∈ gT ∧ Cond.initialized "java/lang/Math" ∈ gT ∧ Cond.code Lib.Math.abs.name Lib.Math.abs.code 1 (some .int) ∈ gT) (hh : 1 ≤ h) (hs : (st.map (fun v => v.category)).sum ≤ 8) (hd : decode cc pc = .ok (.invokestatic idx, 3)) (K : Rz Γ nL Q k n (pc + 3) lv (.int (if 0 ≤ x then x else 0 - x) :: st) d) : Rz Γ nL Q k n pc lv (.int x :: st) d := by
  intro σ H locs ls r hr hP hS hl
  obtain ⟨g1, g2, g3, g4, g5, g6, g7, g8, g9, g10, g11, g12, g13, g14⟩ := G
  refine va_mabs g1 g2 (g3.trans hl.1.symm) g4 (g5 _ w.1) (g5 _ w.2.1) (g5 _ w.2.2.1) (g5 _ w.2.2.2) (by omega) ?_ g13 g14 hd (K σ H locs ls r hr hP hS hl)
  rw [List.map_map, show ((fun v => v.category) ∘ cv (cE Γ)) = (fun v => v.category) from funext (fun v => cv_cat _ v)]
  omega
theorem rz_copyi (G : GG Γ own cc nL ret h k n) {j n0 n1 : Nat} {sp dp m : Int32} (a b e : Nat) (w : Cond.methodLink own idx arraycopyName ∈ gT ∧ Cond.native arraycopyName ∈ gT ∧ Cond.static arraycopyName ∈ gT ∧ Cond.initialized "java/lang/System" ∈ gT) (hq0 : shp[j]? = some (.inl (0, n0))) (hq1 : shp[i]? = some (.inl (0, n1)))
    (h1 : ¬ sp < 0 ∧ ¬ dp < 0 ∧ ¬ m < 0) (h2 : sp.toNatClampNeg = a ∧ dp.toNatClampNeg = b ∧ m.toNatClampNeg = e) (h4 : a + e ≤ n0 ∧ b + e ≤ n1) (hh : 1 ≤ h) (hs : (st.map (fun v => v.category)).sum ≤ 8) (hd : decode cc pc = .ok (.invokestatic idx, 3)) (K : Rz Γ nL Q k n (pc + 3) lv st d) : Rz Γ nL Q k n pc lv (.int m :: .int dp :: .ref i :: .int sp :: .ref j :: st) (wI i (fun σ => va_cpy (σ.1 j) (σ.1 i) a b e) d) := by
  intro σ H locs ls r hr hP hS hl
  obtain ⟨g1, g2, g3, g4, g5, g6, g7, g8, g9, g10, g11, g12, g13, g14⟩ := G
  obtain ⟨rfl, rfl, rfl⟩ := h2
  refine va_copyi g1 g2 (g3.trans hl.1.symm) g4 (g5 _ w.1) (g5 _ w.2.1) (g5 _ w.2.2.1) (g5 _ w.2.2.2) g6 hP (g7 σ) hS j i 0 0 (wd_at hq0) (wd_at hq1) rfl rfl rfl h1.1 h1.2.1 h1.2.2 h4.1 h4.2 (fun _ _ => rfl) (by omega) ?_ hd (fun H locs hP hD hS => ?_)
  · rw [List.map_map, show ((fun v => v.category) ∘ cv (cE Γ)) = (fun v => v.category) from funext (fun v => cv_cat _ v)]
    exact Nat.le_trans (Nat.add_le_add_right hs _) (Nat.le_trans (Nat.le_of_ble_eq_true rfl : 8 + (nativeFrameWords "java/lang/System" "arraycopy" 5 + 11) ≤ 40) (by omega))
  · rw [row_wd hq1 (by decide)] at hP
    exact K _ H locs ls r hr hP hS hl
theorem rz_copyl (G : GG Γ own cc nL ret h k n) {j n0 n1 : Nat} {sp dp m : Int32} (a b e : Nat) (w : Cond.methodLink own idx arraycopyName ∈ gT ∧ Cond.native arraycopyName ∈ gT ∧ Cond.static arraycopyName ∈ gT ∧ Cond.initialized "java/lang/System" ∈ gT) (hq0 : shp[j]? = some (.inl (3, n0))) (hq1 : shp[i]? = some (.inl (3, n1)))
    (h1 : ¬ sp < 0 ∧ ¬ dp < 0 ∧ ¬ m < 0) (h2 : sp.toNatClampNeg = a ∧ dp.toNatClampNeg = b ∧ m.toNatClampNeg = e) (h4 : a + e ≤ n0 ∧ b + e ≤ n1) (hh : 1 ≤ h) (hs : (st.map (fun v => v.category)).sum ≤ 8) (hd : decode cc pc = .ok (.invokestatic idx, 3)) (K : Rz Γ nL Q k n (pc + 3) lv st d) : Rz Γ nL Q k n pc lv (.int m :: .int dp :: .ref i :: .int sp :: .ref j :: st) (wL i (fun σ => va_cpy (σ.2.1 j) (σ.2.1 i) a b e) d) := by
  intro σ H locs ls r hr hP hS hl
  obtain ⟨g1, g2, g3, g4, g5, g6, g7, g8, g9, g10, g11, g12, g13, g14⟩ := G
  obtain ⟨rfl, rfl, rfl⟩ := h2
  refine va_copyl g1 g2 (g3.trans hl.1.symm) g4 (g5 _ w.1) (g5 _ w.2.1) (g5 _ w.2.2.1) (g5 _ w.2.2.2) g6 hP (g7 σ) hS j i 3 3 (wd_at hq0) (wd_at hq1) rfl rfl rfl h1.1 h1.2.1 h1.2.2 h4.1 h4.2 (fun _ _ => rfl) (by omega) ?_ hd (fun H locs hP hD hS => ?_)
  · rw [List.map_map, show ((fun v => v.category) ∘ cv (cE Γ)) = (fun v => v.category) from funext (fun v => cv_cat _ v)]
    exact Nat.le_trans (Nat.add_le_add_right hs _) (Nat.le_trans (Nat.le_of_ble_eq_true rfl : 8 + (nativeFrameWords "java/lang/System" "arraycopy" 5 + 11) ≤ 40) (by omega))
  · rw [rowL_wd hq1] at hP
    exact K _ H locs ls r hr hP hS hl
end Heap
