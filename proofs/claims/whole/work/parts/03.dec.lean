section Dec
variable {b : ByteArray} {pc : Nat} {x y z : UInt8}
theorem dc_u1 {ε : Type} [Jvm.ClassFile.HasTruncated ε] (hx : b.data.toList[pc]? = some x) : (Jvm.ClassFile.Reader.u1 : Jvm.ClassFile.Reader ε Nat) b pc = .ok (x.toNat, pc + 1) := by
  have h1 : pc < b.data.toList.length := (List.getElem?_eq_some_iff.mp hx).1
  have h2 : pc < b.size := by rw [show b.size = b.data.size from rfl, ← Array.length_toList]; exact h1
  have h3 : b[pc] = x := by
    have h4 := (List.getElem?_eq_some_iff.mp hx).2
    rw [← h4]; rfl
  have e : (Jvm.ClassFile.Reader.u1 : Jvm.ClassFile.Reader ε Nat) b pc = (dite (pc < b.size) (fun h => (do set (pc + 1); Pure.pure b[pc].toNat : Jvm.ClassFile.Reader ε Nat)) (fun _ => throw (Jvm.ClassFile.HasTruncated.truncated pc))) b pc := rfl
  rw [e, dif_pos h2]
  show Except.ok (b[pc].toNat, pc + 1) = _
  rw [h3]
theorem dc_0 {ins : Instr} {k : Nat} (f : Nat → Jvm.ClassFile.Decoder Instr) (hf : Jvm.ClassFile.Decoder.instr pc = (do let v ← Jvm.ClassFile.Reader.u1; f v)) (hx : b.data.toList[pc]? = some x) (h : f x.toNat b (pc + 1) = .ok (ins, pc + k)) : decode b pc = .ok (ins, k) := by
  have h1 : Jvm.ClassFile.Decoder.instr pc b pc = .ok (ins, pc + k) := by
    rw [hf]
    show (Jvm.ClassFile.Reader.u1 b pc >>= fun (v, p) => f v b p) = _
    rw [dc_u1 hx]
    exact h
  show (Jvm.ClassFile.Decoder.instr pc b pc >>= fun (v, p) => Except.ok (v, p - pc)) = _
  rw [h1]
  show Except.ok (ins, pc + k - pc) = _
  rw [Nat.add_sub_cancel_left]
theorem dc_m {α β : Type} {v : α} {p p' : Nat} (q : Jvm.ClassFile.Decoder α) (g : α → β) (hr : q b p = .ok (v, p')) : ((do let v ← q; Pure.pure (g v)) : Jvm.ClassFile.Decoder β) b p = .ok (g v, p') := by
  show (q b p >>= fun (v, p) => Except.ok (g v, p)) = _
  rw [hr]; rfl
theorem dc_mm {α β : Type} {v : α} {p p' : Nat} (q : Jvm.ClassFile.Decoder α) (g : α → β) (hr : q b p = .ok (v, p')) : (g <$> q : Jvm.ClassFile.Decoder β) b p = .ok (g v, p') := by
  show (q b p >>= fun (v, p) => Except.ok (g v, p)) = _
  rw [hr]; rfl
theorem dc_s1 (hx : b.data.toList[pc]? = some x) : (Jvm.ClassFile.Reader.s1 : Jvm.ClassFile.Decoder Int) b pc = .ok (Jvm.ClassFile.Reader.signed 8 x.toNat, pc + 1) := dc_mm _ _ (dc_u1 hx)
theorem dc_u2 (hx : b.data.toList[pc]? = some x) (hy : b.data.toList[pc + 1]? = some y) : (Jvm.ClassFile.Reader.u2 : Jvm.ClassFile.Decoder Nat) b pc = .ok (x.toNat * 256 + y.toNat, pc + 2) := by
  show ((Jvm.ClassFile.Reader.u1 : Jvm.ClassFile.Decoder Nat) b pc >>= fun (v, p) => ((Jvm.ClassFile.Reader.u1 : Jvm.ClassFile.Decoder Nat) b p >>= fun (w, q) => Except.ok (v * 256 + w, q))) = _
  rw [dc_u1 hx]
  show ((Jvm.ClassFile.Reader.u1 : Jvm.ClassFile.Decoder Nat) b (pc + 1) >>= fun (w, q) => Except.ok (x.toNat * 256 + w, q)) = _
  rw [dc_u1 hy]
  rfl
theorem dc_s2 (hx : b.data.toList[pc]? = some x) (hy : b.data.toList[pc + 1]? = some y) : (Jvm.ClassFile.Reader.s2 : Jvm.ClassFile.Decoder Int) b pc = .ok (Jvm.ClassFile.Reader.signed 16 (x.toNat * 256 + y.toNat), pc + 2) := dc_mm _ _ (dc_u2 hx hy)
/-- what the bytes from pc on must be -/
abbrev Dc1 (q : Nat × Instr) : Prop := ∀ {b : ByteArray} {pc : Nat} {x : UInt8}, b.data.toList[pc]? = some x → x.toNat = q.1 → decode b pc = .ok (q.2, 1)
abbrev Dc2 (q : Nat × (Nat → Instr)) : Prop := ∀ {b : ByteArray} {pc : Nat} {x y : UInt8}, b.data.toList[pc]? = some x → b.data.toList[pc + 1]? = some y → x.toNat = q.1 → decode b pc = .ok (q.2 y.toNat, 2)
abbrev Dc3 (q : Nat × (Nat → Nat → Instr)) : Prop := ∀ {b : ByteArray} {pc : Nat} {x y z : UInt8}, b.data.toList[pc]? = some x → b.data.toList[pc + 1]? = some y → b.data.toList[pc + 2]? = some z → x.toNat = q.1 → decode b pc = .ok (q.2 y.toNat z.toNat, 3)
def ops1 : List (Nat × Instr) := [(2, .iconst (-1)), (3, .iconst 0), (4, .iconst 1), (5, .iconst 2), (6, .iconst 3), (7, .iconst 4), (8, .iconst 5), (9, .lconst 0), (10, .lconst 1), (26, .iload_n 0), (27, .iload_n 1), (28, .iload_n 2), (29, .iload_n 3), (30, .lload_n 0), (31, .lload_n 1), (32, .lload_n 2), (33, .lload_n 3), (42, .aload_n 0), (43, .aload_n 1), (44, .aload_n 2), (45, .aload_n 3), (46, .iaload), (47, .laload), (50, .aaload), (51, .baload), (59, .istore_n 0), (60, .istore_n 1), (61, .istore_n 2), (62, .istore_n 3), (63, .lstore_n 0), (64, .lstore_n 1), (65, .lstore_n 2), (66, .lstore_n 3), (75, .astore_n 0), (76, .astore_n 1), (77, .astore_n 2), (78, .astore_n 3), (79, .iastore), (80, .lastore), (83, .aastore), (84, .bastore), (87, .pop), (89, .dup), (92, .dup2), (96, .iadd), (97, .ladd), (100, .isub), (101, .lsub), (104, .imul), (105, .lmul), (108, .idiv), (109, .ldiv), (112, .irem), (113, .lrem), (116, .ineg), (120, .ishl), (121, .lshl), (122, .ishr), (124, .iushr), (126, .iand), (128, .ior), (129, .lor), (130, .ixor), (133, .i2l), (145, .i2b), (146, .i2c), (148, .lcmp), (172, .ireturn), (173, .lreturn), (176, .areturn), (177, .return_), (190, .arraylength), (191, .athrow)]
def ops2 : List (Nat × (Nat → Instr)) := [(16, (fun v => .bipush (Jvm.ClassFile.Reader.signed 8 v))), (18, (fun v => .ldc v)), (21, (fun v => .iload v)), (22, (fun v => .lload v)), (25, (fun v => .aload v)), (54, (fun v => .istore v)), (55, (fun v => .lstore v)), (58, (fun v => .astore v))]
def ops3 : List (Nat × (Nat → Nat → Instr)) := [(17, (fun v w => .sipush (Jvm.ClassFile.Reader.signed 16 (v * 256 + w)))), (19, (fun v w => .ldc_w (v * 256 + w))), (20, (fun v w => .ldc2_w (v * 256 + w))), (153, (fun v w => .ifCond .eq (Jvm.ClassFile.Reader.signed 16 (v * 256 + w)))), (154, (fun v w => .ifCond .ne (Jvm.ClassFile.Reader.signed 16 (v * 256 + w)))), (155, (fun v w => .ifCond .lt (Jvm.ClassFile.Reader.signed 16 (v * 256 + w)))), (156, (fun v w => .ifCond .ge (Jvm.ClassFile.Reader.signed 16 (v * 256 + w)))), (157, (fun v w => .ifCond .gt (Jvm.ClassFile.Reader.signed 16 (v * 256 + w)))), (158, (fun v w => .ifCond .le (Jvm.ClassFile.Reader.signed 16 (v * 256 + w)))), (159, (fun v w => .if_icmp .eq (Jvm.ClassFile.Reader.signed 16 (v * 256 + w)))), (160, (fun v w => .if_icmp .ne (Jvm.ClassFile.Reader.signed 16 (v * 256 + w)))), (161, (fun v w => .if_icmp .lt (Jvm.ClassFile.Reader.signed 16 (v * 256 + w)))), (162, (fun v w => .if_icmp .ge (Jvm.ClassFile.Reader.signed 16 (v * 256 + w)))), (163, (fun v w => .if_icmp .gt (Jvm.ClassFile.Reader.signed 16 (v * 256 + w)))), (164, (fun v w => .if_icmp .le (Jvm.ClassFile.Reader.signed 16 (v * 256 + w)))), (167, (fun v w => .goto (Jvm.ClassFile.Reader.signed 16 (v * 256 + w)))), (178, (fun v w => .getstatic (v * 256 + w))), (180, (fun v w => .getfield (v * 256 + w))), (181, (fun v w => .putfield (v * 256 + w))), (182, (fun v w => .invokevirtual (v * 256 + w))), (183, (fun v w => .invokespecial (v * 256 + w))), (184, (fun v w => .invokestatic (v * 256 + w))), (187, (fun v w => .new (v * 256 + w))), (189, (fun v w => .anewarray (v * 256 + w))), (132, fun v w => .iinc v (Jvm.ClassFile.Reader.signed 8 w))]
set_option maxRecDepth 20000 in
theorem o1_2 : Dc1 (2, .iconst (-1)) := fun {b pc x} hx e => by
  have e2 : x = 2 := UInt8.toNat_inj.mp e
  subst e2
  exact dc_0 _ rfl hx rfl
set_option maxRecDepth 20000 in
theorem o1_3 : Dc1 (3, .iconst 0) := fun {b pc x} hx e => by
  have e2 : x = 3 := UInt8.toNat_inj.mp e
  subst e2
  exact dc_0 _ rfl hx rfl
set_option maxRecDepth 20000 in
theorem o1_4 : Dc1 (4, .iconst 1) := fun {b pc x} hx e => by
  have e2 : x = 4 := UInt8.toNat_inj.mp e
  subst e2
  exact dc_0 _ rfl hx rfl
set_option maxRecDepth 20000 in
theorem o1_5 : Dc1 (5, .iconst 2) := fun {b pc x} hx e => by
  have e2 : x = 5 := UInt8.toNat_inj.mp e
  subst e2
  exact dc_0 _ rfl hx rfl
set_option maxRecDepth 20000 in
theorem o1_6 : Dc1 (6, .iconst 3) := fun {b pc x} hx e => by
  have e2 : x = 6 := UInt8.toNat_inj.mp e
  subst e2
  exact dc_0 _ rfl hx rfl
set_option maxRecDepth 20000 in
theorem o1_7 : Dc1 (7, .iconst 4) := fun {b pc x} hx e => by
  have e2 : x = 7 := UInt8.toNat_inj.mp e
  subst e2
  exact dc_0 _ rfl hx rfl
set_option maxRecDepth 20000 in
theorem o1_8 : Dc1 (8, .iconst 5) := fun {b pc x} hx e => by
  have e2 : x = 8 := UInt8.toNat_inj.mp e
  subst e2
  exact dc_0 _ rfl hx rfl
set_option maxRecDepth 20000 in
theorem o1_9 : Dc1 (9, .lconst 0) := fun {b pc x} hx e => by
  have e2 : x = 9 := UInt8.toNat_inj.mp e
  subst e2
  exact dc_0 _ rfl hx rfl
set_option maxRecDepth 20000 in
theorem o1_10 : Dc1 (10, .lconst 1) := fun {b pc x} hx e => by
  have e2 : x = 10 := UInt8.toNat_inj.mp e
  subst e2
  exact dc_0 _ rfl hx rfl
set_option maxRecDepth 20000 in
theorem o1_26 : Dc1 (26, .iload_n 0) := fun {b pc x} hx e => by
  have e2 : x = 26 := UInt8.toNat_inj.mp e
  subst e2
  exact dc_0 _ rfl hx rfl
set_option maxRecDepth 20000 in
theorem o1_27 : Dc1 (27, .iload_n 1) := fun {b pc x} hx e => by
  have e2 : x = 27 := UInt8.toNat_inj.mp e
  subst e2
  exact dc_0 _ rfl hx rfl
set_option maxRecDepth 20000 in
theorem o1_28 : Dc1 (28, .iload_n 2) := fun {b pc x} hx e => by
  have e2 : x = 28 := UInt8.toNat_inj.mp e
  subst e2
  exact dc_0 _ rfl hx rfl
set_option maxRecDepth 20000 in
theorem o1_29 : Dc1 (29, .iload_n 3) := fun {b pc x} hx e => by
  have e2 : x = 29 := UInt8.toNat_inj.mp e
  subst e2
  exact dc_0 _ rfl hx rfl
set_option maxRecDepth 20000 in
theorem o1_30 : Dc1 (30, .lload_n 0) := fun {b pc x} hx e => by
  have e2 : x = 30 := UInt8.toNat_inj.mp e
  subst e2
  exact dc_0 _ rfl hx rfl
set_option maxRecDepth 20000 in
theorem o1_31 : Dc1 (31, .lload_n 1) := fun {b pc x} hx e => by
  have e2 : x = 31 := UInt8.toNat_inj.mp e
  subst e2
  exact dc_0 _ rfl hx rfl
set_option maxRecDepth 20000 in
theorem o1_32 : Dc1 (32, .lload_n 2) := fun {b pc x} hx e => by
  have e2 : x = 32 := UInt8.toNat_inj.mp e
  subst e2
  exact dc_0 _ rfl hx rfl
set_option maxRecDepth 20000 in
theorem o1_33 : Dc1 (33, .lload_n 3) := fun {b pc x} hx e => by
  have e2 : x = 33 := UInt8.toNat_inj.mp e
  subst e2
  exact dc_0 _ rfl hx rfl
set_option maxRecDepth 20000 in
theorem o1_42 : Dc1 (42, .aload_n 0) := fun {b pc x} hx e => by
  have e2 : x = 42 := UInt8.toNat_inj.mp e
  subst e2
  exact dc_0 _ rfl hx rfl
set_option maxRecDepth 20000 in
theorem o1_43 : Dc1 (43, .aload_n 1) := fun {b pc x} hx e => by
  have e2 : x = 43 := UInt8.toNat_inj.mp e
  subst e2
  exact dc_0 _ rfl hx rfl
set_option maxRecDepth 20000 in
theorem o1_44 : Dc1 (44, .aload_n 2) := fun {b pc x} hx e => by
  have e2 : x = 44 := UInt8.toNat_inj.mp e
  subst e2
  exact dc_0 _ rfl hx rfl
set_option maxRecDepth 20000 in
theorem o1_45 : Dc1 (45, .aload_n 3) := fun {b pc x} hx e => by
  have e2 : x = 45 := UInt8.toNat_inj.mp e
  subst e2
  exact dc_0 _ rfl hx rfl
set_option maxRecDepth 20000 in
theorem o1_46 : Dc1 (46, .iaload) := fun {b pc x} hx e => by
  have e2 : x = 46 := UInt8.toNat_inj.mp e
  subst e2
  exact dc_0 _ rfl hx rfl
set_option maxRecDepth 20000 in
theorem o1_47 : Dc1 (47, .laload) := fun {b pc x} hx e => by
  have e2 : x = 47 := UInt8.toNat_inj.mp e
  subst e2
  exact dc_0 _ rfl hx rfl
set_option maxRecDepth 20000 in
theorem o1_50 : Dc1 (50, .aaload) := fun {b pc x} hx e => by
  have e2 : x = 50 := UInt8.toNat_inj.mp e
  subst e2
  exact dc_0 _ rfl hx rfl
set_option maxRecDepth 20000 in
theorem o1_51 : Dc1 (51, .baload) := fun {b pc x} hx e => by
  have e2 : x = 51 := UInt8.toNat_inj.mp e
  subst e2
  exact dc_0 _ rfl hx rfl
set_option maxRecDepth 20000 in
theorem o1_59 : Dc1 (59, .istore_n 0) := fun {b pc x} hx e => by
  have e2 : x = 59 := UInt8.toNat_inj.mp e
  subst e2
  exact dc_0 _ rfl hx rfl
set_option maxRecDepth 20000 in
theorem o1_60 : Dc1 (60, .istore_n 1) := fun {b pc x} hx e => by
  have e2 : x = 60 := UInt8.toNat_inj.mp e
  subst e2
  exact dc_0 _ rfl hx rfl
set_option maxRecDepth 20000 in
theorem o1_61 : Dc1 (61, .istore_n 2) := fun {b pc x} hx e => by
  have e2 : x = 61 := UInt8.toNat_inj.mp e
  subst e2
  exact dc_0 _ rfl hx rfl
set_option maxRecDepth 20000 in
theorem o1_62 : Dc1 (62, .istore_n 3) := fun {b pc x} hx e => by
  have e2 : x = 62 := UInt8.toNat_inj.mp e
  subst e2
  exact dc_0 _ rfl hx rfl
set_option maxRecDepth 20000 in
theorem o1_63 : Dc1 (63, .lstore_n 0) := fun {b pc x} hx e => by
  have e2 : x = 63 := UInt8.toNat_inj.mp e
  subst e2
  exact dc_0 _ rfl hx rfl
set_option maxRecDepth 20000 in
theorem o1_64 : Dc1 (64, .lstore_n 1) := fun {b pc x} hx e => by
  have e2 : x = 64 := UInt8.toNat_inj.mp e
  subst e2
  exact dc_0 _ rfl hx rfl
set_option maxRecDepth 20000 in
theorem o1_65 : Dc1 (65, .lstore_n 2) := fun {b pc x} hx e => by
  have e2 : x = 65 := UInt8.toNat_inj.mp e
  subst e2
  exact dc_0 _ rfl hx rfl
set_option maxRecDepth 20000 in
theorem o1_66 : Dc1 (66, .lstore_n 3) := fun {b pc x} hx e => by
  have e2 : x = 66 := UInt8.toNat_inj.mp e
  subst e2
  exact dc_0 _ rfl hx rfl
set_option maxRecDepth 20000 in
theorem o1_75 : Dc1 (75, .astore_n 0) := fun {b pc x} hx e => by
  have e2 : x = 75 := UInt8.toNat_inj.mp e
  subst e2
  exact dc_0 _ rfl hx rfl
set_option maxRecDepth 20000 in
theorem o1_76 : Dc1 (76, .astore_n 1) := fun {b pc x} hx e => by
  have e2 : x = 76 := UInt8.toNat_inj.mp e
  subst e2
  exact dc_0 _ rfl hx rfl
set_option maxRecDepth 20000 in
theorem o1_77 : Dc1 (77, .astore_n 2) := fun {b pc x} hx e => by
  have e2 : x = 77 := UInt8.toNat_inj.mp e
  subst e2
  exact dc_0 _ rfl hx rfl
set_option maxRecDepth 20000 in
theorem o1_78 : Dc1 (78, .astore_n 3) := fun {b pc x} hx e => by
  have e2 : x = 78 := UInt8.toNat_inj.mp e
  subst e2
  exact dc_0 _ rfl hx rfl
set_option maxRecDepth 20000 in
theorem o1_79 : Dc1 (79, .iastore) := fun {b pc x} hx e => by
  have e2 : x = 79 := UInt8.toNat_inj.mp e
  subst e2
  exact dc_0 _ rfl hx rfl
set_option maxRecDepth 20000 in
theorem o1_80 : Dc1 (80, .lastore) := fun {b pc x} hx e => by
  have e2 : x = 80 := UInt8.toNat_inj.mp e
  subst e2
  exact dc_0 _ rfl hx rfl
set_option maxRecDepth 20000 in
theorem o1_83 : Dc1 (83, .aastore) := fun {b pc x} hx e => by
  have e2 : x = 83 := UInt8.toNat_inj.mp e
  subst e2
  exact dc_0 _ rfl hx rfl
set_option maxRecDepth 20000 in
theorem o1_84 : Dc1 (84, .bastore) := fun {b pc x} hx e => by
  have e2 : x = 84 := UInt8.toNat_inj.mp e
  subst e2
  exact dc_0 _ rfl hx rfl
set_option maxRecDepth 20000 in
theorem o1_87 : Dc1 (87, .pop) := fun {b pc x} hx e => by
  have e2 : x = 87 := UInt8.toNat_inj.mp e
  subst e2
  exact dc_0 _ rfl hx rfl
set_option maxRecDepth 20000 in
theorem o1_89 : Dc1 (89, .dup) := fun {b pc x} hx e => by
  have e2 : x = 89 := UInt8.toNat_inj.mp e
  subst e2
  exact dc_0 _ rfl hx rfl
set_option maxRecDepth 20000 in
theorem o1_92 : Dc1 (92, .dup2) := fun {b pc x} hx e => by
  have e2 : x = 92 := UInt8.toNat_inj.mp e
  subst e2
  exact dc_0 _ rfl hx rfl
set_option maxRecDepth 20000 in
theorem o1_96 : Dc1 (96, .iadd) := fun {b pc x} hx e => by
  have e2 : x = 96 := UInt8.toNat_inj.mp e
  subst e2
  exact dc_0 _ rfl hx rfl
set_option maxRecDepth 20000 in
theorem o1_97 : Dc1 (97, .ladd) := fun {b pc x} hx e => by
  have e2 : x = 97 := UInt8.toNat_inj.mp e
  subst e2
  exact dc_0 _ rfl hx rfl
set_option maxRecDepth 20000 in
theorem o1_100 : Dc1 (100, .isub) := fun {b pc x} hx e => by
  have e2 : x = 100 := UInt8.toNat_inj.mp e
  subst e2
  exact dc_0 _ rfl hx rfl
set_option maxRecDepth 20000 in
theorem o1_101 : Dc1 (101, .lsub) := fun {b pc x} hx e => by
  have e2 : x = 101 := UInt8.toNat_inj.mp e
  subst e2
  exact dc_0 _ rfl hx rfl
set_option maxRecDepth 20000 in
theorem o1_104 : Dc1 (104, .imul) := fun {b pc x} hx e => by
  have e2 : x = 104 := UInt8.toNat_inj.mp e
  subst e2
  exact dc_0 _ rfl hx rfl
set_option maxRecDepth 20000 in
theorem o1_105 : Dc1 (105, .lmul) := fun {b pc x} hx e => by
  have e2 : x = 105 := UInt8.toNat_inj.mp e
  subst e2
  exact dc_0 _ rfl hx rfl
set_option maxRecDepth 20000 in
theorem o1_108 : Dc1 (108, .idiv) := fun {b pc x} hx e => by
  have e2 : x = 108 := UInt8.toNat_inj.mp e
  subst e2
  exact dc_0 _ rfl hx rfl
set_option maxRecDepth 20000 in
theorem o1_109 : Dc1 (109, .ldiv) := fun {b pc x} hx e => by
  have e2 : x = 109 := UInt8.toNat_inj.mp e
  subst e2
  exact dc_0 _ rfl hx rfl
set_option maxRecDepth 20000 in
theorem o1_112 : Dc1 (112, .irem) := fun {b pc x} hx e => by
  have e2 : x = 112 := UInt8.toNat_inj.mp e
  subst e2
  exact dc_0 _ rfl hx rfl
set_option maxRecDepth 20000 in
theorem o1_113 : Dc1 (113, .lrem) := fun {b pc x} hx e => by
  have e2 : x = 113 := UInt8.toNat_inj.mp e
  subst e2
  exact dc_0 _ rfl hx rfl
set_option maxRecDepth 20000 in
theorem o1_116 : Dc1 (116, .ineg) := fun {b pc x} hx e => by
  have e2 : x = 116 := UInt8.toNat_inj.mp e
  subst e2
  exact dc_0 _ rfl hx rfl
set_option maxRecDepth 20000 in
theorem o1_120 : Dc1 (120, .ishl) := fun {b pc x} hx e => by
  have e2 : x = 120 := UInt8.toNat_inj.mp e
  subst e2
  exact dc_0 _ rfl hx rfl
set_option maxRecDepth 20000 in
theorem o1_121 : Dc1 (121, .lshl) := fun {b pc x} hx e => by
  have e2 : x = 121 := UInt8.toNat_inj.mp e
  subst e2
  exact dc_0 _ rfl hx rfl
set_option maxRecDepth 20000 in
theorem o1_122 : Dc1 (122, .ishr) := fun {b pc x} hx e => by
  have e2 : x = 122 := UInt8.toNat_inj.mp e
  subst e2
  exact dc_0 _ rfl hx rfl
set_option maxRecDepth 20000 in
theorem o1_124 : Dc1 (124, .iushr) := fun {b pc x} hx e => by
  have e2 : x = 124 := UInt8.toNat_inj.mp e
  subst e2
  exact dc_0 _ rfl hx rfl
set_option maxRecDepth 20000 in
theorem o1_126 : Dc1 (126, .iand) := fun {b pc x} hx e => by
  have e2 : x = 126 := UInt8.toNat_inj.mp e
  subst e2
  exact dc_0 _ rfl hx rfl
set_option maxRecDepth 20000 in
theorem o1_128 : Dc1 (128, .ior) := fun {b pc x} hx e => by
  have e2 : x = 128 := UInt8.toNat_inj.mp e
  subst e2
  exact dc_0 _ rfl hx rfl
set_option maxRecDepth 20000 in
theorem o1_129 : Dc1 (129, .lor) := fun {b pc x} hx e => by
  have e2 : x = 129 := UInt8.toNat_inj.mp e
  subst e2
  exact dc_0 _ rfl hx rfl
set_option maxRecDepth 20000 in
theorem o1_130 : Dc1 (130, .ixor) := fun {b pc x} hx e => by
  have e2 : x = 130 := UInt8.toNat_inj.mp e
  subst e2
  exact dc_0 _ rfl hx rfl
set_option maxRecDepth 20000 in
theorem o1_133 : Dc1 (133, .i2l) := fun {b pc x} hx e => by
  have e2 : x = 133 := UInt8.toNat_inj.mp e
  subst e2
  exact dc_0 _ rfl hx rfl
set_option maxRecDepth 20000 in
theorem o1_145 : Dc1 (145, .i2b) := fun {b pc x} hx e => by
  have e2 : x = 145 := UInt8.toNat_inj.mp e
  subst e2
  exact dc_0 _ rfl hx rfl
set_option maxRecDepth 20000 in
theorem o1_146 : Dc1 (146, .i2c) := fun {b pc x} hx e => by
  have e2 : x = 146 := UInt8.toNat_inj.mp e
  subst e2
  exact dc_0 _ rfl hx rfl
set_option maxRecDepth 20000 in
theorem o1_148 : Dc1 (148, .lcmp) := fun {b pc x} hx e => by
  have e2 : x = 148 := UInt8.toNat_inj.mp e
  subst e2
  exact dc_0 _ rfl hx rfl
set_option maxRecDepth 20000 in
theorem o1_172 : Dc1 (172, .ireturn) := fun {b pc x} hx e => by
  have e2 : x = 172 := UInt8.toNat_inj.mp e
  subst e2
  exact dc_0 _ rfl hx rfl
set_option maxRecDepth 20000 in
theorem o1_173 : Dc1 (173, .lreturn) := fun {b pc x} hx e => by
  have e2 : x = 173 := UInt8.toNat_inj.mp e
  subst e2
  exact dc_0 _ rfl hx rfl
set_option maxRecDepth 20000 in
theorem o1_176 : Dc1 (176, .areturn) := fun {b pc x} hx e => by
  have e2 : x = 176 := UInt8.toNat_inj.mp e
  subst e2
  exact dc_0 _ rfl hx rfl
set_option maxRecDepth 20000 in
theorem o1_177 : Dc1 (177, .return_) := fun {b pc x} hx e => by
  have e2 : x = 177 := UInt8.toNat_inj.mp e
  subst e2
  exact dc_0 _ rfl hx rfl
set_option maxRecDepth 20000 in
theorem o1_190 : Dc1 (190, .arraylength) := fun {b pc x} hx e => by
  have e2 : x = 190 := UInt8.toNat_inj.mp e
  subst e2
  exact dc_0 _ rfl hx rfl
set_option maxRecDepth 20000 in
theorem o1_191 : Dc1 (191, .athrow) := fun {b pc x} hx e => by
  have e2 : x = 191 := UInt8.toNat_inj.mp e
  subst e2
  exact dc_0 _ rfl hx rfl
theorem ops1_ok : ∀ q ∈ ops1, Dc1 q := List.forall_mem_cons.mpr ⟨o1_2, List.forall_mem_cons.mpr ⟨o1_3, List.forall_mem_cons.mpr ⟨o1_4, List.forall_mem_cons.mpr ⟨o1_5, List.forall_mem_cons.mpr ⟨o1_6, List.forall_mem_cons.mpr ⟨o1_7, List.forall_mem_cons.mpr ⟨o1_8, List.forall_mem_cons.mpr ⟨o1_9, List.forall_mem_cons.mpr ⟨o1_10, List.forall_mem_cons.mpr ⟨o1_26, List.forall_mem_cons.mpr ⟨o1_27, List.forall_mem_cons.mpr ⟨o1_28, List.forall_mem_cons.mpr ⟨o1_29, List.forall_mem_cons.mpr ⟨o1_30, List.forall_mem_cons.mpr ⟨o1_31, List.forall_mem_cons.mpr ⟨o1_32, List.forall_mem_cons.mpr ⟨o1_33, List.forall_mem_cons.mpr ⟨o1_42, List.forall_mem_cons.mpr ⟨o1_43, List.forall_mem_cons.mpr ⟨o1_44, List.forall_mem_cons.mpr ⟨o1_45, List.forall_mem_cons.mpr ⟨o1_46, List.forall_mem_cons.mpr ⟨o1_47, List.forall_mem_cons.mpr ⟨o1_50, List.forall_mem_cons.mpr ⟨o1_51, List.forall_mem_cons.mpr ⟨o1_59, List.forall_mem_cons.mpr ⟨o1_60, List.forall_mem_cons.mpr ⟨o1_61, List.forall_mem_cons.mpr ⟨o1_62, List.forall_mem_cons.mpr ⟨o1_63, List.forall_mem_cons.mpr ⟨o1_64, List.forall_mem_cons.mpr ⟨o1_65, List.forall_mem_cons.mpr ⟨o1_66, List.forall_mem_cons.mpr ⟨o1_75, List.forall_mem_cons.mpr ⟨o1_76, List.forall_mem_cons.mpr ⟨o1_77, List.forall_mem_cons.mpr ⟨o1_78, List.forall_mem_cons.mpr ⟨o1_79, List.forall_mem_cons.mpr ⟨o1_80, List.forall_mem_cons.mpr ⟨o1_83, List.forall_mem_cons.mpr ⟨o1_84, List.forall_mem_cons.mpr ⟨o1_87, List.forall_mem_cons.mpr ⟨o1_89, List.forall_mem_cons.mpr ⟨o1_92, List.forall_mem_cons.mpr ⟨o1_96, List.forall_mem_cons.mpr ⟨o1_97, List.forall_mem_cons.mpr ⟨o1_100, List.forall_mem_cons.mpr ⟨o1_101, List.forall_mem_cons.mpr ⟨o1_104, List.forall_mem_cons.mpr ⟨o1_105, List.forall_mem_cons.mpr ⟨o1_108, List.forall_mem_cons.mpr ⟨o1_109, List.forall_mem_cons.mpr ⟨o1_112, List.forall_mem_cons.mpr ⟨o1_113, List.forall_mem_cons.mpr ⟨o1_116, List.forall_mem_cons.mpr ⟨o1_120, List.forall_mem_cons.mpr ⟨o1_121, List.forall_mem_cons.mpr ⟨o1_122, List.forall_mem_cons.mpr ⟨o1_124, List.forall_mem_cons.mpr ⟨o1_126, List.forall_mem_cons.mpr ⟨o1_128, List.forall_mem_cons.mpr ⟨o1_129, List.forall_mem_cons.mpr ⟨o1_130, List.forall_mem_cons.mpr ⟨o1_133, List.forall_mem_cons.mpr ⟨o1_145, List.forall_mem_cons.mpr ⟨o1_146, List.forall_mem_cons.mpr ⟨o1_148, List.forall_mem_cons.mpr ⟨o1_172, List.forall_mem_cons.mpr ⟨o1_173, List.forall_mem_cons.mpr ⟨o1_176, List.forall_mem_cons.mpr ⟨o1_177, List.forall_mem_cons.mpr ⟨o1_190, List.forall_mem_cons.mpr ⟨o1_191, fun _ h => absurd h List.not_mem_nil⟩⟩⟩⟩⟩⟩⟩⟩⟩⟩⟩⟩⟩⟩⟩⟩⟩⟩⟩⟩⟩⟩⟩⟩⟩⟩⟩⟩⟩⟩⟩⟩⟩⟩⟩⟩⟩⟩⟩⟩⟩⟩⟩⟩⟩⟩⟩⟩⟩⟩⟩⟩⟩⟩⟩⟩⟩⟩⟩⟩⟩⟩⟩⟩⟩⟩⟩⟩⟩⟩⟩⟩⟩
set_option maxRecDepth 20000 in
theorem o2_16 : Dc2 (16, (fun v => .bipush (Jvm.ClassFile.Reader.signed 8 v))) := fun {b pc x y} hx hy e => by
  have e2 : x = 16 := UInt8.toNat_inj.mp e
  subst e2
  exact dc_0 _ rfl hx (dc_m Jvm.ClassFile.Reader.s1 (Instr.bipush) (dc_s1 hy))
set_option maxRecDepth 20000 in
theorem o2_18 : Dc2 (18, (fun v => .ldc v)) := fun {b pc x y} hx hy e => by
  have e2 : x = 18 := UInt8.toNat_inj.mp e
  subst e2
  exact dc_0 _ rfl hx (dc_m Jvm.ClassFile.Reader.u1 (Instr.ldc) (dc_u1 hy))
set_option maxRecDepth 20000 in
theorem o2_21 : Dc2 (21, (fun v => .iload v)) := fun {b pc x y} hx hy e => by
  have e2 : x = 21 := UInt8.toNat_inj.mp e
  subst e2
  exact dc_0 _ rfl hx (dc_m Jvm.ClassFile.Reader.u1 (Instr.iload) (dc_u1 hy))
set_option maxRecDepth 20000 in
theorem o2_22 : Dc2 (22, (fun v => .lload v)) := fun {b pc x y} hx hy e => by
  have e2 : x = 22 := UInt8.toNat_inj.mp e
  subst e2
  exact dc_0 _ rfl hx (dc_m Jvm.ClassFile.Reader.u1 (Instr.lload) (dc_u1 hy))
set_option maxRecDepth 20000 in
theorem o2_25 : Dc2 (25, (fun v => .aload v)) := fun {b pc x y} hx hy e => by
  have e2 : x = 25 := UInt8.toNat_inj.mp e
  subst e2
  exact dc_0 _ rfl hx (dc_m Jvm.ClassFile.Reader.u1 (Instr.aload) (dc_u1 hy))
set_option maxRecDepth 20000 in
theorem o2_54 : Dc2 (54, (fun v => .istore v)) := fun {b pc x y} hx hy e => by
  have e2 : x = 54 := UInt8.toNat_inj.mp e
  subst e2
  exact dc_0 _ rfl hx (dc_m Jvm.ClassFile.Reader.u1 (Instr.istore) (dc_u1 hy))
set_option maxRecDepth 20000 in
theorem o2_55 : Dc2 (55, (fun v => .lstore v)) := fun {b pc x y} hx hy e => by
  have e2 : x = 55 := UInt8.toNat_inj.mp e
  subst e2
  exact dc_0 _ rfl hx (dc_m Jvm.ClassFile.Reader.u1 (Instr.lstore) (dc_u1 hy))
set_option maxRecDepth 20000 in
theorem o2_58 : Dc2 (58, (fun v => .astore v)) := fun {b pc x y} hx hy e => by
  have e2 : x = 58 := UInt8.toNat_inj.mp e
  subst e2
  exact dc_0 _ rfl hx (dc_m Jvm.ClassFile.Reader.u1 (Instr.astore) (dc_u1 hy))
theorem ops2_ok : ∀ q ∈ ops2, Dc2 q := List.forall_mem_cons.mpr ⟨o2_16, List.forall_mem_cons.mpr ⟨o2_18, List.forall_mem_cons.mpr ⟨o2_21, List.forall_mem_cons.mpr ⟨o2_22, List.forall_mem_cons.mpr ⟨o2_25, List.forall_mem_cons.mpr ⟨o2_54, List.forall_mem_cons.mpr ⟨o2_55, List.forall_mem_cons.mpr ⟨o2_58, fun _ h => absurd h List.not_mem_nil⟩⟩⟩⟩⟩⟩⟩⟩
set_option maxRecDepth 20000 in
theorem o3_17 : Dc3 (17, (fun v w => .sipush (Jvm.ClassFile.Reader.signed 16 (v * 256 + w)))) := fun {b pc x y z} hx hy hz e => by
  have e2 : x = 17 := UInt8.toNat_inj.mp e
  subst e2
  exact dc_0 _ rfl hx (dc_m Jvm.ClassFile.Reader.s2 (fun v => Instr.sipush v) (dc_s2 hy hz))
set_option maxRecDepth 20000 in
theorem o3_19 : Dc3 (19, (fun v w => .ldc_w (v * 256 + w))) := fun {b pc x y z} hx hy hz e => by
  have e2 : x = 19 := UInt8.toNat_inj.mp e
  subst e2
  exact dc_0 _ rfl hx (dc_m Jvm.ClassFile.Reader.u2 (fun v => Instr.ldc_w v) (dc_u2 hy hz))
set_option maxRecDepth 20000 in
theorem o3_20 : Dc3 (20, (fun v w => .ldc2_w (v * 256 + w))) := fun {b pc x y z} hx hy hz e => by
  have e2 : x = 20 := UInt8.toNat_inj.mp e
  subst e2
  exact dc_0 _ rfl hx (dc_m Jvm.ClassFile.Reader.u2 (fun v => Instr.ldc2_w v) (dc_u2 hy hz))
set_option maxRecDepth 20000 in
theorem o3_153 : Dc3 (153, (fun v w => .ifCond .eq (Jvm.ClassFile.Reader.signed 16 (v * 256 + w)))) := fun {b pc x y z} hx hy hz e => by
  have e2 : x = 153 := UInt8.toNat_inj.mp e
  subst e2
  exact dc_0 _ rfl hx (dc_m Jvm.ClassFile.Reader.s2 (fun v => Instr.ifCond .eq v) (dc_s2 hy hz))
set_option maxRecDepth 20000 in
theorem o3_154 : Dc3 (154, (fun v w => .ifCond .ne (Jvm.ClassFile.Reader.signed 16 (v * 256 + w)))) := fun {b pc x y z} hx hy hz e => by
  have e2 : x = 154 := UInt8.toNat_inj.mp e
  subst e2
  exact dc_0 _ rfl hx (dc_m Jvm.ClassFile.Reader.s2 (fun v => Instr.ifCond .ne v) (dc_s2 hy hz))
set_option maxRecDepth 20000 in
theorem o3_155 : Dc3 (155, (fun v w => .ifCond .lt (Jvm.ClassFile.Reader.signed 16 (v * 256 + w)))) := fun {b pc x y z} hx hy hz e => by
  have e2 : x = 155 := UInt8.toNat_inj.mp e
  subst e2
  exact dc_0 _ rfl hx (dc_m Jvm.ClassFile.Reader.s2 (fun v => Instr.ifCond .lt v) (dc_s2 hy hz))
set_option maxRecDepth 20000 in
theorem o3_156 : Dc3 (156, (fun v w => .ifCond .ge (Jvm.ClassFile.Reader.signed 16 (v * 256 + w)))) := fun {b pc x y z} hx hy hz e => by
  have e2 : x = 156 := UInt8.toNat_inj.mp e
  subst e2
  exact dc_0 _ rfl hx (dc_m Jvm.ClassFile.Reader.s2 (fun v => Instr.ifCond .ge v) (dc_s2 hy hz))
set_option maxRecDepth 20000 in
theorem o3_157 : Dc3 (157, (fun v w => .ifCond .gt (Jvm.ClassFile.Reader.signed 16 (v * 256 + w)))) := fun {b pc x y z} hx hy hz e => by
  have e2 : x = 157 := UInt8.toNat_inj.mp e
  subst e2
  exact dc_0 _ rfl hx (dc_m Jvm.ClassFile.Reader.s2 (fun v => Instr.ifCond .gt v) (dc_s2 hy hz))
set_option maxRecDepth 20000 in
theorem o3_158 : Dc3 (158, (fun v w => .ifCond .le (Jvm.ClassFile.Reader.signed 16 (v * 256 + w)))) := fun {b pc x y z} hx hy hz e => by
  have e2 : x = 158 := UInt8.toNat_inj.mp e
  subst e2
  exact dc_0 _ rfl hx (dc_m Jvm.ClassFile.Reader.s2 (fun v => Instr.ifCond .le v) (dc_s2 hy hz))
set_option maxRecDepth 20000 in
theorem o3_159 : Dc3 (159, (fun v w => .if_icmp .eq (Jvm.ClassFile.Reader.signed 16 (v * 256 + w)))) := fun {b pc x y z} hx hy hz e => by
  have e2 : x = 159 := UInt8.toNat_inj.mp e
  subst e2
  exact dc_0 _ rfl hx (dc_m Jvm.ClassFile.Reader.s2 (fun v => Instr.if_icmp .eq v) (dc_s2 hy hz))
set_option maxRecDepth 20000 in
theorem o3_160 : Dc3 (160, (fun v w => .if_icmp .ne (Jvm.ClassFile.Reader.signed 16 (v * 256 + w)))) := fun {b pc x y z} hx hy hz e => by
  have e2 : x = 160 := UInt8.toNat_inj.mp e
  subst e2
  exact dc_0 _ rfl hx (dc_m Jvm.ClassFile.Reader.s2 (fun v => Instr.if_icmp .ne v) (dc_s2 hy hz))
set_option maxRecDepth 20000 in
theorem o3_161 : Dc3 (161, (fun v w => .if_icmp .lt (Jvm.ClassFile.Reader.signed 16 (v * 256 + w)))) := fun {b pc x y z} hx hy hz e => by
  have e2 : x = 161 := UInt8.toNat_inj.mp e
  subst e2
  exact dc_0 _ rfl hx (dc_m Jvm.ClassFile.Reader.s2 (fun v => Instr.if_icmp .lt v) (dc_s2 hy hz))
set_option maxRecDepth 20000 in
theorem o3_162 : Dc3 (162, (fun v w => .if_icmp .ge (Jvm.ClassFile.Reader.signed 16 (v * 256 + w)))) := fun {b pc x y z} hx hy hz e => by
  have e2 : x = 162 := UInt8.toNat_inj.mp e
  subst e2
  exact dc_0 _ rfl hx (dc_m Jvm.ClassFile.Reader.s2 (fun v => Instr.if_icmp .ge v) (dc_s2 hy hz))
set_option maxRecDepth 20000 in
theorem o3_163 : Dc3 (163, (fun v w => .if_icmp .gt (Jvm.ClassFile.Reader.signed 16 (v * 256 + w)))) := fun {b pc x y z} hx hy hz e => by
  have e2 : x = 163 := UInt8.toNat_inj.mp e
  subst e2
  exact dc_0 _ rfl hx (dc_m Jvm.ClassFile.Reader.s2 (fun v => Instr.if_icmp .gt v) (dc_s2 hy hz))
set_option maxRecDepth 20000 in
theorem o3_164 : Dc3 (164, (fun v w => .if_icmp .le (Jvm.ClassFile.Reader.signed 16 (v * 256 + w)))) := fun {b pc x y z} hx hy hz e => by
  have e2 : x = 164 := UInt8.toNat_inj.mp e
  subst e2
  exact dc_0 _ rfl hx (dc_m Jvm.ClassFile.Reader.s2 (fun v => Instr.if_icmp .le v) (dc_s2 hy hz))
set_option maxRecDepth 20000 in
theorem o3_167 : Dc3 (167, (fun v w => .goto (Jvm.ClassFile.Reader.signed 16 (v * 256 + w)))) := fun {b pc x y z} hx hy hz e => by
  have e2 : x = 167 := UInt8.toNat_inj.mp e
  subst e2
  exact dc_0 _ rfl hx (dc_m Jvm.ClassFile.Reader.s2 (fun v => Instr.goto v) (dc_s2 hy hz))
set_option maxRecDepth 20000 in
theorem o3_178 : Dc3 (178, (fun v w => .getstatic (v * 256 + w))) := fun {b pc x y z} hx hy hz e => by
  have e2 : x = 178 := UInt8.toNat_inj.mp e
  subst e2
  exact dc_0 _ rfl hx (dc_m Jvm.ClassFile.Reader.u2 (fun v => Instr.getstatic v) (dc_u2 hy hz))
set_option maxRecDepth 20000 in
theorem o3_180 : Dc3 (180, (fun v w => .getfield (v * 256 + w))) := fun {b pc x y z} hx hy hz e => by
  have e2 : x = 180 := UInt8.toNat_inj.mp e
  subst e2
  exact dc_0 _ rfl hx (dc_m Jvm.ClassFile.Reader.u2 (fun v => Instr.getfield v) (dc_u2 hy hz))
set_option maxRecDepth 20000 in
theorem o3_181 : Dc3 (181, (fun v w => .putfield (v * 256 + w))) := fun {b pc x y z} hx hy hz e => by
  have e2 : x = 181 := UInt8.toNat_inj.mp e
  subst e2
  exact dc_0 _ rfl hx (dc_m Jvm.ClassFile.Reader.u2 (fun v => Instr.putfield v) (dc_u2 hy hz))
set_option maxRecDepth 20000 in
theorem o3_182 : Dc3 (182, (fun v w => .invokevirtual (v * 256 + w))) := fun {b pc x y z} hx hy hz e => by
  have e2 : x = 182 := UInt8.toNat_inj.mp e
  subst e2
  exact dc_0 _ rfl hx (dc_m Jvm.ClassFile.Reader.u2 (fun v => Instr.invokevirtual v) (dc_u2 hy hz))
set_option maxRecDepth 20000 in
theorem o3_183 : Dc3 (183, (fun v w => .invokespecial (v * 256 + w))) := fun {b pc x y z} hx hy hz e => by
  have e2 : x = 183 := UInt8.toNat_inj.mp e
  subst e2
  exact dc_0 _ rfl hx (dc_m Jvm.ClassFile.Reader.u2 (fun v => Instr.invokespecial v) (dc_u2 hy hz))
set_option maxRecDepth 20000 in
theorem o3_184 : Dc3 (184, (fun v w => .invokestatic (v * 256 + w))) := fun {b pc x y z} hx hy hz e => by
  have e2 : x = 184 := UInt8.toNat_inj.mp e
  subst e2
  exact dc_0 _ rfl hx (dc_m Jvm.ClassFile.Reader.u2 (fun v => Instr.invokestatic v) (dc_u2 hy hz))
set_option maxRecDepth 20000 in
theorem o3_187 : Dc3 (187, (fun v w => .new (v * 256 + w))) := fun {b pc x y z} hx hy hz e => by
  have e2 : x = 187 := UInt8.toNat_inj.mp e
  subst e2
  exact dc_0 _ rfl hx (dc_m Jvm.ClassFile.Reader.u2 (fun v => Instr.new v) (dc_u2 hy hz))
set_option maxRecDepth 20000 in
theorem o3_189 : Dc3 (189, (fun v w => .anewarray (v * 256 + w))) := fun {b pc x y z} hx hy hz e => by
  have e2 : x = 189 := UInt8.toNat_inj.mp e
  subst e2
  exact dc_0 _ rfl hx (dc_m Jvm.ClassFile.Reader.u2 (fun v => Instr.anewarray v) (dc_u2 hy hz))
set_option maxRecDepth 20000 in
theorem o3_132 : Dc3 (132, fun v w => .iinc v (Jvm.ClassFile.Reader.signed 8 w)) := fun {b pc x y z} hx hy hz e => by
  have e2 : x = 132 := UInt8.toNat_inj.mp e
  subst e2
  refine dc_0 _ rfl hx ?_
  show ((Jvm.ClassFile.Reader.u1 : Jvm.ClassFile.Decoder Nat) b (pc + 1) >>= fun (v, p) => ((Jvm.ClassFile.Reader.s1 : Jvm.ClassFile.Decoder Int) b p >>= fun (w, q) => Except.ok (Instr.iinc v w, q))) = _
  rw [dc_u1 hy]
  show ((Jvm.ClassFile.Reader.s1 : Jvm.ClassFile.Decoder Int) b (pc + 2) >>= fun (w, q) => Except.ok (Instr.iinc y.toNat w, q)) = _
  rw [dc_s1 hz]
  rfl
theorem ops3_ok : ∀ q ∈ ops3, Dc3 q := List.forall_mem_cons.mpr ⟨o3_17, List.forall_mem_cons.mpr ⟨o3_19, List.forall_mem_cons.mpr ⟨o3_20, List.forall_mem_cons.mpr ⟨o3_153, List.forall_mem_cons.mpr ⟨o3_154, List.forall_mem_cons.mpr ⟨o3_155, List.forall_mem_cons.mpr ⟨o3_156, List.forall_mem_cons.mpr ⟨o3_157, List.forall_mem_cons.mpr ⟨o3_158, List.forall_mem_cons.mpr ⟨o3_159, List.forall_mem_cons.mpr ⟨o3_160, List.forall_mem_cons.mpr ⟨o3_161, List.forall_mem_cons.mpr ⟨o3_162, List.forall_mem_cons.mpr ⟨o3_163, List.forall_mem_cons.mpr ⟨o3_164, List.forall_mem_cons.mpr ⟨o3_167, List.forall_mem_cons.mpr ⟨o3_178, List.forall_mem_cons.mpr ⟨o3_180, List.forall_mem_cons.mpr ⟨o3_181, List.forall_mem_cons.mpr ⟨o3_182, List.forall_mem_cons.mpr ⟨o3_183, List.forall_mem_cons.mpr ⟨o3_184, List.forall_mem_cons.mpr ⟨o3_187, List.forall_mem_cons.mpr ⟨o3_189, List.forall_mem_cons.mpr ⟨o3_132, fun _ h => absurd h List.not_mem_nil⟩⟩⟩⟩⟩⟩⟩⟩⟩⟩⟩⟩⟩⟩⟩⟩⟩⟩⟩⟩⟩⟩⟩⟩⟩
/-- newarray, by its type's number -/
def opsN : List (Nat × Instr) := [(4, .newarray .boolean), (8, .newarray .byte), (10, .newarray .int), (11, .newarray .long)]
abbrev DcN (q : Nat × Instr) : Prop := ∀ {b : ByteArray} {pc : Nat} {x y : UInt8}, b.data.toList[pc]? = some x → b.data.toList[pc + 1]? = some y → x.toNat = 188 → y.toNat = q.1 → decode b pc = .ok (q.2, 2)
set_option maxRecDepth 20000 in
theorem oN_4 : DcN (4, .newarray .boolean) := fun {b pc x y} hx hy e e1 => by
  have e2 : x = 188 := UInt8.toNat_inj.mp e
  have e3 : y = 4 := UInt8.toNat_inj.mp e1
  subst e2; subst e3
  refine dc_0 _ rfl hx ?_
  have h := dc_u1 (ε := Jvm.ClassFile.DecodeError) hy
  show ((Jvm.ClassFile.Reader.u1 : Jvm.ClassFile.Decoder Nat) b (pc + 1) >>= fun (v, p) => _) = _
  rw [h]
  rfl
set_option maxRecDepth 20000 in
theorem oN_8 : DcN (8, .newarray .byte) := fun {b pc x y} hx hy e e1 => by
  have e2 : x = 188 := UInt8.toNat_inj.mp e
  have e3 : y = 8 := UInt8.toNat_inj.mp e1
  subst e2; subst e3
  refine dc_0 _ rfl hx ?_
  have h := dc_u1 (ε := Jvm.ClassFile.DecodeError) hy
  show ((Jvm.ClassFile.Reader.u1 : Jvm.ClassFile.Decoder Nat) b (pc + 1) >>= fun (v, p) => _) = _
  rw [h]
  rfl
set_option maxRecDepth 20000 in
theorem oN_10 : DcN (10, .newarray .int) := fun {b pc x y} hx hy e e1 => by
  have e2 : x = 188 := UInt8.toNat_inj.mp e
  have e3 : y = 10 := UInt8.toNat_inj.mp e1
  subst e2; subst e3
  refine dc_0 _ rfl hx ?_
  have h := dc_u1 (ε := Jvm.ClassFile.DecodeError) hy
  show ((Jvm.ClassFile.Reader.u1 : Jvm.ClassFile.Decoder Nat) b (pc + 1) >>= fun (v, p) => _) = _
  rw [h]
  rfl
set_option maxRecDepth 20000 in
theorem oN_11 : DcN (11, .newarray .long) := fun {b pc x y} hx hy e e1 => by
  have e2 : x = 188 := UInt8.toNat_inj.mp e
  have e3 : y = 11 := UInt8.toNat_inj.mp e1
  subst e2; subst e3
  refine dc_0 _ rfl hx ?_
  have h := dc_u1 (ε := Jvm.ClassFile.DecodeError) hy
  show ((Jvm.ClassFile.Reader.u1 : Jvm.ClassFile.Decoder Nat) b (pc + 1) >>= fun (v, p) => _) = _
  rw [h]
  rfl
theorem opsN_ok : ∀ q ∈ opsN, DcN q := List.forall_mem_cons.mpr ⟨oN_4, List.forall_mem_cons.mpr ⟨oN_8, List.forall_mem_cons.mpr ⟨oN_10, List.forall_mem_cons.mpr ⟨oN_11, fun _ h => absurd h List.not_mem_nil⟩⟩⟩⟩
theorem look_mem {β : Type} {v : β} {n : Nat} : ∀ {l : List (Nat × β)}, l.lookup n = some v → (n, v) ∈ l
  | [], h => by cases h
  | (a, c) :: l, h => by
    rw [List.lookup_cons] at h
    by_cases e : n = a
    · subst e
      simp at h
      subst h
      exact List.mem_cons_self
    · have e2 : (n == a) = false := by simpa using e
      rw [e2] at h
      exact List.mem_cons_of_mem _ (look_mem h)
def dcd (L : List UInt8) : Option (Instr × Nat) := match L with
  | [] => none
  | x :: r => match ops1.lookup x.toNat with
    | some i => some (i, 1)
    | none => match r with
      | [] => none
      | y :: r2 => match ops2.lookup x.toNat with
        | some f => some (f y.toNat, 2)
        | none => match r2 with
          | [] => none
          | z :: _ => match ops3.lookup x.toNat with
            | some f => some (f y.toNat z.toNat, 3)
            | none => if x.toNat = 188 then (opsN.lookup y.toNat).map (fun i => (i, 2)) else none
theorem dcd_ok {i : Instr} {n : Nat} (h : dcd (b.data.toList.drop pc) = some (i, n)) : decode b pc = .ok (i, n) := by
  have g0 : (b.data.toList.drop pc)[0]? = b.data.toList[pc]? := by rw [List.getElem?_drop, Nat.add_zero]
  have g1 : (b.data.toList.drop pc)[1]? = b.data.toList[pc + 1]? := by rw [List.getElem?_drop]
  have g2 : (b.data.toList.drop pc)[2]? = b.data.toList[pc + 2]? := by rw [List.getElem?_drop]
  generalize b.data.toList.drop pc = L at h g0 g1 g2
  match L, h with
  | x :: r, h =>
    have hx : b.data.toList[pc]? = some x := g0.symm
    unfold dcd at h
    dsimp only at h
    cases h1 : ops1.lookup x.toNat with
    | some v =>
      rw [h1] at h
      cases h
      exact ops1_ok _ (look_mem h1) hx rfl
    | none =>
      rw [h1] at h
      dsimp only at h
      match r, h with
      | y :: r2, h =>
        have hy : b.data.toList[pc + 1]? = some y := g1.symm
        dsimp only at h
        cases h2 : ops2.lookup x.toNat with
        | some v =>
          rw [h2] at h
          cases h
          exact ops2_ok _ (look_mem h2) hx hy rfl
        | none =>
          rw [h2] at h
          dsimp only at h
          match r2, h with
          | z :: _, h =>
            have hz : b.data.toList[pc + 2]? = some z := g2.symm
            dsimp only at h
            cases h3 : ops3.lookup x.toNat with
            | some v =>
              rw [h3] at h
              cases h
              exact ops3_ok _ (look_mem h3) hx hy hz rfl
            | none =>
              rw [h3] at h
              dsimp only at h
              by_cases e : x.toNat = 188
              · rw [if_pos e] at h
                cases h4 : opsN.lookup y.toNat with
                | some v =>
                  rw [h4] at h
                  cases h
                  exact opsN_ok _ (look_mem h4) hx hy e rfl
                | none => rw [h4] at h; cases h
              · rw [if_neg e] at h; cases h
def chk : List UInt8 → Nat → List (Nat × Instr × Nat) → Bool
  | _, _, [] => true
  | L, pc, (p, i, n) :: T => (p == pc) && (decide (dcd L = some (i, n)) && chk (L.drop n) (pc + n) T)
theorem chk_ok : ∀ (T : List (Nat × Instr × Nat)) (pc : Nat), chk (b.data.toList.drop pc) pc T = true → ∀ q ∈ T, decode b q.1 = .ok q.2
  | [], _, _, q, hq => by cases hq
  | (p, i, n) :: T, pc, h, q, hq => by
    unfold chk at h
    simp only [Bool.and_eq_true, decide_eq_true_eq, beq_iff_eq] at h
    obtain ⟨h1, h2, h3⟩ := h
    rcases List.mem_cons.mp hq with e | e
    · subst e; subst h1
      exact dcd_ok h2
    · rw [List.drop_drop] at h3
      exact chk_ok T (pc + n) h3 q e
end Dec
/-- decoded rows of a method's bytes, from place pc on -/
theorem dq {b : ByteArray} {pc0 : Nat} {L : List (Nat × Instr × Nat)} (h : chk (b.data.toList.drop pc0) pc0 L = true) (i : Nat) {pc : Nat} {g : Instr} {n : Nat} (hi : L[i]? = some (pc, g, n)) : decode b pc = .ok (g, n) := by
  have h2 := chk_ok L pc0 h (pc, g, n) (List.mem_of_getElem? hi)
  dsimp only at h2
  exact h2
