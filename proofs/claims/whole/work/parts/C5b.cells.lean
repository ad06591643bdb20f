theorem wE_0 (h b : Nat) (aK aV : Nat → Nat) (D : va_G) (cA : Nat → ClassId) : (flX10_init (E0 h b aK aV D cA) h)[0]? = some (cellE (E0 h b aK aV D cA) sg0 0 (.inr (10, [4, 0, 0, 0, 0, 0, 2, 5, 11, 0, 17, 20, 33, 36]))) := rfl
theorem wE_1 (h b : Nat) (aK aV : Nat → Nat) (D : va_G) (cA : Nat → ClassId) : (flX10_init (E0 h b aK aV D cA) h)[1]? = some (cellE (E0 h b aK aV D cA) sg0 1 (.inl (1, 600))) := rfl
theorem wE_2 (h b : Nat) (aK aV : Nat → Nat) (D : va_G) (cA : Nat → ClassId) : (flX10_init (E0 h b aK aV D cA) h)[9]? = some (cellE (E0 h b aK aV D cA) sg0 2 (.inr (7, [4, 0, 0, 0, 5, 6, 7, 0, 8, 0]))) := rfl
theorem wE_3 (h b : Nat) (aK aV : Nat → Nat) (D : va_G) (cA : Nat → ClassId) : (flX10_init (E0 h b aK aV D cA) h)[10]? = some (cellE (E0 h b aK aV D cA) sg0 3 (.inl (0, 24))) := rfl
theorem wE_4 (h b : Nat) (aK aV : Nat → Nat) (D : va_G) (cA : Nat → ClassId) : (flX10_init (E0 h b aK aV D cA) h)[11]? = some (cellE (E0 h b aK aV D cA) sg0 4 (.inl (0, 40))) := rfl
theorem wE_5 (h b : Nat) (aK aV : Nat → Nat) (D : va_G) (cA : Nat → ClassId) : (flX10_init (E0 h b aK aV D cA) h)[12]? = some (cellE (E0 h b aK aV D cA) sg0 5 (.inl (0, 40))) := rfl
theorem wE_6 (h b : Nat) (aK aV : Nat → Nat) (D : va_G) (cA : Nat → ClassId) : (flX10_init (E0 h b aK aV D cA) h)[13]? = some (cellE (E0 h b aK aV D cA) sg0 6 (.inl (0, 40))) := rfl
theorem wE_7 (h b : Nat) (aK aV : Nat → Nat) (D : va_G) (cA : Nat → ClassId) : (flX10_init (E0 h b aK aV D cA) h)[14]? = some (cellE (E0 h b aK aV D cA) sg0 7 (.inl (0, 20))) := rfl
theorem wE_8 (h b : Nat) (aK aV : Nat → Nat) (D : va_G) (cA : Nat → ClassId) : (flX10_init (E0 h b aK aV D cA) h)[15]? = some (cellE (E0 h b aK aV D cA) sg0 8 (.inr (7, [4, 0, 0, 0, 5, 6, 7, 0, 8, 0]))) := rfl
theorem wE_9 (h b : Nat) (aK aV : Nat → Nat) (D : va_G) (cA : Nat → ClassId) : (flX10_init (E0 h b aK aV D cA) h)[16]? = some (cellE (E0 h b aK aV D cA) sg0 9 (.inl (0, 24))) := rfl
theorem wE_10 (h b : Nat) (aK aV : Nat → Nat) (D : va_G) (cA : Nat → ClassId) : (flX10_init (E0 h b aK aV D cA) h)[17]? = some (cellE (E0 h b aK aV D cA) sg0 10 (.inl (0, 40))) := rfl
theorem wE_11 (h b : Nat) (aK aV : Nat → Nat) (D : va_G) (cA : Nat → ClassId) : (flX10_init (E0 h b aK aV D cA) h)[18]? = some (cellE (E0 h b aK aV D cA) sg0 11 (.inl (0, 40))) := rfl
theorem wE_12 (h b : Nat) (aK aV : Nat → Nat) (D : va_G) (cA : Nat → ClassId) : (flX10_init (E0 h b aK aV D cA) h)[19]? = some (cellE (E0 h b aK aV D cA) sg0 12 (.inl (0, 40))) := rfl
theorem wE_13 (h b : Nat) (aK aV : Nat → Nat) (D : va_G) (cA : Nat → ClassId) : (flX10_init (E0 h b aK aV D cA) h)[20]? = some (cellE (E0 h b aK aV D cA) sg0 13 (.inl (0, 20))) := rfl
theorem wE_14 (h b : Nat) (aK aV : Nat → Nat) (D : va_G) (cA : Nat → ClassId) : (flX10_init (E0 h b aK aV D cA) h)[21]? = some (cellE (E0 h b aK aV D cA) sg0 14 (.inr (8, [4, 2, 0, 0, 0, 0]))) := rfl
theorem wE_15 (h b : Nat) (aK aV : Nat → Nat) (D : va_G) (cA : Nat → ClassId) : (flX10_init (E0 h b aK aV D cA) h)[22]? = some (cellE (E0 h b aK aV D cA) sg0 15 (.inr (5, [2, 0, 0, 0, 0, 0]))) := rfl
theorem wE_16 (h b : Nat) (aK aV : Nat → Nat) (D : va_G) (cA : Nat → ClassId) : (flX10_init (E0 h b aK aV D cA) h)[23]? = some (cellE (E0 h b aK aV D cA) sg0 16 (.inl (1, 0))) := rfl
theorem wE_17 (h b : Nat) (aK aV : Nat → Nat) (D : va_G) (cA : Nat → ClassId) : (flX10_init (E0 h b aK aV D cA) h)[31]? = some (cellE (E0 h b aK aV D cA) sg0 17 (.inr (4, [4, 13, 14, 2, 0, 0, 0, 0, 2, 0, 0, 0, 0, 0, 0, 0]))) := rfl
theorem wE_18 (h b : Nat) (aK aV : Nat → Nat) (D : va_G) (cA : Nat → ClassId) : (flX10_init (E0 h b aK aV D cA) h)[32]? = some (.inl ((E0 h b aK aV D cA).2.2 4, 4, .inr (.inr (.inr (.inr (va_up (va_up (va_up (va_up (fun _ => none) (0 : Int32).toNatClampNeg (some (h + 43))) (1 : Int32).toNatClampNeg (some (h + 45))) (2 : Int32).toNatClampNeg (some (h + 47))) (3 : Int32).toNatClampNeg (some (h + 49)))))))) := rfl
theorem wE_19 (h b : Nat) (aK aV : Nat → Nat) (D : va_G) (cA : Nat → ClassId) : (flX10_init (E0 h b aK aV D cA) h)[43]? = some (cellE (E0 h b aK aV D cA) sg0 19 (.inr (1, [0, 0, 0, 0, 0, 0, 0, 0, 0, 0, 0, 0, 0, 0, 0, 4]))) := rfl
theorem wE_20 (h b : Nat) (aK aV : Nat → Nat) (D : va_G) (cA : Nat → ClassId) : (flX10_init (E0 h b aK aV D cA) h)[44]? = some (cellE (E0 h b aK aV D cA) sg0 20 (.inl (0, 6))) := rfl
theorem wE_21 (h b : Nat) (aK aV : Nat → Nat) (D : va_G) (cA : Nat → ClassId) : (flX10_init (E0 h b aK aV D cA) h)[45]? = some (cellE (E0 h b aK aV D cA) sg0 21 (.inr (1, [0, 0, 0, 0, 0, 0, 0, 0, 0, 0, 0, 0, 0, 0, 0, 4]))) := rfl
theorem wE_22 (h b : Nat) (aK aV : Nat → Nat) (D : va_G) (cA : Nat → ClassId) : (flX10_init (E0 h b aK aV D cA) h)[46]? = some (cellE (E0 h b aK aV D cA) sg0 22 (.inl (0, 6))) := rfl
theorem wE_23 (h b : Nat) (aK aV : Nat → Nat) (D : va_G) (cA : Nat → ClassId) : (flX10_init (E0 h b aK aV D cA) h)[47]? = some (cellE (E0 h b aK aV D cA) sg0 23 (.inr (1, [0, 0, 0, 0, 0, 0, 0, 0, 0, 0, 0, 0, 0, 0, 0, 4]))) := rfl
theorem wE_24 (h b : Nat) (aK aV : Nat → Nat) (D : va_G) (cA : Nat → ClassId) : (flX10_init (E0 h b aK aV D cA) h)[48]? = some (cellE (E0 h b aK aV D cA) sg0 24 (.inl (0, 6))) := rfl
theorem wE_25 (h b : Nat) (aK aV : Nat → Nat) (D : va_G) (cA : Nat → ClassId) : (flX10_init (E0 h b aK aV D cA) h)[49]? = some (cellE (E0 h b aK aV D cA) sg0 25 (.inr (1, [0, 0, 0, 0, 0, 0, 0, 0, 0, 0, 0, 0, 0, 0, 0, 4]))) := rfl
theorem wE_26 (h b : Nat) (aK aV : Nat → Nat) (D : va_G) (cA : Nat → ClassId) : (flX10_init (E0 h b aK aV D cA) h)[50]? = some (cellE (E0 h b aK aV D cA) sg0 26 (.inl (0, 6))) := rfl
theorem wE_27 (h b : Nat) (aK aV : Nat → Nat) (D : va_G) (cA : Nat → ClassId) : (flX10_init (E0 h b aK aV D cA) h)[33]? = some (cellE (E0 h b aK aV D cA) sg0 27 (.inl (0, 8))) := rfl
theorem wE_28 (h b : Nat) (aK aV : Nat → Nat) (D : va_G) (cA : Nat → ClassId) : (flX10_init (E0 h b aK aV D cA) h)[34]? = some (cellE (E0 h b aK aV D cA) sg0 28 (.inr (3, [4, 0, 0, 0, 0]))) := rfl
theorem wE_29 (h b : Nat) (aK aV : Nat → Nat) (D : va_G) (cA : Nat → ClassId) : (flX10_init (E0 h b aK aV D cA) h)[35]? = some (cellE (E0 h b aK aV D cA) sg0 29 (.inl (0, 3000))) := rfl
theorem wE_30 (h b : Nat) (aK aV : Nat → Nat) (D : va_G) (cA : Nat → ClassId) : (flX10_init (E0 h b aK aV D cA) h)[51]? = some (cellE (E0 h b aK aV D cA) sg0 30 (.inr (9, [4, 5, 1, 1]))) := rfl
theorem wE_31 (h b : Nat) (aK aV : Nat → Nat) (D : va_G) (cA : Nat → ClassId) : (flX10_init (E0 h b aK aV D cA) h)[52]? = some (cellE (E0 h b aK aV D cA) sg0 31 (.inl (3, 41))) := rfl
theorem wE_32 (h b : Nat) (aK aV : Nat → Nat) (D : va_G) (cA : Nat → ClassId) : (flX10_init (E0 h b aK aV D cA) h)[53]? = some (cellE (E0 h b aK aV D cA) sg0 32 (.inl (3, 41))) := rfl
theorem wE_33 (h b : Nat) (aK aV : Nat → Nat) (D : va_G) (cA : Nat → ClassId) : (flX10_init (E0 h b aK aV D cA) h)[54]? = some (cellE (E0 h b aK aV D cA) sg0 33 (.inr (0, [4, 1, 1, 0]))) := rfl
theorem wE_34 (h b : Nat) (aK aV : Nat → Nat) (D : va_G) (cA : Nat → ClassId) : (flX10_init (E0 h b aK aV D cA) h)[55]? = some (cellE (E0 h b aK aV D cA) sg0 34 (.inl (0, 8))) := rfl
theorem wE_35 (h b : Nat) (aK aV : Nat → Nat) (D : va_G) (cA : Nat → ClassId) : (flX10_init (E0 h b aK aV D cA) h)[2]? = some (cellE (E0 h b aK aV D cA) sg0 35 (.inr (2, [0, 0, 0, 0, 0, 0, 0, 0, 4, 0, 5, 0, 6]))) := rfl
theorem wE_36 (h b : Nat) (aK aV : Nat → Nat) (D : va_G) (cA : Nat → ClassId) : (flX10_init (E0 h b aK aV D cA) h)[3]? = some (cellE (E0 h b aK aV D cA) sg0 36 (.inl (0, 24))) := rfl
theorem wE_37 (h b : Nat) (aK aV : Nat → Nat) (D : va_G) (cA : Nat → ClassId) : (flX10_init (E0 h b aK aV D cA) h)[4]? = some (cellE (E0 h b aK aV D cA) sg0 37 (.inl (0, 8))) := rfl
theorem wE_38 (h b : Nat) (aK aV : Nat → Nat) (D : va_G) (cA : Nat → ClassId) : (flX10_init (E0 h b aK aV D cA) h)[5]? = some (cellE (E0 h b aK aV D cA) sg0 38 (.inr (6, [4, 5, 6, 0, 0]))) := rfl
theorem wE_39 (h b : Nat) (aK aV : Nat → Nat) (D : va_G) (cA : Nat → ClassId) : (flX10_init (E0 h b aK aV D cA) h)[6]? = some (cellE (E0 h b aK aV D cA) sg0 39 (.inl (0, 600))) := rfl
theorem wE_40 (h b : Nat) (aK aV : Nat → Nat) (D : va_G) (cA : Nat → ClassId) : (flX10_init (E0 h b aK aV D cA) h)[7]? = some (cellE (E0 h b aK aV D cA) sg0 40 (.inl (0, 4))) := rfl
theorem wE_41 (h b : Nat) (aK aV : Nat → Nat) (D : va_G) (cA : Nat → ClassId) : (flX10_init (E0 h b aK aV D cA) h)[8]? = some (cellE (E0 h b aK aV D cA) sg0 41 (.inl (0, 40))) := rfl
theorem wE_42 (h b : Nat) (aK aV : Nat → Nat) (D : va_G) (cA : Nat → ClassId) : (flX10_init (E0 h b aK aV D cA) h)[24]? = some (cellE (E0 h b aK aV D cA) sg0 42 (.inr (2, [0, 0, 0, 0, 0, 0, 0, 0, 4, 0, 5, 0, 6]))) := rfl
theorem wE_43 (h b : Nat) (aK aV : Nat → Nat) (D : va_G) (cA : Nat → ClassId) : (flX10_init (E0 h b aK aV D cA) h)[25]? = some (cellE (E0 h b aK aV D cA) sg0 43 (.inl (0, 24))) := rfl
theorem wE_44 (h b : Nat) (aK aV : Nat → Nat) (D : va_G) (cA : Nat → ClassId) : (flX10_init (E0 h b aK aV D cA) h)[26]? = some (cellE (E0 h b aK aV D cA) sg0 44 (.inl (0, 8))) := rfl
theorem wE_45 (h b : Nat) (aK aV : Nat → Nat) (D : va_G) (cA : Nat → ClassId) : (flX10_init (E0 h b aK aV D cA) h)[27]? = some (cellE (E0 h b aK aV D cA) sg0 45 (.inr (6, [4, 5, 6, 0, 0]))) := rfl
theorem wE_46 (h b : Nat) (aK aV : Nat → Nat) (D : va_G) (cA : Nat → ClassId) : (flX10_init (E0 h b aK aV D cA) h)[28]? = some (cellE (E0 h b aK aV D cA) sg0 46 (.inl (0, 600))) := rfl
theorem wE_47 (h b : Nat) (aK aV : Nat → Nat) (D : va_G) (cA : Nat → ClassId) : (flX10_init (E0 h b aK aV D cA) h)[29]? = some (cellE (E0 h b aK aV D cA) sg0 47 (.inl (0, 4))) := rfl
theorem wE_48 (h b : Nat) (aK aV : Nat → Nat) (D : va_G) (cA : Nat → ClassId) : (flX10_init (E0 h b aK aV D cA) h)[30]? = some (cellE (E0 h b aK aV D cA) sg0 48 (.inl (0, 40))) := rfl
theorem wE_49 (h b : Nat) (aK aV : Nat → Nat) (D : va_G) (cA : Nat → ClassId) : (flX10_init (E0 h b aK aV D cA) h)[36]? = some (cellE (E0 h b aK aV D cA) sg0 49 (.inr (2, [0, 0, 0, 0, 0, 0, 0, 0, 4, 0, 5, 0, 6]))) := rfl
theorem wE_50 (h b : Nat) (aK aV : Nat → Nat) (D : va_G) (cA : Nat → ClassId) : (flX10_init (E0 h b aK aV D cA) h)[37]? = some (cellE (E0 h b aK aV D cA) sg0 50 (.inl (0, 24))) := rfl
theorem wE_51 (h b : Nat) (aK aV : Nat → Nat) (D : va_G) (cA : Nat → ClassId) : (flX10_init (E0 h b aK aV D cA) h)[38]? = some (cellE (E0 h b aK aV D cA) sg0 51 (.inl (0, 8))) := rfl
theorem wE_52 (h b : Nat) (aK aV : Nat → Nat) (D : va_G) (cA : Nat → ClassId) : (flX10_init (E0 h b aK aV D cA) h)[39]? = some (cellE (E0 h b aK aV D cA) sg0 52 (.inr (6, [4, 5, 6, 0, 0]))) := rfl
theorem wE_53 (h b : Nat) (aK aV : Nat → Nat) (D : va_G) (cA : Nat → ClassId) : (flX10_init (E0 h b aK aV D cA) h)[40]? = some (cellE (E0 h b aK aV D cA) sg0 53 (.inl (0, 600))) := rfl
theorem wE_54 (h b : Nat) (aK aV : Nat → Nat) (D : va_G) (cA : Nat → ClassId) : (flX10_init (E0 h b aK aV D cA) h)[41]? = some (cellE (E0 h b aK aV D cA) sg0 54 (.inl (0, 4))) := rfl
theorem wE_55 (h b : Nat) (aK aV : Nat → Nat) (D : va_G) (cA : Nat → ClassId) : (flX10_init (E0 h b aK aV D cA) h)[42]? = some (cellE (E0 h b aK aV D cA) sg0 55 (.inl (0, 40))) := rfl
