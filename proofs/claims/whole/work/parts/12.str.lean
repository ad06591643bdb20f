theorem c_Slen (l : Launch) (q : Nat) : Ct l yJ0_length_8abf5 cJ0_length_8abf5 1 (some .int) 7 encI [.ref (1000 + 2 * q)] (f_Slen q) := sorry
theorem c_SchAt (l : Launch) (q : Nat) (x : Int32) : Ct l yJ0_charAt_5068e cJ0_charAt_5068e 2 (some .char) 7 encI [.ref (1000 + 2 * q), .int x] (f_SchAt q x) := sorry
theorem c_Sidx (l : Launch) (q : Nat) (x : Int32) : Ct l yJ0_indexOf_0f7a4 cJ0_indexOf_0f7a4 2 (some .int) 7 encI [.ref (1000 + 2 * q), .int x] (f_Sidx q x) := sorry
