-- ===== shapes of the cells =====
def FU : Nat := 8192
theorem sh0 : shp[0]? = some (.inr (10, [4, 0, 0, 0, 0, 0, 2, 5, 11, 0, 17, 20, 33, 36])) := rfl
theorem sh1 : shp[1]? = some (.inl (1, 600)) := rfl
theorem sh2 : shp[2]? = some (.inr (7, [4, 0, 0, 0, 5, 6, 7, 0, 8, 0])) := rfl
theorem sh3 : shp[3]? = some (.inl (0, 24)) := rfl
theorem sh4 : shp[4]? = some (.inl (0, 40)) := rfl
theorem sh5 : shp[5]? = some (.inl (0, 40)) := rfl
theorem sh6 : shp[6]? = some (.inl (0, 40)) := rfl
theorem sh7 : shp[7]? = some (.inl (0, 20)) := rfl
theorem sh8 : shp[8]? = some (.inr (7, [4, 0, 0, 0, 5, 6, 7, 0, 8, 0])) := rfl
theorem sh9 : shp[9]? = some (.inl (0, 24)) := rfl
theorem sh10 : shp[10]? = some (.inl (0, 40)) := rfl
theorem sh11 : shp[11]? = some (.inl (0, 40)) := rfl
theorem sh12 : shp[12]? = some (.inl (0, 40)) := rfl
theorem sh13 : shp[13]? = some (.inl (0, 20)) := rfl
theorem sh14 : shp[14]? = some (.inr (8, [4, 2, 0, 0, 0, 0])) := rfl
theorem sh15 : shp[15]? = some (.inr (5, [2, 0, 0, 0, 0, 0])) := rfl
theorem sh16 : shp[16]? = some (.inl (1, 0)) := rfl
theorem sh17 : shp[17]? = some (.inr (4, [4, 13, 14, 2, 0, 0, 0, 0, 2, 0, 0, 0, 0, 0, 0, 0])) := rfl
theorem sh18 : shp[18]? = some (.inl (4, 4)) := rfl
theorem sh19 : shp[19]? = some (.inr (1, [0, 0, 0, 0, 0, 0, 0, 0, 0, 0, 0, 0, 0, 0, 0, 4])) := rfl
theorem sh20 : shp[20]? = some (.inl (0, 6)) := rfl
theorem sh21 : shp[21]? = some (.inr (1, [0, 0, 0, 0, 0, 0, 0, 0, 0, 0, 0, 0, 0, 0, 0, 4])) := rfl
theorem sh22 : shp[22]? = some (.inl (0, 6)) := rfl
theorem sh23 : shp[23]? = some (.inr (1, [0, 0, 0, 0, 0, 0, 0, 0, 0, 0, 0, 0, 0, 0, 0, 4])) := rfl
theorem sh24 : shp[24]? = some (.inl (0, 6)) := rfl
theorem sh25 : shp[25]? = some (.inr (1, [0, 0, 0, 0, 0, 0, 0, 0, 0, 0, 0, 0, 0, 0, 0, 4])) := rfl
theorem sh26 : shp[26]? = some (.inl (0, 6)) := rfl
theorem sh27 : shp[27]? = some (.inl (0, 8)) := rfl
theorem sh28 : shp[28]? = some (.inr (3, [4, 0, 0, 0, 0])) := rfl
theorem sh29 : shp[29]? = some (.inl (0, 3000)) := rfl
theorem sh30 : shp[30]? = some (.inr (9, [4, 5, 1, 1])) := rfl
theorem sh31 : shp[31]? = some (.inl (3, 41)) := rfl
theorem sh32 : shp[32]? = some (.inl (3, 41)) := rfl
theorem sh33 : shp[33]? = some (.inr (0, [4, 1, 1, 0])) := rfl
theorem sh34 : shp[34]? = some (.inl (0, 8)) := rfl
theorem sh35 : shp[35]? = some (.inr (2, [0, 0, 0, 0, 0, 0, 0, 0, 4, 0, 5, 0, 6])) := rfl
theorem sh36 : shp[36]? = some (.inl (0, 24)) := rfl
theorem sh37 : shp[37]? = some (.inl (0, 8)) := rfl
theorem sh38 : shp[38]? = some (.inr (6, [4, 5, 6, 0, 0])) := rfl
theorem sh39 : shp[39]? = some (.inl (0, 600)) := rfl
theorem sh40 : shp[40]? = some (.inl (0, 4)) := rfl
theorem sh41 : shp[41]? = some (.inl (0, 40)) := rfl
theorem sh42 : shp[42]? = some (.inr (2, [0, 0, 0, 0, 0, 0, 0, 0, 4, 0, 5, 0, 6])) := rfl
theorem sh43 : shp[43]? = some (.inl (0, 24)) := rfl
theorem sh44 : shp[44]? = some (.inl (0, 8)) := rfl
theorem sh45 : shp[45]? = some (.inr (6, [4, 5, 6, 0, 0])) := rfl
theorem sh46 : shp[46]? = some (.inl (0, 600)) := rfl
theorem sh47 : shp[47]? = some (.inl (0, 4)) := rfl
theorem sh48 : shp[48]? = some (.inl (0, 40)) := rfl
theorem sh49 : shp[49]? = some (.inr (2, [0, 0, 0, 0, 0, 0, 0, 0, 4, 0, 5, 0, 6])) := rfl
theorem sh50 : shp[50]? = some (.inl (0, 24)) := rfl
theorem sh51 : shp[51]? = some (.inl (0, 8)) := rfl
theorem sh52 : shp[52]? = some (.inr (6, [4, 5, 6, 0, 0])) := rfl
theorem sh53 : shp[53]? = some (.inl (0, 600)) := rfl
theorem sh54 : shp[54]? = some (.inl (0, 4)) := rfl
theorem sh55 : shp[55]? = some (.inl (0, 40)) := rfl
theorem sh56 : shp[56]? = some (.inr (11, [0, 0, 0, 0, 0, 0, 0, 0, 0, 4, 5, 6, 7, 8, 9, 0, 0, 0, 10, 0, 0, 0, 0, 0, 0, 0, 1, 0, 0, 0, 0, 0, 0, 0, 0, 0, 0, 0, 0, 11, 12, 13, 14, 15, 16, 17, 0, 0, 0, 18, 19, 20, 21, 22, 23, 24, 25, 26, 27, 28, 29, 30, 31, 32, 0, 0, 0, 0, 0, 0, 0, 0, 0, 0, 33, 34, 35, 36, 1, 1, 0, 37, 38, 0, 0, 0, 0, 0, 39, 40, 41])) := rfl
theorem sh57 : shp[57]? = some (.inl (0, 3)) := rfl
theorem sh58 : shp[58]? = some (.inl (0, 24)) := rfl
theorem sh59 : shp[59]? = some (.inl (0, 4)) := rfl
theorem sh60 : shp[60]? = some (.inl (0, 8)) := rfl
theorem sh61 : shp[61]? = some (.inl (0, 1600)) := rfl
theorem sh62 : shp[62]? = some (.inl (0, 600)) := rfl
theorem sh63 : shp[63]? = some (.inl (0, 3)) := rfl
theorem sh64 : shp[64]? = some (.inl (0, 3)) := rfl
theorem sh65 : shp[65]? = some (.inl (0, 24)) := rfl
theorem sh66 : shp[66]? = some (.inl (0, 4)) := rfl
theorem sh67 : shp[67]? = some (.inl (0, 8)) := rfl
theorem sh68 : shp[68]? = some (.inl (0, 1600)) := rfl
theorem sh69 : shp[69]? = some (.inl (0, 800)) := rfl
theorem sh70 : shp[70]? = some (.inl (2, 9)) := rfl
theorem sh71 : shp[71]? = some (.inl (0, 80)) := rfl
theorem sh72 : shp[72]? = some (.inl (0, 800)) := rfl
theorem sh73 : shp[73]? = some (.inl (0, 4)) := rfl
theorem sh74 : shp[74]? = some (.inl (0, 4)) := rfl
theorem sh75 : shp[75]? = some (.inl (0, 4)) := rfl
theorem sh76 : shp[76]? = some (.inl (0, 4)) := rfl
theorem sh77 : shp[77]? = some (.inl (0, 4)) := rfl
theorem sh78 : shp[78]? = some (.inl (0, 4)) := rfl
theorem sh79 : shp[79]? = some (.inl (0, 4)) := rfl
theorem sh80 : shp[80]? = some (.inl (0, 4)) := rfl
theorem sh81 : shp[81]? = some (.inl (0, 4)) := rfl
theorem sh82 : shp[82]? = some (.inl (0, 4)) := rfl
theorem sh83 : shp[83]? = some (.inl (0, 24)) := rfl
theorem sh84 : shp[84]? = some (.inl (0, 2400)) := rfl
theorem sh85 : shp[85]? = some (.inl (0, 6500)) := rfl
theorem sh86 : shp[86]? = some (.inl (0, 1300)) := rfl
theorem sh87 : shp[87]? = some (.inl (0, 1300)) := rfl
theorem sh88 : shp[88]? = some (.inl (3, 41)) := rfl
theorem sh89 : shp[89]? = some (.inl (3, 41)) := rfl
theorem sh90 : shp[90]? = some (.inl (0, 20)) := rfl
theorem sh91 : shp[91]? = some (.inl (0, 8)) := rfl
theorem sh92 : shp[92]? = some (.inl (0, 24)) := rfl
theorem sh93 : shp[93]? = some (.inl (0, 80)) := rfl
theorem sh94 : shp[94]? = some (.inl (0, 20)) := rfl
theorem sh95 : shp[95]? = some (.inl (3, 1)) := rfl
def isFl (q : Nat) : Bool := q == 19 || (q == 21 || (q == 23 || q == 25))
def isFk (q : Nat) : Bool := q == 20 || (q == 22 || (q == 24 || q == 26))
def isGd (q : Nat) : Bool := q == 35 || (q == 42 || q == 49)
def isRu (q : Nat) : Bool := q == 38 || (q == 45 || q == 52)
def isSc (q : Nat) : Bool := q == 2 || q == 8
theorem or2 {q a b : Nat} (h : (q == a || q == b) = true) : q = a ∨ q = b := by simpa using h
theorem or3 {q a b c : Nat} (h : (q == a || (q == b || q == c)) = true) : q = a ∨ q = b ∨ q = c := by simpa using h
theorem or4 {q a b c d : Nat} (h : (q == a || (q == b || (q == c || q == d))) = true) : q = a ∨ q = b ∨ q = c ∨ q = d := by simpa using h
theorem fl_sh {q : Nat} (h : isFl q = true) : shp[q]? = some (.inr (1, [0, 0, 0, 0, 0, 0, 0, 0, 0, 0, 0, 0, 0, 0, 0, 4])) := by
  rcases or4 h with rfl | rfl | rfl | rfl <;> rfl
theorem fl_s1 {q : Nat} (h : isFl q = true) : shp[q + 1]? = some (.inl (0, 6)) := by
  rcases or4 h with rfl | rfl | rfl | rfl <;> rfl
theorem fk_sh {q : Nat} (h : isFk q = true) : shp[q]? = some (.inl (0, 6)) := by
  rcases or4 h with rfl | rfl | rfl | rfl <;> rfl
theorem gd_sh {q : Nat} (h : isGd q = true) : shp[q]? = some (.inr (2, [0, 0, 0, 0, 0, 0, 0, 0, 4, 0, 5, 0, 6])) := by
  rcases or3 h with rfl | rfl | rfl <;> rfl
theorem gd_s1 {q : Nat} (h : isGd q = true) : shp[q + 1]? = some (.inl (0, 24)) := by
  rcases or3 h with rfl | rfl | rfl <;> rfl
theorem gd_s2 {q : Nat} (h : isGd q = true) : shp[q + 2]? = some (.inl (0, 8)) := by
  rcases or3 h with rfl | rfl | rfl <;> rfl
theorem gd_s3 {q : Nat} (h : isGd q = true) : shp[q + 3]? = some (.inr (6, [4, 5, 6, 0, 0])) := by
  rcases or3 h with rfl | rfl | rfl <;> rfl
theorem ru_sh {q : Nat} (h : isRu q = true) : shp[q]? = some (.inr (6, [4, 5, 6, 0, 0])) := by
  rcases or3 h with rfl | rfl | rfl <;> rfl
theorem ru_s1 {q : Nat} (h : isRu q = true) : shp[q + 1]? = some (.inl (0, 600)) := by
  rcases or3 h with rfl | rfl | rfl <;> rfl
theorem ru_s2 {q : Nat} (h : isRu q = true) : shp[q + 2]? = some (.inl (0, 4)) := by
  rcases or3 h with rfl | rfl | rfl <;> rfl
theorem ru_s3 {q : Nat} (h : isRu q = true) : shp[q + 3]? = some (.inl (0, 40)) := by
  rcases or3 h with rfl | rfl | rfl <;> rfl
theorem sc_sh {q : Nat} (h : isSc q = true) : shp[q]? = some (.inr (7, [4, 0, 0, 0, 5, 6, 7, 0, 8, 0])) := by
  rcases or2 h with rfl | rfl <;> rfl
theorem sc_s1 {q : Nat} (h : isSc q = true) : shp[q + 1]? = some (.inl (0, 24)) := by
  rcases or2 h with rfl | rfl <;> rfl
theorem sc_s2 {q : Nat} (h : isSc q = true) : shp[q + 2]? = some (.inl (0, 40)) := by
  rcases or2 h with rfl | rfl <;> rfl
theorem sc_s3 {q : Nat} (h : isSc q = true) : shp[q + 3]? = some (.inl (0, 40)) := by
  rcases or2 h with rfl | rfl <;> rfl
theorem sc_s4 {q : Nat} (h : isSc q = true) : shp[q + 4]? = some (.inl (0, 40)) := by
  rcases or2 h with rfl | rfl <;> rfl
theorem sc_s5 {q : Nat} (h : isSc q = true) : shp[q + 5]? = some (.inl (0, 20)) := by
  rcases or2 h with rfl | rfl <;> rfl
theorem ne_toInt {x c : Int32} {z : Int} (hz : c.toInt = z) (h : ¬ x = c) : x.toInt ≠ z := fun e => h (Int32.toInt_inj.mp (e.trans hz.symm))
theorem lk_out2 {x : Int32} {a b da db df : Int} (ha : x.toInt ≠ a) (hb : x.toInt ≠ b) : Op.lookupswitch.offset [(a, da), (b, db)] df x.toInt = df := by
  simp [Op.lookupswitch.offset, ha, hb, Ne.symm ha, Ne.symm hb]
theorem uws_in {C : String} {T : u_T} {N : Nat} (is : List Nat) (h : (List.range N).all (fun k => decide (tables_1[is.getD k 0]? = some (u_lay C T k)) && goodWord (u_lay C T k)) = true) : ∀ w ∈ u_ws C T N, w ∈ gT := by
  intro w hw
  obtain ⟨k, hk, rfl⟩ := List.mem_map.mp hw
  have h1 := List.all_eq_true.mp h k hk
  simp only [Bool.and_eq_true, decide_eq_true_eq] at h1
  exact gT_tab _ h1.1 h1.2
theorem uwsX0 : ∀ w ∈ u_ws RX0 TX0 4, w ∈ gT := uws_in [452, 454, 456, 458] (by decide +kernel)
theorem uwsX1 : ∀ w ∈ u_ws RX1 TX1 16, w ∈ gT := uws_in [326, 328, 330, 332, 334, 336, 338, 340, 342, 344, 346, 348, 350, 352, 354, 356] (by decide +kernel)
theorem uwsX2 : ∀ w ∈ u_ws RX2 TX2 13, w ∈ gT := uws_in [121, 123, 125, 127, 129, 131, 133, 135, 137, 139, 141, 143, 145] (by decide +kernel)
theorem uwsX3 : ∀ w ∈ u_ws RX3 TX3 5, w ∈ gT := uws_in [273, 275, 277, 279, 281] (by decide +kernel)
theorem uwsX4 : ∀ w ∈ u_ws RX4 TX4 16, w ∈ gT := uws_in [384, 386, 388, 390, 392, 394, 396, 398, 400, 402, 404, 406, 408, 410, 412, 414] (by decide +kernel)
theorem uwsX5 : ∀ w ∈ u_ws RX5 TX5 6, w ∈ gT := uws_in [213, 215, 217, 219, 221, 223] (by decide +kernel)
theorem uwsX6 : ∀ w ∈ u_ws RX6 TX6 5, w ∈ gT := uws_in [54, 56, 58, 60, 62] (by decide +kernel)
theorem uwsX7 : ∀ w ∈ u_ws RX7 TX7 10, w ∈ gT := uws_in [171, 173, 175, 177, 179, 181, 183, 185, 187, 189] (by decide +kernel)
theorem uwsX8 : ∀ w ∈ u_ws RX8 TX8 6, w ∈ gT := uws_in [236, 238, 240, 242, 244, 246] (by decide +kernel)
theorem uwsX9 : ∀ w ∈ u_ws RX9 TX9 4, w ∈ gT := uws_in [429, 431, 433, 435] (by decide +kernel)
theorem uwsX10 : ∀ w ∈ u_ws RX10 TX10 14, w ∈ gT := uws_in [475, 477, 479, 481, 483, 485, 487, 489, 491, 493, 495, 497, 499, 501] (by decide +kernel)
theorem uwsX11 : ∀ w ∈ u_ws RX11 TX11 91, w ∈ gT := uws_in [1506, 1508, 1510, 1512, 1514, 1516, 1518, 1520, 1522, 1524, 1526, 1528, 1530, 1532, 1534, 1536, 1538, 1540, 1542, 1544, 1546, 1548, 1550, 1552, 1554, 1556, 1558, 1560, 1562, 1564, 1566, 1568, 1570, 1572, 1574, 1576, 1578, 1580, 1582, 1584, 1586, 1588, 1590, 1592, 1594, 1596, 1598, 1600, 1602, 1604, 1606, 1608, 1610, 1612, 1614, 1616, 1618, 1620, 1622, 1624, 1626, 1628, 1630, 1632, 1634, 1636, 1638, 1640, 1642, 1644, 1646, 1648, 1650, 1652, 1654, 1656, 1658, 1660, 1662, 1664, 1666, 1668, 1670, 1672, 1674, 1676, 1678, 1680, 1682, 1684, 1686] (by decide +kernel)
