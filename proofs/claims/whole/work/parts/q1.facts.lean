/-! ===== facts of the tables: the words behind each link, found by their places ===== -/
def lw_good : List Cond := lw_tbl.filter goodWord
theorem lw_g {w : Cond} (h : w ∈ lw_tbl) (g : goodWord w = true) : w ∈ lw_good := List.mem_filter.mpr ⟨h, g⟩
def mxCh : List (List Cond) := [k2_sels lw_privs, tables_1_1, tables_1_2, tables_1_3, tables_1_4, tables_1_5, tables_1_6, tables_1_7, tables_1_8]
def mxWd (i : Nat) : Option Cond := (mxCh.getD (i / 1000) [])[i % 1000]?
theorem mxCh_mem {w : Cond} {l : List Cond} (hl : l ∈ mxCh) (h : w ∈ l) : w ∈ lw_tbl := by
  show w ∈ k2_sels lw_privs ++ tables_1
  have e : tables_1 = tables_1_1 ++ (tables_1_2 ++ (tables_1_3 ++ (tables_1_4 ++ (tables_1_5 ++ (tables_1_6 ++ (tables_1_7 ++ (tables_1_8))))))) := rfl
  rw [e]
  simp only [mxCh, List.mem_cons, List.not_mem_nil, or_false] at hl
  simp only [List.mem_append]
  rcases hl with rfl | rfl | rfl | rfl | rfl | rfl | rfl | rfl | rfl <;> simp only [h, true_or, or_true]
theorem mxWd_mem {i : Nat} {w : Cond} (h : mxWd i = some w) : w ∈ lw_tbl := by
  unfold mxWd at h
  rw [List.getD_eq_getElem?_getD] at h
  cases hc : mxCh[i / 1000]? with
  | none => rw [hc] at h; simp at h
  | some l =>
    rw [hc] at h
    exact mxCh_mem (List.mem_of_getElem? hc) (List.mem_of_getElem? h)
def mxG1 (w : Cond) (i : Nat) : Bool := decide (mxWd i = some w) && goodWord w
theorem mxG1_ok {w : Cond} {i : Nat} (h : mxG1 w i = true) : w ∈ lw_good := by
  simp only [mxG1, Bool.and_eq_true, decide_eq_true_eq] at h
  exact lw_g (mxWd_mem h.1) h.2
def mxisF : Cond → Bool
  | .fieldLinkNest .. => true
  | _ => false
def mxisM : Cond → Bool
  | .methodLinkNest .. => true
  | _ => false
def mxNF : List Cond := lw_tbl.filter mxisF
def mxNM : List Cond := lw_tbl.filter mxisM
theorem mxNF_mem {w : Cond} {i : Nat} (h : (decide (mxWd i = some w) && mxisF w) = true) : w ∈ mxNF := by
  simp only [Bool.and_eq_true, decide_eq_true_eq] at h
  exact List.mem_filter.mpr ⟨mxWd_mem h.1, h.2⟩
theorem mxNM_mem {w : Cond} {i : Nat} (h : (decide (mxWd i = some w) && mxisM w) = true) : w ∈ mxNM := by
  simp only [Bool.and_eq_true, decide_eq_true_eq] at h
  exact List.mem_filter.mpr ⟨mxWd_mem h.1, h.2⟩
/-- of a table's find, what a check says of all its rows -/
theorem mx_all {α : Type} {T : List (List (Nat × α))} {ck : Nat → Nat × α → Bool} (hck : (List.range T.length).all (fun o => (T.getD o []).all (ck o)) = true) {o i : Nat} {a : α} (h : (T.getD o []).lookup i = some a) : ck o (i, a) = true := by
  have ho : o < T.length := by
    rcases Nat.lt_or_ge o T.length with q | q
    · exact q
    · rw [List.getD_eq_getElem?_getD, List.getElem?_eq_none q] at h
      cases h
  have h1 := List.all_eq_true.mp hck o (List.mem_range.mpr ho)
  refine List.all_eq_true.mp h1 (i, a) ?_
  revert h
  generalize T.getD o [] = l
  intro h
  induction l with
  | nil => cases h
  | cons q l ih =>
    obtain ⟨k, b⟩ := q
    rw [List.lookup_cons] at h
    by_cases e : i = k
    · subst e
      simp at h
      subst h
      exact List.mem_cons_self
    · rw [beq_eq_false_iff_ne.mpr e] at h
      exact List.mem_cons_of_mem _ (ih h)
def mxhT : List (Nat × List (Nat × Nat × Nat × Nat)) := [(2560, [(0, 16, 19, 13)]), (2561, [(0, 9, 12, 19)]), (2562, [(0, 9, 12, 24)]), (2563, [(0, 16, 19, 24)]), (2564, [(0, 9, 12, 24)]), (2565, [(0, 9, 12, 24)]), (2566, [(0, 9, 12, 24)]), (2567, [(0, 9, 12, 24)]), (2568, [(0, 9, 12, 24)]), (2569, [(0, 9, 12, 24)]), (2570, [(0, 9, 12, 24)]), (2571, [(0, 17, 20, 24)]), (2572, [(0, 9, 12, 24)]), (2573, [(0, 10, 13, 24), (0, 10, 17, 13)]), (2574, [(0, 10, 13, 24), (0, 10, 17, 13)]), (2575, [(0, 9, 12, 24), (0, 9, 15, 13)]), (2576, [(0, 9, 12, 24), (0, 9, 15, 13)]), (2577, [(0, 9, 12, 19)]), (2578, [(0, 9, 12, 19)]), (2579, [(0, 10, 13, 24)]), (2580, [(0, 10, 13, 24), (0, 10, 17, 19)]), (2581, [(0, 9, 12, 24)])]
def mxhh (y : Nat) : List (Nat × Nat × Nat × Nat) := (mxhT.lookup y).getD []
def mxcode (y : Nat) : Cond := if mxhh y = [] then .code (mxy y) (mxb y) (mxml y) (mxrt y) else .codeWith (mxy y) (mxb y) (mxml y) (mxrt y) (mxhh y)
def mxrok : Nat → Option FieldType → Bool
  | 0, some .int => true
  | 1, some .boolean => true
  | 2, some .byte => true
  | 3, some .char => true
  | 4, some .long => true
  | 5, some .double => true
  | 6, some (.object _) => true
  | 6, some (.array _) => true
  | 7, none => true
  | _, _ => false
def mxnMH (y : Nat) : Bool := decide ((mxy y).cls ≠ "java/lang/invoke/MethodHandle") && decide ((mxy y).cls ≠ "java/lang/invoke/VarHandle")
def mxMc (e : Nat × Nat × Nat) : Bool := mxG1 (.initialized (mxy e.1).cls) e.2.2 && decide ((mxy e.1).cls = mxcn (e.1 / 128)) && plainFor (mxy e.1) && mxnMH e.1 && decide (mxml e.1 ≤ 60) && mxrok (mxrk e.1) (mxrt e.1)
def mxYs : List (Nat × Nat × Nat) := [(128, 1207, 1009), (129, 5063, 1009), (130, 5067, 1009), (131, 5071, 1009), (132, 5089, 1009), (133, 5075, 1009), (134, 5103, 1009), (135, 5092, 1009), (136, 5078, 1009), (137, 5085, 1009), (384, 1093, 1008), (512, 1086, 1007), (513, 2229, 1007), (514, 2054, 1007), (515, 3039, 1007), (516, 3138, 1007), (517, 3082, 1007), (640, 1220, 1010), (641, 2058, 1010), (642, 3222, 1010), (643, 2065, 1010), (644, 2069, 1010), (645, 2073, 1010), (646, 2077, 1010), (647, 3226, 1010), (648, 5018, 1010), (649, 5030, 1010), (650, 5117, 1010), (651, 5121, 1010), (652, 3182, 1010), (653, 5096, 1010), (654, 3178, 1010), (655, 3190, 1010), (656, 3234, 1010), (657, 5109, 1010), (658, 4020, 1010), (659, 4024, 1010), (660, 3214, 1010), (661, 5000, 1010), (662, 3210, 1010), (663, 3206, 1010), (664, 4033, 1010), (768, 1174, 1003), (769, 2110, 1003), (770, 3142, 1003), (771, 3003, 1003), (772, 2239, 1003), (773, 3088, 1003), (774, 3008, 1003), (775, 2233, 1003), (776, 3015, 1003), (777, 3022, 1003), (778, 3027, 1003), (779, 3033, 1003), (780, 3055, 1003), (781, 3043, 1003), (782, 3062, 1003), (783, 3116, 1003), (784, 3120, 1003), (785, 3124, 1003), (786, 3130, 1003), (787, 3068, 1003), (788, 3072, 1003), (789, 3076, 1003), (790, 3096, 1003), (896, 1040, 1002), (897, 4045, 1002), (898, 4116, 1002), (899, 2126, 1002), (900, 2134, 1002), (901, 2138, 1002), (902, 2122, 1002), (1024, 1058, 1004), (1025, 2114, 1004), (1026, 2118, 1004), (1027, 2130, 1004), (1028, 2144, 1004), (1029, 2154, 1004), (1030, 2208, 1004), (1031, 2220, 1004), (1032, 2224, 1004), (1152, 1032, 1001), (1153, 4041, 1001), (1154, 4124, 1001), (1155, 2106, 1001), (1156, 3146, 1001), (1157, 3150, 1001), (1158, 3154, 1001), (1159, 3158, 1001), (1160, 3162, 1001), (1161, 3166, 1001), (1162, 3170, 1001), (1163, 3174, 1001), (1164, 3186, 1001), (1165, 3194, 1001), (1166, 3198, 1001), (1167, 4148, 1001), (1168, 4175, 1001), (1169, 4182, 1001), (1170, 4189, 1001), (1171, 4196, 1001), (1172, 4203, 1001), (1173, 4210, 1001), (1174, 4217, 1001), (1175, 4229, 1001), (1176, 4236, 1001), (1177, 5007, 1001), (1178, 3202, 1001), (1179, 5014, 1001), (1180, 5026, 1001), (1181, 5038, 1001), (1182, 5046, 1001), (1183, 5054, 1001), (1184, 5128, 1001), (1185, 5135, 1001), (1186, 5142, 1001), (1187, 3218, 1001), (1188, 5150, 1001), (1189, 3230, 1001), (1190, 3238, 1001), (1191, 4016, 1001), (1192, 4028, 1001), (1193, 4152, 1001), (1194, 4221, 1001), (1195, 5058, 1001), (1280, 5161, 1014), (1408, 6003, 1015), (1409, 8100, 1015), (1410, 7069, 1015), (1411, 7114, 1015), (1412, 7110, 1015), (1413, 7156, 1015), (1414, 7152, 1015), (1415, 7182, 1015), (1416, 7106, 1015), (1417, 7102, 1015), (1418, 8117, 1015), (1419, 7128, 1015), (1420, 7136, 1015), (1421, 7144, 1015), (1422, 8125, 1015), (1423, 7199, 1015), (1424, 7211, 1015), (1425, 7207, 1015), (1426, 7232, 1015), (1427, 8004, 1015), (1428, 8000, 1015), (1429, 8012, 1015), (1430, 8134, 1015), (1431, 8025, 1015), (1432, 8041, 1015), (1433, 8045, 1015), (1434, 8072, 1015), (1435, 8065, 1015), (1436, 8061, 1015), (1437, 8081, 1015), (1438, 8088, 1015), (1439, 8057, 1015), (1440, 8108, 1015), (1536, 5155, 1013), (1537, 6079, 1013), (1538, 6087, 1013), (1539, 7078, 1013), (1540, 6094, 1013), (1541, 7118, 1013), (1542, 7220, 1013), (1543, 8096, 1013), (1544, 8076, 1013), (1545, 6117, 1013), (1546, 6120, 1013), (1547, 6110, 1013), (1548, 6114, 1013), (1549, 6124, 1013), (1550, 6106, 1013), (1551, 6196, 1013), (1552, 7001, 1013), (1553, 6192, 1013), (1554, 6204, 1013), (1555, 6200, 1013), (1556, 6229, 1013), (1557, 6188, 1013), (1558, 6208, 1013), (1559, 6212, 1013), (1560, 7013, 1013), (1561, 7017, 1013), (1562, 7005, 1013), (1563, 6237, 1013), (1564, 7025, 1013), (1565, 7021, 1013), (1566, 6217, 1013), (1567, 6221, 1013), (1568, 7009, 1013), (1569, 6225, 1013), (1570, 6233, 1013), (1571, 7045, 1013), (1572, 7041, 1013), (1573, 7057, 1013), (1574, 7037, 1013), (1575, 7065, 1013), (1576, 7061, 1013), (1577, 7033, 1013), (1578, 7049, 1013), (1579, 7053, 1013), (1580, 7029, 1013), (1581, 6102, 1013), (1582, 6083, 1013), (1583, 6091, 1013), (1584, 6098, 1013), (1585, 7074, 1013), (1586, 7082, 1013), (1587, 7086, 1013), (1588, 7090, 1013), (1589, 7094, 1013), (1590, 7098, 1013), (1591, 7124, 1013), (1592, 7132, 1013), (1593, 7140, 1013), (1594, 7148, 1013), (1595, 7160, 1013), (1596, 7169, 1013), (1597, 7164, 1013), (1598, 7173, 1013), (1599, 7178, 1013), (1600, 7186, 1013), (1601, 7190, 1013), (1602, 7195, 1013), (1603, 7203, 1013), (1604, 7216, 1013), (1605, 7224, 1013), (1606, 7228, 1013), (1607, 7236, 1013), (1608, 8008, 1013), (1609, 8021, 1013), (1610, 8017, 1013), (1611, 8029, 1013), (1612, 8037, 1013), (1613, 8033, 1013), (1614, 8049, 1013), (1615, 8053, 1013), (1616, 8092, 1013), (1617, 8104, 1013), (1618, 8113, 1013), (1619, 8121, 1013), (1620, 8130, 1013), (1621, 8138, 1013), (1622, 8142, 1013), (1664, 2216, 1005), (1792, 5099, 1012), (1793, 2083, 1012), (1794, 2080, 1012), (1920, 2158, 1021), (1921, 2168, 1021), (1922, 6133, 1021), (1923, 6137, 1021), (1924, 2162, 1021), (1925, 2172, 1021), (1926, 2178, 1021), (2048, 2175, 1022), (2049, 6144, 1022), (2050, 6141, 1022), (2051, 6149, 1022), (2304, 2183, 1023), (2305, 6167, 1023), (2560, 4036, 1000), (2561, 4119, 1000), (2562, 4143, 1000), (2563, 4171, 1000), (2564, 4178, 1000), (2565, 4185, 1000), (2566, 4192, 1000), (2567, 4199, 1000), (2568, 4206, 1000), (2569, 4213, 1000), (2570, 4225, 1000), (2571, 4232, 1000), (2572, 5003, 1000), (2573, 5010, 1000), (2574, 5022, 1000), (2575, 5034, 1000), (2576, 5042, 1000), (2577, 5050, 1000), (2578, 5124, 1000), (2579, 5131, 1000), (2580, 5138, 1000), (2581, 5146, 1000)]
theorem mxpf1792 : plainFor (mxy 1792) = true := by decide +kernel
theorem mxpf1793 : plainFor (mxy 1793) = true := by decide +kernel
theorem mxpf1794 : plainFor (mxy 1794) = true := by decide +kernel
theorem mxYs_ok : mxYs.all mxMc = true := by decide +kernel
set_option maxRecDepth 100000 in
theorem mxcw128 : mxWd 1207 = some (mxcode 128) := rfl
set_option maxRecDepth 100000 in
theorem mxcw129 : mxWd 5063 = some (mxcode 129) := rfl
set_option maxRecDepth 100000 in
theorem mxcw130 : mxWd 5067 = some (mxcode 130) := rfl
set_option maxRecDepth 100000 in
theorem mxcw131 : mxWd 5071 = some (mxcode 131) := rfl
set_option maxRecDepth 100000 in
theorem mxcw132 : mxWd 5089 = some (mxcode 132) := rfl
set_option maxRecDepth 100000 in
theorem mxcw133 : mxWd 5075 = some (mxcode 133) := rfl
set_option maxRecDepth 100000 in
theorem mxcw134 : mxWd 5103 = some (mxcode 134) := rfl
set_option maxRecDepth 100000 in
theorem mxcw135 : mxWd 5092 = some (mxcode 135) := rfl
set_option maxRecDepth 100000 in
theorem mxcw136 : mxWd 5078 = some (mxcode 136) := rfl
set_option maxRecDepth 100000 in
theorem mxcw137 : mxWd 5085 = some (mxcode 137) := rfl
set_option maxRecDepth 100000 in
theorem mxcw384 : mxWd 1093 = some (mxcode 384) := rfl
set_option maxRecDepth 100000 in
theorem mxcw512 : mxWd 1086 = some (mxcode 512) := rfl
set_option maxRecDepth 100000 in
theorem mxcw513 : mxWd 2229 = some (mxcode 513) := rfl
set_option maxRecDepth 100000 in
theorem mxcw514 : mxWd 2054 = some (mxcode 514) := rfl
set_option maxRecDepth 100000 in
theorem mxcw515 : mxWd 3039 = some (mxcode 515) := rfl
set_option maxRecDepth 100000 in
theorem mxcw516 : mxWd 3138 = some (mxcode 516) := rfl
set_option maxRecDepth 100000 in
theorem mxcw517 : mxWd 3082 = some (mxcode 517) := rfl
set_option maxRecDepth 100000 in
theorem mxcw640 : mxWd 1220 = some (mxcode 640) := rfl
set_option maxRecDepth 100000 in
theorem mxcw641 : mxWd 2058 = some (mxcode 641) := rfl
set_option maxRecDepth 100000 in
theorem mxcw642 : mxWd 3222 = some (mxcode 642) := rfl
set_option maxRecDepth 100000 in
theorem mxcw643 : mxWd 2065 = some (mxcode 643) := rfl
set_option maxRecDepth 100000 in
theorem mxcw644 : mxWd 2069 = some (mxcode 644) := rfl
set_option maxRecDepth 100000 in
theorem mxcw645 : mxWd 2073 = some (mxcode 645) := rfl
set_option maxRecDepth 100000 in
theorem mxcw646 : mxWd 2077 = some (mxcode 646) := rfl
set_option maxRecDepth 100000 in
theorem mxcw647 : mxWd 3226 = some (mxcode 647) := rfl
set_option maxRecDepth 100000 in
theorem mxcw648 : mxWd 5018 = some (mxcode 648) := rfl
set_option maxRecDepth 100000 in
theorem mxcw649 : mxWd 5030 = some (mxcode 649) := rfl
set_option maxRecDepth 100000 in
theorem mxcw650 : mxWd 5117 = some (mxcode 650) := rfl
set_option maxRecDepth 100000 in
theorem mxcw651 : mxWd 5121 = some (mxcode 651) := rfl
set_option maxRecDepth 100000 in
theorem mxcw652 : mxWd 3182 = some (mxcode 652) := rfl
set_option maxRecDepth 100000 in
theorem mxcw653 : mxWd 5096 = some (mxcode 653) := rfl
set_option maxRecDepth 100000 in
theorem mxcw654 : mxWd 3178 = some (mxcode 654) := rfl
set_option maxRecDepth 100000 in
theorem mxcw655 : mxWd 3190 = some (mxcode 655) := rfl
set_option maxRecDepth 100000 in
theorem mxcw656 : mxWd 3234 = some (mxcode 656) := rfl
set_option maxRecDepth 100000 in
theorem mxcw657 : mxWd 5109 = some (mxcode 657) := rfl
set_option maxRecDepth 100000 in
theorem mxcw658 : mxWd 4020 = some (mxcode 658) := rfl
set_option maxRecDepth 100000 in
theorem mxcw659 : mxWd 4024 = some (mxcode 659) := rfl
set_option maxRecDepth 100000 in
theorem mxcw660 : mxWd 3214 = some (mxcode 660) := rfl
set_option maxRecDepth 100000 in
theorem mxcw661 : mxWd 5000 = some (mxcode 661) := rfl
set_option maxRecDepth 100000 in
theorem mxcw662 : mxWd 3210 = some (mxcode 662) := rfl
set_option maxRecDepth 100000 in
theorem mxcw663 : mxWd 3206 = some (mxcode 663) := rfl
set_option maxRecDepth 100000 in
theorem mxcw664 : mxWd 4033 = some (mxcode 664) := rfl
set_option maxRecDepth 100000 in
theorem mxcw768 : mxWd 1174 = some (mxcode 768) := rfl
set_option maxRecDepth 100000 in
theorem mxcw769 : mxWd 2110 = some (mxcode 769) := rfl
set_option maxRecDepth 100000 in
theorem mxcw770 : mxWd 3142 = some (mxcode 770) := rfl
set_option maxRecDepth 100000 in
theorem mxcw771 : mxWd 3003 = some (mxcode 771) := rfl
set_option maxRecDepth 100000 in
theorem mxcw772 : mxWd 2239 = some (mxcode 772) := rfl
set_option maxRecDepth 100000 in
theorem mxcw773 : mxWd 3088 = some (mxcode 773) := rfl
set_option maxRecDepth 100000 in
theorem mxcw774 : mxWd 3008 = some (mxcode 774) := rfl
set_option maxRecDepth 100000 in
theorem mxcw775 : mxWd 2233 = some (mxcode 775) := rfl
set_option maxRecDepth 100000 in
theorem mxcw776 : mxWd 3015 = some (mxcode 776) := rfl
set_option maxRecDepth 100000 in
theorem mxcw777 : mxWd 3022 = some (mxcode 777) := rfl
set_option maxRecDepth 100000 in
theorem mxcw778 : mxWd 3027 = some (mxcode 778) := rfl
set_option maxRecDepth 100000 in
theorem mxcw779 : mxWd 3033 = some (mxcode 779) := rfl
set_option maxRecDepth 100000 in
theorem mxcw780 : mxWd 3055 = some (mxcode 780) := rfl
set_option maxRecDepth 100000 in
theorem mxcw781 : mxWd 3043 = some (mxcode 781) := rfl
set_option maxRecDepth 100000 in
theorem mxcw782 : mxWd 3062 = some (mxcode 782) := rfl
set_option maxRecDepth 100000 in
theorem mxcw783 : mxWd 3116 = some (mxcode 783) := rfl
set_option maxRecDepth 100000 in
theorem mxcw784 : mxWd 3120 = some (mxcode 784) := rfl
set_option maxRecDepth 100000 in
theorem mxcw785 : mxWd 3124 = some (mxcode 785) := rfl
set_option maxRecDepth 100000 in
theorem mxcw786 : mxWd 3130 = some (mxcode 786) := rfl
set_option maxRecDepth 100000 in
theorem mxcw787 : mxWd 3068 = some (mxcode 787) := rfl
set_option maxRecDepth 100000 in
theorem mxcw788 : mxWd 3072 = some (mxcode 788) := rfl
set_option maxRecDepth 100000 in
theorem mxcw789 : mxWd 3076 = some (mxcode 789) := rfl
set_option maxRecDepth 100000 in
theorem mxcw790 : mxWd 3096 = some (mxcode 790) := rfl
set_option maxRecDepth 100000 in
theorem mxcw896 : mxWd 1040 = some (mxcode 896) := rfl
set_option maxRecDepth 100000 in
theorem mxcw897 : mxWd 4045 = some (mxcode 897) := rfl
set_option maxRecDepth 100000 in
theorem mxcw898 : mxWd 4116 = some (mxcode 898) := rfl
set_option maxRecDepth 100000 in
theorem mxcw899 : mxWd 2126 = some (mxcode 899) := rfl
set_option maxRecDepth 100000 in
theorem mxcw900 : mxWd 2134 = some (mxcode 900) := rfl
set_option maxRecDepth 100000 in
theorem mxcw901 : mxWd 2138 = some (mxcode 901) := rfl
set_option maxRecDepth 100000 in
theorem mxcw902 : mxWd 2122 = some (mxcode 902) := rfl
set_option maxRecDepth 100000 in
theorem mxcw1024 : mxWd 1058 = some (mxcode 1024) := rfl
set_option maxRecDepth 100000 in
theorem mxcw1025 : mxWd 2114 = some (mxcode 1025) := rfl
set_option maxRecDepth 100000 in
theorem mxcw1026 : mxWd 2118 = some (mxcode 1026) := rfl
set_option maxRecDepth 100000 in
theorem mxcw1027 : mxWd 2130 = some (mxcode 1027) := rfl
set_option maxRecDepth 100000 in
theorem mxcw1028 : mxWd 2144 = some (mxcode 1028) := rfl
set_option maxRecDepth 100000 in
theorem mxcw1029 : mxWd 2154 = some (mxcode 1029) := rfl
set_option maxRecDepth 100000 in
theorem mxcw1030 : mxWd 2208 = some (mxcode 1030) := rfl
set_option maxRecDepth 100000 in
theorem mxcw1031 : mxWd 2220 = some (mxcode 1031) := rfl
set_option maxRecDepth 100000 in
theorem mxcw1032 : mxWd 2224 = some (mxcode 1032) := rfl
set_option maxRecDepth 100000 in
theorem mxcw1152 : mxWd 1032 = some (mxcode 1152) := rfl
set_option maxRecDepth 100000 in
theorem mxcw1153 : mxWd 4041 = some (mxcode 1153) := rfl
set_option maxRecDepth 100000 in
theorem mxcw1154 : mxWd 4124 = some (mxcode 1154) := rfl
set_option maxRecDepth 100000 in
theorem mxcw1155 : mxWd 2106 = some (mxcode 1155) := rfl
set_option maxRecDepth 100000 in
theorem mxcw1156 : mxWd 3146 = some (mxcode 1156) := rfl
set_option maxRecDepth 100000 in
theorem mxcw1157 : mxWd 3150 = some (mxcode 1157) := rfl
set_option maxRecDepth 100000 in
theorem mxcw1158 : mxWd 3154 = some (mxcode 1158) := rfl
set_option maxRecDepth 100000 in
theorem mxcw1159 : mxWd 3158 = some (mxcode 1159) := rfl
set_option maxRecDepth 100000 in
theorem mxcw1160 : mxWd 3162 = some (mxcode 1160) := rfl
set_option maxRecDepth 100000 in
theorem mxcw1161 : mxWd 3166 = some (mxcode 1161) := rfl
set_option maxRecDepth 100000 in
theorem mxcw1162 : mxWd 3170 = some (mxcode 1162) := rfl
set_option maxRecDepth 100000 in
theorem mxcw1163 : mxWd 3174 = some (mxcode 1163) := rfl
set_option maxRecDepth 100000 in
theorem mxcw1164 : mxWd 3186 = some (mxcode 1164) := rfl
set_option maxRecDepth 100000 in
theorem mxcw1165 : mxWd 3194 = some (mxcode 1165) := rfl
set_option maxRecDepth 100000 in
theorem mxcw1166 : mxWd 3198 = some (mxcode 1166) := rfl
set_option maxRecDepth 100000 in
theorem mxcw1167 : mxWd 4148 = some (mxcode 1167) := rfl
set_option maxRecDepth 100000 in
theorem mxcw1168 : mxWd 4175 = some (mxcode 1168) := rfl
set_option maxRecDepth 100000 in
theorem mxcw1169 : mxWd 4182 = some (mxcode 1169) := rfl
set_option maxRecDepth 100000 in
theorem mxcw1170 : mxWd 4189 = some (mxcode 1170) := rfl
set_option maxRecDepth 100000 in
theorem mxcw1171 : mxWd 4196 = some (mxcode 1171) := rfl
set_option maxRecDepth 100000 in
theorem mxcw1172 : mxWd 4203 = some (mxcode 1172) := rfl
set_option maxRecDepth 100000 in
theorem mxcw1173 : mxWd 4210 = some (mxcode 1173) := rfl
set_option maxRecDepth 100000 in
theorem mxcw1174 : mxWd 4217 = some (mxcode 1174) := rfl
set_option maxRecDepth 100000 in
theorem mxcw1175 : mxWd 4229 = some (mxcode 1175) := rfl
set_option maxRecDepth 100000 in
theorem mxcw1176 : mxWd 4236 = some (mxcode 1176) := rfl
set_option maxRecDepth 100000 in
theorem mxcw1177 : mxWd 5007 = some (mxcode 1177) := rfl
set_option maxRecDepth 100000 in
theorem mxcw1178 : mxWd 3202 = some (mxcode 1178) := rfl
set_option maxRecDepth 100000 in
theorem mxcw1179 : mxWd 5014 = some (mxcode 1179) := rfl
set_option maxRecDepth 100000 in
theorem mxcw1180 : mxWd 5026 = some (mxcode 1180) := rfl
set_option maxRecDepth 100000 in
theorem mxcw1181 : mxWd 5038 = some (mxcode 1181) := rfl
set_option maxRecDepth 100000 in
theorem mxcw1182 : mxWd 5046 = some (mxcode 1182) := rfl
set_option maxRecDepth 100000 in
theorem mxcw1183 : mxWd 5054 = some (mxcode 1183) := rfl
set_option maxRecDepth 100000 in
theorem mxcw1184 : mxWd 5128 = some (mxcode 1184) := rfl
set_option maxRecDepth 100000 in
theorem mxcw1185 : mxWd 5135 = some (mxcode 1185) := rfl
set_option maxRecDepth 100000 in
theorem mxcw1186 : mxWd 5142 = some (mxcode 1186) := rfl
set_option maxRecDepth 100000 in
theorem mxcw1187 : mxWd 3218 = some (mxcode 1187) := rfl
set_option maxRecDepth 100000 in
theorem mxcw1188 : mxWd 5150 = some (mxcode 1188) := rfl
set_option maxRecDepth 100000 in
theorem mxcw1189 : mxWd 3230 = some (mxcode 1189) := rfl
set_option maxRecDepth 100000 in
theorem mxcw1190 : mxWd 3238 = some (mxcode 1190) := rfl
set_option maxRecDepth 100000 in
theorem mxcw1191 : mxWd 4016 = some (mxcode 1191) := rfl
set_option maxRecDepth 100000 in
theorem mxcw1192 : mxWd 4028 = some (mxcode 1192) := rfl
set_option maxRecDepth 100000 in
theorem mxcw1193 : mxWd 4152 = some (mxcode 1193) := rfl
set_option maxRecDepth 100000 in
theorem mxcw1194 : mxWd 4221 = some (mxcode 1194) := rfl
set_option maxRecDepth 100000 in
theorem mxcw1195 : mxWd 5058 = some (mxcode 1195) := rfl
set_option maxRecDepth 100000 in
theorem mxcw1280 : mxWd 5161 = some (mxcode 1280) := rfl
set_option maxRecDepth 100000 in
theorem mxcw1408 : mxWd 6003 = some (mxcode 1408) := rfl
set_option maxRecDepth 100000 in
theorem mxcw1409 : mxWd 8100 = some (mxcode 1409) := rfl
set_option maxRecDepth 100000 in
theorem mxcw1410 : mxWd 7069 = some (mxcode 1410) := rfl
set_option maxRecDepth 100000 in
theorem mxcw1411 : mxWd 7114 = some (mxcode 1411) := rfl
set_option maxRecDepth 100000 in
theorem mxcw1412 : mxWd 7110 = some (mxcode 1412) := rfl
set_option maxRecDepth 100000 in
theorem mxcw1413 : mxWd 7156 = some (mxcode 1413) := rfl
set_option maxRecDepth 100000 in
theorem mxcw1414 : mxWd 7152 = some (mxcode 1414) := rfl
set_option maxRecDepth 100000 in
theorem mxcw1415 : mxWd 7182 = some (mxcode 1415) := rfl
set_option maxRecDepth 100000 in
theorem mxcw1416 : mxWd 7106 = some (mxcode 1416) := rfl
set_option maxRecDepth 100000 in
theorem mxcw1417 : mxWd 7102 = some (mxcode 1417) := rfl
set_option maxRecDepth 100000 in
theorem mxcw1418 : mxWd 8117 = some (mxcode 1418) := rfl
set_option maxRecDepth 100000 in
theorem mxcw1419 : mxWd 7128 = some (mxcode 1419) := rfl
set_option maxRecDepth 100000 in
theorem mxcw1420 : mxWd 7136 = some (mxcode 1420) := rfl
set_option maxRecDepth 100000 in
theorem mxcw1421 : mxWd 7144 = some (mxcode 1421) := rfl
set_option maxRecDepth 100000 in
theorem mxcw1422 : mxWd 8125 = some (mxcode 1422) := rfl
set_option maxRecDepth 100000 in
theorem mxcw1423 : mxWd 7199 = some (mxcode 1423) := rfl
set_option maxRecDepth 100000 in
theorem mxcw1424 : mxWd 7211 = some (mxcode 1424) := rfl
set_option maxRecDepth 100000 in
theorem mxcw1425 : mxWd 7207 = some (mxcode 1425) := rfl
set_option maxRecDepth 100000 in
theorem mxcw1426 : mxWd 7232 = some (mxcode 1426) := rfl
set_option maxRecDepth 100000 in
theorem mxcw1427 : mxWd 8004 = some (mxcode 1427) := rfl
set_option maxRecDepth 100000 in
theorem mxcw1428 : mxWd 8000 = some (mxcode 1428) := rfl
set_option maxRecDepth 100000 in
theorem mxcw1429 : mxWd 8012 = some (mxcode 1429) := rfl
set_option maxRecDepth 100000 in
theorem mxcw1430 : mxWd 8134 = some (mxcode 1430) := rfl
set_option maxRecDepth 100000 in
theorem mxcw1431 : mxWd 8025 = some (mxcode 1431) := rfl
set_option maxRecDepth 100000 in
theorem mxcw1432 : mxWd 8041 = some (mxcode 1432) := rfl
set_option maxRecDepth 100000 in
theorem mxcw1433 : mxWd 8045 = some (mxcode 1433) := rfl
set_option maxRecDepth 100000 in
theorem mxcw1434 : mxWd 8072 = some (mxcode 1434) := rfl
set_option maxRecDepth 100000 in
theorem mxcw1435 : mxWd 8065 = some (mxcode 1435) := rfl
set_option maxRecDepth 100000 in
theorem mxcw1436 : mxWd 8061 = some (mxcode 1436) := rfl
set_option maxRecDepth 100000 in
theorem mxcw1437 : mxWd 8081 = some (mxcode 1437) := rfl
set_option maxRecDepth 100000 in
theorem mxcw1438 : mxWd 8088 = some (mxcode 1438) := rfl
set_option maxRecDepth 100000 in
theorem mxcw1439 : mxWd 8057 = some (mxcode 1439) := rfl
set_option maxRecDepth 100000 in
theorem mxcw1440 : mxWd 8108 = some (mxcode 1440) := rfl
set_option maxRecDepth 100000 in
theorem mxcw1536 : mxWd 5155 = some (mxcode 1536) := rfl
set_option maxRecDepth 100000 in
theorem mxcw1537 : mxWd 6079 = some (mxcode 1537) := rfl
set_option maxRecDepth 100000 in
theorem mxcw1538 : mxWd 6087 = some (mxcode 1538) := rfl
set_option maxRecDepth 100000 in
theorem mxcw1539 : mxWd 7078 = some (mxcode 1539) := rfl
set_option maxRecDepth 100000 in
theorem mxcw1540 : mxWd 6094 = some (mxcode 1540) := rfl
set_option maxRecDepth 100000 in
theorem mxcw1541 : mxWd 7118 = some (mxcode 1541) := rfl
set_option maxRecDepth 100000 in
theorem mxcw1542 : mxWd 7220 = some (mxcode 1542) := rfl
set_option maxRecDepth 100000 in
theorem mxcw1543 : mxWd 8096 = some (mxcode 1543) := rfl
set_option maxRecDepth 100000 in
theorem mxcw1544 : mxWd 8076 = some (mxcode 1544) := rfl
set_option maxRecDepth 100000 in
theorem mxcw1545 : mxWd 6117 = some (mxcode 1545) := rfl
set_option maxRecDepth 100000 in
theorem mxcw1546 : mxWd 6120 = some (mxcode 1546) := rfl
set_option maxRecDepth 100000 in
theorem mxcw1547 : mxWd 6110 = some (mxcode 1547) := rfl
set_option maxRecDepth 100000 in
theorem mxcw1548 : mxWd 6114 = some (mxcode 1548) := rfl
set_option maxRecDepth 100000 in
theorem mxcw1549 : mxWd 6124 = some (mxcode 1549) := rfl
set_option maxRecDepth 100000 in
theorem mxcw1550 : mxWd 6106 = some (mxcode 1550) := rfl
set_option maxRecDepth 100000 in
theorem mxcw1551 : mxWd 6196 = some (mxcode 1551) := rfl
set_option maxRecDepth 100000 in
theorem mxcw1552 : mxWd 7001 = some (mxcode 1552) := rfl
set_option maxRecDepth 100000 in
theorem mxcw1553 : mxWd 6192 = some (mxcode 1553) := rfl
set_option maxRecDepth 100000 in
theorem mxcw1554 : mxWd 6204 = some (mxcode 1554) := rfl
set_option maxRecDepth 100000 in
theorem mxcw1555 : mxWd 6200 = some (mxcode 1555) := rfl
set_option maxRecDepth 100000 in
theorem mxcw1556 : mxWd 6229 = some (mxcode 1556) := rfl
set_option maxRecDepth 100000 in
theorem mxcw1557 : mxWd 6188 = some (mxcode 1557) := rfl
set_option maxRecDepth 100000 in
theorem mxcw1558 : mxWd 6208 = some (mxcode 1558) := rfl
set_option maxRecDepth 100000 in
theorem mxcw1559 : mxWd 6212 = some (mxcode 1559) := rfl
set_option maxRecDepth 100000 in
theorem mxcw1560 : mxWd 7013 = some (mxcode 1560) := rfl
set_option maxRecDepth 100000 in
theorem mxcw1561 : mxWd 7017 = some (mxcode 1561) := rfl
set_option maxRecDepth 100000 in
theorem mxcw1562 : mxWd 7005 = some (mxcode 1562) := rfl
set_option maxRecDepth 100000 in
theorem mxcw1563 : mxWd 6237 = some (mxcode 1563) := rfl
set_option maxRecDepth 100000 in
theorem mxcw1564 : mxWd 7025 = some (mxcode 1564) := rfl
set_option maxRecDepth 100000 in
theorem mxcw1565 : mxWd 7021 = some (mxcode 1565) := rfl
set_option maxRecDepth 100000 in
theorem mxcw1566 : mxWd 6217 = some (mxcode 1566) := rfl
set_option maxRecDepth 100000 in
theorem mxcw1567 : mxWd 6221 = some (mxcode 1567) := rfl
set_option maxRecDepth 100000 in
theorem mxcw1568 : mxWd 7009 = some (mxcode 1568) := rfl
set_option maxRecDepth 100000 in
theorem mxcw1569 : mxWd 6225 = some (mxcode 1569) := rfl
set_option maxRecDepth 100000 in
theorem mxcw1570 : mxWd 6233 = some (mxcode 1570) := rfl
set_option maxRecDepth 100000 in
theorem mxcw1571 : mxWd 7045 = some (mxcode 1571) := rfl
set_option maxRecDepth 100000 in
theorem mxcw1572 : mxWd 7041 = some (mxcode 1572) := rfl
set_option maxRecDepth 100000 in
theorem mxcw1573 : mxWd 7057 = some (mxcode 1573) := rfl
set_option maxRecDepth 100000 in
theorem mxcw1574 : mxWd 7037 = some (mxcode 1574) := rfl
set_option maxRecDepth 100000 in
theorem mxcw1575 : mxWd 7065 = some (mxcode 1575) := rfl
set_option maxRecDepth 100000 in
theorem mxcw1576 : mxWd 7061 = some (mxcode 1576) := rfl
set_option maxRecDepth 100000 in
theorem mxcw1577 : mxWd 7033 = some (mxcode 1577) := rfl
set_option maxRecDepth 100000 in
theorem mxcw1578 : mxWd 7049 = some (mxcode 1578) := rfl
set_option maxRecDepth 100000 in
theorem mxcw1579 : mxWd 7053 = some (mxcode 1579) := rfl
set_option maxRecDepth 100000 in
theorem mxcw1580 : mxWd 7029 = some (mxcode 1580) := rfl
set_option maxRecDepth 100000 in
theorem mxcw1581 : mxWd 6102 = some (mxcode 1581) := rfl
set_option maxRecDepth 100000 in
theorem mxcw1582 : mxWd 6083 = some (mxcode 1582) := rfl
set_option maxRecDepth 100000 in
theorem mxcw1583 : mxWd 6091 = some (mxcode 1583) := rfl
set_option maxRecDepth 100000 in
theorem mxcw1584 : mxWd 6098 = some (mxcode 1584) := rfl
set_option maxRecDepth 100000 in
theorem mxcw1585 : mxWd 7074 = some (mxcode 1585) := rfl
set_option maxRecDepth 100000 in
theorem mxcw1586 : mxWd 7082 = some (mxcode 1586) := rfl
set_option maxRecDepth 100000 in
theorem mxcw1587 : mxWd 7086 = some (mxcode 1587) := rfl
set_option maxRecDepth 100000 in
theorem mxcw1588 : mxWd 7090 = some (mxcode 1588) := rfl
set_option maxRecDepth 100000 in
theorem mxcw1589 : mxWd 7094 = some (mxcode 1589) := rfl
set_option maxRecDepth 100000 in
theorem mxcw1590 : mxWd 7098 = some (mxcode 1590) := rfl
set_option maxRecDepth 100000 in
theorem mxcw1591 : mxWd 7124 = some (mxcode 1591) := rfl
set_option maxRecDepth 100000 in
theorem mxcw1592 : mxWd 7132 = some (mxcode 1592) := rfl
set_option maxRecDepth 100000 in
theorem mxcw1593 : mxWd 7140 = some (mxcode 1593) := rfl
set_option maxRecDepth 100000 in
theorem mxcw1594 : mxWd 7148 = some (mxcode 1594) := rfl
set_option maxRecDepth 100000 in
theorem mxcw1595 : mxWd 7160 = some (mxcode 1595) := rfl
set_option maxRecDepth 100000 in
theorem mxcw1596 : mxWd 7169 = some (mxcode 1596) := rfl
set_option maxRecDepth 100000 in
theorem mxcw1597 : mxWd 7164 = some (mxcode 1597) := rfl
set_option maxRecDepth 100000 in
theorem mxcw1598 : mxWd 7173 = some (mxcode 1598) := rfl
set_option maxRecDepth 100000 in
theorem mxcw1599 : mxWd 7178 = some (mxcode 1599) := rfl
set_option maxRecDepth 100000 in
theorem mxcw1600 : mxWd 7186 = some (mxcode 1600) := rfl
set_option maxRecDepth 100000 in
theorem mxcw1601 : mxWd 7190 = some (mxcode 1601) := rfl
set_option maxRecDepth 100000 in
theorem mxcw1602 : mxWd 7195 = some (mxcode 1602) := rfl
set_option maxRecDepth 100000 in
theorem mxcw1603 : mxWd 7203 = some (mxcode 1603) := rfl
set_option maxRecDepth 100000 in
theorem mxcw1604 : mxWd 7216 = some (mxcode 1604) := rfl
set_option maxRecDepth 100000 in
theorem mxcw1605 : mxWd 7224 = some (mxcode 1605) := rfl
set_option maxRecDepth 100000 in
theorem mxcw1606 : mxWd 7228 = some (mxcode 1606) := rfl
set_option maxRecDepth 100000 in
theorem mxcw1607 : mxWd 7236 = some (mxcode 1607) := rfl
set_option maxRecDepth 100000 in
theorem mxcw1608 : mxWd 8008 = some (mxcode 1608) := rfl
set_option maxRecDepth 100000 in
theorem mxcw1609 : mxWd 8021 = some (mxcode 1609) := rfl
set_option maxRecDepth 100000 in
theorem mxcw1610 : mxWd 8017 = some (mxcode 1610) := rfl
set_option maxRecDepth 100000 in
theorem mxcw1611 : mxWd 8029 = some (mxcode 1611) := rfl
set_option maxRecDepth 100000 in
theorem mxcw1612 : mxWd 8037 = some (mxcode 1612) := rfl
set_option maxRecDepth 100000 in
theorem mxcw1613 : mxWd 8033 = some (mxcode 1613) := rfl
set_option maxRecDepth 100000 in
theorem mxcw1614 : mxWd 8049 = some (mxcode 1614) := rfl
set_option maxRecDepth 100000 in
theorem mxcw1615 : mxWd 8053 = some (mxcode 1615) := rfl
set_option maxRecDepth 100000 in
theorem mxcw1616 : mxWd 8092 = some (mxcode 1616) := rfl
set_option maxRecDepth 100000 in
theorem mxcw1617 : mxWd 8104 = some (mxcode 1617) := rfl
set_option maxRecDepth 100000 in
theorem mxcw1618 : mxWd 8113 = some (mxcode 1618) := rfl
set_option maxRecDepth 100000 in
theorem mxcw1619 : mxWd 8121 = some (mxcode 1619) := rfl
set_option maxRecDepth 100000 in
theorem mxcw1620 : mxWd 8130 = some (mxcode 1620) := rfl
set_option maxRecDepth 100000 in
theorem mxcw1621 : mxWd 8138 = some (mxcode 1621) := rfl
set_option maxRecDepth 100000 in
theorem mxcw1622 : mxWd 8142 = some (mxcode 1622) := rfl
set_option maxRecDepth 100000 in
theorem mxcw1664 : mxWd 2216 = some (mxcode 1664) := rfl
set_option maxRecDepth 100000 in
theorem mxcw1792 : mxWd 5099 = some (mxcode 1792) := rfl
set_option maxRecDepth 100000 in
theorem mxcw1793 : mxWd 2083 = some (mxcode 1793) := rfl
set_option maxRecDepth 100000 in
theorem mxcw1794 : mxWd 2080 = some (mxcode 1794) := rfl
set_option maxRecDepth 100000 in
theorem mxcw1920 : mxWd 2158 = some (mxcode 1920) := rfl
set_option maxRecDepth 100000 in
theorem mxcw1921 : mxWd 2168 = some (mxcode 1921) := rfl
set_option maxRecDepth 100000 in
theorem mxcw1922 : mxWd 6133 = some (mxcode 1922) := rfl
set_option maxRecDepth 100000 in
theorem mxcw1923 : mxWd 6137 = some (mxcode 1923) := rfl
set_option maxRecDepth 100000 in
theorem mxcw1924 : mxWd 2162 = some (mxcode 1924) := rfl
set_option maxRecDepth 100000 in
theorem mxcw1925 : mxWd 2172 = some (mxcode 1925) := rfl
set_option maxRecDepth 100000 in
theorem mxcw1926 : mxWd 2178 = some (mxcode 1926) := rfl
set_option maxRecDepth 100000 in
theorem mxcw2048 : mxWd 2175 = some (mxcode 2048) := rfl
set_option maxRecDepth 100000 in
theorem mxcw2049 : mxWd 6144 = some (mxcode 2049) := rfl
set_option maxRecDepth 100000 in
theorem mxcw2050 : mxWd 6141 = some (mxcode 2050) := rfl
set_option maxRecDepth 100000 in
theorem mxcw2051 : mxWd 6149 = some (mxcode 2051) := rfl
set_option maxRecDepth 100000 in
theorem mxcw2304 : mxWd 2183 = some (mxcode 2304) := rfl
set_option maxRecDepth 100000 in
theorem mxcw2305 : mxWd 6167 = some (mxcode 2305) := rfl
set_option maxRecDepth 100000 in
theorem mxcw2560 : mxWd 4036 = some (mxcode 2560) := rfl
set_option maxRecDepth 100000 in
theorem mxcw2561 : mxWd 4119 = some (mxcode 2561) := rfl
set_option maxRecDepth 100000 in
theorem mxcw2562 : mxWd 4143 = some (mxcode 2562) := rfl
set_option maxRecDepth 100000 in
theorem mxcw2563 : mxWd 4171 = some (mxcode 2563) := rfl
set_option maxRecDepth 100000 in
theorem mxcw2564 : mxWd 4178 = some (mxcode 2564) := rfl
set_option maxRecDepth 100000 in
theorem mxcw2565 : mxWd 4185 = some (mxcode 2565) := rfl
set_option maxRecDepth 100000 in
theorem mxcw2566 : mxWd 4192 = some (mxcode 2566) := rfl
set_option maxRecDepth 100000 in
theorem mxcw2567 : mxWd 4199 = some (mxcode 2567) := rfl
set_option maxRecDepth 100000 in
theorem mxcw2568 : mxWd 4206 = some (mxcode 2568) := rfl
set_option maxRecDepth 100000 in
theorem mxcw2569 : mxWd 4213 = some (mxcode 2569) := rfl
set_option maxRecDepth 100000 in
theorem mxcw2570 : mxWd 4225 = some (mxcode 2570) := rfl
set_option maxRecDepth 100000 in
theorem mxcw2571 : mxWd 4232 = some (mxcode 2571) := rfl
set_option maxRecDepth 100000 in
theorem mxcw2572 : mxWd 5003 = some (mxcode 2572) := rfl
set_option maxRecDepth 100000 in
theorem mxcw2573 : mxWd 5010 = some (mxcode 2573) := rfl
set_option maxRecDepth 100000 in
theorem mxcw2574 : mxWd 5022 = some (mxcode 2574) := rfl
set_option maxRecDepth 100000 in
theorem mxcw2575 : mxWd 5034 = some (mxcode 2575) := rfl
set_option maxRecDepth 100000 in
theorem mxcw2576 : mxWd 5042 = some (mxcode 2576) := rfl
set_option maxRecDepth 100000 in
theorem mxcw2577 : mxWd 5050 = some (mxcode 2577) := rfl
set_option maxRecDepth 100000 in
theorem mxcw2578 : mxWd 5124 = some (mxcode 2578) := rfl
set_option maxRecDepth 100000 in
theorem mxcw2579 : mxWd 5131 = some (mxcode 2579) := rfl
set_option maxRecDepth 100000 in
theorem mxcw2580 : mxWd 5138 = some (mxcode 2580) := rfl
set_option maxRecDepth 100000 in
theorem mxcw2581 : mxWd 5146 = some (mxcode 2581) := rfl
def mxYs0 : List (Nat × Nat × Nat) := [(128, 1207, 1009), (129, 5063, 1009), (130, 5067, 1009), (131, 5071, 1009), (132, 5089, 1009), (133, 5075, 1009), (134, 5103, 1009), (135, 5092, 1009), (136, 5078, 1009), (137, 5085, 1009), (384, 1093, 1008), (512, 1086, 1007), (513, 2229, 1007), (514, 2054, 1007), (515, 3039, 1007), (516, 3138, 1007), (517, 3082, 1007), (640, 1220, 1010), (641, 2058, 1010), (642, 3222, 1010), (643, 2065, 1010), (644, 2069, 1010), (645, 2073, 1010), (646, 2077, 1010), (647, 3226, 1010), (648, 5018, 1010), (649, 5030, 1010), (650, 5117, 1010), (651, 5121, 1010), (652, 3182, 1010)]
theorem mxYc0 : ∀ e ∈ mxYs0, mxWd e.2.1 = some (mxcode e.1) := List.forall_mem_cons.mpr ⟨mxcw128, List.forall_mem_cons.mpr ⟨mxcw129, List.forall_mem_cons.mpr ⟨mxcw130, List.forall_mem_cons.mpr ⟨mxcw131, List.forall_mem_cons.mpr ⟨mxcw132, List.forall_mem_cons.mpr ⟨mxcw133, List.forall_mem_cons.mpr ⟨mxcw134, List.forall_mem_cons.mpr ⟨mxcw135, List.forall_mem_cons.mpr ⟨mxcw136, List.forall_mem_cons.mpr ⟨mxcw137, List.forall_mem_cons.mpr ⟨mxcw384, List.forall_mem_cons.mpr ⟨mxcw512, List.forall_mem_cons.mpr ⟨mxcw513, List.forall_mem_cons.mpr ⟨mxcw514, List.forall_mem_cons.mpr ⟨mxcw515, List.forall_mem_cons.mpr ⟨mxcw516, List.forall_mem_cons.mpr ⟨mxcw517, List.forall_mem_cons.mpr ⟨mxcw640, List.forall_mem_cons.mpr ⟨mxcw641, List.forall_mem_cons.mpr ⟨mxcw642, List.forall_mem_cons.mpr ⟨mxcw643, List.forall_mem_cons.mpr ⟨mxcw644, List.forall_mem_cons.mpr ⟨mxcw645, List.forall_mem_cons.mpr ⟨mxcw646, List.forall_mem_cons.mpr ⟨mxcw647, List.forall_mem_cons.mpr ⟨mxcw648, List.forall_mem_cons.mpr ⟨mxcw649, List.forall_mem_cons.mpr ⟨mxcw650, List.forall_mem_cons.mpr ⟨mxcw651, List.forall_mem_cons.mpr ⟨mxcw652, fun _ h => nomatch h⟩⟩⟩⟩⟩⟩⟩⟩⟩⟩⟩⟩⟩⟩⟩⟩⟩⟩⟩⟩⟩⟩⟩⟩⟩⟩⟩⟩⟩⟩
def mxYs1 : List (Nat × Nat × Nat) := [(653, 5096, 1010), (654, 3178, 1010), (655, 3190, 1010), (656, 3234, 1010), (657, 5109, 1010), (658, 4020, 1010), (659, 4024, 1010), (660, 3214, 1010), (661, 5000, 1010), (662, 3210, 1010), (663, 3206, 1010), (664, 4033, 1010), (768, 1174, 1003), (769, 2110, 1003), (770, 3142, 1003), (771, 3003, 1003), (772, 2239, 1003), (773, 3088, 1003), (774, 3008, 1003), (775, 2233, 1003), (776, 3015, 1003), (777, 3022, 1003), (778, 3027, 1003), (779, 3033, 1003), (780, 3055, 1003), (781, 3043, 1003), (782, 3062, 1003), (783, 3116, 1003), (784, 3120, 1003), (785, 3124, 1003)]
theorem mxYc1 : ∀ e ∈ mxYs1, mxWd e.2.1 = some (mxcode e.1) := List.forall_mem_cons.mpr ⟨mxcw653, List.forall_mem_cons.mpr ⟨mxcw654, List.forall_mem_cons.mpr ⟨mxcw655, List.forall_mem_cons.mpr ⟨mxcw656, List.forall_mem_cons.mpr ⟨mxcw657, List.forall_mem_cons.mpr ⟨mxcw658, List.forall_mem_cons.mpr ⟨mxcw659, List.forall_mem_cons.mpr ⟨mxcw660, List.forall_mem_cons.mpr ⟨mxcw661, List.forall_mem_cons.mpr ⟨mxcw662, List.forall_mem_cons.mpr ⟨mxcw663, List.forall_mem_cons.mpr ⟨mxcw664, List.forall_mem_cons.mpr ⟨mxcw768, List.forall_mem_cons.mpr ⟨mxcw769, List.forall_mem_cons.mpr ⟨mxcw770, List.forall_mem_cons.mpr ⟨mxcw771, List.forall_mem_cons.mpr ⟨mxcw772, List.forall_mem_cons.mpr ⟨mxcw773, List.forall_mem_cons.mpr ⟨mxcw774, List.forall_mem_cons.mpr ⟨mxcw775, List.forall_mem_cons.mpr ⟨mxcw776, List.forall_mem_cons.mpr ⟨mxcw777, List.forall_mem_cons.mpr ⟨mxcw778, List.forall_mem_cons.mpr ⟨mxcw779, List.forall_mem_cons.mpr ⟨mxcw780, List.forall_mem_cons.mpr ⟨mxcw781, List.forall_mem_cons.mpr ⟨mxcw782, List.forall_mem_cons.mpr ⟨mxcw783, List.forall_mem_cons.mpr ⟨mxcw784, List.forall_mem_cons.mpr ⟨mxcw785, fun _ h => nomatch h⟩⟩⟩⟩⟩⟩⟩⟩⟩⟩⟩⟩⟩⟩⟩⟩⟩⟩⟩⟩⟩⟩⟩⟩⟩⟩⟩⟩⟩⟩
def mxYs2 : List (Nat × Nat × Nat) := [(786, 3130, 1003), (787, 3068, 1003), (788, 3072, 1003), (789, 3076, 1003), (790, 3096, 1003), (896, 1040, 1002), (897, 4045, 1002), (898, 4116, 1002), (899, 2126, 1002), (900, 2134, 1002), (901, 2138, 1002), (902, 2122, 1002), (1024, 1058, 1004), (1025, 2114, 1004), (1026, 2118, 1004), (1027, 2130, 1004), (1028, 2144, 1004), (1029, 2154, 1004), (1030, 2208, 1004), (1031, 2220, 1004), (1032, 2224, 1004), (1152, 1032, 1001), (1153, 4041, 1001), (1154, 4124, 1001), (1155, 2106, 1001), (1156, 3146, 1001), (1157, 3150, 1001), (1158, 3154, 1001), (1159, 3158, 1001), (1160, 3162, 1001)]
theorem mxYc2 : ∀ e ∈ mxYs2, mxWd e.2.1 = some (mxcode e.1) := List.forall_mem_cons.mpr ⟨mxcw786, List.forall_mem_cons.mpr ⟨mxcw787, List.forall_mem_cons.mpr ⟨mxcw788, List.forall_mem_cons.mpr ⟨mxcw789, List.forall_mem_cons.mpr ⟨mxcw790, List.forall_mem_cons.mpr ⟨mxcw896, List.forall_mem_cons.mpr ⟨mxcw897, List.forall_mem_cons.mpr ⟨mxcw898, List.forall_mem_cons.mpr ⟨mxcw899, List.forall_mem_cons.mpr ⟨mxcw900, List.forall_mem_cons.mpr ⟨mxcw901, List.forall_mem_cons.mpr ⟨mxcw902, List.forall_mem_cons.mpr ⟨mxcw1024, List.forall_mem_cons.mpr ⟨mxcw1025, List.forall_mem_cons.mpr ⟨mxcw1026, List.forall_mem_cons.mpr ⟨mxcw1027, List.forall_mem_cons.mpr ⟨mxcw1028, List.forall_mem_cons.mpr ⟨mxcw1029, List.forall_mem_cons.mpr ⟨mxcw1030, List.forall_mem_cons.mpr ⟨mxcw1031, List.forall_mem_cons.mpr ⟨mxcw1032, List.forall_mem_cons.mpr ⟨mxcw1152, List.forall_mem_cons.mpr ⟨mxcw1153, List.forall_mem_cons.mpr ⟨mxcw1154, List.forall_mem_cons.mpr ⟨mxcw1155, List.forall_mem_cons.mpr ⟨mxcw1156, List.forall_mem_cons.mpr ⟨mxcw1157, List.forall_mem_cons.mpr ⟨mxcw1158, List.forall_mem_cons.mpr ⟨mxcw1159, List.forall_mem_cons.mpr ⟨mxcw1160, fun _ h => nomatch h⟩⟩⟩⟩⟩⟩⟩⟩⟩⟩⟩⟩⟩⟩⟩⟩⟩⟩⟩⟩⟩⟩⟩⟩⟩⟩⟩⟩⟩⟩
def mxYs3 : List (Nat × Nat × Nat) := [(1161, 3166, 1001), (1162, 3170, 1001), (1163, 3174, 1001), (1164, 3186, 1001), (1165, 3194, 1001), (1166, 3198, 1001), (1167, 4148, 1001), (1168, 4175, 1001), (1169, 4182, 1001), (1170, 4189, 1001), (1171, 4196, 1001), (1172, 4203, 1001), (1173, 4210, 1001), (1174, 4217, 1001), (1175, 4229, 1001), (1176, 4236, 1001), (1177, 5007, 1001), (1178, 3202, 1001), (1179, 5014, 1001), (1180, 5026, 1001), (1181, 5038, 1001), (1182, 5046, 1001), (1183, 5054, 1001), (1184, 5128, 1001), (1185, 5135, 1001), (1186, 5142, 1001), (1187, 3218, 1001), (1188, 5150, 1001), (1189, 3230, 1001), (1190, 3238, 1001)]
theorem mxYc3 : ∀ e ∈ mxYs3, mxWd e.2.1 = some (mxcode e.1) := List.forall_mem_cons.mpr ⟨mxcw1161, List.forall_mem_cons.mpr ⟨mxcw1162, List.forall_mem_cons.mpr ⟨mxcw1163, List.forall_mem_cons.mpr ⟨mxcw1164, List.forall_mem_cons.mpr ⟨mxcw1165, List.forall_mem_cons.mpr ⟨mxcw1166, List.forall_mem_cons.mpr ⟨mxcw1167, List.forall_mem_cons.mpr ⟨mxcw1168, List.forall_mem_cons.mpr ⟨mxcw1169, List.forall_mem_cons.mpr ⟨mxcw1170, List.forall_mem_cons.mpr ⟨mxcw1171, List.forall_mem_cons.mpr ⟨mxcw1172, List.forall_mem_cons.mpr ⟨mxcw1173, List.forall_mem_cons.mpr ⟨mxcw1174, List.forall_mem_cons.mpr ⟨mxcw1175, List.forall_mem_cons.mpr ⟨mxcw1176, List.forall_mem_cons.mpr ⟨mxcw1177, List.forall_mem_cons.mpr ⟨mxcw1178, List.forall_mem_cons.mpr ⟨mxcw1179, List.forall_mem_cons.mpr ⟨mxcw1180, List.forall_mem_cons.mpr ⟨mxcw1181, List.forall_mem_cons.mpr ⟨mxcw1182, List.forall_mem_cons.mpr ⟨mxcw1183, List.forall_mem_cons.mpr ⟨mxcw1184, List.forall_mem_cons.mpr ⟨mxcw1185, List.forall_mem_cons.mpr ⟨mxcw1186, List.forall_mem_cons.mpr ⟨mxcw1187, List.forall_mem_cons.mpr ⟨mxcw1188, List.forall_mem_cons.mpr ⟨mxcw1189, List.forall_mem_cons.mpr ⟨mxcw1190, fun _ h => nomatch h⟩⟩⟩⟩⟩⟩⟩⟩⟩⟩⟩⟩⟩⟩⟩⟩⟩⟩⟩⟩⟩⟩⟩⟩⟩⟩⟩⟩⟩⟩
def mxYs4 : List (Nat × Nat × Nat) := [(1191, 4016, 1001), (1192, 4028, 1001), (1193, 4152, 1001), (1194, 4221, 1001), (1195, 5058, 1001), (1280, 5161, 1014), (1408, 6003, 1015), (1409, 8100, 1015), (1410, 7069, 1015), (1411, 7114, 1015), (1412, 7110, 1015), (1413, 7156, 1015), (1414, 7152, 1015), (1415, 7182, 1015), (1416, 7106, 1015), (1417, 7102, 1015), (1418, 8117, 1015), (1419, 7128, 1015), (1420, 7136, 1015), (1421, 7144, 1015), (1422, 8125, 1015), (1423, 7199, 1015), (1424, 7211, 1015), (1425, 7207, 1015), (1426, 7232, 1015), (1427, 8004, 1015), (1428, 8000, 1015), (1429, 8012, 1015), (1430, 8134, 1015), (1431, 8025, 1015)]
theorem mxYc4 : ∀ e ∈ mxYs4, mxWd e.2.1 = some (mxcode e.1) := List.forall_mem_cons.mpr ⟨mxcw1191, List.forall_mem_cons.mpr ⟨mxcw1192, List.forall_mem_cons.mpr ⟨mxcw1193, List.forall_mem_cons.mpr ⟨mxcw1194, List.forall_mem_cons.mpr ⟨mxcw1195, List.forall_mem_cons.mpr ⟨mxcw1280, List.forall_mem_cons.mpr ⟨mxcw1408, List.forall_mem_cons.mpr ⟨mxcw1409, List.forall_mem_cons.mpr ⟨mxcw1410, List.forall_mem_cons.mpr ⟨mxcw1411, List.forall_mem_cons.mpr ⟨mxcw1412, List.forall_mem_cons.mpr ⟨mxcw1413, List.forall_mem_cons.mpr ⟨mxcw1414, List.forall_mem_cons.mpr ⟨mxcw1415, List.forall_mem_cons.mpr ⟨mxcw1416, List.forall_mem_cons.mpr ⟨mxcw1417, List.forall_mem_cons.mpr ⟨mxcw1418, List.forall_mem_cons.mpr ⟨mxcw1419, List.forall_mem_cons.mpr ⟨mxcw1420, List.forall_mem_cons.mpr ⟨mxcw1421, List.forall_mem_cons.mpr ⟨mxcw1422, List.forall_mem_cons.mpr ⟨mxcw1423, List.forall_mem_cons.mpr ⟨mxcw1424, List.forall_mem_cons.mpr ⟨mxcw1425, List.forall_mem_cons.mpr ⟨mxcw1426, List.forall_mem_cons.mpr ⟨mxcw1427, List.forall_mem_cons.mpr ⟨mxcw1428, List.forall_mem_cons.mpr ⟨mxcw1429, List.forall_mem_cons.mpr ⟨mxcw1430, List.forall_mem_cons.mpr ⟨mxcw1431, fun _ h => nomatch h⟩⟩⟩⟩⟩⟩⟩⟩⟩⟩⟩⟩⟩⟩⟩⟩⟩⟩⟩⟩⟩⟩⟩⟩⟩⟩⟩⟩⟩⟩
def mxYs5 : List (Nat × Nat × Nat) := [(1432, 8041, 1015), (1433, 8045, 1015), (1434, 8072, 1015), (1435, 8065, 1015), (1436, 8061, 1015), (1437, 8081, 1015), (1438, 8088, 1015), (1439, 8057, 1015), (1440, 8108, 1015), (1536, 5155, 1013), (1537, 6079, 1013), (1538, 6087, 1013), (1539, 7078, 1013), (1540, 6094, 1013), (1541, 7118, 1013), (1542, 7220, 1013), (1543, 8096, 1013), (1544, 8076, 1013), (1545, 6117, 1013), (1546, 6120, 1013), (1547, 6110, 1013), (1548, 6114, 1013), (1549, 6124, 1013), (1550, 6106, 1013), (1551, 6196, 1013), (1552, 7001, 1013), (1553, 6192, 1013), (1554, 6204, 1013), (1555, 6200, 1013), (1556, 6229, 1013)]
theorem mxYc5 : ∀ e ∈ mxYs5, mxWd e.2.1 = some (mxcode e.1) := List.forall_mem_cons.mpr ⟨mxcw1432, List.forall_mem_cons.mpr ⟨mxcw1433, List.forall_mem_cons.mpr ⟨mxcw1434, List.forall_mem_cons.mpr ⟨mxcw1435, List.forall_mem_cons.mpr ⟨mxcw1436, List.forall_mem_cons.mpr ⟨mxcw1437, List.forall_mem_cons.mpr ⟨mxcw1438, List.forall_mem_cons.mpr ⟨mxcw1439, List.forall_mem_cons.mpr ⟨mxcw1440, List.forall_mem_cons.mpr ⟨mxcw1536, List.forall_mem_cons.mpr ⟨mxcw1537, List.forall_mem_cons.mpr ⟨mxcw1538, List.forall_mem_cons.mpr ⟨mxcw1539, List.forall_mem_cons.mpr ⟨mxcw1540, List.forall_mem_cons.mpr ⟨mxcw1541, List.forall_mem_cons.mpr ⟨mxcw1542, List.forall_mem_cons.mpr ⟨mxcw1543, List.forall_mem_cons.mpr ⟨mxcw1544, List.forall_mem_cons.mpr ⟨mxcw1545, List.forall_mem_cons.mpr ⟨mxcw1546, List.forall_mem_cons.mpr ⟨mxcw1547, List.forall_mem_cons.mpr ⟨mxcw1548, List.forall_mem_cons.mpr ⟨mxcw1549, List.forall_mem_cons.mpr ⟨mxcw1550, List.forall_mem_cons.mpr ⟨mxcw1551, List.forall_mem_cons.mpr ⟨mxcw1552, List.forall_mem_cons.mpr ⟨mxcw1553, List.forall_mem_cons.mpr ⟨mxcw1554, List.forall_mem_cons.mpr ⟨mxcw1555, List.forall_mem_cons.mpr ⟨mxcw1556, fun _ h => nomatch h⟩⟩⟩⟩⟩⟩⟩⟩⟩⟩⟩⟩⟩⟩⟩⟩⟩⟩⟩⟩⟩⟩⟩⟩⟩⟩⟩⟩⟩⟩
def mxYs6 : List (Nat × Nat × Nat) := [(1557, 6188, 1013), (1558, 6208, 1013), (1559, 6212, 1013), (1560, 7013, 1013), (1561, 7017, 1013), (1562, 7005, 1013), (1563, 6237, 1013), (1564, 7025, 1013), (1565, 7021, 1013), (1566, 6217, 1013), (1567, 6221, 1013), (1568, 7009, 1013), (1569, 6225, 1013), (1570, 6233, 1013), (1571, 7045, 1013), (1572, 7041, 1013), (1573, 7057, 1013), (1574, 7037, 1013), (1575, 7065, 1013), (1576, 7061, 1013), (1577, 7033, 1013), (1578, 7049, 1013), (1579, 7053, 1013), (1580, 7029, 1013), (1581, 6102, 1013), (1582, 6083, 1013), (1583, 6091, 1013), (1584, 6098, 1013), (1585, 7074, 1013), (1586, 7082, 1013)]
theorem mxYc6 : ∀ e ∈ mxYs6, mxWd e.2.1 = some (mxcode e.1) := List.forall_mem_cons.mpr ⟨mxcw1557, List.forall_mem_cons.mpr ⟨mxcw1558, List.forall_mem_cons.mpr ⟨mxcw1559, List.forall_mem_cons.mpr ⟨mxcw1560, List.forall_mem_cons.mpr ⟨mxcw1561, List.forall_mem_cons.mpr ⟨mxcw1562, List.forall_mem_cons.mpr ⟨mxcw1563, List.forall_mem_cons.mpr ⟨mxcw1564, List.forall_mem_cons.mpr ⟨mxcw1565, List.forall_mem_cons.mpr ⟨mxcw1566, List.forall_mem_cons.mpr ⟨mxcw1567, List.forall_mem_cons.mpr ⟨mxcw1568, List.forall_mem_cons.mpr ⟨mxcw1569, List.forall_mem_cons.mpr ⟨mxcw1570, List.forall_mem_cons.mpr ⟨mxcw1571, List.forall_mem_cons.mpr ⟨mxcw1572, List.forall_mem_cons.mpr ⟨mxcw1573, List.forall_mem_cons.mpr ⟨mxcw1574, List.forall_mem_cons.mpr ⟨mxcw1575, List.forall_mem_cons.mpr ⟨mxcw1576, List.forall_mem_cons.mpr ⟨mxcw1577, List.forall_mem_cons.mpr ⟨mxcw1578, List.forall_mem_cons.mpr ⟨mxcw1579, List.forall_mem_cons.mpr ⟨mxcw1580, List.forall_mem_cons.mpr ⟨mxcw1581, List.forall_mem_cons.mpr ⟨mxcw1582, List.forall_mem_cons.mpr ⟨mxcw1583, List.forall_mem_cons.mpr ⟨mxcw1584, List.forall_mem_cons.mpr ⟨mxcw1585, List.forall_mem_cons.mpr ⟨mxcw1586, fun _ h => nomatch h⟩⟩⟩⟩⟩⟩⟩⟩⟩⟩⟩⟩⟩⟩⟩⟩⟩⟩⟩⟩⟩⟩⟩⟩⟩⟩⟩⟩⟩⟩
def mxYs7 : List (Nat × Nat × Nat) := [(1587, 7086, 1013), (1588, 7090, 1013), (1589, 7094, 1013), (1590, 7098, 1013), (1591, 7124, 1013), (1592, 7132, 1013), (1593, 7140, 1013), (1594, 7148, 1013), (1595, 7160, 1013), (1596, 7169, 1013), (1597, 7164, 1013), (1598, 7173, 1013), (1599, 7178, 1013), (1600, 7186, 1013), (1601, 7190, 1013), (1602, 7195, 1013), (1603, 7203, 1013), (1604, 7216, 1013), (1605, 7224, 1013), (1606, 7228, 1013), (1607, 7236, 1013), (1608, 8008, 1013), (1609, 8021, 1013), (1610, 8017, 1013), (1611, 8029, 1013), (1612, 8037, 1013), (1613, 8033, 1013), (1614, 8049, 1013), (1615, 8053, 1013), (1616, 8092, 1013)]
theorem mxYc7 : ∀ e ∈ mxYs7, mxWd e.2.1 = some (mxcode e.1) := List.forall_mem_cons.mpr ⟨mxcw1587, List.forall_mem_cons.mpr ⟨mxcw1588, List.forall_mem_cons.mpr ⟨mxcw1589, List.forall_mem_cons.mpr ⟨mxcw1590, List.forall_mem_cons.mpr ⟨mxcw1591, List.forall_mem_cons.mpr ⟨mxcw1592, List.forall_mem_cons.mpr ⟨mxcw1593, List.forall_mem_cons.mpr ⟨mxcw1594, List.forall_mem_cons.mpr ⟨mxcw1595, List.forall_mem_cons.mpr ⟨mxcw1596, List.forall_mem_cons.mpr ⟨mxcw1597, List.forall_mem_cons.mpr ⟨mxcw1598, List.forall_mem_cons.mpr ⟨mxcw1599, List.forall_mem_cons.mpr ⟨mxcw1600, List.forall_mem_cons.mpr ⟨mxcw1601, List.forall_mem_cons.mpr ⟨mxcw1602, List.forall_mem_cons.mpr ⟨mxcw1603, List.forall_mem_cons.mpr ⟨mxcw1604, List.forall_mem_cons.mpr ⟨mxcw1605, List.forall_mem_cons.mpr ⟨mxcw1606, List.forall_mem_cons.mpr ⟨mxcw1607, List.forall_mem_cons.mpr ⟨mxcw1608, List.forall_mem_cons.mpr ⟨mxcw1609, List.forall_mem_cons.mpr ⟨mxcw1610, List.forall_mem_cons.mpr ⟨mxcw1611, List.forall_mem_cons.mpr ⟨mxcw1612, List.forall_mem_cons.mpr ⟨mxcw1613, List.forall_mem_cons.mpr ⟨mxcw1614, List.forall_mem_cons.mpr ⟨mxcw1615, List.forall_mem_cons.mpr ⟨mxcw1616, fun _ h => nomatch h⟩⟩⟩⟩⟩⟩⟩⟩⟩⟩⟩⟩⟩⟩⟩⟩⟩⟩⟩⟩⟩⟩⟩⟩⟩⟩⟩⟩⟩⟩
def mxYs8 : List (Nat × Nat × Nat) := [(1617, 8104, 1013), (1618, 8113, 1013), (1619, 8121, 1013), (1620, 8130, 1013), (1621, 8138, 1013), (1622, 8142, 1013), (1664, 2216, 1005), (1792, 5099, 1012), (1793, 2083, 1012), (1794, 2080, 1012), (1920, 2158, 1021), (1921, 2168, 1021), (1922, 6133, 1021), (1923, 6137, 1021), (1924, 2162, 1021), (1925, 2172, 1021), (1926, 2178, 1021), (2048, 2175, 1022), (2049, 6144, 1022), (2050, 6141, 1022), (2051, 6149, 1022), (2304, 2183, 1023), (2305, 6167, 1023), (2560, 4036, 1000), (2561, 4119, 1000), (2562, 4143, 1000), (2563, 4171, 1000), (2564, 4178, 1000), (2565, 4185, 1000), (2566, 4192, 1000)]
theorem mxYc8 : ∀ e ∈ mxYs8, mxWd e.2.1 = some (mxcode e.1) := List.forall_mem_cons.mpr ⟨mxcw1617, List.forall_mem_cons.mpr ⟨mxcw1618, List.forall_mem_cons.mpr ⟨mxcw1619, List.forall_mem_cons.mpr ⟨mxcw1620, List.forall_mem_cons.mpr ⟨mxcw1621, List.forall_mem_cons.mpr ⟨mxcw1622, List.forall_mem_cons.mpr ⟨mxcw1664, List.forall_mem_cons.mpr ⟨mxcw1792, List.forall_mem_cons.mpr ⟨mxcw1793, List.forall_mem_cons.mpr ⟨mxcw1794, List.forall_mem_cons.mpr ⟨mxcw1920, List.forall_mem_cons.mpr ⟨mxcw1921, List.forall_mem_cons.mpr ⟨mxcw1922, List.forall_mem_cons.mpr ⟨mxcw1923, List.forall_mem_cons.mpr ⟨mxcw1924, List.forall_mem_cons.mpr ⟨mxcw1925, List.forall_mem_cons.mpr ⟨mxcw1926, List.forall_mem_cons.mpr ⟨mxcw2048, List.forall_mem_cons.mpr ⟨mxcw2049, List.forall_mem_cons.mpr ⟨mxcw2050, List.forall_mem_cons.mpr ⟨mxcw2051, List.forall_mem_cons.mpr ⟨mxcw2304, List.forall_mem_cons.mpr ⟨mxcw2305, List.forall_mem_cons.mpr ⟨mxcw2560, List.forall_mem_cons.mpr ⟨mxcw2561, List.forall_mem_cons.mpr ⟨mxcw2562, List.forall_mem_cons.mpr ⟨mxcw2563, List.forall_mem_cons.mpr ⟨mxcw2564, List.forall_mem_cons.mpr ⟨mxcw2565, List.forall_mem_cons.mpr ⟨mxcw2566, fun _ h => nomatch h⟩⟩⟩⟩⟩⟩⟩⟩⟩⟩⟩⟩⟩⟩⟩⟩⟩⟩⟩⟩⟩⟩⟩⟩⟩⟩⟩⟩⟩⟩
def mxYs9 : List (Nat × Nat × Nat) := [(2567, 4199, 1000), (2568, 4206, 1000), (2569, 4213, 1000), (2570, 4225, 1000), (2571, 4232, 1000), (2572, 5003, 1000), (2573, 5010, 1000), (2574, 5022, 1000), (2575, 5034, 1000), (2576, 5042, 1000), (2577, 5050, 1000), (2578, 5124, 1000), (2579, 5131, 1000), (2580, 5138, 1000), (2581, 5146, 1000)]
theorem mxYc9 : ∀ e ∈ mxYs9, mxWd e.2.1 = some (mxcode e.1) := List.forall_mem_cons.mpr ⟨mxcw2567, List.forall_mem_cons.mpr ⟨mxcw2568, List.forall_mem_cons.mpr ⟨mxcw2569, List.forall_mem_cons.mpr ⟨mxcw2570, List.forall_mem_cons.mpr ⟨mxcw2571, List.forall_mem_cons.mpr ⟨mxcw2572, List.forall_mem_cons.mpr ⟨mxcw2573, List.forall_mem_cons.mpr ⟨mxcw2574, List.forall_mem_cons.mpr ⟨mxcw2575, List.forall_mem_cons.mpr ⟨mxcw2576, List.forall_mem_cons.mpr ⟨mxcw2577, List.forall_mem_cons.mpr ⟨mxcw2578, List.forall_mem_cons.mpr ⟨mxcw2579, List.forall_mem_cons.mpr ⟨mxcw2580, List.forall_mem_cons.mpr ⟨mxcw2581, fun _ h => nomatch h⟩⟩⟩⟩⟩⟩⟩⟩⟩⟩⟩⟩⟩⟩⟩
set_option maxRecDepth 100000 in
theorem mxYs_eq : mxYs = mxYs0 ++ (mxYs1 ++ (mxYs2 ++ (mxYs3 ++ (mxYs4 ++ (mxYs5 ++ (mxYs6 ++ (mxYs7 ++ (mxYs8 ++ (mxYs9))))))))) := rfl
theorem mxYs_cw : ∀ e ∈ mxYs, mxWd e.2.1 = some (mxcode e.1) := by
  rw [mxYs_eq]
  exact List.forall_mem_append.mpr ⟨mxYc0, List.forall_mem_append.mpr ⟨mxYc1, List.forall_mem_append.mpr ⟨mxYc2, List.forall_mem_append.mpr ⟨mxYc3, List.forall_mem_append.mpr ⟨mxYc4, List.forall_mem_append.mpr ⟨mxYc5, List.forall_mem_append.mpr ⟨mxYc6, List.forall_mem_append.mpr ⟨mxYc7, List.forall_mem_append.mpr ⟨mxYc8, mxYc9⟩⟩⟩⟩⟩⟩⟩⟩⟩
theorem mxcode_good (y : Nat) : goodWord (mxcode y) = true := by
  unfold mxcode
  split <;> rfl
def mxyOK (y : Nat) : Prop := ∃ e ∈ mxYs, e.1 = y
theorem mxyOK_ck {y : Nat} (h : mxyOK y) : mxcode y ∈ lw_good ∧ Cond.initialized (mxy y).cls ∈ lw_good ∧ (mxy y).cls = mxcn (y / 128) ∧ plainFor (mxy y) = true ∧ mxnMH y = true ∧ mxml y ≤ 60 ∧ mxrok (mxrk y) (mxrt y) = true := by
  obtain ⟨e, he, rfl⟩ := h
  have h := List.all_eq_true.mp mxYs_ok e he
  simp only [mxMc, Bool.and_eq_true, decide_eq_true_eq] at h
  obtain ⟨⟨⟨⟨⟨h2, h3⟩, h4⟩, h5⟩, h6⟩, h7⟩ := h
  exact ⟨lw_g (mxWd_mem (mxYs_cw e he)) (mxcode_good _), mxG1_ok h2, h3, h4, h5, h6, h7⟩
def mxyIn (y : Nat) : Bool := mxYs.any (fun e => e.1 == y)
theorem mxyIn_ok {y : Nat} (h : mxyIn y = true) : mxyOK y := by
  obtain ⟨e, he, h⟩ := List.any_eq_true.mp h
  exact ⟨e, he, by simpa using h⟩
/-- the fields of the kinds of constants: of the enum, of texts -/
def mxkf (ci k : Nat) : String × String × String := match ci, k with
  | 20, 0 => ("RoofPigeons$Kind", "text", "Ljava/lang/String;")
  | 20, 1 => ("RoofPigeons$Kind", "takes", "I")
  | 20, 2 => ("java/lang/Enum", "ordinal", "I")
  | 21, 0 => ("java/lang/String", "value", "[B")
  | 21, 1 => ("java/lang/String", "coder", "B")
  | _, _ => ("", "", "")
def mxfd (ci k : Nat) : Option (String × String × String) := match mxcl[ci]? with
  | some q => if k < q.2.2 then some ((q.2.1 k).1, (q.2.1 k).2.1, (q.2.1 k).2.2.1) else none
  | none => if (ci = 20 ∧ k < 3) ∨ (ci = 21 ∧ k < 2) then some (mxkf ci k) else none
def mxtok : Nat → String → Bool
  | 0, d => d == "I" || d == "B"
  | 1, d => d == "Z"
  | 2, d => match parseFieldDescriptor d with
    | some (.object _) => true
    | some (.array _) => true
    | _ => false
  | _, _ => false
def mxFE : List ((Nat × Nat) × Nat) := [((7, 9), 1042), ((7, 15), 1043), ((9, 76), 1044), ((9, 93), 1185), ((9, 129), 1224), ((9, 137), 1226), ((9, 140), 1228), ((9, 143), 1230), ((9, 133), 1232), ((9, 156), 1235), ((9, 159), 1237), ((9, 96), 1239), ((9, 99), 2002), ((9, 102), 2005), ((9, 105), 2008), ((9, 108), 2011), ((9, 111), 2013), ((9, 120), 2016), ((9, 123), 2018), ((9, 10), 2084), ((9, 29), 2085), ((9, 36), 2086), ((9, 43), 2087), ((9, 47), 2088), ((9, 50), 2089), ((8, 51), 1045), ((8, 9), 1064), ((8, 17), 1065), ((8, 25), 1067), ((8, 29), 1069), ((8, 82), 8146), ((6, 49), 1066), ((6, 66), 1068), ((6, 83), 1070), ((6, 86), 1140), ((6, 131), 1143), ((6, 151), 1146), ((6, 154), 1148), ((6, 9), 1177), ((6, 19), 1178), ((6, 15), 1179), ((6, 46), 1180), ((6, 29), 1181), ((6, 53), 1182), ((6, 63), 1183), ((6, 32), 1184), ((3, 13), 1096), ((1, 57), 1097), ((1, 67), 1099), ((1, 70), 1101), ((1, 81), 1103), ((1, 40), 1105), ((1, 45), 1107), ((1, 21), 1131), ((1, 98), 1133), ((1, 120), 1135), ((1, 123), 1137), ((1, 15), 1144), ((1, 9), 1209), ((1, 95), 1210), ((1, 156), 1223), ((1, 139), 1234), ((1, 136), 2000), ((1, 37), 2003), ((1, 29), 2006), ((1, 130), 2010), ((1, 133), 2015), ((1, 102), 8150), ((4, 57), 1098), ((4, 60), 1100), ((4, 63), 1102), ((4, 67), 1104), ((4, 70), 1106), ((4, 73), 1108), ((4, 9), 1124), ((4, 15), 1126), ((4, 18), 1128), ((4, 23), 1130), ((4, 30), 1132), ((4, 38), 1134), ((4, 41), 1136), ((4, 44), 1138), ((4, 48), 1141), ((4, 51), 1145), ((4, 54), 1147), ((5, 34), 1125), ((5, 43), 1127), ((5, 44), 1129), ((5, 45), 1139), ((5, 50), 1142), ((5, 9), 1222), ((5, 15), 1225), ((5, 18), 1227), ((5, 21), 1229), ((5, 24), 1231), ((5, 28), 1233), ((5, 31), 1236), ((5, 49), 1238), ((5, 53), 2001), ((5, 54), 2004), ((5, 57), 2007), ((5, 78), 2009), ((5, 81), 2012), ((5, 72), 2014), ((5, 75), 2017), ((12, 57), 5163), ((12, 67), 5165), ((12, 222), 5169), ((12, 232), 5172), ((12, 235), 5175), ((12, 238), 5177), ((12, 150), 5178), ((12, 241), 5181), ((12, 247), 5184), ((12, 156), 5186), ((12, 153), 5189), ((12, 163), 5192), ((12, 169), 5195), ((12, 131), 5198), ((12, 134), 5200), ((12, 185), 5202), ((12, 188), 5203), ((12, 283), 6006), ((12, 286), 6008), ((12, 312), 6010), ((12, 332), 6012), ((12, 60), 6025), ((12, 9), 6026), ((12, 83), 6027), ((12, 13), 6028), ((12, 17), 6029), ((12, 20), 6030), ((12, 23), 6031), ((12, 26), 6032), ((12, 29), 6033), ((12, 122), 6034), ((12, 182), 6035), ((12, 35), 6036), ((12, 39), 6038), ((12, 42), 6039), ((12, 50), 6041), ((12, 54), 6042), ((11, 62), 5164), ((11, 83), 5166), ((11, 39), 5168), ((11, 42), 5171), ((11, 93), 5174), ((11, 158), 5176), ((11, 128), 5180), ((11, 131), 5183), ((11, 134), 5187), ((11, 142), 5190), ((11, 145), 5193), ((11, 161), 5196), ((11, 109), 5199), ((11, 22), 6005), ((11, 26), 6007), ((11, 15), 6009), ((11, 19), 6011), ((11, 3), 6013), ((11, 35), 6037), ((11, 112), 6040), ((10, 9), 5167), ((10, 15), 5170), ((10, 18), 5173), ((10, 21), 5179), ((10, 24), 5182), ((10, 27), 5185), ((10, 31), 5188), ((10, 34), 5191), ((10, 37), 5194), ((10, 40), 5197), ((10, 43), 5201), ((15, 9), 8147), ((15, 15), 8148), ((13, 7), 8149)]
def mxlkw (o i : Nat) (f : String × String × String) (p : Nat) : Bool := mxG1 (.fieldLink (mxcn o) i f.1 f.2.1 f.2.2) p || (decide (mxWd p = some (.fieldLinkNest (mxcn o) i f.1 f.2.1 f.2.2 "RoofPigeons")) && true) || (decide (mxWd p = some (.fieldLinkNest (mxcn o) i f.1 f.2.1 f.2.2 "RoofPigeonsModel")) && true)
def mxFc (o : Nat) (r : Nat × Nat × Nat × Nat) : Bool := match mxfd r.2.1 r.2.2.1, mxFE.lookup (o, r.1) with
  | some f, some p => mxtok r.2.2.2 f.2.2 && mxlkw o r.1 f p
  | _, _ => false
theorem mxF_ck : (List.range mxFT.length).all (fun o => (mxFT.getD o []).all (mxFc o)) = true := by decide +kernel
theorem mxF_ok {o i ci k t : Nat} (h : mxFl o i = some (ci, k, t)) : ∃ f, mxfd ci k = some f ∧ mxtok t f.2.2 = true ∧ (Cond.fieldLink (mxcn o) i f.1 f.2.1 f.2.2 ∈ lw_good ∨ ∃ host, Cond.fieldLinkNest (mxcn o) i f.1 f.2.1 f.2.2 host ∈ mxNF) := by
  have h1 := mx_all (ck := mxFc) mxF_ck h
  unfold mxFc at h1
  dsimp only at h1
  cases hf : mxfd ci k with
  | none => rw [hf] at h1; cases h1
  | some f =>
    rw [hf] at h1
    cases hp : mxFE.lookup (o, i) with
    | none => rw [hp] at h1; cases h1
    | some p =>
      rw [hp] at h1
      dsimp only at h1
      simp only [mxlkw, Bool.and_eq_true, Bool.or_eq_true, decide_eq_true_eq, and_true] at h1
      refine ⟨f, rfl, h1.1, ?_⟩
      rcases h1.2 with (h2 | h2) | h2
      · exact Or.inl (mxG1_ok h2)
      · exact Or.inr ⟨_, List.mem_filter.mpr ⟨mxWd_mem h2, rfl⟩⟩
      · exact Or.inr ⟨_, List.mem_filter.mpr ⟨mxWd_mem h2, rfl⟩⟩
def mxLY : List (List Nat) := [[1211, 1213], [1109, 1111, 1113, 1115, 1117, 1119], [1149, 1151, 1153, 1155, 1157, 1159, 1161, 1163, 1165, 1167, 1169], [2019, 2021, 2023, 2025, 2027, 2029, 2031, 2033, 2035, 2037, 2039, 2041, 2043, 2045, 2047], [1186, 1188, 1190, 1192, 1194, 1196, 1198, 1200], [1046, 1048], [1071, 1073, 1075, 1077], [2090, 2092, 2094, 2096, 2098, 2100], [5204, 5206, 5208, 5210, 5212, 5214, 5216, 5218, 5220, 5222, 5224, 5226, 5228, 5230, 5232, 5234, 5236], [6014, 6016, 6018, 6020, 6022], [6043, 6045, 6047, 6049, 6051, 6053, 6055, 6057, 6059, 6061, 6063, 6065, 6067, 6069, 6071, 6073]]
def mxtyc (ci : Nat) : Nat → FieldType := match ci with
  | 0 => mxty0
  | 1 => mxty1
  | 2 => mxty2
  | 3 => mxty3
  | 4 => mxty4
  | 5 => mxty5
  | 6 => mxty6
  | 7 => mxty7
  | 8 => mxty8
  | 9 => mxty9
  | _ => mxty10
def mxLc (ci : Nat) : Bool := match mxcl[ci]? with
  | some q => (List.range q.2.2).all (fun k => mxG1 (u_lay q.1 q.2.1 k) ((mxLY.getD ci []).getD k 0) && decide (parseFieldDescriptor (q.2.1 k).2.2.1 = some (mxtyc ci k))) && (List.range q.2.2).all (fun a => (List.range q.2.2).all (fun b => a == b || decide ((q.2.1 a).2.1 ≠ (q.2.1 b).2.1)))
  | none => false
theorem mxL_ck : (List.range 11).all mxLc = true := by decide +kernel
theorem mxL_ok {ci : Nat} {q : vw_C} (h : mxcl[ci]? = some q) : (∀ w ∈ u_ws q.1 q.2.1 q.2.2, w ∈ lw_good) ∧ (∀ k, k < q.2.2 → parseFieldDescriptor (q.2.1 k).2.2.1 = some (mxtyc ci k)) ∧ (∀ a, a < q.2.2 → ∀ b, b < q.2.2 → a ≠ b → (q.2.1 a).2.1 ≠ (q.2.1 b).2.1) := by
  have hc : ci < 11 := (List.getElem?_eq_some_iff.mp h).1
  have h1 := List.all_eq_true.mp mxL_ck ci (List.mem_range.mpr hc)
  unfold mxLc at h1
  rw [h] at h1
  dsimp only at h1
  simp only [Bool.and_eq_true] at h1
  obtain ⟨h2, h3⟩ := h1
  refine ⟨fun w hw => ?_, fun k hk => ?_, fun a ha b hb hab => ?_⟩
  · obtain ⟨k, hk, rfl⟩ := List.mem_map.mp hw
    have h4 := List.all_eq_true.mp h2 k hk
    simp only [Bool.and_eq_true] at h4
    exact mxG1_ok h4.1
  · have h4 := List.all_eq_true.mp h2 k (List.mem_range.mpr hk)
    simp only [Bool.and_eq_true, decide_eq_true_eq] at h4
    exact h4.2
  · have h4 := List.all_eq_true.mp (List.all_eq_true.mp h3 a (List.mem_range.mpr ha)) b (List.mem_range.mpr hb)
    simp only [Bool.or_eq_true, beq_iff_eq, decide_eq_true_eq] at h4
    exact h4.resolve_left hab
def mxZS : List (String × String × String × Value) := [("RoofPigeons$Kind", "NO_TOKEN", "LRoofPigeons$Kind;", .ref 46), ("RoofPigeons$Kind", "TAPE_END", "LRoofPigeons$Kind;", .ref 45), ("RoofPigeons$Kind", "NUMBER", "LRoofPigeons$Kind;", .ref 44), ("RoofPigeons$Kind", "ALL", "[LRoofPigeons$Kind;", .ref 301), ("RoofPigeons$Kind", "NAME", "LRoofPigeons$Kind;", .ref 43), ("RoofPigeons$1", "$SwitchMap$RoofPigeons$Kind", "[I", .ref 300), ("RoofPigeons$Kind", "ROOFS", "LRoofPigeons$Kind;", .ref 0), ("RoofPigeons$Kind", "SEMICOLON", "LRoofPigeons$Kind;", .ref 31), ("RoofPigeons$Kind", "PIGEON", "LRoofPigeons$Kind;", .ref 1), ("RoofPigeons$Kind", "AT", "LRoofPigeons$Kind;", .ref 2), ("RoofPigeons$Kind", "LOUD", "LRoofPigeons$Kind;", .ref 3), ("RoofPigeons$Kind", "HOP", "LRoofPigeons$Kind;", .ref 4), ("RoofPigeons$Kind", "GLIDE", "LRoofPigeons$Kind;", .ref 5), ("RoofPigeons$Kind", "BUILD", "LRoofPigeons$Kind;", .ref 6), ("RoofPigeons$Kind", "WEAR", "LRoofPigeons$Kind;", .ref 7), ("RoofPigeons$Kind", "RIGHT", "LRoofPigeons$Kind;", .ref 9), ("RoofPigeons$Kind", "LEFT", "LRoofPigeons$Kind;", .ref 8), ("RoofPigeons$Kind", "OF", "LRoofPigeons$Kind;", .ref 18), ("RoofPigeons$Kind", "NEGATE", "LRoofPigeons$Kind;", .ref 42), ("RoofPigeons$Kind", "CLOSE", "LRoofPigeons$Kind;", .ref 28), ("RoofPigeons$Kind", "OPEN", "LRoofPigeons$Kind;", .ref 27), ("RoofPigeons$Kind", "HEIGHT", "LRoofPigeons$Kind;", .ref 15), ("RoofPigeons$Kind", "COMMA", "LRoofPigeons$Kind;", .ref 32), ("RoofPigeons$Kind", "TIMES", "LRoofPigeons$Kind;", .ref 35), ("RoofPigeons$Kind", "DIVIDE", "LRoofPigeons$Kind;", .ref 36), ("RoofPigeons$Kind", "PLUS", "LRoofPigeons$Kind;", .ref 33), ("RoofPigeons$Kind", "MINUS", "LRoofPigeons$Kind;", .ref 34), ("RoofPigeons$Kind", "WHEN", "LRoofPigeons$Kind;", .ref 10), ("RoofPigeons$Kind", "CLOSE_TEST", "LRoofPigeons$Kind;", .ref 30), ("RoofPigeons$Kind", "AND", "LRoofPigeons$Kind;", .ref 23), ("RoofPigeons$Kind", "OR", "LRoofPigeons$Kind;", .ref 24), ("java/lang/String", "COMPACT_STRINGS", "Z", .int 1), ("jdk/internal/util/Preconditions", "SIOOBE_FORMATTER", "Ljava/util/function/BiFunction;", .ref 998), ("RoofPigeonsModel", "WORDS", "[Ljava/lang/String;", .ref 302)]
def mxSE : List ((Nat × Nat) × (Nat × Nat)) := [((8, 21), (1062, 0)), ((8, 44), (2145, 1)), ((8, 76), (2147, 2)), ((8, 79), (2149, 3)), ((8, 90), (2203, 4)), ((8, 102), (2209, 5)), ((3, 7), (1095, 0)), ((4, 34), (1123, 0)), ((6, 23), (1176, 0)), ((6, 73), (2234, 6)), ((6, 80), (3004, 2)), ((6, 96), (3010, 7)), ((6, 99), (3016, 1)), ((6, 102), (3017, 8)), ((6, 111), (3023, 4)), ((6, 117), (3028, 9)), ((6, 124), (3034, 10)), ((6, 139), (3044, 11)), ((6, 142), (3046, 12)), ((6, 145), (3048, 13)), ((6, 148), (3050, 14)), ((6, 161), (3057, 15)), ((6, 181), (3063, 16)), ((6, 200), (3077, 5)), ((6, 236), (3083, 17)), ((6, 239), (3089, 18)), ((6, 242), (3091, 19)), ((6, 248), (3097, 20)), ((6, 251), (3099, 21)), ((6, 254), (3101, 22)), ((6, 230), (3103, 23)), ((6, 233), (3105, 24)), ((6, 221), (3107, 25)), ((6, 224), (3109, 26)), ((6, 171), (3111, 27)), ((6, 212), (3125, 28)), ((6, 197), (3131, 29)), ((6, 187), (3133, 30)), ((15, 38), (2163, 31)), ((15, 1053), (2179, 32)), ((1, 52), (5079, 5)), ((1, 88), (5112, 13)), ((12, 107), (6125, 33))]
def mxSc (o : Nat) (r : Nat × Value) : Bool := match mxSE.lookup (o, r.1) with
  | some p => match mxZS[p.2]? with
    | some z => mxlkw o r.1 (z.1, z.2.1, z.2.2.1) p.1 && decide (z.2.2.2 = r.2)
    | none => false
  | none => false
theorem mxS_ck : (List.range mxST.length).all (fun o => (mxST.getD o []).all (mxSc o)) = true := by decide +kernel
theorem mxS_ok {o i : Nat} {v : Value} (h : mxSl o i = some v) : ∃ z ∈ mxZS, z.2.2.2 = v ∧ (Cond.fieldLink (mxcn o) i z.1 z.2.1 z.2.2.1 ∈ lw_good ∨ ∃ host, Cond.fieldLinkNest (mxcn o) i z.1 z.2.1 z.2.2.1 host ∈ mxNF) := by
  have h1 := mx_all (ck := mxSc) mxS_ck h
  unfold mxSc at h1
  dsimp only at h1
  cases hp : mxSE.lookup (o, i) with
  | none => rw [hp] at h1; cases h1
  | some p =>
    rw [hp] at h1
    dsimp only at h1
    cases hz : mxZS[p.2]? with
    | none => rw [hz] at h1; cases h1
    | some z =>
      rw [hz] at h1
      simp only [mxlkw, Bool.and_eq_true, Bool.or_eq_true, decide_eq_true_eq, and_true] at h1
      refine ⟨z, List.mem_of_getElem? hz, h1.2, ?_⟩
      rcases h1.1 with (h2 | h2) | h2
      · exact Or.inl (mxG1_ok h2)
      · exact Or.inr ⟨_, List.mem_filter.mpr ⟨mxWd_mem h2, rfl⟩⟩
      · exact Or.inr ⟨_, List.mem_filter.mpr ⟨mxWd_mem h2, rfl⟩⟩
def mxLE : List ((Nat × Nat) × Nat) := [((8, 117), 2225), ((9, 210), 3239), ((9, 212), 4000), ((12, 100), 6129), ((12, 380), 8143), ((12, 382), 8144)]
def mxLcc (o : Nat) (r : Nat × Value) : Bool := match r.2 with
  | .long x => (match mxLE.lookup (o, r.1) with | some p => mxG1 (.constantLong (mxcn o) r.1 x) p | none => false)
  | .ref a => o == 12 && r.1 == 100 && a == 130
  | _ => false
theorem mxLcc_ck : (List.range mxLT.length).all (fun o => (mxLT.getD o []).all (mxLcc o)) = true := by decide +kernel
theorem mxLl_ok {o i : Nat} {v : Value} (h : mxLl o i = some v) : (∃ x, v = .long x ∧ Cond.constantLong (mxcn o) i x ∈ lw_good) ∨ (v = .ref 130 ∧ o = 12 ∧ i = 100) := by
  have h1 := mx_all (ck := mxLcc) mxLcc_ck h
  unfold mxLcc at h1
  dsimp only at h1
  cases v with
  | long x =>
    dsimp only at h1
    cases hp : mxLE.lookup (o, i) with
    | none => rw [hp] at h1; cases h1
    | some p => rw [hp] at h1; exact Or.inl ⟨x, rfl, mxG1_ok h1⟩
  | ref a =>
    simp only [Bool.and_eq_true, beq_iff_eq] at h1
    exact Or.inr ⟨by rw [h1.2], h1.1.1, h1.1.2⟩
  | _ => cases h1
def mxNE : List ((Nat × Nat) × (Nat × Nat × Nat)) := [((20, 8), (1028, 1029, 1001)), ((20, 88), (5151, 5152, 1013)), ((9, 7), (1036, 1037, 1002)), ((9, 16), (1052, 1053, 1003)), ((9, 18), (1054, 1055, 1004)), ((9, 23), (1082, 1083, 1007)), ((9, 33), (1203, 1204, 1009)), ((9, 40), (1216, 1217, 1010)), ((4, 21), (1088, 1090, 1008)), ((12, 32), (5157, 5158, 1014)), ((12, 45), (5239, 6000, 1015))]
def mxNc (o : Nat) (r : Nat × Nat × List Value) : Bool := match mxNE.lookup (o, r.1), mxcl[r.2.1]? with
  | some p, some q => mxG1 (.classLink (mxcn o) r.1 q.1) p.1 && mxG1 (.instantiable q.1 q.2.2) p.2.1 && mxG1 (.initialized q.1) p.2.2 && decide (r.2.2.length = q.2.2) && (List.range q.2.2).all (fun j => decide (defaultValue (mxtyc r.2.1 j) = vp_V r.2.2 j)) && r.2.2.all (fun v => match v with | .ref _ => false | _ => true)
  | _, _ => false
theorem mxN_ck : (List.range mxNT.length).all (fun o => (mxNT.getD o []).all (mxNc o)) = true := by decide +kernel
theorem mxN_ok {o i ci : Nat} {fs : List Value} (h : mxNl o i = some (ci, fs)) : ∃ q, mxcl[ci]? = some q ∧ Cond.classLink (mxcn o) i q.1 ∈ lw_good ∧ Cond.instantiable q.1 q.2.2 ∈ lw_good ∧ Cond.initialized q.1 ∈ lw_good ∧ fs.length = q.2.2 ∧ (∀ j, j < q.2.2 → defaultValue (mxtyc ci j) = vp_V fs j) ∧ fs.all (fun v => match v with | .ref _ => false | _ => true) = true := by
  have h1 := mx_all (ck := mxNc) mxN_ck h
  unfold mxNc at h1
  dsimp only at h1
  cases hp : mxNE.lookup (o, i) with
  | none => rw [hp] at h1; cases h1
  | some p =>
    rw [hp] at h1
    cases hq : mxcl[ci]? with
    | none => rw [hq] at h1; cases h1
    | some q =>
      rw [hq] at h1
      simp only [Bool.and_eq_true, decide_eq_true_eq] at h1
      obtain ⟨⟨⟨⟨⟨a1, a2⟩, a3⟩, a4⟩, a5⟩, a6⟩ := h1
      exact ⟨q, rfl, mxG1_ok a1, mxG1_ok a2, mxG1_ok a3, a4, fun j hj => by simpa using List.all_eq_true.mp a5 j (List.mem_range.mpr hj), a6⟩
def mxAE : List ((Nat × Nat) × Nat) := [((8, 15), 1060), ((4, 21), 1088), ((4, 28), 1122)]
def mxref (t : Nat) : String := if t = 4 then "RoofPigeons$Kind" else if t = 5 then "RoofPigeons$Order" else "java/lang/String"
def mxAc (o : Nat) (r : Nat × Nat) : Bool := match mxAE.lookup (o, r.1) with
  | some p => (r.2 == 4 || r.2 == 5) && mxG1 (.classLink (mxcn o) r.1 (mxref r.2)) p
  | none => false
theorem mxA_ck : (List.range mxA2T.length).all (fun o => (mxA2T.getD o []).all (mxAc o)) = true := by decide +kernel
theorem mxA_ok {o i t : Nat} (h : mxAl2 o i = some t) : (t = 4 ∨ t = 5) ∧ Cond.classLink (mxcn o) i (mxref t) ∈ lw_good := by
  have h1 := mx_all (ck := mxAc) mxA_ck h
  unfold mxAc at h1
  dsimp only at h1
  cases hp : mxAE.lookup (o, i) with
  | none => rw [hp] at h1; cases h1
  | some p =>
    rw [hp] at h1
    simp only [Bool.and_eq_true, Bool.or_eq_true, beq_iff_eq] at h1
    exact ⟨h1.1, mxG1_ok h1.2⟩
theorem mxW_arr_int : Cond.arrayClass .int ∈ lw_good := mxG1_ok (i := 1080) (by decide +kernel)
theorem mxW_arr_long : Cond.arrayClass .long ∈ lw_good := mxG1_ok (i := 1081) (by decide +kernel)
theorem mxW_arr_byte : Cond.arrayClass .byte ∈ lw_good := mxG1_ok (i := 1051) (by decide +kernel)
theorem mxW_arr_boolean : Cond.arrayClass .boolean ∈ lw_good := mxG1_ok (i := 2050) (by decide +kernel)
def mxVE : List ((Nat × Nat) × (Nat × Nat × Nat × Nat)) := [((20, 87), (0, 1030, 1031, 0)), ((20, 105), (0, 2103, 2104, 2105)), ((20, 109), (0, 3143, 3144, 3145)), ((20, 113), (0, 3147, 3148, 3149)), ((20, 117), (0, 3151, 3152, 3153)), ((20, 121), (0, 3155, 3156, 3157)), ((20, 125), (0, 3159, 3160, 3161)), ((20, 129), (0, 3163, 3164, 3165)), ((20, 133), (0, 3167, 3168, 3169)), ((20, 137), (0, 3171, 3172, 3173)), ((20, 141), (0, 3183, 3184, 3185)), ((20, 145), (0, 3191, 3192, 3193)), ((20, 149), (0, 3195, 3196, 3197)), ((20, 187), (0, 3199, 3200, 3201)), ((20, 216), (0, 3215, 3216, 3217)), ((20, 223), (0, 3227, 3228, 3229)), ((20, 228), (0, 3235, 3236, 3237)), ((20, 91), (0, 4034, 4035, 0)), ((20, 7), (0, 4038, 4039, 4040)), ((20, 101), (0, 4117, 4118, 0)), ((20, 15), (0, 4121, 4122, 4123)), ((20, 153), (0, 4141, 4142, 0)), ((20, 21), (0, 4145, 4146, 4147)), ((20, 156), (0, 4169, 4170, 0)), ((20, 26), (0, 4172, 4173, 4174)), ((20, 159), (0, 4176, 4177, 0)), ((20, 30), (0, 4179, 4180, 4181)), ((20, 162), (0, 4183, 4184, 0)), ((20, 33), (0, 4186, 4187, 4188)), ((20, 165), (0, 4190, 4191, 0)), ((20, 36), (0, 4193, 4194, 4195)), ((20, 168), (0, 4197, 4198, 0)), ((20, 39), (0, 4200, 4201, 4202)), ((20, 171), (0, 4204, 4205, 0)), ((20, 42), (0, 4207, 4208, 4209)), ((20, 174), (0, 4211, 4212, 0)), ((20, 45), (0, 4214, 4215, 4216)), ((20, 177), (0, 4223, 4224, 0)), ((20, 48), (0, 4226, 4227, 4228)), ((20, 180), (0, 4230, 4231, 0)), ((20, 51), (0, 4233, 4234, 4235)), ((20, 184), (0, 5001, 5002, 0)), ((20, 55), (0, 5004, 5005, 5006)), ((20, 191), (0, 5008, 5009, 0)), ((20, 58), (0, 5011, 5012, 5013)), ((20, 195), (0, 5020, 5021, 0)), ((20, 62), (0, 5023, 5024, 5025)), ((20, 198), (0, 5032, 5033, 0)), ((20, 65), (0, 5035, 5036, 5037)), ((20, 201), (0, 5040, 5041, 0)), ((20, 68), (0, 5043, 5044, 5045)), ((20, 204), (0, 5048, 5049, 0)), ((20, 71), (0, 5051, 5052, 5053)), ((20, 207), (0, 5122, 5123, 0)), ((20, 74), (0, 5125, 5126, 5127)), ((20, 210), (0, 5129, 5130, 0)), ((20, 77), (0, 5132, 5133, 5134)), ((20, 213), (0, 5136, 5137, 0)), ((20, 81), (0, 5139, 5140, 5141)), ((20, 220), (0, 5144, 5145, 0)), ((20, 84), (0, 5147, 5148, 5149)), ((20, 90), (0, 5153, 5154, 0)), ((20, 97), (0, 6076, 6077, 6078)), ((20, 96), (0, 6080, 6081, 6082)), ((20, 104), (0, 6088, 6089, 6090)), ((20, 108), (0, 6095, 6096, 6097)), ((20, 112), (0, 7071, 7072, 7073)), ((20, 116), (0, 7079, 7080, 7081)), ((20, 120), (0, 7083, 7084, 7085)), ((20, 124), (0, 7087, 7088, 7089)), ((20, 128), (0, 7091, 7092, 7093)), ((20, 132), (0, 7095, 7096, 7097)), ((20, 136), (0, 7121, 7122, 7123)), ((20, 140), (0, 7129, 7130, 7131)), ((20, 144), (0, 7137, 7138, 7139)), ((20, 148), (0, 7145, 7146, 7147)), ((20, 152), (0, 7157, 7158, 7159)), ((20, 155), (0, 7161, 7162, 7163)), ((20, 158), (0, 7170, 7171, 7172)), ((20, 161), (0, 7175, 7176, 7177)), ((20, 164), (0, 7183, 7184, 7185)), ((20, 167), (0, 7187, 7188, 7189)), ((20, 170), (0, 7192, 7193, 7194)), ((20, 173), (0, 7200, 7201, 7202)), ((20, 176), (0, 7213, 7214, 7215)), ((20, 179), (0, 7221, 7222, 7223)), ((20, 183), (0, 7225, 7226, 7227)), ((20, 186), (0, 7233, 7234, 7235)), ((20, 190), (0, 8005, 8006, 8007)), ((20, 194), (0, 8014, 8015, 8016)), ((20, 197), (0, 8026, 8027, 8028)), ((20, 200), (0, 8030, 8031, 8032)), ((20, 203), (0, 8046, 8047, 8048)), ((20, 206), (0, 8050, 8051, 8052)), ((20, 209), (0, 8089, 8090, 8091)), ((20, 212), (0, 8101, 8102, 8103)), ((20, 215), (0, 8110, 8111, 8112)), ((20, 219), (0, 8118, 8119, 8120)), ((20, 222), (0, 8127, 8128, 8129)), ((20, 227), (0, 8135, 8136, 8137)), ((20, 232), (0, 8139, 8140, 8141)), ((9, 1), (0, 1033, 0, 0)), ((9, 9), (0, 1038, 1039, 0)), ((9, 20), (0, 1056, 1057, 0)), ((9, 25), (0, 1084, 1085, 0)), ((9, 26), (0, 1172, 1173, 0)), ((9, 35), (0, 1205, 1206, 0)), ((9, 42), (0, 1218, 1219, 0)), ((9, 54), (0, 2051, 2052, 2053)), ((9, 58), (0, 2055, 2056, 2057)), ((9, 85), (0, 2107, 2108, 2109)), ((9, 89), (0, 3139, 3140, 3141)), ((9, 114), (0, 3175, 3176, 3177)), ((9, 117), (0, 3187, 3188, 3189)), ((9, 170), (0, 3203, 3204, 3205)), ((9, 198), (0, 3219, 3220, 3221)), ((9, 184), (0, 3223, 3224, 3225)), ((9, 207), (0, 3231, 3232, 3233)), ((9, 214), (0, 4001, 3148, 3149)), ((9, 217), (0, 4002, 3152, 3153)), ((9, 220), (0, 4003, 3156, 3157)), ((9, 223), (0, 4004, 3160, 3161)), ((9, 226), (0, 4005, 3164, 3165)), ((9, 229), (0, 4006, 3168, 3169)), ((9, 232), (0, 4007, 3172, 3173)), ((9, 235), (0, 4008, 3184, 3185)), ((9, 238), (0, 4009, 3192, 3193)), ((9, 241), (0, 4010, 3196, 3197)), ((9, 244), (0, 4011, 3200, 3201)), ((9, 247), (0, 4012, 3216, 3217)), ((9, 250), (0, 4013, 4015, 32)), ((9, 146), (0, 4017, 4018, 4019)), ((9, 150), (0, 4021, 4022, 4023)), ((9, 254), (0, 4025, 4027, 33)), ((9, 166), (0, 4029, 3208, 3209)), ((9, 204), (0, 4030, 4031, 4032)), ((9, 62), (0, 4042, 4043, 4044)), ((9, 73), (0, 4113, 4114, 4115)), ((9, 126), (0, 4149, 4151, 35)), ((9, 153), (0, 4218, 4220, 36)), ((9, 162), (0, 4237, 4238, 4239)), ((9, 173), (0, 5015, 5016, 5017)), ((9, 179), (0, 5027, 5028, 5029)), ((9, 191), (0, 5055, 5057, 37)), ((9, 194), (0, 5060, 5061, 5062)), ((7, 3), (0, 1041, 0, 0)), ((7, 19), (0, 2123, 2124, 2125)), ((8, 3), (0, 1059, 0, 0)), ((8, 33), (0, 2115, 2117, 4)), ((8, 57), (0, 2119, 2120, 2121)), ((8, 37), (0, 2127, 2129, 5)), ((8, 61), (0, 2131, 2132, 2133)), ((8, 64), (0, 2135, 2136, 2137)), ((8, 67), (0, 2139, 2124, 2125)), ((8, 70), (0, 2140, 2079, 0)), ((8, 40), (0, 2141, 2143, 6)), ((8, 86), (0, 2151, 2153, 7)), ((8, 93), (0, 2155, 2156, 2157)), ((8, 98), (0, 2165, 2166, 2167)), ((8, 47), (0, 2205, 2207, 8)), ((8, 107), (2, 2211, 2215, 0)), ((8, 110), (0, 2217, 2219, 9)), ((8, 113), (0, 2221, 2223, 10)), ((4, 3), (0, 1087, 0, 0)), ((4, 27), (0, 1091, 1092, 0)), ((3, 1), (0, 1094, 0, 0)), ((6, 3), (0, 1175, 0, 0)), ((6, 36), (0, 2111, 2112, 2113)), ((6, 41), (0, 2226, 2227, 2228)), ((6, 56), (0, 2230, 2232, 11)), ((6, 76), (0, 2236, 2238, 12)), ((6, 70), (0, 3000, 3002, 13)), ((6, 89), (0, 3005, 3007, 14)), ((6, 93), (0, 3009, 2052, 2053)), ((6, 60), (0, 3012, 3014, 15)), ((6, 105), (0, 3019, 3021, 16)), ((6, 114), (0, 3024, 3026, 17)), ((6, 120), (0, 3030, 3032, 18)), ((6, 127), (0, 3036, 3037, 3038)), ((6, 108), (0, 3040, 3042, 19)), ((6, 157), (0, 3052, 3054, 20)), ((6, 134), (0, 3056, 2082, 0)), ((6, 164), (0, 3059, 3061, 21)), ((6, 167), (0, 3065, 3067, 22)), ((6, 218), (0, 3069, 3071, 23)), ((6, 227), (0, 3073, 3075, 24)), ((6, 205), (2, 3078, 2215, 0)), ((6, 190), (0, 3079, 3080, 3081)), ((6, 208), (0, 3085, 3087, 25)), ((6, 245), (0, 3093, 3095, 26)), ((6, 174), (0, 3113, 3115, 27)), ((6, 184), (0, 3117, 3119, 28)), ((6, 194), (0, 3121, 3123, 29)), ((6, 215), (0, 3127, 3129, 30)), ((6, 177), (0, 3135, 3136, 3137)), ((1, 3), (0, 1208, 0, 0)), ((1, 25), (0, 5064, 5066, 38)), ((1, 48), (0, 5068, 5070, 39)), ((1, 105), (0, 5072, 5074, 40)), ((1, 108), (0, 5076, 5077, 0)), ((1, 61), (2, 5080, 2215, 0)), ((1, 163), (0, 5081, 2079, 0)), ((1, 168), (0, 5082, 2082, 0)), ((1, 149), (0, 5083, 5084, 0)), ((1, 112), (0, 5086, 5088, 41)), ((1, 116), (0, 5090, 5091, 0)), ((1, 84), (0, 5093, 5094, 5095)), ((1, 159), (0, 5100, 3180, 3181)), ((1, 126), (0, 5101, 5102, 0)), ((1, 142), (0, 5104, 3208, 3209)), ((1, 146), (0, 5105, 4238, 4239)), ((1, 153), (0, 5106, 5107, 5108)), ((1, 74), (0, 5110, 5016, 5017)), ((1, 78), (0, 5111, 5028, 5029)), ((1, 91), (0, 5113, 3224, 3225)), ((1, 34), (0, 5114, 5115, 5116)), ((5, 3), (0, 1221, 0, 0)), ((5, 37), (0, 2059, 0, 0)), ((5, 60), (0, 2062, 2064, 0)), ((5, 63), (0, 2066, 2068, 1)), ((5, 66), (0, 2070, 2072, 2)), ((5, 69), (0, 2074, 2076, 3)), ((5, 84), (0, 2078, 2079, 0)), ((5, 90), (0, 2081, 2082, 0)), ((5, 97), (0, 3179, 3180, 3181)), ((5, 108), (0, 3207, 3208, 3209)), ((5, 104), (0, 3211, 3213, 31)), ((5, 101), (0, 5097, 5098, 0)), ((5, 93), (0, 5118, 5120, 42)), ((15, 335), (0, 2159, 2160, 2161)), ((15, 492), (0, 2169, 2170, 2171)), ((15, 495), (0, 2173, 2174, 0)), ((15, 1059), (0, 2181, 2182, 0)), ((15, 633), (0, 6134, 6135, 6136)), ((15, 505), (0, 6138, 2156, 2157)), ((15, 637), (0, 6139, 6140, 0)), ((15, 1062), (0, 6165, 6166, 0)), ((16, 9), (0, 2176, 2177, 0)), ((16, 88), (0, 6142, 6143, 0)), ((16, 92), (0, 6145, 2082, 0)), ((16, 38), (0, 6146, 2079, 0)), ((16, 95), (0, 6147, 6148, 0)), ((12, 1), (0, 5156, 0, 0)), ((12, 34), (1, 5159, 5160, 0)), ((12, 47), (1, 6001, 6002, 0)), ((12, 271), (0, 6084, 6086, 43)), ((12, 63), (0, 6092, 6093, 0)), ((12, 274), (0, 6099, 6101, 44)), ((12, 262), (0, 6103, 6105, 45)), ((12, 86), (0, 6107, 6109, 46)), ((12, 119), (0, 6111, 6113, 47)), ((12, 90), (0, 6115, 6116, 0)), ((12, 94), (0, 6118, 6119, 0)), ((12, 97), (0, 6121, 6123, 48)), ((12, 111), (0, 6127, 2156, 2157)), ((12, 115), (0, 6128, 2166, 2167)), ((12, 102), (0, 6130, 6131, 6132)), ((12, 265), (0, 6185, 6187, 49)), ((12, 128), (0, 6189, 6191, 50)), ((12, 125), (0, 6193, 6195, 51)), ((12, 135), (0, 6197, 6199, 52)), ((12, 139), (0, 6201, 6203, 53)), ((12, 143), (0, 6205, 6207, 54)), ((12, 147), (0, 6209, 6211, 55)), ((12, 74), (0, 6213, 2079, 0)), ((12, 160), (0, 6214, 6216, 56)), ((12, 203), (0, 6218, 6220, 57)), ((12, 206), (0, 6222, 6224, 58)), ((12, 175), (0, 6226, 6228, 59)), ((12, 209), (0, 6230, 6232, 60)), ((12, 191), (0, 6234, 6236, 61)), ((12, 197), (0, 6238, 7000, 62)), ((12, 194), (0, 7002, 7004, 63)), ((12, 212), (0, 7006, 7008, 64)), ((12, 166), (0, 7010, 7012, 65)), ((12, 172), (0, 7014, 7016, 66)), ((12, 179), (0, 7018, 7020, 67)), ((12, 200), (0, 7022, 7024, 68)), ((12, 268), (0, 7026, 7028, 69)), ((12, 250), (0, 7030, 7032, 70)), ((12, 229), (0, 7034, 7036, 71)), ((12, 219), (0, 7038, 7040, 72)), ((12, 216), (0, 7042, 7044, 73)), ((12, 253), (0, 7046, 7048, 74)), ((12, 256), (0, 7050, 7052, 75)), ((12, 244), (0, 7054, 7056, 76)), ((12, 259), (0, 7058, 7060, 77)), ((12, 225), (0, 7062, 7064, 78)), ((12, 277), (0, 7066, 7067, 7068)), ((12, 280), (0, 7075, 7077, 79)), ((12, 289), (0, 7099, 7100, 7101)), ((12, 292), (0, 7125, 7126, 7127)), ((12, 295), (0, 7133, 7134, 7135)), ((12, 298), (0, 7141, 7142, 7143)), ((12, 301), (0, 7149, 7150, 7151)), ((12, 305), (0, 7165, 7117, 82)), ((12, 308), (0, 7166, 7168, 83)), ((12, 313), (0, 7174, 7154, 7155)), ((12, 316), (0, 7179, 7180, 7181)), ((12, 320), (0, 7191, 7104, 7105)), ((12, 323), (0, 7196, 7197, 7198)), ((12, 326), (0, 7204, 7205, 7206)), ((12, 329), (0, 7217, 7219, 84)), ((12, 335), (0, 7229, 7230, 7231)), ((12, 338), (0, 7237, 7238, 7239)), ((12, 341), (0, 8009, 8010, 8011)), ((12, 348), (0, 8018, 8020, 85)), ((12, 344), (0, 8022, 8023, 8024)), ((12, 358), (0, 8034, 8036, 86)), ((12, 351), (0, 8038, 8039, 8040)), ((12, 354), (0, 8042, 8043, 8044)), ((12, 360), (0, 8054, 8055, 8056)), ((12, 80), (0, 8077, 2082, 0)), ((12, 364), (0, 8093, 8095, 92)), ((12, 70), (0, 8097, 8098, 8099)), ((12, 368), (0, 8105, 8106, 8107)), ((12, 371), (0, 8114, 8115, 8116)), ((12, 374), (0, 8122, 8123, 8124)), ((12, 377), (0, 8131, 8132, 8133)), ((10, 3), (0, 5162, 0, 0)), ((11, 9), (0, 6004, 0, 0)), ((11, 29), (0, 7070, 0, 0)), ((11, 72), (0, 7103, 7104, 7105)), ((11, 59), (0, 7107, 7109, 80)), ((11, 45), (0, 7111, 7113, 81)), ((11, 49), (1, 7115, 7117, 82)), ((11, 53), (0, 7119, 2082, 0)), ((11, 69), (0, 7120, 2079, 0)), ((11, 65), (0, 7153, 7154, 7155)), ((11, 89), (0, 7208, 7209, 7210)), ((11, 86), (0, 7212, 7180, 7181)), ((11, 96), (0, 8001, 8002, 8003)), ((11, 99), (0, 8013, 7238, 7239)), ((11, 148), (0, 8058, 8060, 87)), ((11, 115), (0, 8062, 8064, 88)), ((11, 76), (0, 8066, 7100, 7101)), ((11, 105), (0, 8067, 7150, 7151)), ((11, 118), (0, 8068, 7230, 7231)), ((11, 121), (0, 8069, 8071, 89)), ((11, 102), (0, 8073, 5098, 0)), ((11, 124), (1, 8074, 8075, 0)), ((11, 164), (0, 8078, 8080, 90)), ((11, 138), (0, 8082, 8023, 8024)), ((11, 151), (0, 8083, 8039, 8040)), ((11, 154), (0, 8084, 8043, 8044)), ((11, 167), (0, 8085, 8087, 91)), ((11, 171), (0, 8109, 8055, 8056)), ((11, 80), (0, 8126, 8115, 8116))]
def mxoc (ci : Nat) : String := match mxcl[ci]? with
  | some q => q.1
  | none => if ci = 20 then "RoofPigeons$Kind" else "java/lang/String"
def mxhost (o : Nat) : String := if o < 10 then "RoofPigeons" else "RoofPigeonsModel"
def mxlen1 (y n : Nat) : Bool := decide ((parseMethodDescriptor (mxy y).desc).map (fun d => d.parameters.length) = some n)
/-- sort 0 of a link: plain; 1: of a nest mate; 2: of the enum's number, inherited -/
def mxVp (o i sort y n ci : Nat) : Nat × Nat × Nat × Nat → Bool
  | (0, p, a, b) => match sort with
    | 0 => mxyIn y && mxlen1 y n && decide ((mxy y).cls = mxoc ci) && mxG1 (.methodLink (mxcn o) i (mxy y)) p && mxG1 (.instanceMethod (mxy y)) a && mxG1 (.selects (mxy y).cls (mxy y) (mxy y)) b && decide (mxhh y = [])
    | 1 => mxyIn y && mxlen1 y n && mxG1 (.methodLink (mxcn o) i (mxy y)) p && mxG1 (.static (mxy y)) a && decide (y / 128 ≠ 9)
    | 2 => mxyIn y && mxlen1 y n && mxG1 (.methodLink (mxcn o) i (mxy y)) p && mxG1 (.instanceMethod (mxy y)) a && decide ((mxy y).name = "<init>") && decide (mxrt y = none) && decide (mxhh y = []) && decide (¬ (y / 128 = 9 ∧ y ≠ 1152))
    | 3 => mxG1 (.methodLink (mxcn o) i objectInit) p
    | 4 => mxG1 (.methodLink (mxcn o) i arraycopyName) p
    | _ => false
  | (1, p, a, b) => match sort with
    | 0 => mxyIn y && mxlen1 y n && decide ((mxy y).cls = mxoc ci) && (decide (mxWd p = some (.methodLinkNest (mxcn o) i (mxy y) (mxhost o))) && true) && mxG1 (.instanceMethod (mxy y)) a && mxG1 (.selects (mxy y).cls (mxy y) (mxy y)) b && decide (mxhh y = []) && decide (y / 128 ≠ 9)
    | 1 => mxyIn y && mxlen1 y n && (decide (mxWd p = some (.methodLinkNest (mxcn o) i (mxy y) (mxhost o))) && true) && mxG1 (.static (mxy y)) a && decide (mxhh y = []) && decide (y / 128 ≠ 9)
    | 2 => mxyIn y && mxlen1 y n && (decide (mxWd p = some (.methodLinkNest (mxcn o) i (mxy y) (mxhost o))) && true) && mxG1 (.instanceMethod (mxy y)) a && decide ((mxy y).name = "<init>") && decide (mxrt y = none) && decide (mxhh y = []) && decide (y / 128 ≠ 9)
    | _ => false
  | (2, p, _, _) => sort == 0 && y == 1664 && n == 0 && ci == 20 && mxG1 (.methodLink (mxcn o) i ⟨"RoofPigeons$Kind", "ordinal", "()I"⟩) p
  | _ => false
def mxVc (o : Nat) (r : Nat × Nat × Nat × Nat × Nat) : Bool := match mxVE.lookup (o, r.1) with
  | some p => mxVp o r.1 r.2.1 r.2.2.1 r.2.2.2.1 r.2.2.2.2 p
  | none => false
theorem mxV_ck : (List.range mxVT.length).all (fun o => (mxVT.getD o []).all (mxVc o)) = true := by decide +kernel
