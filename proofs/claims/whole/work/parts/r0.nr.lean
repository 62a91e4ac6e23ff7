/-! ===== what the start gives: the constants ===== -/
def nrL : List Cond := flatC (Cond.and given_1 narrow_1)
def nrA (i : Nat) : Option Cond := nrL[i + 2]?
theorem nr_of {args : Array Value} {s : State} (h : (Cond.and given_1 narrow_1).before args s = true) {w : Cond} {i : Nat} (e : nrA i = some w) : w.before args s = true := flat_of_before _ h _ (List.mem_of_getElem? e)
def kP : List Nat := [125, 133, 137, 141, 145, 149, 153, 157, 165, 161, 209, 257, 261, 265, 269, 185, 273, 277, 169, 281, 285, 289, 293, 217, 221, 297, 301, 181, 177, 305, 213, 129, 189, 201, 205, 193, 197, 309, 313, 317, 321, 325, 173, 71, 10, 6, 2]
def kT : List Nat := [173, 179, 182, 185, 188, 191, 194, 197, 200, 203, 206, 209, 212, 215, 218, 221, 224, 227, 230, 233, 236, 239, 242, 245, 248, 251, 254, 257, 260, 263, 266, 269, 272, 275, 278, 281, 284, 287, 290, 293, 296, 299, 302, 302, 302, 302, 302]
def tP : List Nat := [696, 710, 720, 726, 734, 741, 750, 759, 776, 767, 835, 1092, 1100, 1109, 1118, 800, 1129, 1139, 784, 1149, 1159, 1167, 1176, 848, 855, 1184, 1192, 795, 790, 1200, 843, 705, 810, 825, 830, 815, 820, 1205, 1210, 1215, 1220, 1226, 692, 692, 692, 692, 692]
def wT : List Nat := [384, 386, 388, 389, 390, 392, 394, 396, 398, 400, 402, 404, 405, 406, 407, 408, 409, 410, 411, 413, 414, 416, 418, 420, 422, 424, 425]
def wP : List Nat := [861, 871, 882, 889, 898, 906, 916, 926, 935, 944, 954, 963, 970, 978, 986, 996, 1007, 1016, 1025, 1032, 1041, 1048, 1056, 1063, 1071, 1078, 1085]
def mP : List Nat := [403, 423, 492, 524, 562, 596, 642, 457, 474, 622]
abbrev kS (i : Nat) : Term := .static "RoofPigeons$Kind" (mxkinds.getD i "") "LRoofPigeons$Kind;"
abbrev tS (i : Nat) : Term := .string "RoofPigeons$Kind" (kT.getD i 0)
abbrev wS (i : Nat) : Term := .string "RoofPigeonsModel" (wT.getD i 0)
abbrev sS : Term := .string "RoofPigeonsModel" 100
abbrev zA : Term := .static "RoofPigeons$Kind" "ALL" "[LRoofPigeons$Kind;"
abbrev zW : Term := .static "RoofPigeonsModel" "WORDS" "[Ljava/lang/String;"
abbrev zM : Term := .static "RoofPigeons$1" "$SwitchMap$RoofPigeons$Kind" "[I"
def ckK (i : Nat) : Bool := decide (nrA (kP.getD i 0) = some (.exactly (kS i) "RoofPigeons$Kind")) && decide (nrA (kP.getD i 0 + 1) = some (.eq (.field (kS i) "java/lang/Enum" "ordinal" "I") (.int (nI i)))) && decide (nrA (kP.getD i 0 + 2) = some (.eq (.field (kS i) "RoofPigeons$Kind" "text" "Ljava/lang/String;") (tS i))) && decide (nrA (kP.getD i 0 + 3) = some (.eq (.field (kS i) "RoofPigeons$Kind" "takes" "I") (.int (nI (mxtakes.getD i 0)))))
theorem ckK_ok : (List.range 47).all ckK = true := by decide +kernel
def ckS (tm : Term) (p : Nat) (l : List Int32) : Bool := decide (nrA p = some (.exactly tm "java/lang/String")) && decide (nrA (p + 1) = some (.eq (.field tm "java/lang/String" "coder" "B") (.int 0))) && decide (nrA (p + 2) = some (.arrayOf (.field tm "java/lang/String" "value" "[B") .byte)) && decide (nrA (p + 3) = some (.eq (.length (.field tm "java/lang/String" "value" "[B")) (.int (Int32.ofNat l.length)))) && (List.range l.length).all (fun j => decide (nrA (p + 4 + j) = some (.eq (.elem (.field tm "java/lang/String" "value" "[B") (.int (Int32.ofNat j))) (.int (l.getD j 0)))))
theorem ckT_ok : (List.range 47).all (fun i => ckS (tS i) (tP.getD i 0) (mxtexts.getD i []) && decide ((mxtexts.getD i []).length < 100)) = true := by decide +kernel
theorem ckW_ok : (List.range 27).all (fun i => ckS (wS i) (wP.getD i 0) (mxwords.getD i []) && decide ((mxwords.getD i []).length < 100)) = true := by decide +kernel
theorem ckG_ok : ckS sS 675 mxsigns = true := by decide +kernel
theorem ckA_ok : (List.range 47).all (fun j => decide (nrA (19 + j) = some (.eq (.elem zA (.int (Int32.ofNat j))) (kS j)))) = true := by decide +kernel
theorem ckV_ok : (List.range 27).all (fun j => decide (nrA (230 + j) = some (.eq (.elem zW (.int (Int32.ofNat j))) (wS j)))) = true := by decide +kernel
theorem ckM_ok : (List.range 47).all (fun j => decide (nrA (78 + j) = some (.eq (.elem zM (.int (Int32.ofNat j))) (.int (nI (mxsmap.getD j 0)))))) = true := by decide +kernel
theorem ckE_ok : (List.range 10).all (fun j => match mxMS[j]? with
  | some q => decide (nrA (mP.getD j 0) = some (.exactly (.string q.1 q.2.1) "java/lang/String"))
  | none => false) = true := by decide +kernel
