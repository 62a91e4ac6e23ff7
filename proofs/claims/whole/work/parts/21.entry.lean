/-! ===== entries, by program ===== -/
theorem n128 (a0 : Nat) : mxent 128 [.ref a0] = some [some (.ref a0)] := rfl
theorem n129 (a0 : Nat) (a1 : Nat) (a2 : Nat) : mxent 129 [.ref a0, .ref a1, .ref a2] = some [some (.ref a0), some (.ref a1), some (.ref a2), none] := rfl
theorem n130 (a0 : Nat) (a1 : Nat) (a2 : Nat) (a3 : Nat) : mxent 130 [.ref a0, .ref a1, .ref a2, .ref a3] = some [some (.ref a0), some (.ref a1), some (.ref a2), some (.ref a3), none, none] := rfl
theorem n131 (a0 : Nat) (a1 : Nat) (a2 : Int32) (a3 : Int32) (a4 : Nat) : mxent 131 [.ref a0, .ref a1, .int a2, .int a3, .ref a4] = some [some (.ref a0), some (.ref a1), some (.int a2), some (.int a3), some (.ref a4), none, none, none] := rfl
theorem n132 (a0 : Nat) (a1 : Int32) : mxent 132 [.ref a0, .int a1] = some [some (.ref a0), some (.int a1)] := rfl
theorem n133 (a0 : Nat) : mxent 133 [.ref a0] = some [some (.ref a0)] := rfl
theorem n134 (a0 : Nat) (a1 : Int32) (a2 : Int32) (a3 : Nat) : mxent 134 [.ref a0, .int a1, .int a2, .ref a3] = some [some (.ref a0), some (.int a1), some (.int a2), some (.ref a3)] := rfl
theorem n135 (a0 : Nat) (a1 : Int32) (a2 : Nat) : mxent 135 [.ref a0, .int a1, .ref a2] = some [some (.ref a0), some (.int a1), some (.ref a2)] := rfl
theorem n136 (a0 : Nat) (a1 : Int32) (a2 : Int32) : mxent 136 [.ref a0, .int a1, .int a2] = some [some (.ref a0), some (.int a1), some (.int a2)] := rfl
theorem n137 (a0 : Int32) : mxent 137 [.int a0] = some [some (.int a0)] := rfl
theorem n384 (a0 : Nat) : mxent 384 [.ref a0] = some [some (.ref a0)] := rfl
theorem n512 (a0 : Nat) : mxent 512 [.ref a0] = some [some (.ref a0), none] := rfl
theorem n513 (a0 : Nat) : mxent 513 [.ref a0] = some [some (.ref a0)] := rfl
theorem n514 (a0 : Nat) (a1 : Int32) : mxent 514 [.ref a0, .int a1] = some [some (.ref a0), some (.int a1)] := rfl
theorem n515 (a0 : Nat) (a1 : Int32) (a2 : Int32) : mxent 515 [.ref a0, .int a1, .int a2] = some [some (.ref a0), some (.int a1), some (.int a2)] := rfl
theorem n516 (a0 : Nat) (a1 : Nat) (a2 : Int32) (a3 : Int32) (a4 : Int32) (a5 : Int32) : mxent 516 [.ref a0, .ref a1, .int a2, .int a3, .int a4, .int a5] = some [some (.ref a0), some (.ref a1), some (.int a2), some (.int a3), some (.int a4), some (.int a5), none] := rfl
theorem n517 (a0 : Nat) (a1 : Nat) (a2 : Int32) (a3 : Int32) : mxent 517 [.ref a0, .ref a1, .int a2, .int a3] = some [some (.ref a0), some (.ref a1), some (.int a2), some (.int a3)] := rfl
theorem n640 (a0 : Nat) : mxent 640 [.ref a0] = some [some (.ref a0)] := rfl
theorem n641 (a0 : Nat) (a1 : Nat) : mxent 641 [.ref a0, .ref a1] = some [some (.ref a0), some (.ref a1)] := rfl
theorem n642 (a0 : Nat) (a1 : Nat) : mxent 642 [.ref a0, .ref a1] = some [some (.ref a0), some (.ref a1)] := rfl
theorem n643 (a0 : Nat) : mxent 643 [.ref a0] = some [some (.ref a0)] := rfl
theorem n644 (a0 : Nat) : mxent 644 [.ref a0] = some [some (.ref a0), none, none, none] := rfl
theorem n645 (a0 : Nat) : mxent 645 [.ref a0] = some [some (.ref a0), none, none] := rfl
theorem n646 (a0 : Nat) : mxent 646 [.ref a0] = some [some (.ref a0), none, none] := rfl
theorem n647 (a0 : Nat) (a1 : Int32) (a2 : Int32) : mxent 647 [.ref a0, .int a1, .int a2] = some [some (.ref a0), some (.int a1), some (.int a2), none] := rfl
theorem n648 (a0 : Nat) (a1 : Int32) (a2 : Int32) : mxent 648 [.ref a0, .int a1, .int a2] = some [some (.ref a0), some (.int a1), some (.int a2), none, none] := rfl
theorem n649 (a0 : Nat) (a1 : Int32) (a2 : Int32) : mxent 649 [.ref a0, .int a1, .int a2] = some [some (.ref a0), some (.int a1), some (.int a2), none, none] := rfl
theorem n650 (a0 : Nat) : mxent 650 [.ref a0] = some [some (.ref a0), none] := rfl
theorem n651 (a0 : Nat) (a1 : Int32) : mxent 651 [.ref a0, .int a1] = some [some (.ref a0), some (.int a1), none] := rfl
theorem n652 (a0 : Nat) (a1 : Int32) : mxent 652 [.ref a0, .int a1] = some [some (.ref a0), some (.int a1)] := rfl
theorem n653 (a0 : Nat) (a1 : Int32) : mxent 653 [.ref a0, .int a1] = some [some (.ref a0), some (.int a1)] := rfl
theorem n654 (a0 : Nat) : mxent 654 [.ref a0] = some [some (.ref a0), none, none, none] := rfl
theorem n655 (a0 : Nat) : mxent 655 [.ref a0] = some [some (.ref a0), none, none] := rfl
theorem n656 (a0 : Nat) : mxent 656 [.ref a0] = some [some (.ref a0), none, none] := rfl
theorem n657 (a0 : Nat) (a1 : Int32) : mxent 657 [.ref a0, .int a1] = some [some (.ref a0), some (.int a1)] := rfl
theorem n658 (a0 : Nat) (a1 : Int32) : mxent 658 [.ref a0, .int a1] = some [some (.ref a0), some (.int a1), none, none] := rfl
theorem n659 (a0 : Nat) (a1 : Int32) : mxent 659 [.ref a0, .int a1] = some [some (.ref a0), some (.int a1), none, none] := rfl
theorem n660 (a0 : Nat) (a1 : Int32) (a2 : Int32) : mxent 660 [.ref a0, .int a1, .int a2] = some [some (.ref a0), some (.int a1), some (.int a2), none, none] := rfl
theorem n661 (a0 : Nat) (a1 : Int32) (a2 : Int32) : mxent 661 [.ref a0, .int a1, .int a2] = some [some (.ref a0), some (.int a1), some (.int a2)] := rfl
theorem n662 (a0 : Nat) (a1 : Int32) (a2 : Int32) : mxent 662 [.ref a0, .int a1, .int a2] = some [some (.ref a0), some (.int a1), some (.int a2), none, none] := rfl
theorem n663 (a0 : Nat) : mxent 663 [.ref a0] = some [some (.ref a0), none, none, none, none] := rfl
theorem n664 (a0 : Nat) (a1 : Int32) : mxent 664 [.ref a0, .int a1] = some [some (.ref a0), some (.int a1), none, none, none, none] := rfl
theorem n768 (a0 : Nat) (a1 : Nat) (a2 : Nat) : mxent 768 [.ref a0, .ref a1, .ref a2] = some [some (.ref a0), some (.ref a1), some (.ref a2)] := rfl
theorem n769 (a0 : Nat) : mxent 769 [.ref a0] = some [some (.ref a0)] := rfl
theorem n770 (a0 : Nat) (a1 : Nat) : mxent 770 [.ref a0, .ref a1] = some [some (.ref a0), some (.ref a1), none] := rfl
theorem n771 (a0 : Nat) : mxent 771 [.ref a0] = some [some (.ref a0)] := rfl
theorem n772 (a0 : Nat) (a1 : Nat) : mxent 772 [.ref a0, .ref a1] = some [some (.ref a0), some (.ref a1)] := rfl
theorem n773 (a0 : Nat) (a1 : Nat) (a2 : Int32) : mxent 773 [.ref a0, .ref a1, .int a2] = some [some (.ref a0), some (.ref a1), some (.int a2)] := rfl
theorem n774 (a0 : Nat) (a1 : Int32) : mxent 774 [.ref a0, .int a1] = some [some (.ref a0), some (.int a1)] := rfl
theorem n775 (a0 : Nat) : mxent 775 [.ref a0] = some [some (.ref a0), none, none] := rfl
theorem n776 (a0 : Nat) : mxent 776 [.ref a0] = some [some (.ref a0), none, none] := rfl
theorem n777 (a0 : Nat) : mxent 777 [.ref a0] = some [some (.ref a0), none] := rfl
theorem n778 (a0 : Nat) : mxent 778 [.ref a0] = some [some (.ref a0), none] := rfl
theorem n779 (a0 : Nat) (a1 : Int32) (a2 : Int32) : mxent 779 [.ref a0, .int a1, .int a2] = some [some (.ref a0), some (.int a1), some (.int a2), none] := rfl
theorem n780 (a0 : Nat) : mxent 780 [.ref a0] = some [some (.ref a0), none, none] := rfl
theorem n781 (a0 : Nat) : mxent 781 [.ref a0] = some [some (.ref a0), none, none, none, none, none, none, none] := rfl
theorem n782 (a0 : Nat) : mxent 782 [.ref a0] = some [some (.ref a0)] := rfl
theorem n783 (a0 : Nat) (a1 : Int32) : mxent 783 [.ref a0, .int a1] = some [some (.ref a0), some (.int a1), none] := rfl
theorem n784 (a0 : Nat) (a1 : Int32) : mxent 784 [.ref a0, .int a1] = some [some (.ref a0), some (.int a1), none] := rfl
theorem n785 (a0 : Nat) (a1 : Int32) : mxent 785 [.ref a0, .int a1] = some [some (.ref a0), some (.int a1), none, none, none] := rfl
theorem n786 (a0 : Nat) (a1 : Int32) : mxent 786 [.ref a0, .int a1] = some [some (.ref a0), some (.int a1), none] := rfl
theorem n787 (a0 : Nat) (a1 : Int32) : mxent 787 [.ref a0, .int a1] = some [some (.ref a0), some (.int a1), none, none] := rfl
theorem n788 (a0 : Nat) (a1 : Int32) : mxent 788 [.ref a0, .int a1] = some [some (.ref a0), some (.int a1), none, none] := rfl
theorem n789 (a0 : Nat) (a1 : Int32) : mxent 789 [.ref a0, .int a1] = some [some (.ref a0), some (.int a1), none, none] := rfl
theorem n790 (a0 : Nat) (a1 : Int32) : mxent 790 [.ref a0, .int a1] = some [some (.ref a0), some (.int a1), none] := rfl
theorem n896 (a0 : Nat) : mxent 896 [.ref a0] = some [some (.ref a0)] := rfl
theorem n897 (a0 : Nat) (a1 : Int32) : mxent 897 [.ref a0, .int a1] = some [some (.ref a0), some (.int a1)] := rfl
theorem n898 (a0 : Nat) (a1 : Int32) : mxent 898 [.ref a0, .int a1] = some [some (.ref a0), some (.int a1), none] := rfl
theorem n899 (a0 : Nat) (a1 : Int32) : mxent 899 [.ref a0, .int a1] = some [some (.ref a0), some (.int a1)] := rfl
theorem n900 (a0 : Nat) (a1 : Int32) : mxent 900 [.ref a0, .int a1] = some [some (.ref a0), some (.int a1), none] := rfl
theorem n901 (a0 : Nat) (a1 : Int32) : mxent 901 [.ref a0, .int a1] = some [some (.ref a0), some (.int a1), none] := rfl
theorem n902 (a0 : Nat) (a1 : Int32) : mxent 902 [.ref a0, .int a1] = some [some (.ref a0), some (.int a1), none] := rfl
theorem n1024 (a0 : Nat) (a1 : Nat) : mxent 1024 [.ref a0, .ref a1] = some [some (.ref a0), some (.ref a1), none] := rfl
theorem n1025 (a0 : Nat) : mxent 1025 [.ref a0] = some [some (.ref a0), none, none, none, none, none] := rfl
theorem n1026 (a0 : Nat) (a1 : Int32) : mxent 1026 [.ref a0, .int a1] = some [some (.ref a0), some (.int a1), none] := rfl
theorem n1027 (a0 : Nat) (a1 : Int32) : mxent 1027 [.ref a0, .int a1] = some [some (.ref a0), some (.int a1), none, none, none] := rfl
theorem n1028 (a0 : Nat) (a1 : Int32) (a2 : Int32) : mxent 1028 [.ref a0, .int a1, .int a2] = some [some (.ref a0), some (.int a1), some (.int a2), none, none, none, none] := rfl
theorem n1029 (a0 : Nat) (a1 : Nat) (a2 : Int32) (a3 : Int32) : mxent 1029 [.ref a0, .ref a1, .int a2, .int a3] = some [some (.ref a0), some (.ref a1), some (.int a2), some (.int a3), none] := rfl
theorem n1030 (a0 : Nat) (a1 : Nat) (a2 : Int32) (a3 : Int32) : mxent 1030 [.ref a0, .ref a1, .int a2, .int a3] = some [some (.ref a0), some (.ref a1), some (.int a2), some (.int a3)] := rfl
theorem n1031 (a0 : Nat) (a1 : Int32) (a2 : Int32) : mxent 1031 [.ref a0, .int a1, .int a2] = some [some (.ref a0), some (.int a1), some (.int a2), none, none] := rfl
theorem n1032 (a0 : Nat) (a1 : Int32) (a2 : Int32) : mxent 1032 [.ref a0, .int a1, .int a2] = some [some (.ref a0), some (.int a1), some (.int a2), none, none, none, none] := rfl
theorem n1152 (a0 : Nat) : mxent 1152 [.ref a0] = some [some (.ref a0)] := rfl
theorem n1153 (a0 : Nat) (a1 : Int32) (a2 : Int32) (a3 : Int32) (a4 : Int32) (a5 : Int32) : mxent 1153 [.ref a0, .int a1, .int a2, .int a3, .int a4, .int a5] = some [some (.ref a0), some (.int a1), some (.int a2), some (.int a3), some (.int a4), some (.int a5)] := rfl
theorem n1154 (a0 : Nat) (a1 : Int32) : mxent 1154 [.ref a0, .int a1] = some [some (.ref a0), some (.int a1)] := rfl
theorem n1155 (a0 : Nat) : mxent 1155 [.ref a0] = some [some (.ref a0), none] := rfl
theorem n1156 (a0 : Nat) : mxent 1156 [.ref a0] = some [some (.ref a0)] := rfl
theorem n1157 (a0 : Nat) : mxent 1157 [.ref a0] = some [some (.ref a0)] := rfl
theorem n1158 (a0 : Nat) : mxent 1158 [.ref a0] = some [some (.ref a0)] := rfl
theorem n1159 (a0 : Nat) : mxent 1159 [.ref a0] = some [some (.ref a0)] := rfl
theorem n1160 (a0 : Nat) : mxent 1160 [.ref a0] = some [some (.ref a0)] := rfl
theorem n1161 (a0 : Nat) : mxent 1161 [.ref a0] = some [some (.ref a0)] := rfl
theorem n1162 (a0 : Nat) : mxent 1162 [.ref a0] = some [some (.ref a0)] := rfl
theorem n1163 (a0 : Nat) : mxent 1163 [.ref a0] = some [some (.ref a0)] := rfl
theorem n1164 (a0 : Nat) : mxent 1164 [.ref a0] = some [some (.ref a0)] := rfl
theorem n1165 (a0 : Nat) : mxent 1165 [.ref a0] = some [some (.ref a0)] := rfl
theorem n1166 (a0 : Nat) : mxent 1166 [.ref a0] = some [some (.ref a0)] := rfl
theorem n1167 (a0 : Nat) (a1 : Int32) : mxent 1167 [.ref a0, .int a1] = some [some (.ref a0), some (.int a1)] := rfl
theorem n1168 (a0 : Nat) (a1 : Int32) : mxent 1168 [.ref a0, .int a1] = some [some (.ref a0), some (.int a1)] := rfl
theorem n1169 (a0 : Nat) (a1 : Int32) : mxent 1169 [.ref a0, .int a1] = some [some (.ref a0), some (.int a1)] := rfl
theorem n1170 (a0 : Nat) (a1 : Int32) : mxent 1170 [.ref a0, .int a1] = some [some (.ref a0), some (.int a1)] := rfl
theorem n1171 (a0 : Nat) (a1 : Int32) : mxent 1171 [.ref a0, .int a1] = some [some (.ref a0), some (.int a1)] := rfl
theorem n1172 (a0 : Nat) (a1 : Int32) : mxent 1172 [.ref a0, .int a1] = some [some (.ref a0), some (.int a1)] := rfl
theorem n1173 (a0 : Nat) (a1 : Int32) : mxent 1173 [.ref a0, .int a1] = some [some (.ref a0), some (.int a1)] := rfl
theorem n1174 (a0 : Nat) (a1 : Int32) : mxent 1174 [.ref a0, .int a1] = some [some (.ref a0), some (.int a1)] := rfl
theorem n1175 (a0 : Nat) (a1 : Int32) : mxent 1175 [.ref a0, .int a1] = some [some (.ref a0), some (.int a1)] := rfl
theorem n1176 (a0 : Nat) (a1 : Int32) (a2 : Int32) : mxent 1176 [.ref a0, .int a1, .int a2] = some [some (.ref a0), some (.int a1), some (.int a2)] := rfl
theorem n1177 (a0 : Nat) (a1 : Int32) : mxent 1177 [.ref a0, .int a1] = some [some (.ref a0), some (.int a1)] := rfl
theorem n1178 (a0 : Nat) : mxent 1178 [.ref a0] = some [some (.ref a0)] := rfl
theorem n1179 (a0 : Nat) (a1 : Int32) (a2 : Int32) : mxent 1179 [.ref a0, .int a1, .int a2] = some [some (.ref a0), some (.int a1), some (.int a2)] := rfl
theorem n1180 (a0 : Nat) (a1 : Int32) (a2 : Int32) : mxent 1180 [.ref a0, .int a1, .int a2] = some [some (.ref a0), some (.int a1), some (.int a2)] := rfl
theorem n1181 (a0 : Nat) (a1 : Int32) : mxent 1181 [.ref a0, .int a1] = some [some (.ref a0), some (.int a1)] := rfl
theorem n1182 (a0 : Nat) (a1 : Int32) : mxent 1182 [.ref a0, .int a1] = some [some (.ref a0), some (.int a1)] := rfl
theorem n1183 (a0 : Nat) (a1 : Int32) : mxent 1183 [.ref a0, .int a1] = some [some (.ref a0), some (.int a1), none, none] := rfl
theorem n1184 (a0 : Nat) (a1 : Int32) : mxent 1184 [.ref a0, .int a1] = some [some (.ref a0), some (.int a1), none] := rfl
theorem n1185 (a0 : Nat) (a1 : Int32) (a2 : Int32) : mxent 1185 [.ref a0, .int a1, .int a2] = some [some (.ref a0), some (.int a1), some (.int a2), none] := rfl
theorem n1186 (a0 : Nat) (a1 : Int32) (a2 : Int32) : mxent 1186 [.ref a0, .int a1, .int a2] = some [some (.ref a0), some (.int a1), some (.int a2)] := rfl
theorem n1187 (a0 : Nat) : mxent 1187 [.ref a0] = some [some (.ref a0), none, none, none] := rfl
theorem n1188 (a0 : Nat) (a1 : Int32) : mxent 1188 [.ref a0, .int a1] = some [some (.ref a0), some (.int a1)] := rfl
theorem n1189 (a0 : Nat) : mxent 1189 [.ref a0] = some [some (.ref a0)] := rfl
theorem n1190 (a0 : Nat) : mxent 1190 [.ref a0] = some [some (.ref a0), none, none] := rfl
theorem n1191 (a0 : Nat) (a1 : Int64) : mxent 1191 [.ref a0, .long a1] = some [some (.ref a0), some (.long a1), none, none, none, none] := rfl
theorem n1192 (a0 : Nat) (a1 : Int64) : mxent 1192 [.ref a0, .long a1] = some [some (.ref a0), some (.long a1), none, none, none, none] := rfl
theorem n1193 (a0 : Nat) (a1 : Int32) : mxent 1193 [.ref a0, .int a1] = some [some (.ref a0), some (.int a1)] := rfl
theorem n1194 (a0 : Nat) (a1 : Int32) : mxent 1194 [.ref a0, .int a1] = some [some (.ref a0), some (.int a1)] := rfl
theorem n1195 (a0 : Nat) (a1 : Int32) : mxent 1195 [.ref a0, .int a1] = some [some (.ref a0), some (.int a1)] := rfl
theorem n1280 (a0 : Nat) : mxent 1280 [.ref a0] = some [some (.ref a0)] := rfl
theorem n1408 (a0 : Nat) (a1 : Nat) : mxent 1408 [.ref a0, .ref a1] = some [some (.ref a0), some (.ref a1)] := rfl
theorem n1409 (a0 : Nat) (a1 : Nat) : mxent 1409 [.ref a0, .ref a1] = some [some (.ref a0), some (.ref a1)] := rfl
theorem n1410 (a0 : Nat) : mxent 1410 [.ref a0] = some [some (.ref a0)] := rfl
theorem n1411 (a0 : Nat) (a1 : Int32) (a2 : Int32) : mxent 1411 [.ref a0, .int a1, .int a2] = some [some (.ref a0), some (.int a1), some (.int a2)] := rfl
theorem n1412 (a0 : Nat) (a1 : Int32) (a2 : Int32) : mxent 1412 [.ref a0, .int a1, .int a2] = some [some (.ref a0), some (.int a1), some (.int a2), none, none] := rfl
theorem n1413 (a0 : Nat) (a1 : Int32) (a2 : Int32) : mxent 1413 [.ref a0, .int a1, .int a2] = some [some (.ref a0), some (.int a1), some (.int a2)] := rfl
theorem n1414 (a0 : Nat) (a1 : Int32) : mxent 1414 [.ref a0, .int a1] = some [some (.ref a0), some (.int a1), none, none] := rfl
theorem n1415 (a0 : Nat) (a1 : Int32) (a2 : Int32) : mxent 1415 [.ref a0, .int a1, .int a2] = some [some (.ref a0), some (.int a1), some (.int a2), none] := rfl
theorem n1416 (a0 : Nat) (a1 : Int32) : mxent 1416 [.ref a0, .int a1] = some [some (.ref a0), some (.int a1)] := rfl
theorem n1417 (a0 : Nat) : mxent 1417 [.ref a0] = some [some (.ref a0), none, none] := rfl
theorem n1418 (a0 : Nat) (a1 : Int32) (a2 : Int32) : mxent 1418 [.ref a0, .int a1, .int a2] = some [some (.ref a0), some (.int a1), some (.int a2), none, none] := rfl
theorem n1419 (a0 : Nat) : mxent 1419 [.ref a0] = some [some (.ref a0), none, none] := rfl
theorem n1420 (a0 : Nat) : mxent 1420 [.ref a0] = some [some (.ref a0), none, none, none] := rfl
theorem n1421 (a0 : Nat) : mxent 1421 [.ref a0] = some [some (.ref a0), none, none] := rfl
theorem n1422 (a0 : Nat) : mxent 1422 [.ref a0] = some [some (.ref a0), none, none, none, none] := rfl
theorem n1423 (a0 : Nat) (a1 : Int32) : mxent 1423 [.ref a0, .int a1] = some [some (.ref a0), some (.int a1), none, none] := rfl
theorem n1424 (a0 : Nat) (a1 : Int32) (a2 : Int32) : mxent 1424 [.ref a0, .int a1, .int a2] = some [some (.ref a0), some (.int a1), some (.int a2), none, none] := rfl
theorem n1425 (a0 : Nat) (a1 : Int32) : mxent 1425 [.ref a0, .int a1] = some [some (.ref a0), some (.int a1), none, none] := rfl
theorem n1426 (a0 : Nat) (a1 : Int32) (a2 : Int32) : mxent 1426 [.ref a0, .int a1, .int a2] = some [some (.ref a0), some (.int a1), some (.int a2)] := rfl
theorem n1427 (a0 : Nat) (a1 : Int32) (a2 : Int32) : mxent 1427 [.ref a0, .int a1, .int a2] = some [some (.ref a0), some (.int a1), some (.int a2), none, none] := rfl
theorem n1428 (a0 : Nat) (a1 : Int32) : mxent 1428 [.ref a0, .int a1] = some [some (.ref a0), some (.int a1)] := rfl
theorem n1429 (a0 : Nat) : mxent 1429 [.ref a0] = some [some (.ref a0), none, none] := rfl
theorem n1430 (a0 : Nat) (a1 : Int32) : mxent 1430 [.ref a0, .int a1] = some [some (.ref a0), some (.int a1), none, none] := rfl
theorem n1431 (a0 : Nat) (a1 : Int32) (a2 : Int32) (a3 : Int32) : mxent 1431 [.ref a0, .int a1, .int a2, .int a3] = some [some (.ref a0), some (.int a1), some (.int a2), some (.int a3), none] := rfl
theorem n1432 (a0 : Nat) (a1 : Int32) (a2 : Int32) : mxent 1432 [.ref a0, .int a1, .int a2] = some [some (.ref a0), some (.int a1), some (.int a2)] := rfl
theorem n1433 (a0 : Nat) (a1 : Int32) (a2 : Int32) : mxent 1433 [.ref a0, .int a1, .int a2] = some [some (.ref a0), some (.int a1), some (.int a2)] := rfl
theorem n1434 (a0 : Nat) (a1 : Int32) : mxent 1434 [.ref a0, .int a1] = some [some (.ref a0), some (.int a1)] := rfl
theorem n1435 (a0 : Nat) (a1 : Int32) (a2 : Int32) : mxent 1435 [.ref a0, .int a1, .int a2] = some [some (.ref a0), some (.int a1), some (.int a2)] := rfl
theorem n1436 (a0 : Nat) (a1 : Int32) (a2 : Int32) : mxent 1436 [.ref a0, .int a1, .int a2] = some [some (.ref a0), some (.int a1), some (.int a2), none, none, none, none, none] := rfl
theorem n1437 (a0 : Nat) (a1 : Int32) : mxent 1437 [.ref a0, .int a1] = some [some (.ref a0), some (.int a1), none, none, none] := rfl
theorem n1438 (a0 : Nat) (a1 : Int32) : mxent 1438 [.ref a0, .int a1] = some [some (.ref a0), some (.int a1), none, none, none] := rfl
theorem n1439 (a0 : Nat) (a1 : Int32) : mxent 1439 [.ref a0, .int a1] = some [some (.ref a0), some (.int a1), none, none, none] := rfl
theorem n1440 (a0 : Nat) (a1 : Int32) (a2 : Int32) : mxent 1440 [.ref a0, .int a1, .int a2] = some [some (.ref a0), some (.int a1), some (.int a2), none] := rfl
theorem n1536 (a0 : Nat) : mxent 1536 [.ref a0] = some [some (.ref a0)] := rfl
theorem n1537 (a0 : Nat) : mxent 1537 [.ref a0] = some [some (.ref a0)] := rfl
theorem n1538 (a0 : Nat) (a1 : Int32) : mxent 1538 [.ref a0, .int a1] = some [some (.ref a0), some (.int a1)] := rfl
theorem n1539 (a0 : Nat) (a1 : Int32) : mxent 1539 [.ref a0, .int a1] = some [some (.ref a0), some (.int a1)] := rfl
theorem n1540 (a0 : Int32) (a1 : Int32) (a2 : Int32) : mxent 1540 [.int a0, .int a1, .int a2] = some [some (.int a0), some (.int a1), some (.int a2)] := rfl
theorem n1541 (a0 : Nat) (a1 : Int32) : mxent 1541 [.ref a0, .int a1] = some [some (.ref a0), some (.int a1)] := rfl
theorem n1542 (a0 : Nat) (a1 : Int32) : mxent 1542 [.ref a0, .int a1] = some [some (.ref a0), some (.int a1)] := rfl
theorem n1543 (a0 : Nat) : mxent 1543 [.ref a0] = some [some (.ref a0)] := rfl
theorem n1544 (a0 : Int32) (a1 : Int32) (a2 : Int32) : mxent 1544 [.int a0, .int a1, .int a2] = some [some (.int a0), some (.int a1), some (.int a2)] := rfl
theorem n1545 (a0 : Int32) : mxent 1545 [.int a0] = some [some (.int a0)] := rfl
theorem n1546 (a0 : Int32) : mxent 1546 [.int a0] = some [some (.int a0)] := rfl
theorem n1547 (a0 : Nat) (a1 : Int32) : mxent 1547 [.ref a0, .int a1] = some [some (.ref a0), some (.int a1)] := rfl
theorem n1548 (a0 : Nat) (a1 : Int32) (a2 : Int32) : mxent 1548 [.ref a0, .int a1, .int a2] = some [some (.ref a0), some (.int a1), some (.int a2), none, none, none] := rfl
theorem n1549 (a0 : Nat) (a1 : Int32) (a2 : Int32) : mxent 1549 [.ref a0, .int a1, .int a2] = some [some (.ref a0), some (.int a1), some (.int a2), none, none, none] := rfl
theorem n1550 (a0 : Nat) : mxent 1550 [.ref a0] = some [some (.ref a0), none, none] := rfl
theorem n1551 (a0 : Nat) (a1 : Int32) : mxent 1551 [.ref a0, .int a1] = some [some (.ref a0), some (.int a1)] := rfl
theorem n1552 (a0 : Nat) (a1 : Int32) : mxent 1552 [.ref a0, .int a1] = some [some (.ref a0), some (.int a1)] := rfl
theorem n1553 (a0 : Nat) (a1 : Int32) : mxent 1553 [.ref a0, .int a1] = some [some (.ref a0), some (.int a1)] := rfl
theorem n1554 (a0 : Nat) (a1 : Int32) : mxent 1554 [.ref a0, .int a1] = some [some (.ref a0), some (.int a1)] := rfl
theorem n1555 (a0 : Nat) (a1 : Int32) (a2 : Int32) : mxent 1555 [.ref a0, .int a1, .int a2] = some [some (.ref a0), some (.int a1), some (.int a2)] := rfl
theorem n1556 (a0 : Nat) (a1 : Int32) : mxent 1556 [.ref a0, .int a1] = some [some (.ref a0), some (.int a1)] := rfl
theorem n1557 (a0 : Nat) : mxent 1557 [.ref a0] = some [some (.ref a0)] := rfl
theorem n1558 (a0 : Nat) : mxent 1558 [.ref a0] = some [some (.ref a0), none] := rfl
theorem n1559 (a0 : Nat) (a1 : Int32) : mxent 1559 [.ref a0, .int a1] = some [some (.ref a0), some (.int a1), none] := rfl
theorem n1560 (a0 : Nat) : mxent 1560 [.ref a0] = some [some (.ref a0)] := rfl
theorem n1561 (a0 : Nat) : mxent 1561 [.ref a0] = some [some (.ref a0)] := rfl
theorem n1562 (a0 : Nat) : mxent 1562 [.ref a0] = some [some (.ref a0)] := rfl
theorem n1563 (a0 : Nat) (a1 : Int32) : mxent 1563 [.ref a0, .int a1] = some [some (.ref a0), some (.int a1)] := rfl
theorem n1564 (a0 : Nat) (a1 : Int32) : mxent 1564 [.ref a0, .int a1] = some [some (.ref a0), some (.int a1)] := rfl
theorem n1565 (a0 : Nat) : mxent 1565 [.ref a0] = some [some (.ref a0), none] := rfl
theorem n1566 (a0 : Nat) : mxent 1566 [.ref a0] = some [some (.ref a0), none] := rfl
theorem n1567 (a0 : Nat) : mxent 1567 [.ref a0] = some [some (.ref a0), none] := rfl
theorem n1568 (a0 : Nat) (a1 : Int32) (a2 : Int32) : mxent 1568 [.ref a0, .int a1, .int a2] = some [some (.ref a0), some (.int a1), some (.int a2)] := rfl
theorem n1569 (a0 : Nat) : mxent 1569 [.ref a0] = some [some (.ref a0), none] := rfl
theorem n1570 (a0 : Nat) (a1 : Int32) : mxent 1570 [.ref a0, .int a1] = some [some (.ref a0), some (.int a1), none, none] := rfl
theorem n1571 (a0 : Nat) (a1 : Int32) (a2 : Int32) : mxent 1571 [.ref a0, .int a1, .int a2] = some [some (.ref a0), some (.int a1), some (.int a2), none] := rfl
theorem n1572 (a0 : Nat) (a1 : Int32) (a2 : Int32) : mxent 1572 [.ref a0, .int a1, .int a2] = some [some (.ref a0), some (.int a1), some (.int a2), none, none] := rfl
theorem n1573 (a0 : Nat) (a1 : Int32) (a2 : Int32) : mxent 1573 [.ref a0, .int a1, .int a2] = some [some (.ref a0), some (.int a1), some (.int a2)] := rfl
theorem n1574 (a0 : Nat) (a1 : Int32) (a2 : Int32) (a3 : Int32) : mxent 1574 [.ref a0, .int a1, .int a2, .int a3] = some [some (.ref a0), some (.int a1), some (.int a2), some (.int a3)] := rfl
theorem n1575 (a0 : Nat) (a1 : Int32) (a2 : Int32) (a3 : Int32) : mxent 1575 [.ref a0, .int a1, .int a2, .int a3] = some [some (.ref a0), some (.int a1), some (.int a2), some (.int a3)] := rfl
theorem n1576 (a0 : Nat) (a1 : Int32) : mxent 1576 [.ref a0, .int a1] = some [some (.ref a0), some (.int a1)] := rfl
theorem n1577 (a0 : Nat) (a1 : Int32) : mxent 1577 [.ref a0, .int a1] = some [some (.ref a0), some (.int a1), none] := rfl
theorem n1578 (a0 : Nat) (a1 : Int32) : mxent 1578 [.ref a0, .int a1] = some [some (.ref a0), some (.int a1)] := rfl
theorem n1579 (a0 : Nat) (a1 : Int32) : mxent 1579 [.ref a0, .int a1] = some [some (.ref a0), some (.int a1), none] := rfl
theorem n1580 (a0 : Nat) (a1 : Int32) : mxent 1580 [.ref a0, .int a1] = some [some (.ref a0), some (.int a1)] := rfl
theorem n1581 (a0 : Nat) : mxent 1581 [.ref a0] = some [some (.ref a0), none, none] := rfl
theorem n1582 (a0 : Nat) (a1 : Int32) (a2 : Int32) (a3 : Int32) (a4 : Int32) (a5 : Int32) : mxent 1582 [.ref a0, .int a1, .int a2, .int a3, .int a4, .int a5] = some [some (.ref a0), some (.int a1), some (.int a2), some (.int a3), some (.int a4), some (.int a5), none, none] := rfl
theorem n1583 (a0 : Nat) (a1 : Int32) : mxent 1583 [.ref a0, .int a1] = some [some (.ref a0), some (.int a1)] := rfl
theorem n1584 (a0 : Nat) : mxent 1584 [.ref a0] = some [some (.ref a0), none] := rfl
theorem n1585 (a0 : Nat) : mxent 1585 [.ref a0] = some [some (.ref a0)] := rfl
theorem n1586 (a0 : Nat) : mxent 1586 [.ref a0] = some [some (.ref a0)] := rfl
theorem n1587 (a0 : Nat) : mxent 1587 [.ref a0] = some [some (.ref a0)] := rfl
theorem n1588 (a0 : Nat) : mxent 1588 [.ref a0] = some [some (.ref a0)] := rfl
theorem n1589 (a0 : Nat) : mxent 1589 [.ref a0] = some [some (.ref a0)] := rfl
theorem n1590 (a0 : Nat) : mxent 1590 [.ref a0] = some [some (.ref a0)] := rfl
theorem n1591 (a0 : Nat) : mxent 1591 [.ref a0] = some [some (.ref a0)] := rfl
theorem n1592 (a0 : Nat) : mxent 1592 [.ref a0] = some [some (.ref a0)] := rfl
theorem n1593 (a0 : Nat) : mxent 1593 [.ref a0] = some [some (.ref a0)] := rfl
theorem n1594 (a0 : Nat) : mxent 1594 [.ref a0] = some [some (.ref a0)] := rfl
theorem n1595 (a0 : Nat) : mxent 1595 [.ref a0] = some [some (.ref a0)] := rfl
theorem n1596 (a0 : Nat) (a1 : Int32) : mxent 1596 [.ref a0, .int a1] = some [some (.ref a0), some (.int a1)] := rfl
theorem n1597 (a0 : Nat) (a1 : Int32) : mxent 1597 [.ref a0, .int a1] = some [some (.ref a0), some (.int a1)] := rfl
theorem n1598 (a0 : Nat) (a1 : Int32) : mxent 1598 [.ref a0, .int a1] = some [some (.ref a0), some (.int a1)] := rfl
theorem n1599 (a0 : Nat) (a1 : Int32) : mxent 1599 [.ref a0, .int a1] = some [some (.ref a0), some (.int a1)] := rfl
theorem n1600 (a0 : Nat) (a1 : Int32) : mxent 1600 [.ref a0, .int a1] = some [some (.ref a0), some (.int a1)] := rfl
theorem n1601 (a0 : Nat) (a1 : Int32) : mxent 1601 [.ref a0, .int a1] = some [some (.ref a0), some (.int a1)] := rfl
theorem n1602 (a0 : Nat) (a1 : Int32) : mxent 1602 [.ref a0, .int a1] = some [some (.ref a0), some (.int a1)] := rfl
theorem n1603 (a0 : Nat) (a1 : Int32) : mxent 1603 [.ref a0, .int a1] = some [some (.ref a0), some (.int a1)] := rfl
theorem n1604 (a0 : Nat) (a1 : Int32) : mxent 1604 [.ref a0, .int a1] = some [some (.ref a0), some (.int a1)] := rfl
theorem n1605 (a0 : Nat) (a1 : Int32) : mxent 1605 [.ref a0, .int a1] = some [some (.ref a0), some (.int a1)] := rfl
theorem n1606 (a0 : Nat) (a1 : Int32) (a2 : Int32) : mxent 1606 [.ref a0, .int a1, .int a2] = some [some (.ref a0), some (.int a1), some (.int a2)] := rfl
theorem n1607 (a0 : Nat) (a1 : Int32) : mxent 1607 [.ref a0, .int a1] = some [some (.ref a0), some (.int a1)] := rfl
theorem n1608 (a0 : Nat) : mxent 1608 [.ref a0] = some [some (.ref a0)] := rfl
theorem n1609 (a0 : Nat) (a1 : Int32) (a2 : Int32) (a3 : Int32) : mxent 1609 [.ref a0, .int a1, .int a2, .int a3] = some [some (.ref a0), some (.int a1), some (.int a2), some (.int a3), none] := rfl
theorem n1610 (a0 : Nat) (a1 : Int32) (a2 : Int32) : mxent 1610 [.ref a0, .int a1, .int a2] = some [some (.ref a0), some (.int a1), some (.int a2)] := rfl
theorem n1611 (a0 : Nat) (a1 : Int32) (a2 : Int32) : mxent 1611 [.ref a0, .int a1, .int a2] = some [some (.ref a0), some (.int a1), some (.int a2)] := rfl
theorem n1612 (a0 : Nat) (a1 : Int32) (a2 : Int32) : mxent 1612 [.ref a0, .int a1, .int a2] = some [some (.ref a0), some (.int a1), some (.int a2)] := rfl
theorem n1613 (a0 : Nat) (a1 : Int32) : mxent 1613 [.ref a0, .int a1] = some [some (.ref a0), some (.int a1)] := rfl
theorem n1614 (a0 : Nat) (a1 : Int32) : mxent 1614 [.ref a0, .int a1] = some [some (.ref a0), some (.int a1)] := rfl
theorem n1615 (a0 : Nat) (a1 : Int32) : mxent 1615 [.ref a0, .int a1] = some [some (.ref a0), some (.int a1), none] := rfl
theorem n1616 (a0 : Nat) (a1 : Int32) : mxent 1616 [.ref a0, .int a1] = some [some (.ref a0), some (.int a1)] := rfl
theorem n1617 (a0 : Nat) (a1 : Int32) (a2 : Int32) : mxent 1617 [.ref a0, .int a1, .int a2] = some [some (.ref a0), some (.int a1), some (.int a2)] := rfl
theorem n1618 (a0 : Nat) (a1 : Int32) (a2 : Int32) : mxent 1618 [.ref a0, .int a1, .int a2] = some [some (.ref a0), some (.int a1), some (.int a2)] := rfl
theorem n1619 (a0 : Nat) : mxent 1619 [.ref a0] = some [some (.ref a0)] := rfl
theorem n1620 (a0 : Nat) (a1 : Int32) : mxent 1620 [.ref a0, .int a1] = some [some (.ref a0), some (.int a1)] := rfl
theorem n1621 (a0 : Nat) : mxent 1621 [.ref a0] = some [some (.ref a0), none, none] := rfl
theorem n1622 (a0 : Nat) : mxent 1622 [.ref a0] = some [some (.ref a0), none, none, none, none, none, none, none, none, none] := rfl
theorem n2432 (a0 : Int32) : mxent 2432 [.int a0] = some [some (.int a0), none] := rfl
theorem n2433 (a0 : Int32) : mxent 2433 [.int a0] = some [some (.int a0)] := rfl
theorem n2434 (a0 : Int32) : mxent 2434 [.int a0] = some [some (.int a0)] := rfl
theorem n1664 (a0 : Nat) : mxent 1664 [.ref a0] = some [some (.ref a0)] := rfl
theorem n1792 (a0 : Int32) (a1 : Int32) : mxent 1792 [.int a0, .int a1] = some [some (.int a0), some (.int a1), none] := rfl
theorem n1793 (a0 : Int32) (a1 : Int32) : mxent 1793 [.int a0, .int a1] = some [some (.int a0), some (.int a1)] := rfl
theorem n1794 (a0 : Int32) (a1 : Int32) : mxent 1794 [.int a0, .int a1] = some [some (.int a0), some (.int a1)] := rfl
theorem n1920 (a0 : Nat) : mxent 1920 [.ref a0] = some [some (.ref a0)] := rfl
theorem n1921 (a0 : Nat) (a1 : Int32) : mxent 1921 [.ref a0, .int a1] = some [some (.ref a0), some (.int a1)] := rfl
theorem n1922 (a0 : Nat) (a1 : Int32) : mxent 1922 [.ref a0, .int a1] = some [some (.ref a0), some (.int a1)] := rfl
theorem n1923 (a0 : Nat) (a1 : Int32) (a2 : Int32) : mxent 1923 [.ref a0, .int a1, .int a2] = some [some (.ref a0), some (.int a1), some (.int a2)] := rfl
theorem n1924 (a0 : Nat) : mxent 1924 [.ref a0] = some [some (.ref a0)] := rfl
theorem n1925 (a0 : Nat) : mxent 1925 [.ref a0] = some [some (.ref a0)] := rfl
theorem n1926 (a0 : Int32) (a1 : Int32) : mxent 1926 [.int a0, .int a1] = some [some (.int a0), some (.int a1)] := rfl
theorem n1927 (a0 : Int32) (a1 : Int32) (a2 : Int32) : mxent 1927 [.int a0, .int a1, .int a2] = some [some (.int a0), some (.int a1), some (.int a2)] := rfl
theorem n2048 (a0 : Nat) (a1 : Int32) : mxent 2048 [.ref a0, .int a1] = some [some (.ref a0), some (.int a1)] := rfl
theorem n2049 (a0 : Int32) : mxent 2049 [.int a0] = some [some (.int a0)] := rfl
theorem n2050 (a0 : Nat) (a1 : Int32) (a2 : Int32) (a3 : Int32) : mxent 2050 [.ref a0, .int a1, .int a2, .int a3] = some [some (.ref a0), some (.int a1), some (.int a2), some (.int a3)] := rfl
theorem n2051 (a0 : Nat) (a1 : Int32) (a2 : Int32) (a3 : Int32) : mxent 2051 [.ref a0, .int a1, .int a2, .int a3] = some [some (.ref a0), some (.int a1), some (.int a2), some (.int a3), none, none] := rfl
theorem n2176 (a0 : Nat) (a1 : Int32) : mxent 2176 [.ref a0, .int a1] = some [some (.ref a0), some (.int a1)] := rfl
theorem n2177 (a0 : Nat) : mxent 2177 [.ref a0] = some [some (.ref a0)] := rfl
theorem n2178 (a0 : Nat) (a1 : Int32) (a2 : Int32) (a3 : Int32) : mxent 2178 [.ref a0, .int a1, .int a2, .int a3] = some [some (.ref a0), some (.int a1), some (.int a2), some (.int a3)] := rfl
theorem n2179 (a0 : Nat) (a1 : Int32) (a2 : Int32) (a3 : Int32) : mxent 2179 [.ref a0, .int a1, .int a2, .int a3] = some [some (.ref a0), some (.int a1), some (.int a2), some (.int a3)] := rfl
theorem n2180 (a0 : Nat) (a1 : Int32) (a2 : Int32) (a3 : Int32) : mxent 2180 [.ref a0, .int a1, .int a2, .int a3] = some [some (.ref a0), some (.int a1), some (.int a2), some (.int a3), none] := rfl
theorem n2181 (a0 : Nat) (a1 : Int32) (a2 : Int32) (a3 : Int32) : mxent 2181 [.ref a0, .int a1, .int a2, .int a3] = some [some (.ref a0), some (.int a1), some (.int a2), some (.int a3), none, none, none] := rfl
theorem n2182 (a0 : Nat) (a1 : Int32) : mxent 2182 [.ref a0, .int a1] = some [some (.ref a0), some (.int a1)] := rfl
theorem n2183 (a0 : Int32) (a1 : Nat) : mxent 2183 [.int a0, .ref a1] = some [some (.int a0), some (.ref a1)] := rfl
theorem n2184 (a0 : Int32) (a1 : Int32) (a2 : Nat) : mxent 2184 [.int a0, .int a1, .ref a2] = some [some (.int a0), some (.int a1), some (.ref a2)] := rfl
theorem n2304 (a0 : Int32) (a1 : Int32) (a2 : Nat) : mxent 2304 [.int a0, .int a1, .ref a2] = some [some (.int a0), some (.int a1), some (.ref a2)] := rfl
theorem n2305 (a0 : Int32) (a1 : Int32) (a2 : Int32) (a3 : Nat) : mxent 2305 [.int a0, .int a1, .int a2, .ref a3] = some [some (.int a0), some (.int a1), some (.int a2), some (.ref a3)] := rfl
theorem n2560 (a0 : Nat) (a1 : Int32) (a2 : Int32) (a3 : Int32) (a4 : Int32) (a5 : Int32) (a6 : Nat) : mxent 2560 [.ref a0, .int a1, .int a2, .int a3, .int a4, .int a5, .ref a6] = some [some (.ref a0), some (.int a1), some (.int a2), some (.int a3), some (.int a4), some (.int a5), some (.ref a6), none] := rfl
theorem n2561 (a0 : Nat) (a1 : Int32) (a2 : Nat) : mxent 2561 [.ref a0, .int a1, .ref a2] = some [some (.ref a0), some (.int a1), some (.ref a2), none] := rfl
theorem n2562 (a0 : Nat) (a1 : Int32) (a2 : Nat) : mxent 2562 [.ref a0, .int a1, .ref a2] = some [some (.ref a0), some (.int a1), some (.ref a2), none] := rfl
theorem n2563 (a0 : Nat) (a1 : Int32) (a2 : Nat) : mxent 2563 [.ref a0, .int a1, .ref a2] = some [some (.ref a0), some (.int a1), some (.ref a2), none] := rfl
theorem n2564 (a0 : Nat) (a1 : Int32) (a2 : Nat) : mxent 2564 [.ref a0, .int a1, .ref a2] = some [some (.ref a0), some (.int a1), some (.ref a2), none] := rfl
theorem n2565 (a0 : Nat) (a1 : Int32) (a2 : Nat) : mxent 2565 [.ref a0, .int a1, .ref a2] = some [some (.ref a0), some (.int a1), some (.ref a2), none] := rfl
theorem n2566 (a0 : Nat) (a1 : Int32) (a2 : Nat) : mxent 2566 [.ref a0, .int a1, .ref a2] = some [some (.ref a0), some (.int a1), some (.ref a2), none] := rfl
theorem n2567 (a0 : Nat) (a1 : Int32) (a2 : Nat) : mxent 2567 [.ref a0, .int a1, .ref a2] = some [some (.ref a0), some (.int a1), some (.ref a2), none] := rfl
theorem n2568 (a0 : Nat) (a1 : Int32) (a2 : Nat) : mxent 2568 [.ref a0, .int a1, .ref a2] = some [some (.ref a0), some (.int a1), some (.ref a2), none] := rfl
theorem n2569 (a0 : Nat) (a1 : Int32) (a2 : Nat) : mxent 2569 [.ref a0, .int a1, .ref a2] = some [some (.ref a0), some (.int a1), some (.ref a2), none] := rfl
theorem n2570 (a0 : Nat) (a1 : Int32) (a2 : Nat) : mxent 2570 [.ref a0, .int a1, .ref a2] = some [some (.ref a0), some (.int a1), some (.ref a2), none] := rfl
theorem n2571 (a0 : Nat) (a1 : Int32) (a2 : Int32) (a3 : Nat) : mxent 2571 [.ref a0, .int a1, .int a2, .ref a3] = some [some (.ref a0), some (.int a1), some (.int a2), some (.ref a3), none] := rfl
theorem n2572 (a0 : Nat) (a1 : Int32) (a2 : Nat) : mxent 2572 [.ref a0, .int a1, .ref a2] = some [some (.ref a0), some (.int a1), some (.ref a2), none] := rfl
theorem n2573 (a0 : Nat) (a1 : Int32) (a2 : Int32) (a3 : Nat) : mxent 2573 [.ref a0, .int a1, .int a2, .ref a3] = some [some (.ref a0), some (.int a1), some (.int a2), some (.ref a3), none] := rfl
theorem n2574 (a0 : Nat) (a1 : Int32) (a2 : Int32) (a3 : Nat) : mxent 2574 [.ref a0, .int a1, .int a2, .ref a3] = some [some (.ref a0), some (.int a1), some (.int a2), some (.ref a3), none] := rfl
theorem n2575 (a0 : Nat) (a1 : Int32) (a2 : Nat) : mxent 2575 [.ref a0, .int a1, .ref a2] = some [some (.ref a0), some (.int a1), some (.ref a2), none] := rfl
theorem n2576 (a0 : Nat) (a1 : Int32) (a2 : Nat) : mxent 2576 [.ref a0, .int a1, .ref a2] = some [some (.ref a0), some (.int a1), some (.ref a2), none] := rfl
theorem n2577 (a0 : Nat) (a1 : Int32) (a2 : Nat) : mxent 2577 [.ref a0, .int a1, .ref a2] = some [some (.ref a0), some (.int a1), some (.ref a2), none] := rfl
theorem n2578 (a0 : Nat) (a1 : Int32) (a2 : Nat) : mxent 2578 [.ref a0, .int a1, .ref a2] = some [some (.ref a0), some (.int a1), some (.ref a2), none] := rfl
theorem n2579 (a0 : Nat) (a1 : Int32) (a2 : Int32) (a3 : Nat) : mxent 2579 [.ref a0, .int a1, .int a2, .ref a3] = some [some (.ref a0), some (.int a1), some (.int a2), some (.ref a3), none] := rfl
theorem n2580 (a0 : Nat) (a1 : Int32) (a2 : Int32) (a3 : Nat) : mxent 2580 [.ref a0, .int a1, .int a2, .ref a3] = some [some (.ref a0), some (.int a1), some (.int a2), some (.ref a3), none] := rfl
theorem n2581 (a0 : Nat) (a1 : Int32) (a2 : Nat) : mxent 2581 [.ref a0, .int a1, .ref a2] = some [some (.ref a0), some (.int a1), some (.ref a2), none] := rfl
theorem n2582 (a0 : Nat) : mxent 2582 [.ref a0] = some [some (.ref a0), none, none, none, none, none, none, none, none] := rfl
