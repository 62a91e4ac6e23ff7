/-! ===== the constants that lie below 1000 ===== -/
def mxtexts : List (List Int32) := [[114, 111, 111, 102, 115], [112, 105, 103, 101, 111, 110], [97, 116], [108, 111, 117, 100], [104, 111, 112], [103, 108, 105, 100, 101], [98, 117, 105, 108, 100], [119, 101, 97, 114], [108, 101, 102, 116], [114, 105, 103, 104, 116], [119, 104, 101, 110], [100, 97, 121], [114, 97, 105, 110], [115, 101, 101, 110], [116, 111, 119, 101, 114, 115], [104, 101, 105, 103, 104, 116], [110, 111, 105, 115, 101], [112, 108, 97, 99, 101], [111, 102], [104, 101, 97, 114, 115], [100, 114, 121], [111, 118, 101, 114], [110, 111, 116], [97, 110, 100], [111, 114], [109, 105, 110], [109, 97, 120], [40], [41], [91], [93], [59], [44], [43], [45], [42], [47], [60], [62], [61], [60, 61], [62, 61], [], [], [], [], []]
def mxwords : List (List Int32) := [[114, 111, 111, 102, 115], [112, 105, 103, 101, 111, 110], [97, 116], [108, 111, 117, 100], [104, 111, 112], [103, 108, 105, 100, 101], [98, 117, 105, 108, 100], [119, 101, 97, 114], [108, 101, 102, 116], [114, 105, 103, 104, 116], [119, 104, 101, 110], [100, 97, 121], [114, 97, 105, 110], [115, 101, 101, 110], [116, 111, 119, 101, 114, 115], [104, 101, 105, 103, 104, 116], [110, 111, 105, 115, 101], [112, 108, 97, 99, 101], [111, 102], [104, 101, 97, 114, 115], [100, 114, 121], [111, 118, 101, 114], [110, 111, 116], [97, 110, 100], [111, 114], [109, 105, 110], [109, 97, 120]]
def mxsigns : List Int32 := [40, 41, 91, 93, 59, 44, 43, 45, 42, 47, 60, 62, 61]
def mxtakes : List Nat := [0, 0, 0, 0, 0, 0, 0, 0, 0, 0, 0, 0, 0, 0, 0, 1, 0, 0, 0, 0, 1, 0, 1, 2, 2, 2, 2, 0, 0, 0, 0, 0, 0, 2, 2, 2, 2, 2, 2, 2, 2, 2, 1, 0, 0, 0, 0]
def mxsmap : List Nat := [0, 0, 0, 0, 24, 25, 0, 0, 0, 0, 0, 13, 14, 15, 16, 21, 17, 18, 0, 5, 7, 6, 3, 30, 31, 22, 23, 20, 0, 4, 0, 0, 0, 27, 19, 28, 29, 8, 9, 10, 11, 12, 26, 2, 1, 0, 0]
def mxkinds : List String := ["ROOFS", "PIGEON", "AT", "LOUD", "HOP", "GLIDE", "BUILD", "WEAR", "LEFT", "RIGHT", "WHEN", "DAY", "RAIN", "SEEN", "TOWERS", "HEIGHT", "NOISE", "PLACE", "OF", "HEARS", "DRY", "OVER", "NOT", "AND", "OR", "MIN", "MAX", "OPEN", "CLOSE", "OPEN_TEST", "CLOSE_TEST", "SEMICOLON", "COMMA", "PLUS", "MINUS", "TIMES", "DIVIDE", "LESS", "GREATER", "EQUAL", "NOT_GREATER", "NOT_LESS", "NEGATE", "NAME", "NUMBER", "TAPE_END", "NO_TOKEN"]
def mxMS : List (String × Nat × String) := [("RoofPigeons", 68, "the tape is full"), ("RoofPigeons", 82, "the tape has not so many bytes"), ("RoofPigeons", 177, "no taller tower on that side"), ("RoofPigeons", 182, "no lower tower beside on that side"), ("RoofPigeons", 187, "the tower is as high as can be"), ("RoofPigeons", 189, "the tower is worn down"), ("RoofPigeons", 202, "no tower can have this height"), ("RoofPigeons", 259, "no such tower"), ("RoofPigeons", 262, "no such pigeon"), ("RoofPigeons", 264, "not 1 to 30 days")]
def mxLS : String × Nat × String := ("RoofPigeonsModel", 100, "()[];,+-*/<>=")
def mxrow (l : List Int32) : Nat → Int32 := fun j => l.getD j 0
def mxkon (L : Nat) (xs : Nat → Int32) (a : Nat) : mxC :=
  if a < 47 then .inr (20, [.ref (50 + a), .int (nI (mxtakes.getD a 0)), .int (nI a)])
  else if 50 ≤ a ∧ a < 97 then .inr (21, [.ref (150 + a), .int 0])
  else if 100 ≤ a ∧ a < 127 then .inr (21, [.ref (150 + a), .int 0])
  else if a = 130 then .inr (21, [.ref 280, .int 0])
  else if 200 ≤ a ∧ a < 247 then .inl (2, (mxtexts.getD (a - 200) []).length, .inl (mxrow (mxtexts.getD (a - 200) [])))
  else if 250 ≤ a ∧ a < 277 then .inl (2, (mxwords.getD (a - 250) []).length, .inl (mxrow (mxwords.getD (a - 250) [])))
  else if a = 280 then .inl (2, mxsigns.length, .inl (mxrow mxsigns))
  else if a = 300 then .inl (0, 47, .inl (fun j => nI (mxsmap.getD j 0)))
  else if a = 301 then .inl (4, 47, .inr (.inr (.inr (.inr (fun j => some j)))))
  else if a = 302 then .inl (6, 27, .inr (.inr (.inr (.inr (fun j => some (100 + j))))))
  else if a = 303 then .inl (0, L, .inl xs)
  else .inr (98, [])
