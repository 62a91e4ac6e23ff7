/-! ===== the counts only grow ===== -/
def mxup (σ : mxS) (q : mxN) : Prop := σ.2.1 ≤ q.2.2.2.2.1 ∧ σ.2.2 ≤ q.2.2.2.2.2
theorem up_go {pc : Nat} {loc : mxL} {st : List Value} {σ : mxS} {q : mxN} (h : mxgo pc loc st σ = some (.inl q)) : mxup σ q := by
  cases h; exact ⟨Nat.le_refl _, Nat.le_refl _⟩
theorem up_wr {pc a : Nat} {e : mxC} {loc : mxL} {st : List Value} {σ : mxS} {q : mxN} (h : mxgo pc loc st (mxWr σ a e) = some (.inl q)) : mxup σ q := by
  cases h; exact ⟨Nat.le_refl _, Nat.le_refl _⟩
theorem up_al {pc k : Nat} {e : mxC} {loc : mxL} {st : List Value} {σ : mxS} {q : mxN} (h : mxgo pc loc st (mxAl σ e k) = some (.inl q)) : mxup σ q := by
  cases h; exact ⟨Nat.le_add_right _ _, Nat.le_add_right _ _⟩
theorem up_mxldI (pc : Nat) (loc : mxL) (st : List Value) (σ : mxS) (o0 : Option Value) {q : mxN} (h : mxldI pc loc st σ o0 = some (.inl q)) : mxup σ q := by
  unfold mxldI at h
  (repeat' split at h) <;> first | (cases h; done) | exact up_go h | exact up_wr h | exact up_al h
theorem up_mxldJ (pc : Nat) (loc : mxL) (st : List Value) (σ : mxS) (o0 : Option Value) {q : mxN} (h : mxldJ pc loc st σ o0 = some (.inl q)) : mxup σ q := by
  unfold mxldJ at h
  (repeat' split at h) <;> first | (cases h; done) | exact up_go h | exact up_wr h | exact up_al h | exact up_mxldI h
theorem up_mxldD (pc : Nat) (loc : mxL) (st : List Value) (σ : mxS) (o0 : Option Value) {q : mxN} (h : mxldD pc loc st σ o0 = some (.inl q)) : mxup σ q := by
  unfold mxldD at h
  (repeat' split at h) <;> first | (cases h; done) | exact up_go h | exact up_wr h | exact up_al h | exact up_mxldJ h | exact up_mxldI h
theorem up_mxldA (pc : Nat) (loc : mxL) (st : List Value) (σ : mxS) (o0 : Option Value) {q : mxN} (h : mxldA pc loc st σ o0 = some (.inl q)) : mxup σ q := by
  unfold mxldA at h
  (repeat' split at h) <;> first | (cases h; done) | exact up_go h | exact up_wr h | exact up_al h | exact up_mxldD h | exact up_mxldJ h | exact up_mxldI h
theorem up_mxstI (k pc : Nat) (loc : mxL) (st : List Value) (σ : mxS) {q : mxN} (h : mxstI k pc loc st σ = some (.inl q)) : mxup σ q := by
  unfold mxstI at h
  (repeat' split at h) <;> first | (cases h; done) | exact up_go h | exact up_wr h | exact up_al h | exact up_mxldA h | exact up_mxldD h | exact up_mxldJ h | exact up_mxldI h
theorem up_mxstJ (k pc : Nat) (loc : mxL) (st : List Value) (σ : mxS) {q : mxN} (h : mxstJ k pc loc st σ = some (.inl q)) : mxup σ q := by
  unfold mxstJ at h
  (repeat' split at h) <;> first | (cases h; done) | exact up_go h | exact up_wr h | exact up_al h | exact up_mxstI h | exact up_mxldA h | exact up_mxldD h | exact up_mxldJ h | exact up_mxldI h
theorem up_mxstD (k pc : Nat) (loc : mxL) (st : List Value) (σ : mxS) {q : mxN} (h : mxstD k pc loc st σ = some (.inl q)) : mxup σ q := by
  unfold mxstD at h
  (repeat' split at h) <;> first | (cases h; done) | exact up_go h | exact up_wr h | exact up_al h | exact up_mxstJ h | exact up_mxstI h | exact up_mxldA h | exact up_mxldD h | exact up_mxldJ h | exact up_mxldI h
theorem up_mxstA (k pc : Nat) (loc : mxL) (st : List Value) (σ : mxS) {q : mxN} (h : mxstA k pc loc st σ = some (.inl q)) : mxup σ q := by
  unfold mxstA at h
  (repeat' split at h) <;> first | (cases h; done) | exact up_go h | exact up_wr h | exact up_al h | exact up_mxstD h | exact up_mxstJ h | exact up_mxstI h | exact up_mxldA h | exact up_mxldD h | exact up_mxldJ h | exact up_mxldI h
theorem up_mxinc (k : Nat) (n : Int) (pc : Nat) (loc : mxL) (st : List Value) (σ : mxS) (o0 : Option Value) {q : mxN} (h : mxinc k n pc loc st σ o0 = some (.inl q)) : mxup σ q := by
  unfold mxinc at h
  (repeat' split at h) <;> first | (cases h; done) | exact up_go h | exact up_wr h | exact up_al h | exact up_mxstA h | exact up_mxstD h | exact up_mxstJ h | exact up_mxstI h | exact up_mxldA h | exact up_mxldD h | exact up_mxldJ h | exact up_mxldI h
theorem up_mxI2 (f : Int32 → Int32 → Int32) (pc : Nat) (loc : mxL) (st : List Value) (σ : mxS) {q : mxN} (h : mxI2 f pc loc st σ = some (.inl q)) : mxup σ q := by
  unfold mxI2 at h
  (repeat' split at h) <;> first | (cases h; done) | exact up_go h | exact up_wr h | exact up_al h | exact up_mxinc h | exact up_mxstA h | exact up_mxstD h | exact up_mxstJ h | exact up_mxstI h | exact up_mxldA h | exact up_mxldD h | exact up_mxldJ h | exact up_mxldI h
theorem up_mxI2z (f : Int32 → Int32 → Int32) (pc : Nat) (loc : mxL) (st : List Value) (σ : mxS) {q : mxN} (h : mxI2z f pc loc st σ = some (.inl q)) : mxup σ q := by
  unfold mxI2z at h
  (repeat' split at h) <;> first | (cases h; done) | exact up_go h | exact up_wr h | exact up_al h | exact up_mxI2 h | exact up_mxinc h | exact up_mxstA h | exact up_mxstD h | exact up_mxstJ h | exact up_mxstI h | exact up_mxldA h | exact up_mxldD h | exact up_mxldJ h | exact up_mxldI h
theorem up_mxI1 (f : Int32 → Int32) (pc : Nat) (loc : mxL) (st : List Value) (σ : mxS) {q : mxN} (h : mxI1 f pc loc st σ = some (.inl q)) : mxup σ q := by
  unfold mxI1 at h
  (repeat' split at h) <;> first | (cases h; done) | exact up_go h | exact up_wr h | exact up_al h | exact up_mxI2z h | exact up_mxI2 h | exact up_mxinc h | exact up_mxstA h | exact up_mxstD h | exact up_mxstJ h | exact up_mxstI h | exact up_mxldA h | exact up_mxldD h | exact up_mxldJ h | exact up_mxldI h
theorem up_mxI2J (pc : Nat) (loc : mxL) (st : List Value) (σ : mxS) {q : mxN} (h : mxI2J pc loc st σ = some (.inl q)) : mxup σ q := by
  unfold mxI2J at h
  (repeat' split at h) <;> first | (cases h; done) | exact up_go h | exact up_wr h | exact up_al h | exact up_mxI1 h | exact up_mxI2z h | exact up_mxI2 h | exact up_mxinc h | exact up_mxstA h | exact up_mxstD h | exact up_mxstJ h | exact up_mxstI h | exact up_mxldA h | exact up_mxldD h | exact up_mxldJ h | exact up_mxldI h
theorem up_mxJ2I (pc : Nat) (loc : mxL) (st : List Value) (σ : mxS) {q : mxN} (h : mxJ2I pc loc st σ = some (.inl q)) : mxup σ q := by
  unfold mxJ2I at h
  (repeat' split at h) <;> first | (cases h; done) | exact up_go h | exact up_wr h | exact up_al h | exact up_mxI2J h | exact up_mxI1 h | exact up_mxI2z h | exact up_mxI2 h | exact up_mxinc h | exact up_mxstA h | exact up_mxstD h | exact up_mxstJ h | exact up_mxstI h | exact up_mxldA h | exact up_mxldD h | exact up_mxldJ h | exact up_mxldI h
theorem up_mxI2D (pc : Nat) (loc : mxL) (st : List Value) (σ : mxS) {q : mxN} (h : mxI2D pc loc st σ = some (.inl q)) : mxup σ q := by
  unfold mxI2D at h
  (repeat' split at h) <;> first | (cases h; done) | exact up_go h | exact up_wr h | exact up_al h | exact up_mxJ2I h | exact up_mxI2J h | exact up_mxI1 h | exact up_mxI2z h | exact up_mxI2 h | exact up_mxinc h | exact up_mxstA h | exact up_mxstD h | exact up_mxstJ h | exact up_mxstI h | exact up_mxldA h | exact up_mxldD h | exact up_mxldJ h | exact up_mxldI h
theorem up_mxJ2 (f : Int64 → Int64 → Int64) (pc : Nat) (loc : mxL) (st : List Value) (σ : mxS) {q : mxN} (h : mxJ2 f pc loc st σ = some (.inl q)) : mxup σ q := by
  unfold mxJ2 at h
  (repeat' split at h) <;> first | (cases h; done) | exact up_go h | exact up_wr h | exact up_al h | exact up_mxI2D h | exact up_mxJ2I h | exact up_mxI2J h | exact up_mxI1 h | exact up_mxI2z h | exact up_mxI2 h | exact up_mxinc h | exact up_mxstA h | exact up_mxstD h | exact up_mxstJ h | exact up_mxstI h | exact up_mxldA h | exact up_mxldD h | exact up_mxldJ h | exact up_mxldI h
theorem up_mxlcmp (pc : Nat) (loc : mxL) (st : List Value) (σ : mxS) {q : mxN} (h : mxlcmp pc loc st σ = some (.inl q)) : mxup σ q := by
  unfold mxlcmp at h
  (repeat' split at h) <;> first | (cases h; done) | exact up_go h | exact up_wr h | exact up_al h | exact up_mxJ2 h | exact up_mxI2D h | exact up_mxJ2I h | exact up_mxI2J h | exact up_mxI1 h | exact up_mxI2z h | exact up_mxI2 h | exact up_mxinc h | exact up_mxstA h | exact up_mxstD h | exact up_mxstJ h | exact up_mxstI h | exact up_mxldA h | exact up_mxldD h | exact up_mxldJ h | exact up_mxldI h
theorem up_mxdcmp (op : CmpOp) (pc : Nat) (loc : mxL) (st : List Value) (σ : mxS) {q : mxN} (h : mxdcmp op pc loc st σ = some (.inl q)) : mxup σ q := by
  unfold mxdcmp at h
  (repeat' split at h) <;> first | (cases h; done) | exact up_go h | exact up_wr h | exact up_al h | exact up_mxlcmp h | exact up_mxJ2 h | exact up_mxI2D h | exact up_mxJ2I h | exact up_mxI2J h | exact up_mxI1 h | exact up_mxI2z h | exact up_mxI2 h | exact up_mxinc h | exact up_mxstA h | exact up_mxstD h | exact up_mxstJ h | exact up_mxstI h | exact up_mxldA h | exact up_mxldD h | exact up_mxldJ h | exact up_mxldI h
theorem up_mxddiv (pc : Nat) (loc : mxL) (st : List Value) (σ : mxS) {q : mxN} (h : mxddiv pc loc st σ = some (.inl q)) : mxup σ q := by
  unfold mxddiv at h
  (repeat' split at h) <;> first | (cases h; done) | exact up_go h | exact up_wr h | exact up_al h | exact up_mxdcmp h | exact up_mxlcmp h | exact up_mxJ2 h | exact up_mxI2D h | exact up_mxJ2I h | exact up_mxI2J h | exact up_mxI1 h | exact up_mxI2z h | exact up_mxI2 h | exact up_mxinc h | exact up_mxstA h | exact up_mxstD h | exact up_mxstJ h | exact up_mxstI h | exact up_mxldA h | exact up_mxldD h | exact up_mxldJ h | exact up_mxldI h
theorem up_mxif_eq (tgt pc : Nat) (loc : mxL) (st : List Value) (σ : mxS) {q : mxN} (h : mxif_eq tgt pc loc st σ = some (.inl q)) : mxup σ q := by
  unfold mxif_eq at h
  (repeat' split at h) <;> first | (cases h; done) | exact up_go h | exact up_wr h | exact up_al h | exact up_mxddiv h | exact up_mxdcmp h | exact up_mxlcmp h | exact up_mxJ2 h | exact up_mxI2D h | exact up_mxJ2I h | exact up_mxI2J h | exact up_mxI1 h | exact up_mxI2z h | exact up_mxI2 h | exact up_mxinc h | exact up_mxstA h | exact up_mxstD h | exact up_mxstJ h | exact up_mxstI h | exact up_mxldA h | exact up_mxldD h | exact up_mxldJ h | exact up_mxldI h
theorem up_mxic_eq (tgt pc : Nat) (loc : mxL) (st : List Value) (σ : mxS) {q : mxN} (h : mxic_eq tgt pc loc st σ = some (.inl q)) : mxup σ q := by
  unfold mxic_eq at h
  (repeat' split at h) <;> first | (cases h; done) | exact up_go h | exact up_wr h | exact up_al h | exact up_mxif_eq h | exact up_mxddiv h | exact up_mxdcmp h | exact up_mxlcmp h | exact up_mxJ2 h | exact up_mxI2D h | exact up_mxJ2I h | exact up_mxI2J h | exact up_mxI1 h | exact up_mxI2z h | exact up_mxI2 h | exact up_mxinc h | exact up_mxstA h | exact up_mxstD h | exact up_mxstJ h | exact up_mxstI h | exact up_mxldA h | exact up_mxldD h | exact up_mxldJ h | exact up_mxldI h
theorem up_mxif_ne (tgt pc : Nat) (loc : mxL) (st : List Value) (σ : mxS) {q : mxN} (h : mxif_ne tgt pc loc st σ = some (.inl q)) : mxup σ q := by
  unfold mxif_ne at h
  (repeat' split at h) <;> first | (cases h; done) | exact up_go h | exact up_wr h | exact up_al h | exact up_mxic_eq h | exact up_mxif_eq h | exact up_mxddiv h | exact up_mxdcmp h | exact up_mxlcmp h | exact up_mxJ2 h | exact up_mxI2D h | exact up_mxJ2I h | exact up_mxI2J h | exact up_mxI1 h | exact up_mxI2z h | exact up_mxI2 h | exact up_mxinc h | exact up_mxstA h | exact up_mxstD h | exact up_mxstJ h | exact up_mxstI h | exact up_mxldA h | exact up_mxldD h | exact up_mxldJ h | exact up_mxldI h
theorem up_mxic_ne (tgt pc : Nat) (loc : mxL) (st : List Value) (σ : mxS) {q : mxN} (h : mxic_ne tgt pc loc st σ = some (.inl q)) : mxup σ q := by
  unfold mxic_ne at h
  (repeat' split at h) <;> first | (cases h; done) | exact up_go h | exact up_wr h | exact up_al h | exact up_mxif_ne h | exact up_mxic_eq h | exact up_mxif_eq h | exact up_mxddiv h | exact up_mxdcmp h | exact up_mxlcmp h | exact up_mxJ2 h | exact up_mxI2D h | exact up_mxJ2I h | exact up_mxI2J h | exact up_mxI1 h | exact up_mxI2z h | exact up_mxI2 h | exact up_mxinc h | exact up_mxstA h | exact up_mxstD h | exact up_mxstJ h | exact up_mxstI h | exact up_mxldA h | exact up_mxldD h | exact up_mxldJ h | exact up_mxldI h
theorem up_mxif_lt (tgt pc : Nat) (loc : mxL) (st : List Value) (σ : mxS) {q : mxN} (h : mxif_lt tgt pc loc st σ = some (.inl q)) : mxup σ q := by
  unfold mxif_lt at h
  (repeat' split at h) <;> first | (cases h; done) | exact up_go h | exact up_wr h | exact up_al h | exact up_mxic_ne h | exact up_mxif_ne h | exact up_mxic_eq h | exact up_mxif_eq h | exact up_mxddiv h | exact up_mxdcmp h | exact up_mxlcmp h | exact up_mxJ2 h | exact up_mxI2D h | exact up_mxJ2I h | exact up_mxI2J h | exact up_mxI1 h | exact up_mxI2z h | exact up_mxI2 h | exact up_mxinc h | exact up_mxstA h | exact up_mxstD h | exact up_mxstJ h | exact up_mxstI h | exact up_mxldA h | exact up_mxldD h | exact up_mxldJ h | exact up_mxldI h
theorem up_mxic_lt (tgt pc : Nat) (loc : mxL) (st : List Value) (σ : mxS) {q : mxN} (h : mxic_lt tgt pc loc st σ = some (.inl q)) : mxup σ q := by
  unfold mxic_lt at h
  (repeat' split at h) <;> first | (cases h; done) | exact up_go h | exact up_wr h | exact up_al h | exact up_mxif_lt h | exact up_mxic_ne h | exact up_mxif_ne h | exact up_mxic_eq h | exact up_mxif_eq h | exact up_mxddiv h | exact up_mxdcmp h | exact up_mxlcmp h | exact up_mxJ2 h | exact up_mxI2D h | exact up_mxJ2I h | exact up_mxI2J h | exact up_mxI1 h | exact up_mxI2z h | exact up_mxI2 h | exact up_mxinc h | exact up_mxstA h | exact up_mxstD h | exact up_mxstJ h | exact up_mxstI h | exact up_mxldA h | exact up_mxldD h | exact up_mxldJ h | exact up_mxldI h
theorem up_mxif_ge (tgt pc : Nat) (loc : mxL) (st : List Value) (σ : mxS) {q : mxN} (h : mxif_ge tgt pc loc st σ = some (.inl q)) : mxup σ q := by
  unfold mxif_ge at h
  (repeat' split at h) <;> first | (cases h; done) | exact up_go h | exact up_wr h | exact up_al h | exact up_mxic_lt h | exact up_mxif_lt h | exact up_mxic_ne h | exact up_mxif_ne h | exact up_mxic_eq h | exact up_mxif_eq h | exact up_mxddiv h | exact up_mxdcmp h | exact up_mxlcmp h | exact up_mxJ2 h | exact up_mxI2D h | exact up_mxJ2I h | exact up_mxI2J h | exact up_mxI1 h | exact up_mxI2z h | exact up_mxI2 h | exact up_mxinc h | exact up_mxstA h | exact up_mxstD h | exact up_mxstJ h | exact up_mxstI h | exact up_mxldA h | exact up_mxldD h | exact up_mxldJ h | exact up_mxldI h
theorem up_mxic_ge (tgt pc : Nat) (loc : mxL) (st : List Value) (σ : mxS) {q : mxN} (h : mxic_ge tgt pc loc st σ = some (.inl q)) : mxup σ q := by
  unfold mxic_ge at h
  (repeat' split at h) <;> first | (cases h; done) | exact up_go h | exact up_wr h | exact up_al h | exact up_mxif_ge h | exact up_mxic_lt h | exact up_mxif_lt h | exact up_mxic_ne h | exact up_mxif_ne h | exact up_mxic_eq h | exact up_mxif_eq h | exact up_mxddiv h | exact up_mxdcmp h | exact up_mxlcmp h | exact up_mxJ2 h | exact up_mxI2D h | exact up_mxJ2I h | exact up_mxI2J h | exact up_mxI1 h | exact up_mxI2z h | exact up_mxI2 h | exact up_mxinc h | exact up_mxstA h | exact up_mxstD h | exact up_mxstJ h | exact up_mxstI h | exact up_mxldA h | exact up_mxldD h | exact up_mxldJ h | exact up_mxldI h
theorem up_mxif_gt (tgt pc : Nat) (loc : mxL) (st : List Value) (σ : mxS) {q : mxN} (h : mxif_gt tgt pc loc st σ = some (.inl q)) : mxup σ q := by
  unfold mxif_gt at h
  (repeat' split at h) <;> first | (cases h; done) | exact up_go h | exact up_wr h | exact up_al h | exact up_mxic_ge h | exact up_mxif_ge h | exact up_mxic_lt h | exact up_mxif_lt h | exact up_mxic_ne h | exact up_mxif_ne h | exact up_mxic_eq h | exact up_mxif_eq h | exact up_mxddiv h | exact up_mxdcmp h | exact up_mxlcmp h | exact up_mxJ2 h | exact up_mxI2D h | exact up_mxJ2I h | exact up_mxI2J h | exact up_mxI1 h | exact up_mxI2z h | exact up_mxI2 h | exact up_mxinc h | exact up_mxstA h | exact up_mxstD h | exact up_mxstJ h | exact up_mxstI h | exact up_mxldA h | exact up_mxldD h | exact up_mxldJ h | exact up_mxldI h
theorem up_mxic_gt (tgt pc : Nat) (loc : mxL) (st : List Value) (σ : mxS) {q : mxN} (h : mxic_gt tgt pc loc st σ = some (.inl q)) : mxup σ q := by
  unfold mxic_gt at h
  (repeat' split at h) <;> first | (cases h; done) | exact up_go h | exact up_wr h | exact up_al h | exact up_mxif_gt h | exact up_mxic_ge h | exact up_mxif_ge h | exact up_mxic_lt h | exact up_mxif_lt h | exact up_mxic_ne h | exact up_mxif_ne h | exact up_mxic_eq h | exact up_mxif_eq h | exact up_mxddiv h | exact up_mxdcmp h | exact up_mxlcmp h | exact up_mxJ2 h | exact up_mxI2D h | exact up_mxJ2I h | exact up_mxI2J h | exact up_mxI1 h | exact up_mxI2z h | exact up_mxI2 h | exact up_mxinc h | exact up_mxstA h | exact up_mxstD h | exact up_mxstJ h | exact up_mxstI h | exact up_mxldA h | exact up_mxldD h | exact up_mxldJ h | exact up_mxldI h
theorem up_mxif_le (tgt pc : Nat) (loc : mxL) (st : List Value) (σ : mxS) {q : mxN} (h : mxif_le tgt pc loc st σ = some (.inl q)) : mxup σ q := by
  unfold mxif_le at h
  (repeat' split at h) <;> first | (cases h; done) | exact up_go h | exact up_wr h | exact up_al h | exact up_mxic_gt h | exact up_mxif_gt h | exact up_mxic_ge h | exact up_mxif_ge h | exact up_mxic_lt h | exact up_mxif_lt h | exact up_mxic_ne h | exact up_mxif_ne h | exact up_mxic_eq h | exact up_mxif_eq h | exact up_mxddiv h | exact up_mxdcmp h | exact up_mxlcmp h | exact up_mxJ2 h | exact up_mxI2D h | exact up_mxJ2I h | exact up_mxI2J h | exact up_mxI1 h | exact up_mxI2z h | exact up_mxI2 h | exact up_mxinc h | exact up_mxstA h | exact up_mxstD h | exact up_mxstJ h | exact up_mxstI h | exact up_mxldA h | exact up_mxldD h | exact up_mxldJ h | exact up_mxldI h
theorem up_mxic_le (tgt pc : Nat) (loc : mxL) (st : List Value) (σ : mxS) {q : mxN} (h : mxic_le tgt pc loc st σ = some (.inl q)) : mxup σ q := by
  unfold mxic_le at h
  (repeat' split at h) <;> first | (cases h; done) | exact up_go h | exact up_wr h | exact up_al h | exact up_mxif_le h | exact up_mxic_gt h | exact up_mxif_gt h | exact up_mxic_ge h | exact up_mxif_ge h | exact up_mxic_lt h | exact up_mxif_lt h | exact up_mxic_ne h | exact up_mxif_ne h | exact up_mxic_eq h | exact up_mxif_eq h | exact up_mxddiv h | exact up_mxdcmp h | exact up_mxlcmp h | exact up_mxJ2 h | exact up_mxI2D h | exact up_mxJ2I h | exact up_mxI2J h | exact up_mxI1 h | exact up_mxI2z h | exact up_mxI2 h | exact up_mxinc h | exact up_mxstA h | exact up_mxstD h | exact up_mxstJ h | exact up_mxstI h | exact up_mxldA h | exact up_mxldD h | exact up_mxldJ h | exact up_mxldI h
theorem up_mxca2 (w : Bool) (tgt pc : Nat) (loc : mxL) (r : List Value) (σ : mxS) (o0 : Option (Option Nat)) (o1 : Option (Option Nat)) {q : mxN} (h : mxca2 w tgt pc loc r σ o0 o1 = some (.inl q)) : mxup σ q := by
  unfold mxca2 at h
  (repeat' split at h) <;> first | (cases h; done) | exact up_go h | exact up_wr h | exact up_al h | exact up_mxic_le h | exact up_mxif_le h | exact up_mxic_gt h | exact up_mxif_gt h | exact up_mxic_ge h | exact up_mxif_ge h | exact up_mxic_lt h | exact up_mxif_lt h | exact up_mxic_ne h | exact up_mxif_ne h | exact up_mxic_eq h | exact up_mxif_eq h | exact up_mxddiv h | exact up_mxdcmp h | exact up_mxlcmp h | exact up_mxJ2 h | exact up_mxI2D h | exact up_mxJ2I h | exact up_mxI2J h | exact up_mxI1 h | exact up_mxI2z h | exact up_mxI2 h | exact up_mxinc h | exact up_mxstA h | exact up_mxstD h | exact up_mxstJ h | exact up_mxstI h | exact up_mxldA h | exact up_mxldD h | exact up_mxldJ h | exact up_mxldI h
theorem up_mxca (w : Bool) (tgt pc : Nat) (loc : mxL) (st : List Value) (σ : mxS) {q : mxN} (h : mxca w tgt pc loc st σ = some (.inl q)) : mxup σ q := by
  unfold mxca at h
  (repeat' split at h) <;> first | (cases h; done) | exact up_go h | exact up_wr h | exact up_al h | exact up_mxca2 h | exact up_mxic_le h | exact up_mxif_le h | exact up_mxic_gt h | exact up_mxif_gt h | exact up_mxic_ge h | exact up_mxif_ge h | exact up_mxic_lt h | exact up_mxif_lt h | exact up_mxic_ne h | exact up_mxif_ne h | exact up_mxic_eq h | exact up_mxif_eq h | exact up_mxddiv h | exact up_mxdcmp h | exact up_mxlcmp h | exact up_mxJ2 h | exact up_mxI2D h | exact up_mxJ2I h | exact up_mxI2J h | exact up_mxI1 h | exact up_mxI2z h | exact up_mxI2 h | exact up_mxinc h | exact up_mxstA h | exact up_mxstD h | exact up_mxstJ h | exact up_mxstI h | exact up_mxldA h | exact up_mxldD h | exact up_mxldJ h | exact up_mxldI h
theorem up_mxsw (ps : List (Int × Nat)) (d : Nat) (loc : mxL) (st : List Value) (σ : mxS) {q : mxN} (h : mxsw ps d loc st σ = some (.inl q)) : mxup σ q := by
  unfold mxsw at h
  (repeat' split at h) <;> first | (cases h; done) | exact up_go h | exact up_wr h | exact up_al h | exact up_mxca h | exact up_mxca2 h | exact up_mxic_le h | exact up_mxif_le h | exact up_mxic_gt h | exact up_mxif_gt h | exact up_mxic_ge h | exact up_mxif_ge h | exact up_mxic_lt h | exact up_mxif_lt h | exact up_mxic_ne h | exact up_mxif_ne h | exact up_mxic_eq h | exact up_mxif_eq h | exact up_mxddiv h | exact up_mxdcmp h | exact up_mxlcmp h | exact up_mxJ2 h | exact up_mxI2D h | exact up_mxJ2I h | exact up_mxI2J h | exact up_mxI1 h | exact up_mxI2z h | exact up_mxI2 h | exact up_mxinc h | exact up_mxstA h | exact up_mxstD h | exact up_mxstJ h | exact up_mxstI h | exact up_mxldA h | exact up_mxldD h | exact up_mxldJ h | exact up_mxldI h
theorem up_mxdup (pc : Nat) (loc : mxL) (st : List Value) (σ : mxS) {q : mxN} (h : mxdup pc loc st σ = some (.inl q)) : mxup σ q := by
  unfold mxdup at h
  (repeat' split at h) <;> first | (cases h; done) | exact up_go h | exact up_wr h | exact up_al h | exact up_mxsw h | exact up_mxca h | exact up_mxca2 h | exact up_mxic_le h | exact up_mxif_le h | exact up_mxic_gt h | exact up_mxif_gt h | exact up_mxic_ge h | exact up_mxif_ge h | exact up_mxic_lt h | exact up_mxif_lt h | exact up_mxic_ne h | exact up_mxif_ne h | exact up_mxic_eq h | exact up_mxif_eq h | exact up_mxddiv h | exact up_mxdcmp h | exact up_mxlcmp h | exact up_mxJ2 h | exact up_mxI2D h | exact up_mxJ2I h | exact up_mxI2J h | exact up_mxI1 h | exact up_mxI2z h | exact up_mxI2 h | exact up_mxinc h | exact up_mxstA h | exact up_mxstD h | exact up_mxstJ h | exact up_mxstI h | exact up_mxldA h | exact up_mxldD h | exact up_mxldJ h | exact up_mxldI h
theorem up_mxdup2 (pc : Nat) (loc : mxL) (st : List Value) (σ : mxS) {q : mxN} (h : mxdup2 pc loc st σ = some (.inl q)) : mxup σ q := by
  unfold mxdup2 at h
  (repeat' split at h) <;> first | (cases h; done) | exact up_go h | exact up_wr h | exact up_al h | exact up_mxdup h | exact up_mxsw h | exact up_mxca h | exact up_mxca2 h | exact up_mxic_le h | exact up_mxif_le h | exact up_mxic_gt h | exact up_mxif_gt h | exact up_mxic_ge h | exact up_mxif_ge h | exact up_mxic_lt h | exact up_mxif_lt h | exact up_mxic_ne h | exact up_mxif_ne h | exact up_mxic_eq h | exact up_mxif_eq h | exact up_mxddiv h | exact up_mxdcmp h | exact up_mxlcmp h | exact up_mxJ2 h | exact up_mxI2D h | exact up_mxJ2I h | exact up_mxI2J h | exact up_mxI1 h | exact up_mxI2z h | exact up_mxI2 h | exact up_mxinc h | exact up_mxstA h | exact up_mxstD h | exact up_mxstJ h | exact up_mxstI h | exact up_mxldA h | exact up_mxldD h | exact up_mxldJ h | exact up_mxldI h
theorem up_mxpop (pc : Nat) (loc : mxL) (st : List Value) (σ : mxS) {q : mxN} (h : mxpop pc loc st σ = some (.inl q)) : mxup σ q := by
  unfold mxpop at h
  (repeat' split at h) <;> first | (cases h; done) | exact up_go h | exact up_wr h | exact up_al h | exact up_mxdup2 h | exact up_mxdup h | exact up_mxsw h | exact up_mxca h | exact up_mxca2 h | exact up_mxic_le h | exact up_mxif_le h | exact up_mxic_gt h | exact up_mxif_gt h | exact up_mxic_ge h | exact up_mxif_ge h | exact up_mxic_lt h | exact up_mxif_lt h | exact up_mxic_ne h | exact up_mxif_ne h | exact up_mxic_eq h | exact up_mxif_eq h | exact up_mxddiv h | exact up_mxdcmp h | exact up_mxlcmp h | exact up_mxJ2 h | exact up_mxI2D h | exact up_mxJ2I h | exact up_mxI2J h | exact up_mxI1 h | exact up_mxI2z h | exact up_mxI2 h | exact up_mxinc h | exact up_mxstA h | exact up_mxstD h | exact up_mxstJ h | exact up_mxstI h | exact up_mxldA h | exact up_mxldD h | exact up_mxldJ h | exact up_mxldI h
theorem up_mxgf3 (pc : Nat) (loc : mxL) (r : List Value) (σ : mxS) (o0 : Option Value) {q : mxN} (h : mxgf3 pc loc r σ o0 = some (.inl q)) : mxup σ q := by
  unfold mxgf3 at h
  (repeat' split at h) <;> first | (cases h; done) | exact up_go h | exact up_wr h | exact up_al h | exact up_mxpop h | exact up_mxdup2 h | exact up_mxdup h | exact up_mxsw h | exact up_mxca h | exact up_mxca2 h | exact up_mxic_le h | exact up_mxif_le h | exact up_mxic_gt h | exact up_mxif_gt h | exact up_mxic_ge h | exact up_mxif_ge h | exact up_mxic_lt h | exact up_mxif_lt h | exact up_mxic_ne h | exact up_mxif_ne h | exact up_mxic_eq h | exact up_mxif_eq h | exact up_mxddiv h | exact up_mxdcmp h | exact up_mxlcmp h | exact up_mxJ2 h | exact up_mxI2D h | exact up_mxJ2I h | exact up_mxI2J h | exact up_mxI1 h | exact up_mxI2z h | exact up_mxI2 h | exact up_mxinc h | exact up_mxstA h | exact up_mxstD h | exact up_mxstJ h | exact up_mxstI h | exact up_mxldA h | exact up_mxldD h | exact up_mxldJ h | exact up_mxldI h
theorem up_mxgf2 (ci k pc : Nat) (loc : mxL) (r : List Value) (σ : mxS) (o0 : mxC) {q : mxN} (h : mxgf2 ci k pc loc r σ o0 = some (.inl q)) : mxup σ q := by
  unfold mxgf2 at h
  (repeat' split at h) <;> first | (cases h; done) | exact up_go h | exact up_wr h | exact up_al h | exact up_mxgf3 h | exact up_mxpop h | exact up_mxdup2 h | exact up_mxdup h | exact up_mxsw h | exact up_mxca h | exact up_mxca2 h | exact up_mxic_le h | exact up_mxif_le h | exact up_mxic_gt h | exact up_mxif_gt h | exact up_mxic_ge h | exact up_mxif_ge h | exact up_mxic_lt h | exact up_mxif_lt h | exact up_mxic_ne h | exact up_mxif_ne h | exact up_mxic_eq h | exact up_mxif_eq h | exact up_mxddiv h | exact up_mxdcmp h | exact up_mxlcmp h | exact up_mxJ2 h | exact up_mxI2D h | exact up_mxJ2I h | exact up_mxI2J h | exact up_mxI1 h | exact up_mxI2z h | exact up_mxI2 h | exact up_mxinc h | exact up_mxstA h | exact up_mxstD h | exact up_mxstJ h | exact up_mxstI h | exact up_mxldA h | exact up_mxldD h | exact up_mxldJ h | exact up_mxldI h
theorem up_mxgf (ci k pc : Nat) (loc : mxL) (st : List Value) (σ : mxS) {q : mxN} (h : mxgf ci k pc loc st σ = some (.inl q)) : mxup σ q := by
  unfold mxgf at h
  (repeat' split at h) <;> first | (cases h; done) | exact up_go h | exact up_wr h | exact up_al h | exact up_mxgf2 h | exact up_mxgf3 h | exact up_mxpop h | exact up_mxdup2 h | exact up_mxdup h | exact up_mxsw h | exact up_mxca h | exact up_mxca2 h | exact up_mxic_le h | exact up_mxif_le h | exact up_mxic_gt h | exact up_mxif_gt h | exact up_mxic_ge h | exact up_mxif_ge h | exact up_mxic_lt h | exact up_mxif_lt h | exact up_mxic_ne h | exact up_mxif_ne h | exact up_mxic_eq h | exact up_mxif_eq h | exact up_mxddiv h | exact up_mxdcmp h | exact up_mxlcmp h | exact up_mxJ2 h | exact up_mxI2D h | exact up_mxJ2I h | exact up_mxI2J h | exact up_mxI1 h | exact up_mxI2z h | exact up_mxI2 h | exact up_mxinc h | exact up_mxstA h | exact up_mxstD h | exact up_mxstJ h | exact up_mxstI h | exact up_mxldA h | exact up_mxldD h | exact up_mxldJ h | exact up_mxldI h
theorem up_mxpf2 (ci k pc : Nat) (loc : mxL) (v : Value) (a : Nat) (r : List Value) (σ : mxS) (o0 : mxC) {q : mxN} (h : mxpf2 ci k pc loc v a r σ o0 = some (.inl q)) : mxup σ q := by
  unfold mxpf2 at h
  (repeat' split at h) <;> first | (cases h; done) | exact up_go h | exact up_wr h | exact up_al h | exact up_mxgf h | exact up_mxgf2 h | exact up_mxgf3 h | exact up_mxpop h | exact up_mxdup2 h | exact up_mxdup h | exact up_mxsw h | exact up_mxca h | exact up_mxca2 h | exact up_mxic_le h | exact up_mxif_le h | exact up_mxic_gt h | exact up_mxif_gt h | exact up_mxic_ge h | exact up_mxif_ge h | exact up_mxic_lt h | exact up_mxif_lt h | exact up_mxic_ne h | exact up_mxif_ne h | exact up_mxic_eq h | exact up_mxif_eq h | exact up_mxddiv h | exact up_mxdcmp h | exact up_mxlcmp h | exact up_mxJ2 h | exact up_mxI2D h | exact up_mxJ2I h | exact up_mxI2J h | exact up_mxI1 h | exact up_mxI2z h | exact up_mxI2 h | exact up_mxinc h | exact up_mxstA h | exact up_mxstD h | exact up_mxstJ h | exact up_mxstI h | exact up_mxldA h | exact up_mxldD h | exact up_mxldJ h | exact up_mxldI h
theorem up_mxpf (ci k knd pc : Nat) (loc : mxL) (st : List Value) (σ : mxS) {q : mxN} (h : mxpf ci k knd pc loc st σ = some (.inl q)) : mxup σ q := by
  unfold mxpf at h
  (repeat' split at h) <;> first | (cases h; done) | exact up_go h | exact up_wr h | exact up_al h | exact up_mxpf2 h | exact up_mxgf h | exact up_mxgf2 h | exact up_mxgf3 h | exact up_mxpop h | exact up_mxdup2 h | exact up_mxdup h | exact up_mxsw h | exact up_mxca h | exact up_mxca2 h | exact up_mxic_le h | exact up_mxif_le h | exact up_mxic_gt h | exact up_mxif_gt h | exact up_mxic_ge h | exact up_mxif_ge h | exact up_mxic_lt h | exact up_mxif_lt h | exact up_mxic_ne h | exact up_mxif_ne h | exact up_mxic_eq h | exact up_mxif_eq h | exact up_mxddiv h | exact up_mxdcmp h | exact up_mxlcmp h | exact up_mxJ2 h | exact up_mxI2D h | exact up_mxJ2I h | exact up_mxI2J h | exact up_mxI1 h | exact up_mxI2z h | exact up_mxI2 h | exact up_mxinc h | exact up_mxstA h | exact up_mxstD h | exact up_mxstJ h | exact up_mxstI h | exact up_mxldA h | exact up_mxldD h | exact up_mxldJ h | exact up_mxldI h
theorem up_mxlen2 (pc : Nat) (loc : mxL) (r : List Value) (σ : mxS) (o0 : mxC) {q : mxN} (h : mxlen2 pc loc r σ o0 = some (.inl q)) : mxup σ q := by
  unfold mxlen2 at h
  (repeat' split at h) <;> first | (cases h; done) | exact up_go h | exact up_wr h | exact up_al h | exact up_mxpf h | exact up_mxpf2 h | exact up_mxgf h | exact up_mxgf2 h | exact up_mxgf3 h | exact up_mxpop h | exact up_mxdup2 h | exact up_mxdup h | exact up_mxsw h | exact up_mxca h | exact up_mxca2 h | exact up_mxic_le h | exact up_mxif_le h | exact up_mxic_gt h | exact up_mxif_gt h | exact up_mxic_ge h | exact up_mxif_ge h | exact up_mxic_lt h | exact up_mxif_lt h | exact up_mxic_ne h | exact up_mxif_ne h | exact up_mxic_eq h | exact up_mxif_eq h | exact up_mxddiv h | exact up_mxdcmp h | exact up_mxlcmp h | exact up_mxJ2 h | exact up_mxI2D h | exact up_mxJ2I h | exact up_mxI2J h | exact up_mxI1 h | exact up_mxI2z h | exact up_mxI2 h | exact up_mxinc h | exact up_mxstA h | exact up_mxstD h | exact up_mxstJ h | exact up_mxstI h | exact up_mxldA h | exact up_mxldD h | exact up_mxldJ h | exact up_mxldI h
theorem up_mxlen (pc : Nat) (loc : mxL) (st : List Value) (σ : mxS) {q : mxN} (h : mxlen pc loc st σ = some (.inl q)) : mxup σ q := by
  unfold mxlen at h
  (repeat' split at h) <;> first | (cases h; done) | exact up_go h | exact up_wr h | exact up_al h | exact up_mxlen2 h | exact up_mxpf h | exact up_mxpf2 h | exact up_mxgf h | exact up_mxgf2 h | exact up_mxgf3 h | exact up_mxpop h | exact up_mxdup2 h | exact up_mxdup h | exact up_mxsw h | exact up_mxca h | exact up_mxca2 h | exact up_mxic_le h | exact up_mxif_le h | exact up_mxic_gt h | exact up_mxif_gt h | exact up_mxic_ge h | exact up_mxif_ge h | exact up_mxic_lt h | exact up_mxif_lt h | exact up_mxic_ne h | exact up_mxif_ne h | exact up_mxic_eq h | exact up_mxif_eq h | exact up_mxddiv h | exact up_mxdcmp h | exact up_mxlcmp h | exact up_mxJ2 h | exact up_mxI2D h | exact up_mxJ2I h | exact up_mxI2J h | exact up_mxI1 h | exact up_mxI2z h | exact up_mxI2 h | exact up_mxinc h | exact up_mxstA h | exact up_mxstD h | exact up_mxstJ h | exact up_mxstI h | exact up_mxldA h | exact up_mxldD h | exact up_mxldJ h | exact up_mxldI h
theorem up_mxal3 (pc : Nat) (loc : mxL) (r : List Value) (σ : mxS) (f : Nat → Int32) (o0 : Option Nat) {q : mxN} (h : mxal3 pc loc r σ f o0 = some (.inl q)) : mxup σ q := by
  unfold mxal3 at h
  (repeat' split at h) <;> first | (cases h; done) | exact up_go h | exact up_wr h | exact up_al h | exact up_mxlen h | exact up_mxlen2 h | exact up_mxpf h | exact up_mxpf2 h | exact up_mxgf h | exact up_mxgf2 h | exact up_mxgf3 h | exact up_mxpop h | exact up_mxdup2 h | exact up_mxdup h | exact up_mxsw h | exact up_mxca h | exact up_mxca2 h | exact up_mxic_le h | exact up_mxif_le h | exact up_mxic_gt h | exact up_mxif_gt h | exact up_mxic_ge h | exact up_mxif_ge h | exact up_mxic_lt h | exact up_mxif_lt h | exact up_mxic_ne h | exact up_mxif_ne h | exact up_mxic_eq h | exact up_mxif_eq h | exact up_mxddiv h | exact up_mxdcmp h | exact up_mxlcmp h | exact up_mxJ2 h | exact up_mxI2D h | exact up_mxJ2I h | exact up_mxI2J h | exact up_mxI1 h | exact up_mxI2z h | exact up_mxI2 h | exact up_mxinc h | exact up_mxstA h | exact up_mxstD h | exact up_mxstJ h | exact up_mxstI h | exact up_mxldA h | exact up_mxldD h | exact up_mxldJ h | exact up_mxldI h
theorem up_mxalJ3 (pc : Nat) (loc : mxL) (r : List Value) (σ : mxS) (f : Nat → Int64) (o0 : Option Nat) {q : mxN} (h : mxalJ3 pc loc r σ f o0 = some (.inl q)) : mxup σ q := by
  unfold mxalJ3 at h
  (repeat' split at h) <;> first | (cases h; done) | exact up_go h | exact up_wr h | exact up_al h | exact up_mxal3 h | exact up_mxlen h | exact up_mxlen2 h | exact up_mxpf h | exact up_mxpf2 h | exact up_mxgf h | exact up_mxgf2 h | exact up_mxgf3 h | exact up_mxpop h | exact up_mxdup2 h | exact up_mxdup h | exact up_mxsw h | exact up_mxca h | exact up_mxca2 h | exact up_mxic_le h | exact up_mxif_le h | exact up_mxic_gt h | exact up_mxif_gt h | exact up_mxic_ge h | exact up_mxif_ge h | exact up_mxic_lt h | exact up_mxif_lt h | exact up_mxic_ne h | exact up_mxif_ne h | exact up_mxic_eq h | exact up_mxif_eq h | exact up_mxddiv h | exact up_mxdcmp h | exact up_mxlcmp h | exact up_mxJ2 h | exact up_mxI2D h | exact up_mxJ2I h | exact up_mxI2J h | exact up_mxI1 h | exact up_mxI2z h | exact up_mxI2 h | exact up_mxinc h | exact up_mxstA h | exact up_mxstD h | exact up_mxstJ h | exact up_mxstI h | exact up_mxldA h | exact up_mxldD h | exact up_mxldJ h | exact up_mxldI h
theorem up_mxalA3 (pc : Nat) (loc : mxL) (r : List Value) (σ : mxS) (f : Nat → Option Nat) (o0 : Option Nat) {q : mxN} (h : mxalA3 pc loc r σ f o0 = some (.inl q)) : mxup σ q := by
  unfold mxalA3 at h
  (repeat' split at h) <;> first | (cases h; done) | exact up_go h | exact up_wr h | exact up_al h | exact up_mxalJ3 h | exact up_mxal3 h | exact up_mxlen h | exact up_mxlen2 h | exact up_mxpf h | exact up_mxpf2 h | exact up_mxgf h | exact up_mxgf2 h | exact up_mxgf3 h | exact up_mxpop h | exact up_mxdup2 h | exact up_mxdup h | exact up_mxsw h | exact up_mxca h | exact up_mxca2 h | exact up_mxic_le h | exact up_mxif_le h | exact up_mxic_gt h | exact up_mxif_gt h | exact up_mxic_ge h | exact up_mxif_ge h | exact up_mxic_lt h | exact up_mxif_lt h | exact up_mxic_ne h | exact up_mxif_ne h | exact up_mxic_eq h | exact up_mxif_eq h | exact up_mxddiv h | exact up_mxdcmp h | exact up_mxlcmp h | exact up_mxJ2 h | exact up_mxI2D h | exact up_mxJ2I h | exact up_mxI2J h | exact up_mxI1 h | exact up_mxI2z h | exact up_mxI2 h | exact up_mxinc h | exact up_mxstA h | exact up_mxstD h | exact up_mxstJ h | exact up_mxstI h | exact up_mxldA h | exact up_mxldD h | exact up_mxldJ h | exact up_mxldI h
theorem up_mxas3 (pc : Nat) (loc : mxL) (r : List Value) (σ : mxS) (a t n : Nat) (f : Nat → Int32) (x : Int32) (o0 : Option Nat) {q : mxN} (h : mxas3 pc loc r σ a t n f x o0 = some (.inl q)) : mxup σ q := by
  unfold mxas3 at h
  (repeat' split at h) <;> first | (cases h; done) | exact up_go h | exact up_wr h | exact up_al h | exact up_mxalA3 h | exact up_mxalJ3 h | exact up_mxal3 h | exact up_mxlen h | exact up_mxlen2 h | exact up_mxpf h | exact up_mxpf2 h | exact up_mxgf h | exact up_mxgf2 h | exact up_mxgf3 h | exact up_mxpop h | exact up_mxdup2 h | exact up_mxdup h | exact up_mxsw h | exact up_mxca h | exact up_mxca2 h | exact up_mxic_le h | exact up_mxif_le h | exact up_mxic_gt h | exact up_mxif_gt h | exact up_mxic_ge h | exact up_mxif_ge h | exact up_mxic_lt h | exact up_mxif_lt h | exact up_mxic_ne h | exact up_mxif_ne h | exact up_mxic_eq h | exact up_mxif_eq h | exact up_mxddiv h | exact up_mxdcmp h | exact up_mxlcmp h | exact up_mxJ2 h | exact up_mxI2D h | exact up_mxJ2I h | exact up_mxI2J h | exact up_mxI1 h | exact up_mxI2z h | exact up_mxI2 h | exact up_mxinc h | exact up_mxstA h | exact up_mxstD h | exact up_mxstJ h | exact up_mxstI h | exact up_mxldA h | exact up_mxldD h | exact up_mxldJ h | exact up_mxldI h
theorem up_mxasJ3 (pc : Nat) (loc : mxL) (r : List Value) (σ : mxS) (a t n : Nat) (f : Nat → Int64) (x : Int64) (o0 : Option Nat) {q : mxN} (h : mxasJ3 pc loc r σ a t n f x o0 = some (.inl q)) : mxup σ q := by
  unfold mxasJ3 at h
  (repeat' split at h) <;> first | (cases h; done) | exact up_go h | exact up_wr h | exact up_al h | exact up_mxas3 h | exact up_mxalA3 h | exact up_mxalJ3 h | exact up_mxal3 h | exact up_mxlen h | exact up_mxlen2 h | exact up_mxpf h | exact up_mxpf2 h | exact up_mxgf h | exact up_mxgf2 h | exact up_mxgf3 h | exact up_mxpop h | exact up_mxdup2 h | exact up_mxdup h | exact up_mxsw h | exact up_mxca h | exact up_mxca2 h | exact up_mxic_le h | exact up_mxif_le h | exact up_mxic_gt h | exact up_mxif_gt h | exact up_mxic_ge h | exact up_mxif_ge h | exact up_mxic_lt h | exact up_mxif_lt h | exact up_mxic_ne h | exact up_mxif_ne h | exact up_mxic_eq h | exact up_mxif_eq h | exact up_mxddiv h | exact up_mxdcmp h | exact up_mxlcmp h | exact up_mxJ2 h | exact up_mxI2D h | exact up_mxJ2I h | exact up_mxI2J h | exact up_mxI1 h | exact up_mxI2z h | exact up_mxI2 h | exact up_mxinc h | exact up_mxstA h | exact up_mxstD h | exact up_mxstJ h | exact up_mxstI h | exact up_mxldA h | exact up_mxldD h | exact up_mxldJ h | exact up_mxldI h
theorem up_mxasA3 (pc : Nat) (loc : mxL) (r : List Value) (σ : mxS) (a t n : Nat) (f : Nat → Option Nat) (v : Nat) (o0 : Option Nat) {q : mxN} (h : mxasA3 pc loc r σ a t n f v o0 = some (.inl q)) : mxup σ q := by
  unfold mxasA3 at h
  (repeat' split at h) <;> first | (cases h; done) | exact up_go h | exact up_wr h | exact up_al h | exact up_mxasJ3 h | exact up_mxas3 h | exact up_mxalA3 h | exact up_mxalJ3 h | exact up_mxal3 h | exact up_mxlen h | exact up_mxlen2 h | exact up_mxpf h | exact up_mxpf2 h | exact up_mxgf h | exact up_mxgf2 h | exact up_mxgf3 h | exact up_mxpop h | exact up_mxdup2 h | exact up_mxdup h | exact up_mxsw h | exact up_mxca h | exact up_mxca2 h | exact up_mxic_le h | exact up_mxif_le h | exact up_mxic_gt h | exact up_mxif_gt h | exact up_mxic_ge h | exact up_mxif_ge h | exact up_mxic_lt h | exact up_mxif_lt h | exact up_mxic_ne h | exact up_mxif_ne h | exact up_mxic_eq h | exact up_mxif_eq h | exact up_mxddiv h | exact up_mxdcmp h | exact up_mxlcmp h | exact up_mxJ2 h | exact up_mxI2D h | exact up_mxJ2I h | exact up_mxI2J h | exact up_mxI1 h | exact up_mxI2z h | exact up_mxI2 h | exact up_mxinc h | exact up_mxstA h | exact up_mxstD h | exact up_mxstJ h | exact up_mxstI h | exact up_mxldA h | exact up_mxldD h | exact up_mxldJ h | exact up_mxldI h
theorem up_mxal2 (ok : Nat → Bool) (pc : Nat) (loc : mxL) (i : Int32) (r : List Value) (σ : mxS) (o0 : mxC) {q : mxN} (h : mxal2 ok pc loc i r σ o0 = some (.inl q)) : mxup σ q := by
  unfold mxal2 at h
  (repeat' split at h) <;> first | (cases h; done) | exact up_go h | exact up_wr h | exact up_al h | exact up_mxasA3 h | exact up_mxasJ3 h | exact up_mxas3 h | exact up_mxalA3 h | exact up_mxalJ3 h | exact up_mxal3 h | exact up_mxlen h | exact up_mxlen2 h | exact up_mxpf h | exact up_mxpf2 h | exact up_mxgf h | exact up_mxgf2 h | exact up_mxgf3 h | exact up_mxpop h | exact up_mxdup2 h | exact up_mxdup h | exact up_mxsw h | exact up_mxca h | exact up_mxca2 h | exact up_mxic_le h | exact up_mxif_le h | exact up_mxic_gt h | exact up_mxif_gt h | exact up_mxic_ge h | exact up_mxif_ge h | exact up_mxic_lt h | exact up_mxif_lt h | exact up_mxic_ne h | exact up_mxif_ne h | exact up_mxic_eq h | exact up_mxif_eq h | exact up_mxddiv h | exact up_mxdcmp h | exact up_mxlcmp h | exact up_mxJ2 h | exact up_mxI2D h | exact up_mxJ2I h | exact up_mxI2J h | exact up_mxI1 h | exact up_mxI2z h | exact up_mxI2 h | exact up_mxinc h | exact up_mxstA h | exact up_mxstD h | exact up_mxstJ h | exact up_mxstI h | exact up_mxldA h | exact up_mxldD h | exact up_mxldJ h | exact up_mxldI h
theorem up_mxal (ok : Nat → Bool) (pc : Nat) (loc : mxL) (st : List Value) (σ : mxS) {q : mxN} (h : mxal ok pc loc st σ = some (.inl q)) : mxup σ q := by
  unfold mxal at h
  (repeat' split at h) <;> first | (cases h; done) | exact up_go h | exact up_wr h | exact up_al h | exact up_mxal2 h | exact up_mxasA3 h | exact up_mxasJ3 h | exact up_mxas3 h | exact up_mxalA3 h | exact up_mxalJ3 h | exact up_mxal3 h | exact up_mxlen h | exact up_mxlen2 h | exact up_mxpf h | exact up_mxpf2 h | exact up_mxgf h | exact up_mxgf2 h | exact up_mxgf3 h | exact up_mxpop h | exact up_mxdup2 h | exact up_mxdup h | exact up_mxsw h | exact up_mxca h | exact up_mxca2 h | exact up_mxic_le h | exact up_mxif_le h | exact up_mxic_gt h | exact up_mxif_gt h | exact up_mxic_ge h | exact up_mxif_ge h | exact up_mxic_lt h | exact up_mxif_lt h | exact up_mxic_ne h | exact up_mxif_ne h | exact up_mxic_eq h | exact up_mxif_eq h | exact up_mxddiv h | exact up_mxdcmp h | exact up_mxlcmp h | exact up_mxJ2 h | exact up_mxI2D h | exact up_mxJ2I h | exact up_mxI2J h | exact up_mxI1 h | exact up_mxI2z h | exact up_mxI2 h | exact up_mxinc h | exact up_mxstA h | exact up_mxstD h | exact up_mxstJ h | exact up_mxstI h | exact up_mxldA h | exact up_mxldD h | exact up_mxldJ h | exact up_mxldI h
theorem up_mxalJ2 (pc : Nat) (loc : mxL) (i : Int32) (r : List Value) (σ : mxS) (o0 : mxC) {q : mxN} (h : mxalJ2 pc loc i r σ o0 = some (.inl q)) : mxup σ q := by
  unfold mxalJ2 at h
  (repeat' split at h) <;> first | (cases h; done) | exact up_go h | exact up_wr h | exact up_al h | exact up_mxal h | exact up_mxal2 h | exact up_mxasA3 h | exact up_mxasJ3 h | exact up_mxas3 h | exact up_mxalA3 h | exact up_mxalJ3 h | exact up_mxal3 h | exact up_mxlen h | exact up_mxlen2 h | exact up_mxpf h | exact up_mxpf2 h | exact up_mxgf h | exact up_mxgf2 h | exact up_mxgf3 h | exact up_mxpop h | exact up_mxdup2 h | exact up_mxdup h | exact up_mxsw h | exact up_mxca h | exact up_mxca2 h | exact up_mxic_le h | exact up_mxif_le h | exact up_mxic_gt h | exact up_mxif_gt h | exact up_mxic_ge h | exact up_mxif_ge h | exact up_mxic_lt h | exact up_mxif_lt h | exact up_mxic_ne h | exact up_mxif_ne h | exact up_mxic_eq h | exact up_mxif_eq h | exact up_mxddiv h | exact up_mxdcmp h | exact up_mxlcmp h | exact up_mxJ2 h | exact up_mxI2D h | exact up_mxJ2I h | exact up_mxI2J h | exact up_mxI1 h | exact up_mxI2z h | exact up_mxI2 h | exact up_mxinc h | exact up_mxstA h | exact up_mxstD h | exact up_mxstJ h | exact up_mxstI h | exact up_mxldA h | exact up_mxldD h | exact up_mxldJ h | exact up_mxldI h
theorem up_mxalJ (pc : Nat) (loc : mxL) (st : List Value) (σ : mxS) {q : mxN} (h : mxalJ pc loc st σ = some (.inl q)) : mxup σ q := by
  unfold mxalJ at h
  (repeat' split at h) <;> first | (cases h; done) | exact up_go h | exact up_wr h | exact up_al h | exact up_mxalJ2 h | exact up_mxal h | exact up_mxal2 h | exact up_mxasA3 h | exact up_mxasJ3 h | exact up_mxas3 h | exact up_mxalA3 h | exact up_mxalJ3 h | exact up_mxal3 h | exact up_mxlen h | exact up_mxlen2 h | exact up_mxpf h | exact up_mxpf2 h | exact up_mxgf h | exact up_mxgf2 h | exact up_mxgf3 h | exact up_mxpop h | exact up_mxdup2 h | exact up_mxdup h | exact up_mxsw h | exact up_mxca h | exact up_mxca2 h | exact up_mxic_le h | exact up_mxif_le h | exact up_mxic_gt h | exact up_mxif_gt h | exact up_mxic_ge h | exact up_mxif_ge h | exact up_mxic_lt h | exact up_mxif_lt h | exact up_mxic_ne h | exact up_mxif_ne h | exact up_mxic_eq h | exact up_mxif_eq h | exact up_mxddiv h | exact up_mxdcmp h | exact up_mxlcmp h | exact up_mxJ2 h | exact up_mxI2D h | exact up_mxJ2I h | exact up_mxI2J h | exact up_mxI1 h | exact up_mxI2z h | exact up_mxI2 h | exact up_mxinc h | exact up_mxstA h | exact up_mxstD h | exact up_mxstJ h | exact up_mxstI h | exact up_mxldA h | exact up_mxldD h | exact up_mxldJ h | exact up_mxldI h
theorem up_mxalA2 (pc : Nat) (loc : mxL) (i : Int32) (r : List Value) (σ : mxS) (o0 : mxC) {q : mxN} (h : mxalA2 pc loc i r σ o0 = some (.inl q)) : mxup σ q := by
  unfold mxalA2 at h
  (repeat' split at h) <;> first | (cases h; done) | exact up_go h | exact up_wr h | exact up_al h | exact up_mxalJ h | exact up_mxalJ2 h | exact up_mxal h | exact up_mxal2 h | exact up_mxasA3 h | exact up_mxasJ3 h | exact up_mxas3 h | exact up_mxalA3 h | exact up_mxalJ3 h | exact up_mxal3 h | exact up_mxlen h | exact up_mxlen2 h | exact up_mxpf h | exact up_mxpf2 h | exact up_mxgf h | exact up_mxgf2 h | exact up_mxgf3 h | exact up_mxpop h | exact up_mxdup2 h | exact up_mxdup h | exact up_mxsw h | exact up_mxca h | exact up_mxca2 h | exact up_mxic_le h | exact up_mxif_le h | exact up_mxic_gt h | exact up_mxif_gt h | exact up_mxic_ge h | exact up_mxif_ge h | exact up_mxic_lt h | exact up_mxif_lt h | exact up_mxic_ne h | exact up_mxif_ne h | exact up_mxic_eq h | exact up_mxif_eq h | exact up_mxddiv h | exact up_mxdcmp h | exact up_mxlcmp h | exact up_mxJ2 h | exact up_mxI2D h | exact up_mxJ2I h | exact up_mxI2J h | exact up_mxI1 h | exact up_mxI2z h | exact up_mxI2 h | exact up_mxinc h | exact up_mxstA h | exact up_mxstD h | exact up_mxstJ h | exact up_mxstI h | exact up_mxldA h | exact up_mxldD h | exact up_mxldJ h | exact up_mxldI h
theorem up_mxalA (pc : Nat) (loc : mxL) (st : List Value) (σ : mxS) {q : mxN} (h : mxalA pc loc st σ = some (.inl q)) : mxup σ q := by
  unfold mxalA at h
  (repeat' split at h) <;> first | (cases h; done) | exact up_go h | exact up_wr h | exact up_al h | exact up_mxalA2 h | exact up_mxalJ h | exact up_mxalJ2 h | exact up_mxal h | exact up_mxal2 h | exact up_mxasA3 h | exact up_mxasJ3 h | exact up_mxas3 h | exact up_mxalA3 h | exact up_mxalJ3 h | exact up_mxal3 h | exact up_mxlen h | exact up_mxlen2 h | exact up_mxpf h | exact up_mxpf2 h | exact up_mxgf h | exact up_mxgf2 h | exact up_mxgf3 h | exact up_mxpop h | exact up_mxdup2 h | exact up_mxdup h | exact up_mxsw h | exact up_mxca h | exact up_mxca2 h | exact up_mxic_le h | exact up_mxif_le h | exact up_mxic_gt h | exact up_mxif_gt h | exact up_mxic_ge h | exact up_mxif_ge h | exact up_mxic_lt h | exact up_mxif_lt h | exact up_mxic_ne h | exact up_mxif_ne h | exact up_mxic_eq h | exact up_mxif_eq h | exact up_mxddiv h | exact up_mxdcmp h | exact up_mxlcmp h | exact up_mxJ2 h | exact up_mxI2D h | exact up_mxJ2I h | exact up_mxI2J h | exact up_mxI1 h | exact up_mxI2z h | exact up_mxI2 h | exact up_mxinc h | exact up_mxstA h | exact up_mxstD h | exact up_mxstJ h | exact up_mxstI h | exact up_mxldA h | exact up_mxldD h | exact up_mxldJ h | exact up_mxldI h
theorem up_mxas2 (ok : Nat → Bool) (g : Int32 → Int32) (pc : Nat) (loc : mxL) (x i : Int32) (a : Nat) (r : List Value) (σ : mxS) (o0 : mxC) {q : mxN} (h : mxas2 ok g pc loc x i a r σ o0 = some (.inl q)) : mxup σ q := by
  unfold mxas2 at h
  (repeat' split at h) <;> first | (cases h; done) | exact up_go h | exact up_wr h | exact up_al h | exact up_mxalA h | exact up_mxalA2 h | exact up_mxalJ h | exact up_mxalJ2 h | exact up_mxal h | exact up_mxal2 h | exact up_mxasA3 h | exact up_mxasJ3 h | exact up_mxas3 h | exact up_mxalA3 h | exact up_mxalJ3 h | exact up_mxal3 h | exact up_mxlen h | exact up_mxlen2 h | exact up_mxpf h | exact up_mxpf2 h | exact up_mxgf h | exact up_mxgf2 h | exact up_mxgf3 h | exact up_mxpop h | exact up_mxdup2 h | exact up_mxdup h | exact up_mxsw h | exact up_mxca h | exact up_mxca2 h | exact up_mxic_le h | exact up_mxif_le h | exact up_mxic_gt h | exact up_mxif_gt h | exact up_mxic_ge h | exact up_mxif_ge h | exact up_mxic_lt h | exact up_mxif_lt h | exact up_mxic_ne h | exact up_mxif_ne h | exact up_mxic_eq h | exact up_mxif_eq h | exact up_mxddiv h | exact up_mxdcmp h | exact up_mxlcmp h | exact up_mxJ2 h | exact up_mxI2D h | exact up_mxJ2I h | exact up_mxI2J h | exact up_mxI1 h | exact up_mxI2z h | exact up_mxI2 h | exact up_mxinc h | exact up_mxstA h | exact up_mxstD h | exact up_mxstJ h | exact up_mxstI h | exact up_mxldA h | exact up_mxldD h | exact up_mxldJ h | exact up_mxldI h
theorem up_mxas (ok : Nat → Bool) (g : Int32 → Int32) (pc : Nat) (loc : mxL) (st : List Value) (σ : mxS) {q : mxN} (h : mxas ok g pc loc st σ = some (.inl q)) : mxup σ q := by
  unfold mxas at h
  (repeat' split at h) <;> first | (cases h; done) | exact up_go h | exact up_wr h | exact up_al h | exact up_mxas2 h | exact up_mxalA h | exact up_mxalA2 h | exact up_mxalJ h | exact up_mxalJ2 h | exact up_mxal h | exact up_mxal2 h | exact up_mxasA3 h | exact up_mxasJ3 h | exact up_mxas3 h | exact up_mxalA3 h | exact up_mxalJ3 h | exact up_mxal3 h | exact up_mxlen h | exact up_mxlen2 h | exact up_mxpf h | exact up_mxpf2 h | exact up_mxgf h | exact up_mxgf2 h | exact up_mxgf3 h | exact up_mxpop h | exact up_mxdup2 h | exact up_mxdup h | exact up_mxsw h | exact up_mxca h | exact up_mxca2 h | exact up_mxic_le h | exact up_mxif_le h | exact up_mxic_gt h | exact up_mxif_gt h | exact up_mxic_ge h | exact up_mxif_ge h | exact up_mxic_lt h | exact up_mxif_lt h | exact up_mxic_ne h | exact up_mxif_ne h | exact up_mxic_eq h | exact up_mxif_eq h | exact up_mxddiv h | exact up_mxdcmp h | exact up_mxlcmp h | exact up_mxJ2 h | exact up_mxI2D h | exact up_mxJ2I h | exact up_mxI2J h | exact up_mxI1 h | exact up_mxI2z h | exact up_mxI2 h | exact up_mxinc h | exact up_mxstA h | exact up_mxstD h | exact up_mxstJ h | exact up_mxstI h | exact up_mxldA h | exact up_mxldD h | exact up_mxldJ h | exact up_mxldI h
theorem up_mxasB2 (pc : Nat) (loc : mxL) (x i : Int32) (a : Nat) (r : List Value) (σ : mxS) (o0 : mxC) {q : mxN} (h : mxasB2 pc loc x i a r σ o0 = some (.inl q)) : mxup σ q := by
  unfold mxasB2 at h
  (repeat' split at h) <;> first | (cases h; done) | exact up_go h | exact up_wr h | exact up_al h | exact up_mxas h | exact up_mxas2 h | exact up_mxalA h | exact up_mxalA2 h | exact up_mxalJ h | exact up_mxalJ2 h | exact up_mxal h | exact up_mxal2 h | exact up_mxasA3 h | exact up_mxasJ3 h | exact up_mxas3 h | exact up_mxalA3 h | exact up_mxalJ3 h | exact up_mxal3 h | exact up_mxlen h | exact up_mxlen2 h | exact up_mxpf h | exact up_mxpf2 h | exact up_mxgf h | exact up_mxgf2 h | exact up_mxgf3 h | exact up_mxpop h | exact up_mxdup2 h | exact up_mxdup h | exact up_mxsw h | exact up_mxca h | exact up_mxca2 h | exact up_mxic_le h | exact up_mxif_le h | exact up_mxic_gt h | exact up_mxif_gt h | exact up_mxic_ge h | exact up_mxif_ge h | exact up_mxic_lt h | exact up_mxif_lt h | exact up_mxic_ne h | exact up_mxif_ne h | exact up_mxic_eq h | exact up_mxif_eq h | exact up_mxddiv h | exact up_mxdcmp h | exact up_mxlcmp h | exact up_mxJ2 h | exact up_mxI2D h | exact up_mxJ2I h | exact up_mxI2J h | exact up_mxI1 h | exact up_mxI2z h | exact up_mxI2 h | exact up_mxinc h | exact up_mxstA h | exact up_mxstD h | exact up_mxstJ h | exact up_mxstI h | exact up_mxldA h | exact up_mxldD h | exact up_mxldJ h | exact up_mxldI h
theorem up_mxasB (pc : Nat) (loc : mxL) (st : List Value) (σ : mxS) {q : mxN} (h : mxasB pc loc st σ = some (.inl q)) : mxup σ q := by
  unfold mxasB at h
  (repeat' split at h) <;> first | (cases h; done) | exact up_go h | exact up_wr h | exact up_al h | exact up_mxasB2 h | exact up_mxas h | exact up_mxas2 h | exact up_mxalA h | exact up_mxalA2 h | exact up_mxalJ h | exact up_mxalJ2 h | exact up_mxal h | exact up_mxal2 h | exact up_mxasA3 h | exact up_mxasJ3 h | exact up_mxas3 h | exact up_mxalA3 h | exact up_mxalJ3 h | exact up_mxal3 h | exact up_mxlen h | exact up_mxlen2 h | exact up_mxpf h | exact up_mxpf2 h | exact up_mxgf h | exact up_mxgf2 h | exact up_mxgf3 h | exact up_mxpop h | exact up_mxdup2 h | exact up_mxdup h | exact up_mxsw h | exact up_mxca h | exact up_mxca2 h | exact up_mxic_le h | exact up_mxif_le h | exact up_mxic_gt h | exact up_mxif_gt h | exact up_mxic_ge h | exact up_mxif_ge h | exact up_mxic_lt h | exact up_mxif_lt h | exact up_mxic_ne h | exact up_mxif_ne h | exact up_mxic_eq h | exact up_mxif_eq h | exact up_mxddiv h | exact up_mxdcmp h | exact up_mxlcmp h | exact up_mxJ2 h | exact up_mxI2D h | exact up_mxJ2I h | exact up_mxI2J h | exact up_mxI1 h | exact up_mxI2z h | exact up_mxI2 h | exact up_mxinc h | exact up_mxstA h | exact up_mxstD h | exact up_mxstJ h | exact up_mxstI h | exact up_mxldA h | exact up_mxldD h | exact up_mxldJ h | exact up_mxldI h
theorem up_mxasJ2 (pc : Nat) (loc : mxL) (x : Int64) (i : Int32) (a : Nat) (r : List Value) (σ : mxS) (o0 : mxC) {q : mxN} (h : mxasJ2 pc loc x i a r σ o0 = some (.inl q)) : mxup σ q := by
  unfold mxasJ2 at h
  (repeat' split at h) <;> first | (cases h; done) | exact up_go h | exact up_wr h | exact up_al h | exact up_mxasB h | exact up_mxasB2 h | exact up_mxas h | exact up_mxas2 h | exact up_mxalA h | exact up_mxalA2 h | exact up_mxalJ h | exact up_mxalJ2 h | exact up_mxal h | exact up_mxal2 h | exact up_mxasA3 h | exact up_mxasJ3 h | exact up_mxas3 h | exact up_mxalA3 h | exact up_mxalJ3 h | exact up_mxal3 h | exact up_mxlen h | exact up_mxlen2 h | exact up_mxpf h | exact up_mxpf2 h | exact up_mxgf h | exact up_mxgf2 h | exact up_mxgf3 h | exact up_mxpop h | exact up_mxdup2 h | exact up_mxdup h | exact up_mxsw h | exact up_mxca h | exact up_mxca2 h | exact up_mxic_le h | exact up_mxif_le h | exact up_mxic_gt h | exact up_mxif_gt h | exact up_mxic_ge h | exact up_mxif_ge h | exact up_mxic_lt h | exact up_mxif_lt h | exact up_mxic_ne h | exact up_mxif_ne h | exact up_mxic_eq h | exact up_mxif_eq h | exact up_mxddiv h | exact up_mxdcmp h | exact up_mxlcmp h | exact up_mxJ2 h | exact up_mxI2D h | exact up_mxJ2I h | exact up_mxI2J h | exact up_mxI1 h | exact up_mxI2z h | exact up_mxI2 h | exact up_mxinc h | exact up_mxstA h | exact up_mxstD h | exact up_mxstJ h | exact up_mxstI h | exact up_mxldA h | exact up_mxldD h | exact up_mxldJ h | exact up_mxldI h
theorem up_mxasJ (pc : Nat) (loc : mxL) (st : List Value) (σ : mxS) {q : mxN} (h : mxasJ pc loc st σ = some (.inl q)) : mxup σ q := by
  unfold mxasJ at h
  (repeat' split at h) <;> first | (cases h; done) | exact up_go h | exact up_wr h | exact up_al h | exact up_mxasJ2 h | exact up_mxasB h | exact up_mxasB2 h | exact up_mxas h | exact up_mxas2 h | exact up_mxalA h | exact up_mxalA2 h | exact up_mxalJ h | exact up_mxalJ2 h | exact up_mxal h | exact up_mxal2 h | exact up_mxasA3 h | exact up_mxasJ3 h | exact up_mxas3 h | exact up_mxalA3 h | exact up_mxalJ3 h | exact up_mxal3 h | exact up_mxlen h | exact up_mxlen2 h | exact up_mxpf h | exact up_mxpf2 h | exact up_mxgf h | exact up_mxgf2 h | exact up_mxgf3 h | exact up_mxpop h | exact up_mxdup2 h | exact up_mxdup h | exact up_mxsw h | exact up_mxca h | exact up_mxca2 h | exact up_mxic_le h | exact up_mxif_le h | exact up_mxic_gt h | exact up_mxif_gt h | exact up_mxic_ge h | exact up_mxif_ge h | exact up_mxic_lt h | exact up_mxif_lt h | exact up_mxic_ne h | exact up_mxif_ne h | exact up_mxic_eq h | exact up_mxif_eq h | exact up_mxddiv h | exact up_mxdcmp h | exact up_mxlcmp h | exact up_mxJ2 h | exact up_mxI2D h | exact up_mxJ2I h | exact up_mxI2J h | exact up_mxI1 h | exact up_mxI2z h | exact up_mxI2 h | exact up_mxinc h | exact up_mxstA h | exact up_mxstD h | exact up_mxstJ h | exact up_mxstI h | exact up_mxldA h | exact up_mxldD h | exact up_mxldJ h | exact up_mxldI h
theorem up_mxasA2 (pc : Nat) (loc : mxL) (v : Nat) (i : Int32) (a : Nat) (r : List Value) (σ : mxS) (o0 : mxC) {q : mxN} (h : mxasA2 pc loc v i a r σ o0 = some (.inl q)) : mxup σ q := by
  unfold mxasA2 at h
  (repeat' split at h) <;> first | (cases h; done) | exact up_go h | exact up_wr h | exact up_al h | exact up_mxasJ h | exact up_mxasJ2 h | exact up_mxasB h | exact up_mxasB2 h | exact up_mxas h | exact up_mxas2 h | exact up_mxalA h | exact up_mxalA2 h | exact up_mxalJ h | exact up_mxalJ2 h | exact up_mxal h | exact up_mxal2 h | exact up_mxasA3 h | exact up_mxasJ3 h | exact up_mxas3 h | exact up_mxalA3 h | exact up_mxalJ3 h | exact up_mxal3 h | exact up_mxlen h | exact up_mxlen2 h | exact up_mxpf h | exact up_mxpf2 h | exact up_mxgf h | exact up_mxgf2 h | exact up_mxgf3 h | exact up_mxpop h | exact up_mxdup2 h | exact up_mxdup h | exact up_mxsw h | exact up_mxca h | exact up_mxca2 h | exact up_mxic_le h | exact up_mxif_le h | exact up_mxic_gt h | exact up_mxif_gt h | exact up_mxic_ge h | exact up_mxif_ge h | exact up_mxic_lt h | exact up_mxif_lt h | exact up_mxic_ne h | exact up_mxif_ne h | exact up_mxic_eq h | exact up_mxif_eq h | exact up_mxddiv h | exact up_mxdcmp h | exact up_mxlcmp h | exact up_mxJ2 h | exact up_mxI2D h | exact up_mxJ2I h | exact up_mxI2J h | exact up_mxI1 h | exact up_mxI2z h | exact up_mxI2 h | exact up_mxinc h | exact up_mxstA h | exact up_mxstD h | exact up_mxstJ h | exact up_mxstI h | exact up_mxldA h | exact up_mxldD h | exact up_mxldJ h | exact up_mxldI h
theorem up_mxasA (pc : Nat) (loc : mxL) (st : List Value) (σ : mxS) {q : mxN} (h : mxasA pc loc st σ = some (.inl q)) : mxup σ q := by
  unfold mxasA at h
  (repeat' split at h) <;> first | (cases h; done) | exact up_go h | exact up_wr h | exact up_al h | exact up_mxasA2 h | exact up_mxasJ h | exact up_mxasJ2 h | exact up_mxasB h | exact up_mxasB2 h | exact up_mxas h | exact up_mxas2 h | exact up_mxalA h | exact up_mxalA2 h | exact up_mxalJ h | exact up_mxalJ2 h | exact up_mxal h | exact up_mxal2 h | exact up_mxasA3 h | exact up_mxasJ3 h | exact up_mxas3 h | exact up_mxalA3 h | exact up_mxalJ3 h | exact up_mxal3 h | exact up_mxlen h | exact up_mxlen2 h | exact up_mxpf h | exact up_mxpf2 h | exact up_mxgf h | exact up_mxgf2 h | exact up_mxgf3 h | exact up_mxpop h | exact up_mxdup2 h | exact up_mxdup h | exact up_mxsw h | exact up_mxca h | exact up_mxca2 h | exact up_mxic_le h | exact up_mxif_le h | exact up_mxic_gt h | exact up_mxif_gt h | exact up_mxic_ge h | exact up_mxif_ge h | exact up_mxic_lt h | exact up_mxif_lt h | exact up_mxic_ne h | exact up_mxif_ne h | exact up_mxic_eq h | exact up_mxif_eq h | exact up_mxddiv h | exact up_mxdcmp h | exact up_mxlcmp h | exact up_mxJ2 h | exact up_mxI2D h | exact up_mxJ2I h | exact up_mxI2J h | exact up_mxI1 h | exact up_mxI2z h | exact up_mxI2 h | exact up_mxinc h | exact up_mxstA h | exact up_mxstD h | exact up_mxstJ h | exact up_mxstI h | exact up_mxldA h | exact up_mxldD h | exact up_mxldJ h | exact up_mxldI h
theorem up_mxnew (ci : Nat) (fs : List Value) (pc : Nat) (loc : mxL) (st : List Value) (σ : mxS) {q : mxN} (h : mxnew ci fs pc loc st σ = some (.inl q)) : mxup σ q := by
  unfold mxnew at h
  (repeat' split at h) <;> first | (cases h; done) | exact up_go h | exact up_wr h | exact up_al h | exact up_mxasA h | exact up_mxasA2 h | exact up_mxasJ h | exact up_mxasJ2 h | exact up_mxasB h | exact up_mxasB2 h | exact up_mxas h | exact up_mxas2 h | exact up_mxalA h | exact up_mxalA2 h | exact up_mxalJ h | exact up_mxalJ2 h | exact up_mxal h | exact up_mxal2 h | exact up_mxasA3 h | exact up_mxasJ3 h | exact up_mxas3 h | exact up_mxalA3 h | exact up_mxalJ3 h | exact up_mxal3 h | exact up_mxlen h | exact up_mxlen2 h | exact up_mxpf h | exact up_mxpf2 h | exact up_mxgf h | exact up_mxgf2 h | exact up_mxgf3 h | exact up_mxpop h | exact up_mxdup2 h | exact up_mxdup h | exact up_mxsw h | exact up_mxca h | exact up_mxca2 h | exact up_mxic_le h | exact up_mxif_le h | exact up_mxic_gt h | exact up_mxif_gt h | exact up_mxic_ge h | exact up_mxif_ge h | exact up_mxic_lt h | exact up_mxif_lt h | exact up_mxic_ne h | exact up_mxif_ne h | exact up_mxic_eq h | exact up_mxif_eq h | exact up_mxddiv h | exact up_mxdcmp h | exact up_mxlcmp h | exact up_mxJ2 h | exact up_mxI2D h | exact up_mxJ2I h | exact up_mxI2J h | exact up_mxI1 h | exact up_mxI2z h | exact up_mxI2 h | exact up_mxinc h | exact up_mxstA h | exact up_mxstD h | exact up_mxstJ h | exact up_mxstI h | exact up_mxldA h | exact up_mxldD h | exact up_mxldJ h | exact up_mxldI h
theorem up_mxna2 (t pc : Nat) (loc : mxL) (r : List Value) (σ : mxS) (o0 : Option Nat) {q : mxN} (h : mxna2 t pc loc r σ o0 = some (.inl q)) : mxup σ q := by
  unfold mxna2 at h
  (repeat' split at h) <;> first | (cases h; done) | exact up_go h | exact up_wr h | exact up_al h | exact up_mxnew h | exact up_mxasA h | exact up_mxasA2 h | exact up_mxasJ h | exact up_mxasJ2 h | exact up_mxasB h | exact up_mxasB2 h | exact up_mxas h | exact up_mxas2 h | exact up_mxalA h | exact up_mxalA2 h | exact up_mxalJ h | exact up_mxalJ2 h | exact up_mxal h | exact up_mxal2 h | exact up_mxasA3 h | exact up_mxasJ3 h | exact up_mxas3 h | exact up_mxalA3 h | exact up_mxalJ3 h | exact up_mxal3 h | exact up_mxlen h | exact up_mxlen2 h | exact up_mxpf h | exact up_mxpf2 h | exact up_mxgf h | exact up_mxgf2 h | exact up_mxgf3 h | exact up_mxpop h | exact up_mxdup2 h | exact up_mxdup h | exact up_mxsw h | exact up_mxca h | exact up_mxca2 h | exact up_mxic_le h | exact up_mxif_le h | exact up_mxic_gt h | exact up_mxif_gt h | exact up_mxic_ge h | exact up_mxif_ge h | exact up_mxic_lt h | exact up_mxif_lt h | exact up_mxic_ne h | exact up_mxif_ne h | exact up_mxic_eq h | exact up_mxif_eq h | exact up_mxddiv h | exact up_mxdcmp h | exact up_mxlcmp h | exact up_mxJ2 h | exact up_mxI2D h | exact up_mxJ2I h | exact up_mxI2J h | exact up_mxI1 h | exact up_mxI2z h | exact up_mxI2 h | exact up_mxinc h | exact up_mxstA h | exact up_mxstD h | exact up_mxstJ h | exact up_mxstI h | exact up_mxldA h | exact up_mxldD h | exact up_mxldJ h | exact up_mxldI h
theorem up_mxna (t pc : Nat) (loc : mxL) (st : List Value) (σ : mxS) {q : mxN} (h : mxna t pc loc st σ = some (.inl q)) : mxup σ q := by
  unfold mxna at h
  (repeat' split at h) <;> first | (cases h; done) | exact up_go h | exact up_wr h | exact up_al h | exact up_mxna2 h | exact up_mxnew h | exact up_mxasA h | exact up_mxasA2 h | exact up_mxasJ h | exact up_mxasJ2 h | exact up_mxasB h | exact up_mxasB2 h | exact up_mxas h | exact up_mxas2 h | exact up_mxalA h | exact up_mxalA2 h | exact up_mxalJ h | exact up_mxalJ2 h | exact up_mxal h | exact up_mxal2 h | exact up_mxasA3 h | exact up_mxasJ3 h | exact up_mxas3 h | exact up_mxalA3 h | exact up_mxalJ3 h | exact up_mxal3 h | exact up_mxlen h | exact up_mxlen2 h | exact up_mxpf h | exact up_mxpf2 h | exact up_mxgf h | exact up_mxgf2 h | exact up_mxgf3 h | exact up_mxpop h | exact up_mxdup2 h | exact up_mxdup h | exact up_mxsw h | exact up_mxca h | exact up_mxca2 h | exact up_mxic_le h | exact up_mxif_le h | exact up_mxic_gt h | exact up_mxif_gt h | exact up_mxic_ge h | exact up_mxif_ge h | exact up_mxic_lt h | exact up_mxif_lt h | exact up_mxic_ne h | exact up_mxif_ne h | exact up_mxic_eq h | exact up_mxif_eq h | exact up_mxddiv h | exact up_mxdcmp h | exact up_mxlcmp h | exact up_mxJ2 h | exact up_mxI2D h | exact up_mxJ2I h | exact up_mxI2J h | exact up_mxI1 h | exact up_mxI2z h | exact up_mxI2 h | exact up_mxinc h | exact up_mxstA h | exact up_mxstD h | exact up_mxstJ h | exact up_mxstI h | exact up_mxldA h | exact up_mxldD h | exact up_mxldJ h | exact up_mxldI h
theorem up_mxoi (pc : Nat) (loc : mxL) (st : List Value) (σ : mxS) {q : mxN} (h : mxoi pc loc st σ = some (.inl q)) : mxup σ q := by
  unfold mxoi at h
  (repeat' split at h) <;> first | (cases h; done) | exact up_go h | exact up_wr h | exact up_al h | exact up_mxna h | exact up_mxna2 h | exact up_mxnew h | exact up_mxasA h | exact up_mxasA2 h | exact up_mxasJ h | exact up_mxasJ2 h | exact up_mxasB h | exact up_mxasB2 h | exact up_mxas h | exact up_mxas2 h | exact up_mxalA h | exact up_mxalA2 h | exact up_mxalJ h | exact up_mxalJ2 h | exact up_mxal h | exact up_mxal2 h | exact up_mxasA3 h | exact up_mxasJ3 h | exact up_mxas3 h | exact up_mxalA3 h | exact up_mxalJ3 h | exact up_mxal3 h | exact up_mxlen h | exact up_mxlen2 h | exact up_mxpf h | exact up_mxpf2 h | exact up_mxgf h | exact up_mxgf2 h | exact up_mxgf3 h | exact up_mxpop h | exact up_mxdup2 h | exact up_mxdup h | exact up_mxsw h | exact up_mxca h | exact up_mxca2 h | exact up_mxic_le h | exact up_mxif_le h | exact up_mxic_gt h | exact up_mxif_gt h | exact up_mxic_ge h | exact up_mxif_ge h | exact up_mxic_lt h | exact up_mxif_lt h | exact up_mxic_ne h | exact up_mxif_ne h | exact up_mxic_eq h | exact up_mxif_eq h | exact up_mxddiv h | exact up_mxdcmp h | exact up_mxlcmp h | exact up_mxJ2 h | exact up_mxI2D h | exact up_mxJ2I h | exact up_mxI2J h | exact up_mxI1 h | exact up_mxI2z h | exact up_mxI2 h | exact up_mxinc h | exact up_mxstA h | exact up_mxstD h | exact up_mxstJ h | exact up_mxstI h | exact up_mxldA h | exact up_mxldD h | exact up_mxldJ h | exact up_mxldI h
theorem up_mxcp2 (pc : Nat) (loc : mxL) (n dp sp : Int32) (b : Nat) (r : List Value) (σ : mxS) (o0 : mxC) (o1 : mxC) {q : mxN} (h : mxcp2 pc loc n dp sp b r σ o0 o1 = some (.inl q)) : mxup σ q := by
  unfold mxcp2 at h
  (repeat' split at h) <;> first | (cases h; done) | exact up_go h | exact up_wr h | exact up_al h | exact up_mxoi h | exact up_mxna h | exact up_mxna2 h | exact up_mxnew h | exact up_mxasA h | exact up_mxasA2 h | exact up_mxasJ h | exact up_mxasJ2 h | exact up_mxasB h | exact up_mxasB2 h | exact up_mxas h | exact up_mxas2 h | exact up_mxalA h | exact up_mxalA2 h | exact up_mxalJ h | exact up_mxalJ2 h | exact up_mxal h | exact up_mxal2 h | exact up_mxasA3 h | exact up_mxasJ3 h | exact up_mxas3 h | exact up_mxalA3 h | exact up_mxalJ3 h | exact up_mxal3 h | exact up_mxlen h | exact up_mxlen2 h | exact up_mxpf h | exact up_mxpf2 h | exact up_mxgf h | exact up_mxgf2 h | exact up_mxgf3 h | exact up_mxpop h | exact up_mxdup2 h | exact up_mxdup h | exact up_mxsw h | exact up_mxca h | exact up_mxca2 h | exact up_mxic_le h | exact up_mxif_le h | exact up_mxic_gt h | exact up_mxif_gt h | exact up_mxic_ge h | exact up_mxif_ge h | exact up_mxic_lt h | exact up_mxif_lt h | exact up_mxic_ne h | exact up_mxif_ne h | exact up_mxic_eq h | exact up_mxif_eq h | exact up_mxddiv h | exact up_mxdcmp h | exact up_mxlcmp h | exact up_mxJ2 h | exact up_mxI2D h | exact up_mxJ2I h | exact up_mxI2J h | exact up_mxI1 h | exact up_mxI2z h | exact up_mxI2 h | exact up_mxinc h | exact up_mxstA h | exact up_mxstD h | exact up_mxstJ h | exact up_mxstI h | exact up_mxldA h | exact up_mxldD h | exact up_mxldJ h | exact up_mxldI h
theorem up_mxcp (pc : Nat) (loc : mxL) (st : List Value) (σ : mxS) {q : mxN} (h : mxcp pc loc st σ = some (.inl q)) : mxup σ q := by
  unfold mxcp at h
  (repeat' split at h) <;> first | (cases h; done) | exact up_go h | exact up_wr h | exact up_al h | exact up_mxcp2 h | exact up_mxoi h | exact up_mxna h | exact up_mxna2 h | exact up_mxnew h | exact up_mxasA h | exact up_mxasA2 h | exact up_mxasJ h | exact up_mxasJ2 h | exact up_mxasB h | exact up_mxasB2 h | exact up_mxas h | exact up_mxas2 h | exact up_mxalA h | exact up_mxalA2 h | exact up_mxalJ h | exact up_mxalJ2 h | exact up_mxal h | exact up_mxal2 h | exact up_mxasA3 h | exact up_mxasJ3 h | exact up_mxas3 h | exact up_mxalA3 h | exact up_mxalJ3 h | exact up_mxal3 h | exact up_mxlen h | exact up_mxlen2 h | exact up_mxpf h | exact up_mxpf2 h | exact up_mxgf h | exact up_mxgf2 h | exact up_mxgf3 h | exact up_mxpop h | exact up_mxdup2 h | exact up_mxdup h | exact up_mxsw h | exact up_mxca h | exact up_mxca2 h | exact up_mxic_le h | exact up_mxif_le h | exact up_mxic_gt h | exact up_mxif_gt h | exact up_mxic_ge h | exact up_mxif_ge h | exact up_mxic_lt h | exact up_mxif_lt h | exact up_mxic_ne h | exact up_mxif_ne h | exact up_mxic_eq h | exact up_mxif_eq h | exact up_mxddiv h | exact up_mxdcmp h | exact up_mxlcmp h | exact up_mxJ2 h | exact up_mxI2D h | exact up_mxJ2I h | exact up_mxI2J h | exact up_mxI1 h | exact up_mxI2z h | exact up_mxI2 h | exact up_mxinc h | exact up_mxstA h | exact up_mxstD h | exact up_mxstJ h | exact up_mxstI h | exact up_mxldA h | exact up_mxldD h | exact up_mxldJ h | exact up_mxldI h
theorem up_inv {w : Nat × Nat × Nat × Nat} {pc : Nat} {loc : mxL} {st : List Value} {σ : mxS} {q : mxN} (h : mxinv w pc loc st σ = some (.inl q)) : mxup σ q := by
  unfold mxinv at h
  split at h
  · unfold mxcV at h
    generalize mxtk _ _ _ = z at h
    unfold mxcV2 at h
    split at h
    · split at h
      · unfold mxcV3 at h
        (repeat' split at h) <;> cases h
      · cases h
    · cases h
  · unfold mxcS at h
    generalize mxtk _ _ _ = z at h
    unfold mxcall2 at h
    (repeat' split at h) <;> cases h
  · unfold mxcI at h
    generalize mxtk _ _ _ = z at h
    unfold mxcI2 at h
    (repeat' split at h) <;> cases h
  · exact up_mxoi _ _ _ _ h
  · exact up_mxcp _ _ _ _ h
  · cases h
theorem up_ret {k : Nat} {st : List Value} {σ : mxS} {q : mxN} (h : mxret k st = some (.inl q)) : mxup σ q := by
  unfold mxret at h
  (repeat' split at h) <;> cases h
theorem mxSem_up {y pc : Nat} {loc : mxL} {st : List Value} {σ : mxS} {i : Instr} {q : mxN} (h : mxSem y pc loc st σ i = some (.inl q)) : mxup σ q := by
  unfold mxSem at h
  split at h <;> first | (cases h; done) | exact up_go h | exact up_inv h | exact up_mxldI _ _ _ _ _ h | exact up_mxldJ _ _ _ _ _ h | exact up_mxldD _ _ _ _ _ h | exact up_mxldA _ _ _ _ _ h | exact up_mxstI _ _ _ _ _ h | exact up_mxstJ _ _ _ _ _ h | exact up_mxstD _ _ _ _ _ h | exact up_mxstA _ _ _ _ _ h | exact up_mxinc _ _ _ _ _ _ _ h | exact up_mxI2 _ _ _ _ _ h | exact up_mxI2z _ _ _ _ _ h | exact up_mxI1 _ _ _ _ _ h | exact up_mxI2J _ _ _ _ h | exact up_mxJ2I _ _ _ _ h | exact up_mxI2D _ _ _ _ h | exact up_mxJ2 _ _ _ _ _ h | exact up_mxlcmp _ _ _ _ h | exact up_mxdcmp _ _ _ _ _ h | exact up_mxddiv _ _ _ _ h | exact up_mxif_eq _ _ _ _ _ h | exact up_mxic_eq _ _ _ _ _ h | exact up_mxif_ne _ _ _ _ _ h | exact up_mxic_ne _ _ _ _ _ h | exact up_mxif_lt _ _ _ _ _ h | exact up_mxic_lt _ _ _ _ _ h | exact up_mxif_ge _ _ _ _ _ h | exact up_mxic_ge _ _ _ _ _ h | exact up_mxif_gt _ _ _ _ _ h | exact up_mxic_gt _ _ _ _ _ h | exact up_mxif_le _ _ _ _ _ h | exact up_mxic_le _ _ _ _ _ h | exact up_mxca2 _ _ _ _ _ _ _ _ h | exact up_mxca _ _ _ _ _ _ h | exact up_mxsw _ _ _ _ _ h | exact up_mxdup _ _ _ _ h | exact up_mxdup2 _ _ _ _ h | exact up_mxpop _ _ _ _ h | exact up_mxgf3 _ _ _ _ _ h | exact up_mxgf2 _ _ _ _ _ _ _ h | exact up_mxgf _ _ _ _ _ _ h | exact up_mxpf2 _ _ _ _ _ _ _ _ _ h | exact up_mxpf _ _ _ _ _ _ _ h | exact up_mxlen2 _ _ _ _ _ h | exact up_mxlen _ _ _ _ h | exact up_mxal3 _ _ _ _ _ _ h | exact up_mxalJ3 _ _ _ _ _ _ h | exact up_mxalA3 _ _ _ _ _ _ h | exact up_mxas3 _ _ _ _ _ _ _ _ _ _ h | exact up_mxasJ3 _ _ _ _ _ _ _ _ _ _ h | exact up_mxasA3 _ _ _ _ _ _ _ _ _ _ h | exact up_mxal2 _ _ _ _ _ _ _ h | exact up_mxal _ _ _ _ _ h | exact up_mxalJ2 _ _ _ _ _ _ h | exact up_mxalJ _ _ _ _ h | exact up_mxalA2 _ _ _ _ _ _ h | exact up_mxalA _ _ _ _ h | exact up_mxas2 _ _ _ _ _ _ _ _ _ _ h | exact up_mxas _ _ _ _ _ _ h | exact up_mxasB2 _ _ _ _ _ _ _ _ h | exact up_mxasB _ _ _ _ h | exact up_mxasJ2 _ _ _ _ _ _ _ _ h | exact up_mxasJ _ _ _ _ h | exact up_mxasA2 _ _ _ _ _ _ _ _ h | exact up_mxasA _ _ _ _ h | exact up_mxnew _ _ _ _ _ _ h | exact up_mxna2 _ _ _ _ _ _ h | exact up_mxna _ _ _ _ _ h | exact up_mxoi _ _ _ _ h | exact up_mxcp2 _ _ _ _ _ _ _ _ _ _ h | exact up_mxcp _ _ _ _ h | ((repeat' split at h) <;> first | (cases h; done) | exact up_go h | exact up_inv h | exact up_ret h | exact up_mxldI _ _ _ _ _ h | exact up_mxldJ _ _ _ _ _ h | exact up_mxldD _ _ _ _ _ h | exact up_mxldA _ _ _ _ _ h | exact up_mxstI _ _ _ _ _ h | exact up_mxstJ _ _ _ _ _ h | exact up_mxstD _ _ _ _ _ h | exact up_mxstA _ _ _ _ _ h | exact up_mxinc _ _ _ _ _ _ _ h | exact up_mxI2 _ _ _ _ _ h | exact up_mxI2z _ _ _ _ _ h | exact up_mxI1 _ _ _ _ _ h | exact up_mxI2J _ _ _ _ h | exact up_mxJ2I _ _ _ _ h | exact up_mxI2D _ _ _ _ h | exact up_mxJ2 _ _ _ _ _ h | exact up_mxlcmp _ _ _ _ h | exact up_mxdcmp _ _ _ _ _ h | exact up_mxddiv _ _ _ _ h | exact up_mxif_eq _ _ _ _ _ h | exact up_mxic_eq _ _ _ _ _ h | exact up_mxif_ne _ _ _ _ _ h | exact up_mxic_ne _ _ _ _ _ h | exact up_mxif_lt _ _ _ _ _ h | exact up_mxic_lt _ _ _ _ _ h | exact up_mxif_ge _ _ _ _ _ h | exact up_mxic_ge _ _ _ _ _ h | exact up_mxif_gt _ _ _ _ _ h | exact up_mxic_gt _ _ _ _ _ h | exact up_mxif_le _ _ _ _ _ h | exact up_mxic_le _ _ _ _ _ h | exact up_mxca2 _ _ _ _ _ _ _ _ h | exact up_mxca _ _ _ _ _ _ h | exact up_mxsw _ _ _ _ _ h | exact up_mxdup _ _ _ _ h | exact up_mxdup2 _ _ _ _ h | exact up_mxpop _ _ _ _ h | exact up_mxgf3 _ _ _ _ _ h | exact up_mxgf2 _ _ _ _ _ _ _ h | exact up_mxgf _ _ _ _ _ _ h | exact up_mxpf2 _ _ _ _ _ _ _ _ _ h | exact up_mxpf _ _ _ _ _ _ _ h | exact up_mxlen2 _ _ _ _ _ h | exact up_mxlen _ _ _ _ h | exact up_mxal3 _ _ _ _ _ _ h | exact up_mxalJ3 _ _ _ _ _ _ h | exact up_mxalA3 _ _ _ _ _ _ h | exact up_mxas3 _ _ _ _ _ _ _ _ _ _ h | exact up_mxasJ3 _ _ _ _ _ _ _ _ _ _ h | exact up_mxasA3 _ _ _ _ _ _ _ _ _ _ h | exact up_mxal2 _ _ _ _ _ _ _ h | exact up_mxal _ _ _ _ _ h | exact up_mxalJ2 _ _ _ _ _ _ h | exact up_mxalJ _ _ _ _ h | exact up_mxalA2 _ _ _ _ _ _ h | exact up_mxalA _ _ _ _ h | exact up_mxas2 _ _ _ _ _ _ _ _ _ _ h | exact up_mxas _ _ _ _ _ _ h | exact up_mxasB2 _ _ _ _ _ _ _ _ h | exact up_mxasB _ _ _ _ h | exact up_mxasJ2 _ _ _ _ _ _ _ _ h | exact up_mxasJ _ _ _ _ h | exact up_mxasA2 _ _ _ _ _ _ _ _ h | exact up_mxasA _ _ _ _ h | exact up_mxnew _ _ _ _ _ _ h | exact up_mxna2 _ _ _ _ _ _ h | exact up_mxna _ _ _ _ _ h | exact up_mxoi _ _ _ _ h | exact up_mxcp2 _ _ _ _ _ _ _ _ _ _ h | exact up_mxcp _ _ _ _ h)
theorem mxStep_up {y pc : Nat} {loc : mxL} {st : List Value} {σ : mxS} {q : mxN} (h : mxStep y pc loc st σ = some (.inl q)) : mxup σ q := by
  unfold mxStep mxM at h
  split at h
  · split at h
    · exact mxSem_up h
    · cases h
  · cases h
theorem mxrun_up : ∀ (n d y pc : Nat) (loc : mxL) (st : List Value) (σ : mxS) (r : mxR), mxrun n d y pc loc st σ = some r → σ.2.1 ≤ r.2.2.1 ∧ σ.2.2 ≤ r.2.2.2
  | 0, _, _, _, _, _, _, _, h => nomatch h
  | n + 1, d, y, pc, loc, st, σ, r, h => by
    rw [mxrun] at h
    cases hs : mxStep y pc loc st σ with
    | none => rw [hs] at h; cases h
    | some a =>
      rw [hs] at h
      match a, hs, h with
      | .inl (pc', loc', st', σ'), hs, h =>
        have h1 := mxStep_up hs
        have h2 := mxrun_up n d y pc' loc' st' σ' r h
        exact ⟨Nat.le_trans h1.1 h2.1, Nat.le_trans h1.2 h2.2⟩
      | .inr (.inl v), _, h => cases h; exact ⟨Nat.le_refl _, Nat.le_refl _⟩
      | .inr (.inr (.inr q)), _, h => cases h; exact ⟨Nat.le_add_right _ _, Nat.le_add_right _ _⟩
      | .inr (.inr (.inl (y', as, rs))), _, h =>
        dsimp only at h
        by_cases hd : d = 0
        · rw [if_pos hd] at h; cases h
        · rw [if_neg hd] at h
          cases he : mxent y' as with
          | none => rw [he] at h; cases h
          | some loc' =>
            rw [he] at h
            dsimp only at h
            cases hc : mxrun n (d - 1) y' 0 loc' [] σ with
            | none => rw [hc] at h; cases h
            | some b =>
              rw [hc] at h
              have h1 := mxrun_up n _ _ _ _ _ _ _ hc
              match b, h, h1 with
              | (.inl v, σ'), h, h1 =>
                have h2 := mxrun_up n _ _ _ _ _ _ _ h
                exact ⟨Nat.le_trans h1.1 h2.1, Nat.le_trans h1.2 h2.2⟩
              | (.inr q, σ'), h, h1 =>
                dsimp only at h
                by_cases hy : y' / 128 = 9 ∧ y' ≠ 1152
                · rw [if_pos hy] at h
                  cases hh : mxHl y pc q with
                  | none => rw [hh] at h; cases h; exact h1
                  | some tk =>
                    rw [hh] at h
                    obtain ⟨t, k⟩ := tk
                    have h2 := mxrun_up n _ _ _ _ _ _ _ h
                    exact ⟨Nat.le_trans h1.1 h2.1, Nat.le_trans h1.2 h2.2⟩
                · rw [if_neg hy] at h; cases h
theorem mx_inv_next {p : Program} {R : Room} {s : State} {m : MethodId} {args : Array Value} {meth : Method} {c : Code} {G : mxG} {y pc : Nat} {loc : mxL} {st : List Value} {σ : mxS} {q : mxN} {i : Nat} {w : Nat × Nat × Nat × Nat} (X : mxX p R s m args meth c G y) (hf : mxVl (y / 128) i = some w) (h : mxinv w pc loc st σ = some (.inl q)) :
    (w.1 = 3 ∧ Cond.methodLink (mxcn (y / 128)) i objectInit ∈ lw_good ∧ mxoi (pc + 3) loc st σ = some (.inl q)) ∨ (w.1 = 4 ∧ Cond.methodLink (mxcn (y / 128)) i arraycopyName ∈ lw_good ∧ mxcp (pc + 3) loc st σ = some (.inl q)) := by
  obtain ⟨s0, y0, n0', c0⟩ := w
  obtain ⟨pv, hp⟩ := mxV_ok hf
  obtain ⟨p1, p2, p3, p4⟩ := pv
  unfold mxinv at h
  split at h
  · unfold mxcV at h
    generalize mxtk _ _ _ = z at h
    unfold mxcV2 at h
    split at h
    · split at h
      · unfold mxcV3 at h
        (repeat' split at h) <;> cases h
      · cases h
    · cases h
  · unfold mxcS at h
    generalize mxtk _ _ _ = z at h
    unfold mxcall2 at h
    (repeat' split at h) <;> cases h
  · unfold mxcI at h
    generalize mxtk _ _ _ = z at h
    unfold mxcI2 at h
    (repeat' split at h) <;> cases h
  · rename_i hs
    dsimp only at hs
    subst hs
    refine Or.inl ⟨rfl, ?_, h⟩
    match p1, hp with
    | 0, hp => exact mxG1_ok hp
    | 1, hp => cases hp
    | 2, hp => simp [mxVp] at hp
    | _ + 3, hp => cases hp
  · rename_i hs
    dsimp only at hs
    subst hs
    refine Or.inr ⟨rfl, ?_, h⟩
    match p1, hp with
    | 0, hp => exact mxG1_ok hp
    | 1, hp => cases hp
    | 2, hp => simp [mxVp] at hp
    | _ + 3, hp => cases hp
  · cases h
theorem mx_next {p : Program} {l : Launch} {e : Env} {R : Room} {s : State} {m : MethodId} {args : Array Value} {below : List Frame} {meth : Method} {c : Code} {Q : State → Prop} {G : mxG} {y n0 k0 pc : Nat} {loc : mxL} {st : List Value} {σ : mxS} {q : mxN} (X : mxX p R s m args meth c G y) (hN : n0 ≤ σ.2.1) (hK0 : k0 ≤ σ.2.2) (hR : q.2.2.2.2.1 ≤ n0 + R.cells ∧ q.2.2.2.2.2 ≤ k0 + R.slots) (h : mxStep y pc loc st σ = some (.inl q)) (kk : mxWs p l e R s m args below meth c Q G y n0 k0 q) : mxWs p l e R s m args below meth c Q G y n0 k0 (pc, loc, st, σ) := by
  unfold mxStep at h
  cases hd : decode (mxb y) pc with
  | error z => rw [hd] at h; cases h
  | ok z =>
    obtain ⟨i, n⟩ := z
    rw [hd] at h
    unfold mxM at h
    dsimp only at h
    split at h
    · rename_i hln
      revert hd hln h
      intro hd hln h
      match i, hd, hln, h with
      | .iload_n k, hd, hln, h =>
        have hn := beq_iff_eq.mp hln
        subst hn
        exact mxk_iload_n X hd h kk
      | .iload k, hd, hln, h =>
        have hn := beq_iff_eq.mp hln
        subst hn
        exact mxk_iload X hd h kk
      | .istore_n k, hd, hln, h =>
        have hn := beq_iff_eq.mp hln
        subst hn
        exact mxk_istore_n X hd h kk
      | .istore k, hd, hln, h =>
        have hn := beq_iff_eq.mp hln
        subst hn
        exact mxk_istore X hd h kk
      | .lload_n k, hd, hln, h =>
        have hn := beq_iff_eq.mp hln
        subst hn
        exact mxk_lload_n X hd h kk
      | .lload k, hd, hln, h =>
        have hn := beq_iff_eq.mp hln
        subst hn
        exact mxk_lload X hd h kk
      | .lstore_n k, hd, hln, h =>
        have hn := beq_iff_eq.mp hln
        subst hn
        exact mxk_lstore_n X hd h kk
      | .lstore k, hd, hln, h =>
        have hn := beq_iff_eq.mp hln
        subst hn
        exact mxk_lstore X hd h kk
      | .dload_n k, hd, hln, h =>
        have hn := beq_iff_eq.mp hln
        subst hn
        exact mxk_dload_n X hd h kk
      | .dload k, hd, hln, h =>
        have hn := beq_iff_eq.mp hln
        subst hn
        exact mxk_dload X hd h kk
      | .dstore_n k, hd, hln, h =>
        have hn := beq_iff_eq.mp hln
        subst hn
        exact mxk_dstore_n X hd h kk
      | .dstore k, hd, hln, h =>
        have hn := beq_iff_eq.mp hln
        subst hn
        exact mxk_dstore X hd h kk
      | .aload_n k, hd, hln, h =>
        have hn := beq_iff_eq.mp hln
        subst hn
        exact mxk_aload_n X hd h kk
      | .aload k, hd, hln, h =>
        have hn := beq_iff_eq.mp hln
        subst hn
        exact mxk_aload X hd h kk
      | .astore_n k, hd, hln, h =>
        have hn := beq_iff_eq.mp hln
        subst hn
        exact mxk_astore_n X hd h kk
      | .astore k, hd, hln, h =>
        have hn := beq_iff_eq.mp hln
        subst hn
        exact mxk_astore X hd h kk
      | .iconst n, hd, hln, h =>
        have hn := beq_iff_eq.mp hln
        subst hn
        exact mxk_iconst X hd h kk
      | .lconst n, hd, hln, h =>
        have hn := beq_iff_eq.mp hln
        subst hn
        exact mxk_lconst X hd h kk
      | .bipush n, hd, hln, h =>
        have hn := beq_iff_eq.mp hln
        subst hn
        exact mxk_bipush X hd h kk
      | .sipush n, hd, hln, h =>
        have hn := beq_iff_eq.mp hln
        subst hn
        exact mxk_sipush X hd h kk
      | .aconst_null, hd, hln, h =>
        have hn := beq_iff_eq.mp hln
        subst hn
        exact mxk_null X hd h kk
      | .iinc k n, hd, hln, h =>
        have hn := beq_iff_eq.mp hln
        subst hn
        exact mxk_iinc X hd h kk
      | .dconst n, hd, hln, h =>
        have hn := beq_iff_eq.mp hln
        subst hn
        split at h
        · rename_i hz
          subst hz
          exact mxk_dconst0 X hd h kk
        · cases h
      | .iadd, hd, hln, h =>
        have hn := beq_iff_eq.mp hln
        subst hn
        exact mxk_iadd X hd h kk
      | .isub, hd, hln, h =>
        have hn := beq_iff_eq.mp hln
        subst hn
        exact mxk_isub X hd h kk
      | .imul, hd, hln, h =>
        have hn := beq_iff_eq.mp hln
        subst hn
        exact mxk_imul X hd h kk
      | .iand, hd, hln, h =>
        have hn := beq_iff_eq.mp hln
        subst hn
        exact mxk_iand X hd h kk
      | .ior, hd, hln, h =>
        have hn := beq_iff_eq.mp hln
        subst hn
        exact mxk_ior X hd h kk
      | .ixor, hd, hln, h =>
        have hn := beq_iff_eq.mp hln
        subst hn
        exact mxk_ixor X hd h kk
      | .ishl, hd, hln, h =>
        have hn := beq_iff_eq.mp hln
        subst hn
        exact mxk_ishl X hd h kk
      | .ishr, hd, hln, h =>
        have hn := beq_iff_eq.mp hln
        subst hn
        exact mxk_ishr X hd h kk
      | .idiv, hd, hln, h =>
        have hn := beq_iff_eq.mp hln
        subst hn
        exact mxk_idiv X hd h kk
      | .irem, hd, hln, h =>
        have hn := beq_iff_eq.mp hln
        subst hn
        exact mxk_irem X hd h kk
      | .ineg, hd, hln, h =>
        have hn := beq_iff_eq.mp hln
        subst hn
        exact mxk_ineg X hd h kk
      | .i2b, hd, hln, h =>
        have hn := beq_iff_eq.mp hln
        subst hn
        exact mxk_i2b X hd h kk
      | .i2c, hd, hln, h =>
        have hn := beq_iff_eq.mp hln
        subst hn
        exact mxk_i2c X hd h kk
      | .i2l, hd, hln, h =>
        have hn := beq_iff_eq.mp hln
        subst hn
        exact mxk_i2l X hd h kk
      | .l2i, hd, hln, h =>
        have hn := beq_iff_eq.mp hln
        subst hn
        exact mxk_l2i X hd h kk
      | .i2d, hd, hln, h =>
        have hn := beq_iff_eq.mp hln
        subst hn
        exact mxk_i2d X hd h kk
      | .ladd, hd, hln, h =>
        have hn := beq_iff_eq.mp hln
        subst hn
        exact mxk_ladd X hd h kk
      | .lmul, hd, hln, h =>
        have hn := beq_iff_eq.mp hln
        subst hn
        exact mxk_lmul X hd h kk
      | .lcmp, hd, hln, h =>
        have hn := beq_iff_eq.mp hln
        subst hn
        exact mxk_lcmp X hd h kk
      | .ddiv, hd, hln, h =>
        have hn := beq_iff_eq.mp hln
        subst hn
        exact mxk_ddiv X hd h kk
      | .dup, hd, hln, h =>
        have hn := beq_iff_eq.mp hln
        subst hn
        exact mxk_dup X hd h kk
      | .dup2, hd, hln, h =>
        have hn := beq_iff_eq.mp hln
        subst hn
        exact mxk_dup2 X hd h kk
      | .pop, hd, hln, h =>
        have hn := beq_iff_eq.mp hln
        subst hn
        exact mxk_pop X hd h kk
      | .arraylength, hd, hln, h =>
        have hn := beq_iff_eq.mp hln
        subst hn
        exact mxk_arraylength X hd h kk
      | .iaload, hd, hln, h =>
        have hn := beq_iff_eq.mp hln
        subst hn
        exact mxk_iaload X hd h kk
      | .baload, hd, hln, h =>
        have hn := beq_iff_eq.mp hln
        subst hn
        exact mxk_baload X hd h kk
      | .laload, hd, hln, h =>
        have hn := beq_iff_eq.mp hln
        subst hn
        exact mxk_laload X hd h kk
      | .aaload, hd, hln, h =>
        have hn := beq_iff_eq.mp hln
        subst hn
        exact mxk_aaload X hd h kk
      | .iastore, hd, hln, h =>
        have hn := beq_iff_eq.mp hln
        subst hn
        exact mxk_iastore X hd h kk
      | .bastore, hd, hln, h =>
        have hn := beq_iff_eq.mp hln
        subst hn
        exact mxk_bastore X hd h kk
      | .lastore, hd, hln, h =>
        have hn := beq_iff_eq.mp hln
        subst hn
        exact mxk_lastore X hd h kk
      | .aastore, hd, hln, h =>
        have hn := beq_iff_eq.mp hln
        subst hn
        exact mxk_aastore X hd h kk
      | .dcmp op, hd, hln, h =>
        have hn := beq_iff_eq.mp hln
        subst hn
        exact mxk_dcmp X hd h kk
      | .ifCond .eq o, hd, hln, h =>
        have hn := (Bool.and_eq_true _ _).mp hln
        have hn1 := beq_iff_eq.mp hn.1
        subst hn1
        exact mxk_if_eq (of_decide_eq_true hn.2) X hd h kk
      | .if_icmp .eq o, hd, hln, h =>
        have hn := (Bool.and_eq_true _ _).mp hln
        have hn1 := beq_iff_eq.mp hn.1
        subst hn1
        exact mxk_ic_eq (of_decide_eq_true hn.2) X hd h kk
      | .ifCond .ne o, hd, hln, h =>
        have hn := (Bool.and_eq_true _ _).mp hln
        have hn1 := beq_iff_eq.mp hn.1
        subst hn1
        exact mxk_if_ne (of_decide_eq_true hn.2) X hd h kk
      | .if_icmp .ne o, hd, hln, h =>
        have hn := (Bool.and_eq_true _ _).mp hln
        have hn1 := beq_iff_eq.mp hn.1
        subst hn1
        exact mxk_ic_ne (of_decide_eq_true hn.2) X hd h kk
      | .ifCond .lt o, hd, hln, h =>
        have hn := (Bool.and_eq_true _ _).mp hln
        have hn1 := beq_iff_eq.mp hn.1
        subst hn1
        exact mxk_if_lt (of_decide_eq_true hn.2) X hd h kk
      | .if_icmp .lt o, hd, hln, h =>
        have hn := (Bool.and_eq_true _ _).mp hln
        have hn1 := beq_iff_eq.mp hn.1
        subst hn1
        exact mxk_ic_lt (of_decide_eq_true hn.2) X hd h kk
      | .ifCond .ge o, hd, hln, h =>
        have hn := (Bool.and_eq_true _ _).mp hln
        have hn1 := beq_iff_eq.mp hn.1
        subst hn1
        exact mxk_if_ge (of_decide_eq_true hn.2) X hd h kk
      | .if_icmp .ge o, hd, hln, h =>
        have hn := (Bool.and_eq_true _ _).mp hln
        have hn1 := beq_iff_eq.mp hn.1
        subst hn1
        exact mxk_ic_ge (of_decide_eq_true hn.2) X hd h kk
      | .ifCond .gt o, hd, hln, h =>
        have hn := (Bool.and_eq_true _ _).mp hln
        have hn1 := beq_iff_eq.mp hn.1
        subst hn1
        exact mxk_if_gt (of_decide_eq_true hn.2) X hd h kk
      | .if_icmp .gt o, hd, hln, h =>
        have hn := (Bool.and_eq_true _ _).mp hln
        have hn1 := beq_iff_eq.mp hn.1
        subst hn1
        exact mxk_ic_gt (of_decide_eq_true hn.2) X hd h kk
      | .ifCond .le o, hd, hln, h =>
        have hn := (Bool.and_eq_true _ _).mp hln
        have hn1 := beq_iff_eq.mp hn.1
        subst hn1
        exact mxk_if_le (of_decide_eq_true hn.2) X hd h kk
      | .if_icmp .le o, hd, hln, h =>
        have hn := (Bool.and_eq_true _ _).mp hln
        have hn1 := beq_iff_eq.mp hn.1
        subst hn1
        exact mxk_ic_le (of_decide_eq_true hn.2) X hd h kk
      | .if_acmp .eq o, hd, hln, h =>
        have hn := (Bool.and_eq_true _ _).mp hln
        have hn1 := beq_iff_eq.mp hn.1
        subst hn1
        exact mxk_ca_eq (of_decide_eq_true hn.2) X hd h kk
      | .if_acmp .ne o, hd, hln, h =>
        have hn := (Bool.and_eq_true _ _).mp hln
        have hn1 := beq_iff_eq.mp hn.1
        subst hn1
        exact mxk_ca_ne (of_decide_eq_true hn.2) X hd h kk
      | .goto o, hd, hln, h =>
        have hn := (Bool.and_eq_true _ _).mp hln
        have hn1 := beq_iff_eq.mp hn.1
        subst hn1
        exact mxk_goto (of_decide_eq_true hn.2) X hd h kk
      | .tableswitch d lo hi os, hd, hln, h =>
        have hn := (Bool.and_eq_true _ _).mp hln
        exact mxk_table (of_decide_eq_true hn.1) (fun o ho => of_decide_eq_true (List.all_eq_true.mp hn.2 o ho)) X hd h kk
      | .lookupswitch d ps, hd, hln, h =>
        have hn := (Bool.and_eq_true _ _).mp hln
        have hn2 := (Bool.and_eq_true _ _).mp hn.1
        exact mxk_lookup (of_decide_eq_true hn2.1) (fun o ho => of_decide_eq_true (List.all_eq_true.mp hn2.2 o ho)) hn.2 X hd h kk
      | .getfield i, hd, hln, h =>
        have hn := beq_iff_eq.mp hln
        subst hn
        unfold mxSem at h
        dsimp only at h
        cases hf : mxFl (y / 128) i with
        | none => rw [hf] at h; cases h
        | some w =>
          rw [hf] at h
          dsimp only at h
          exact mxk_getfield X hd hf h kk
      | .putfield i, hd, hln, h =>
        have hn := beq_iff_eq.mp hln
        subst hn
        unfold mxSem at h
        dsimp only at h
        cases hf : mxFl (y / 128) i with
        | none => rw [hf] at h; cases h
        | some w =>
          rw [hf] at h
          dsimp only at h
          split at h
          · rename_i hfo
            exact mxk_putfield X hd hf hfo h kk
          · cases h
      | .getstatic i, hd, hln, h =>
        have hn := beq_iff_eq.mp hln
        subst hn
        unfold mxSem at h
        dsimp only at h
        cases hf : mxSl (y / 128) i with
        | none => rw [hf] at h; cases h
        | some w =>
          rw [hf] at h
          dsimp only at h
          exact mxk_getstatic X hd hf h kk
      | .ldc i, hd, hln, h =>
        have hn := beq_iff_eq.mp hln
        subst hn
        unfold mxSem at h
        dsimp only at h
        cases hf : mxLl (y / 128) i with
        | none => rw [hf] at h; cases h
        | some w =>
          rw [hf] at h
          dsimp only at h
          split at h
          · rename_i hv
            exact mxk_ldc X hd hf hv h kk
          · cases h
      | .ldc2_w i, hd, hln, h =>
        have hn := beq_iff_eq.mp hln
        subst hn
        unfold mxSem at h
        dsimp only at h
        cases hf : mxLl (y / 128) i with
        | none => rw [hf] at h; cases h
        | some w =>
          rw [hf] at h
          dsimp only at h
          split at h
          · rename_i hv
            exact mxk_ldc2 X hd hf hv h kk
          · cases h
      | .newarray t0, hd, hln, h =>
        have hn := beq_iff_eq.mp hln
        subst hn
        unfold mxSem at h
        dsimp only at h
        cases hf : mxatype t0 with
        | none => rw [hf] at h; cases h
        | some w =>
          rw [hf] at h
          dsimp only at h
          exact mxk_newarray X hd hf h hN hK0 hR kk
      | .anewarray i, hd, hln, h =>
        have hn := beq_iff_eq.mp hln
        subst hn
        unfold mxSem at h
        dsimp only at h
        cases hf : mxAl2 (y / 128) i with
        | none => rw [hf] at h; cases h
        | some w =>
          rw [hf] at h
          dsimp only at h
          exact mxk_anewarray X hd hf h hN hK0 hR kk
      | .new i, hd, hln, h =>
        have hn := beq_iff_eq.mp hln
        subst hn
        unfold mxSem at h
        dsimp only at h
        cases hf : mxNl (y / 128) i with
        | some w =>
          rw [hf] at h
          exact mxk_new X hd hf h hN hK0 hR kk
        | none =>
          rw [hf] at h
          dsimp only at h
          cases hg : mxTl y pc with
          | none => rw [hg] at h; cases h
          | some w => rw [hg] at h; cases h
      | .invokevirtual i, hd, hln, h =>
        have hn := beq_iff_eq.mp hln
        subst hn
        unfold mxSem at h
        dsimp only at h
        cases hf : mxVl (y / 128) i with
        | none => rw [hf] at h; cases h
        | some w =>
          rw [hf] at h
          dsimp only at h
          split at h
          · rename_i hs
            rcases mx_inv_next X hf h with ⟨e1, e2, e3⟩ | ⟨e1, e2, e3⟩
            · rw [e1] at hs; cases hs
            · rw [e1] at hs; cases hs
          · cases h
      | .invokestatic i, hd, hln, h =>
        have hn := beq_iff_eq.mp hln
        subst hn
        unfold mxSem at h
        dsimp only at h
        cases hf : mxVl (y / 128) i with
        | none => rw [hf] at h; cases h
        | some w =>
          rw [hf] at h
          dsimp only at h
          split at h
          · rename_i hs
            rcases mx_inv_next X hf h with ⟨e1, e2, e3⟩ | ⟨e1, e2, e3⟩
            · rw [e1] at hs; cases hs
            · exact mxk_copy X hd e2 e3 kk
          · cases h
      | .invokespecial i, hd, hln, h =>
        have hn := beq_iff_eq.mp hln
        subst hn
        unfold mxSem at h
        dsimp only at h
        cases hf : mxVl (y / 128) i with
        | none => rw [hf] at h; cases h
        | some w =>
          rw [hf] at h
          dsimp only at h
          split at h
          · rename_i hs
            rcases mx_inv_next X hf h with ⟨e1, e2, e3⟩ | ⟨e1, e2, e3⟩
            · exact mxk_objInit X hd e2 e3 kk
            · rw [e1] at hs; cases hs
          · cases h
      | .ireturn, hd, hln, h =>
        unfold mxSem at h
        dsimp only at h
        split at h
        · unfold mxret at h
          (repeat' split at h) <;> cases h
        · cases h
      | .lreturn, hd, hln, h =>
        unfold mxSem at h
        dsimp only at h
        split at h
        · unfold mxret at h
          (repeat' split at h) <;> cases h
        · cases h
      | .dreturn, hd, hln, h =>
        unfold mxSem at h
        dsimp only at h
        split at h
        · unfold mxret at h
          (repeat' split at h) <;> cases h
        · cases h
      | .areturn, hd, hln, h =>
        unfold mxSem at h
        dsimp only at h
        split at h
        · unfold mxret at h
          (repeat' split at h) <;> cases h
        · cases h
      | .return_, hd, hln, h =>
        unfold mxSem at h
        dsimp only at h
        split at h
        · unfold mxret at h
          (repeat' split at h) <;> cases h
        · cases h
      | _, _, _, h => cases h
    · cases h
