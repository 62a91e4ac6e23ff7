/-! ===== the counts only grow ===== -/
def mxup (σ : mxS) (q : mxN) : Prop := σ.2.1 ≤ q.2.2.2.2.1 ∧ σ.2.2 ≤ q.2.2.2.2.2
def mxon (σ : mxS) (z : mxAct) : Prop := ∃ q, z = .inl q ∧ mxup σ q
theorem up_go {pc : Nat} {loc : mxL} {st : List Value} {σ : mxS} {z : mxAct} (h : mxgo pc loc st σ = some z) : mxon σ z := by
  cases h; exact ⟨_, rfl, Nat.le_refl _, Nat.le_refl _⟩
theorem up_wr {pc a : Nat} {e : mxC} {loc : mxL} {st : List Value} {σ : mxS} {z : mxAct} (h : mxgo pc loc st (mxWr σ a e) = some z) : mxon σ z := by
  cases h; exact ⟨_, rfl, Nat.le_refl _, Nat.le_refl _⟩
theorem up_al {pc k : Nat} {e : mxC} {loc : mxL} {st : List Value} {σ : mxS} {z : mxAct} (h : mxgo pc loc st (mxAl σ e k) = some z) : mxon σ z := by
  cases h; exact ⟨_, rfl, Nat.le_add_right _ _, Nat.le_add_right _ _⟩
theorem up_mxldI (pc : Nat) (loc : mxL) (st : List Value) (σ : mxS) (o0 : Option Value) {z : mxAct} (h : mxldI pc loc st σ o0 = some z) : mxon σ z := by
  unfold mxldI at h
  (repeat' split at h) <;> first | (cases h; done) | exact up_go h | exact up_wr h | exact up_al h
theorem up_mxldJ (pc : Nat) (loc : mxL) (st : List Value) (σ : mxS) (o0 : Option Value) {z : mxAct} (h : mxldJ pc loc st σ o0 = some z) : mxon σ z := by
  unfold mxldJ at h
  (repeat' split at h) <;> first | (cases h; done) | exact up_go h | exact up_wr h | exact up_al h | exact up_mxldI _ _ _ _ _ h
theorem up_mxldD (pc : Nat) (loc : mxL) (st : List Value) (σ : mxS) (o0 : Option Value) {z : mxAct} (h : mxldD pc loc st σ o0 = some z) : mxon σ z := by
  unfold mxldD at h
  (repeat' split at h) <;> first | (cases h; done) | exact up_go h | exact up_wr h | exact up_al h | exact up_mxldJ _ _ _ _ _ h | exact up_mxldI _ _ _ _ _ h
theorem up_mxldA (pc : Nat) (loc : mxL) (st : List Value) (σ : mxS) (o0 : Option Value) {z : mxAct} (h : mxldA pc loc st σ o0 = some z) : mxon σ z := by
  unfold mxldA at h
  (repeat' split at h) <;> first | (cases h; done) | exact up_go h | exact up_wr h | exact up_al h | exact up_mxldD _ _ _ _ _ h | exact up_mxldJ _ _ _ _ _ h | exact up_mxldI _ _ _ _ _ h
theorem up_mxstI (k pc : Nat) (loc : mxL) (st : List Value) (σ : mxS) {z : mxAct} (h : mxstI k pc loc st σ = some z) : mxon σ z := by
  unfold mxstI at h
  (repeat' split at h) <;> first | (cases h; done) | exact up_go h | exact up_wr h | exact up_al h | exact up_mxldA _ _ _ _ _ h | exact up_mxldD _ _ _ _ _ h | exact up_mxldJ _ _ _ _ _ h | exact up_mxldI _ _ _ _ _ h
theorem up_mxstJ (k pc : Nat) (loc : mxL) (st : List Value) (σ : mxS) {z : mxAct} (h : mxstJ k pc loc st σ = some z) : mxon σ z := by
  unfold mxstJ at h
  (repeat' split at h) <;> first | (cases h; done) | exact up_go h | exact up_wr h | exact up_al h | exact up_mxstI _ _ _ _ _ h | exact up_mxldA _ _ _ _ _ h | exact up_mxldD _ _ _ _ _ h | exact up_mxldJ _ _ _ _ _ h | exact up_mxldI _ _ _ _ _ h
theorem up_mxstD (k pc : Nat) (loc : mxL) (st : List Value) (σ : mxS) {z : mxAct} (h : mxstD k pc loc st σ = some z) : mxon σ z := by
  unfold mxstD at h
  (repeat' split at h) <;> first | (cases h; done) | exact up_go h | exact up_wr h | exact up_al h | exact up_mxstJ _ _ _ _ _ h | exact up_mxstI _ _ _ _ _ h | exact up_mxldA _ _ _ _ _ h | exact up_mxldD _ _ _ _ _ h | exact up_mxldJ _ _ _ _ _ h | exact up_mxldI _ _ _ _ _ h
theorem up_mxstA (k pc : Nat) (loc : mxL) (st : List Value) (σ : mxS) {z : mxAct} (h : mxstA k pc loc st σ = some z) : mxon σ z := by
  unfold mxstA at h
  (repeat' split at h) <;> first | (cases h; done) | exact up_go h | exact up_wr h | exact up_al h | exact up_mxstD _ _ _ _ _ h | exact up_mxstJ _ _ _ _ _ h | exact up_mxstI _ _ _ _ _ h | exact up_mxldA _ _ _ _ _ h | exact up_mxldD _ _ _ _ _ h | exact up_mxldJ _ _ _ _ _ h | exact up_mxldI _ _ _ _ _ h
theorem up_mxinc (k : Nat) (n : Int) (pc : Nat) (loc : mxL) (st : List Value) (σ : mxS) (o0 : Option Value) {z : mxAct} (h : mxinc k n pc loc st σ o0 = some z) : mxon σ z := by
  unfold mxinc at h
  (repeat' split at h) <;> first | (cases h; done) | exact up_go h | exact up_wr h | exact up_al h | exact up_mxstA _ _ _ _ _ h | exact up_mxstD _ _ _ _ _ h | exact up_mxstJ _ _ _ _ _ h | exact up_mxstI _ _ _ _ _ h | exact up_mxldA _ _ _ _ _ h | exact up_mxldD _ _ _ _ _ h | exact up_mxldJ _ _ _ _ _ h | exact up_mxldI _ _ _ _ _ h
theorem up_mxI2 (f : Int32 → Int32 → Int32) (pc : Nat) (loc : mxL) (st : List Value) (σ : mxS) {z : mxAct} (h : mxI2 f pc loc st σ = some z) : mxon σ z := by
  unfold mxI2 at h
  (repeat' split at h) <;> first | (cases h; done) | exact up_go h | exact up_wr h | exact up_al h | exact up_mxinc _ _ _ _ _ _ _ h | exact up_mxstA _ _ _ _ _ h | exact up_mxstD _ _ _ _ _ h | exact up_mxstJ _ _ _ _ _ h | exact up_mxstI _ _ _ _ _ h | exact up_mxldA _ _ _ _ _ h | exact up_mxldD _ _ _ _ _ h | exact up_mxldJ _ _ _ _ _ h | exact up_mxldI _ _ _ _ _ h
theorem up_mxI2z (f : Int32 → Int32 → Int32) (pc : Nat) (loc : mxL) (st : List Value) (σ : mxS) {z : mxAct} (h : mxI2z f pc loc st σ = some z) : mxon σ z := by
  unfold mxI2z at h
  (repeat' split at h) <;> first | (cases h; done) | exact up_go h | exact up_wr h | exact up_al h | exact up_mxI2 _ _ _ _ _ h | exact up_mxinc _ _ _ _ _ _ _ h | exact up_mxstA _ _ _ _ _ h | exact up_mxstD _ _ _ _ _ h | exact up_mxstJ _ _ _ _ _ h | exact up_mxstI _ _ _ _ _ h | exact up_mxldA _ _ _ _ _ h | exact up_mxldD _ _ _ _ _ h | exact up_mxldJ _ _ _ _ _ h | exact up_mxldI _ _ _ _ _ h
theorem up_mxI1 (f : Int32 → Int32) (pc : Nat) (loc : mxL) (st : List Value) (σ : mxS) {z : mxAct} (h : mxI1 f pc loc st σ = some z) : mxon σ z := by
  unfold mxI1 at h
  (repeat' split at h) <;> first | (cases h; done) | exact up_go h | exact up_wr h | exact up_al h | exact up_mxI2z _ _ _ _ _ h | exact up_mxI2 _ _ _ _ _ h | exact up_mxinc _ _ _ _ _ _ _ h | exact up_mxstA _ _ _ _ _ h | exact up_mxstD _ _ _ _ _ h | exact up_mxstJ _ _ _ _ _ h | exact up_mxstI _ _ _ _ _ h | exact up_mxldA _ _ _ _ _ h | exact up_mxldD _ _ _ _ _ h | exact up_mxldJ _ _ _ _ _ h | exact up_mxldI _ _ _ _ _ h
theorem up_mxI2J (pc : Nat) (loc : mxL) (st : List Value) (σ : mxS) {z : mxAct} (h : mxI2J pc loc st σ = some z) : mxon σ z := by
  unfold mxI2J at h
  (repeat' split at h) <;> first | (cases h; done) | exact up_go h | exact up_wr h | exact up_al h | exact up_mxI1 _ _ _ _ _ h | exact up_mxI2z _ _ _ _ _ h | exact up_mxI2 _ _ _ _ _ h | exact up_mxinc _ _ _ _ _ _ _ h | exact up_mxstA _ _ _ _ _ h | exact up_mxstD _ _ _ _ _ h | exact up_mxstJ _ _ _ _ _ h | exact up_mxstI _ _ _ _ _ h | exact up_mxldA _ _ _ _ _ h | exact up_mxldD _ _ _ _ _ h | exact up_mxldJ _ _ _ _ _ h | exact up_mxldI _ _ _ _ _ h
theorem up_mxJ2I (pc : Nat) (loc : mxL) (st : List Value) (σ : mxS) {z : mxAct} (h : mxJ2I pc loc st σ = some z) : mxon σ z := by
  unfold mxJ2I at h
  (repeat' split at h) <;> first | (cases h; done) | exact up_go h | exact up_wr h | exact up_al h | exact up_mxI2J _ _ _ _ h | exact up_mxI1 _ _ _ _ _ h | exact up_mxI2z _ _ _ _ _ h | exact up_mxI2 _ _ _ _ _ h | exact up_mxinc _ _ _ _ _ _ _ h | exact up_mxstA _ _ _ _ _ h | exact up_mxstD _ _ _ _ _ h | exact up_mxstJ _ _ _ _ _ h | exact up_mxstI _ _ _ _ _ h | exact up_mxldA _ _ _ _ _ h | exact up_mxldD _ _ _ _ _ h | exact up_mxldJ _ _ _ _ _ h | exact up_mxldI _ _ _ _ _ h
theorem up_mxI2D (pc : Nat) (loc : mxL) (st : List Value) (σ : mxS) {z : mxAct} (h : mxI2D pc loc st σ = some z) : mxon σ z := by
  unfold mxI2D at h
  (repeat' split at h) <;> first | (cases h; done) | exact up_go h | exact up_wr h | exact up_al h | exact up_mxJ2I _ _ _ _ h | exact up_mxI2J _ _ _ _ h | exact up_mxI1 _ _ _ _ _ h | exact up_mxI2z _ _ _ _ _ h | exact up_mxI2 _ _ _ _ _ h | exact up_mxinc _ _ _ _ _ _ _ h | exact up_mxstA _ _ _ _ _ h | exact up_mxstD _ _ _ _ _ h | exact up_mxstJ _ _ _ _ _ h | exact up_mxstI _ _ _ _ _ h | exact up_mxldA _ _ _ _ _ h | exact up_mxldD _ _ _ _ _ h | exact up_mxldJ _ _ _ _ _ h | exact up_mxldI _ _ _ _ _ h
theorem up_mxJ2 (f : Int64 → Int64 → Int64) (pc : Nat) (loc : mxL) (st : List Value) (σ : mxS) {z : mxAct} (h : mxJ2 f pc loc st σ = some z) : mxon σ z := by
  unfold mxJ2 at h
  (repeat' split at h) <;> first | (cases h; done) | exact up_go h | exact up_wr h | exact up_al h | exact up_mxI2D _ _ _ _ h | exact up_mxJ2I _ _ _ _ h | exact up_mxI2J _ _ _ _ h | exact up_mxI1 _ _ _ _ _ h | exact up_mxI2z _ _ _ _ _ h | exact up_mxI2 _ _ _ _ _ h | exact up_mxinc _ _ _ _ _ _ _ h | exact up_mxstA _ _ _ _ _ h | exact up_mxstD _ _ _ _ _ h | exact up_mxstJ _ _ _ _ _ h | exact up_mxstI _ _ _ _ _ h | exact up_mxldA _ _ _ _ _ h | exact up_mxldD _ _ _ _ _ h | exact up_mxldJ _ _ _ _ _ h | exact up_mxldI _ _ _ _ _ h
theorem up_mxlcmp (pc : Nat) (loc : mxL) (st : List Value) (σ : mxS) {z : mxAct} (h : mxlcmp pc loc st σ = some z) : mxon σ z := by
  unfold mxlcmp at h
  (repeat' split at h) <;> first | (cases h; done) | exact up_go h | exact up_wr h | exact up_al h | exact up_mxJ2 _ _ _ _ _ h | exact up_mxI2D _ _ _ _ h | exact up_mxJ2I _ _ _ _ h | exact up_mxI2J _ _ _ _ h | exact up_mxI1 _ _ _ _ _ h | exact up_mxI2z _ _ _ _ _ h | exact up_mxI2 _ _ _ _ _ h | exact up_mxinc _ _ _ _ _ _ _ h | exact up_mxstA _ _ _ _ _ h | exact up_mxstD _ _ _ _ _ h | exact up_mxstJ _ _ _ _ _ h | exact up_mxstI _ _ _ _ _ h | exact up_mxldA _ _ _ _ _ h | exact up_mxldD _ _ _ _ _ h | exact up_mxldJ _ _ _ _ _ h | exact up_mxldI _ _ _ _ _ h
theorem up_mxdcmp (op : CmpOp) (pc : Nat) (loc : mxL) (st : List Value) (σ : mxS) {z : mxAct} (h : mxdcmp op pc loc st σ = some z) : mxon σ z := by
  unfold mxdcmp at h
  (repeat' split at h) <;> first | (cases h; done) | exact up_go h | exact up_wr h | exact up_al h | exact up_mxlcmp _ _ _ _ h | exact up_mxJ2 _ _ _ _ _ h | exact up_mxI2D _ _ _ _ h | exact up_mxJ2I _ _ _ _ h | exact up_mxI2J _ _ _ _ h | exact up_mxI1 _ _ _ _ _ h | exact up_mxI2z _ _ _ _ _ h | exact up_mxI2 _ _ _ _ _ h | exact up_mxinc _ _ _ _ _ _ _ h | exact up_mxstA _ _ _ _ _ h | exact up_mxstD _ _ _ _ _ h | exact up_mxstJ _ _ _ _ _ h | exact up_mxstI _ _ _ _ _ h | exact up_mxldA _ _ _ _ _ h | exact up_mxldD _ _ _ _ _ h | exact up_mxldJ _ _ _ _ _ h | exact up_mxldI _ _ _ _ _ h
theorem up_mxddiv (pc : Nat) (loc : mxL) (st : List Value) (σ : mxS) {z : mxAct} (h : mxddiv pc loc st σ = some z) : mxon σ z := by
  unfold mxddiv at h
  (repeat' split at h) <;> first | (cases h; done) | exact up_go h | exact up_wr h | exact up_al h | exact up_mxdcmp _ _ _ _ _ h | exact up_mxlcmp _ _ _ _ h | exact up_mxJ2 _ _ _ _ _ h | exact up_mxI2D _ _ _ _ h | exact up_mxJ2I _ _ _ _ h | exact up_mxI2J _ _ _ _ h | exact up_mxI1 _ _ _ _ _ h | exact up_mxI2z _ _ _ _ _ h | exact up_mxI2 _ _ _ _ _ h | exact up_mxinc _ _ _ _ _ _ _ h | exact up_mxstA _ _ _ _ _ h | exact up_mxstD _ _ _ _ _ h | exact up_mxstJ _ _ _ _ _ h | exact up_mxstI _ _ _ _ _ h | exact up_mxldA _ _ _ _ _ h | exact up_mxldD _ _ _ _ _ h | exact up_mxldJ _ _ _ _ _ h | exact up_mxldI _ _ _ _ _ h
theorem up_mxif_eq (tgt pc : Nat) (loc : mxL) (st : List Value) (σ : mxS) {z : mxAct} (h : mxif_eq tgt pc loc st σ = some z) : mxon σ z := by
  unfold mxif_eq at h
  (repeat' split at h) <;> first | (cases h; done) | exact up_go h | exact up_wr h | exact up_al h | exact up_mxddiv _ _ _ _ h | exact up_mxdcmp _ _ _ _ _ h | exact up_mxlcmp _ _ _ _ h | exact up_mxJ2 _ _ _ _ _ h | exact up_mxI2D _ _ _ _ h | exact up_mxJ2I _ _ _ _ h | exact up_mxI2J _ _ _ _ h | exact up_mxI1 _ _ _ _ _ h | exact up_mxI2z _ _ _ _ _ h | exact up_mxI2 _ _ _ _ _ h | exact up_mxinc _ _ _ _ _ _ _ h | exact up_mxstA _ _ _ _ _ h | exact up_mxstD _ _ _ _ _ h | exact up_mxstJ _ _ _ _ _ h | exact up_mxstI _ _ _ _ _ h | exact up_mxldA _ _ _ _ _ h | exact up_mxldD _ _ _ _ _ h | exact up_mxldJ _ _ _ _ _ h | exact up_mxldI _ _ _ _ _ h
theorem up_mxic_eq (tgt pc : Nat) (loc : mxL) (st : List Value) (σ : mxS) {z : mxAct} (h : mxic_eq tgt pc loc st σ = some z) : mxon σ z := by
  unfold mxic_eq at h
  (repeat' split at h) <;> first | (cases h; done) | exact up_go h | exact up_wr h | exact up_al h | exact up_mxif_eq _ _ _ _ _ h | exact up_mxddiv _ _ _ _ h | exact up_mxdcmp _ _ _ _ _ h | exact up_mxlcmp _ _ _ _ h | exact up_mxJ2 _ _ _ _ _ h | exact up_mxI2D _ _ _ _ h | exact up_mxJ2I _ _ _ _ h | exact up_mxI2J _ _ _ _ h | exact up_mxI1 _ _ _ _ _ h | exact up_mxI2z _ _ _ _ _ h | exact up_mxI2 _ _ _ _ _ h | exact up_mxinc _ _ _ _ _ _ _ h | exact up_mxstA _ _ _ _ _ h | exact up_mxstD _ _ _ _ _ h | exact up_mxstJ _ _ _ _ _ h | exact up_mxstI _ _ _ _ _ h | exact up_mxldA _ _ _ _ _ h | exact up_mxldD _ _ _ _ _ h | exact up_mxldJ _ _ _ _ _ h | exact up_mxldI _ _ _ _ _ h
theorem up_mxif_ne (tgt pc : Nat) (loc : mxL) (st : List Value) (σ : mxS) {z : mxAct} (h : mxif_ne tgt pc loc st σ = some z) : mxon σ z := by
  unfold mxif_ne at h
  (repeat' split at h) <;> first | (cases h; done) | exact up_go h | exact up_wr h | exact up_al h | exact up_mxic_eq _ _ _ _ _ h | exact up_mxif_eq _ _ _ _ _ h | exact up_mxddiv _ _ _ _ h | exact up_mxdcmp _ _ _ _ _ h | exact up_mxlcmp _ _ _ _ h | exact up_mxJ2 _ _ _ _ _ h | exact up_mxI2D _ _ _ _ h | exact up_mxJ2I _ _ _ _ h | exact up_mxI2J _ _ _ _ h | exact up_mxI1 _ _ _ _ _ h | exact up_mxI2z _ _ _ _ _ h | exact up_mxI2 _ _ _ _ _ h | exact up_mxinc _ _ _ _ _ _ _ h | exact up_mxstA _ _ _ _ _ h | exact up_mxstD _ _ _ _ _ h | exact up_mxstJ _ _ _ _ _ h | exact up_mxstI _ _ _ _ _ h | exact up_mxldA _ _ _ _ _ h | exact up_mxldD _ _ _ _ _ h | exact up_mxldJ _ _ _ _ _ h | exact up_mxldI _ _ _ _ _ h
theorem up_mxic_ne (tgt pc : Nat) (loc : mxL) (st : List Value) (σ : mxS) {z : mxAct} (h : mxic_ne tgt pc loc st σ = some z) : mxon σ z := by
  unfold mxic_ne at h
  (repeat' split at h) <;> first | (cases h; done) | exact up_go h | exact up_wr h | exact up_al h | exact up_mxif_ne _ _ _ _ _ h | exact up_mxic_eq _ _ _ _ _ h | exact up_mxif_eq _ _ _ _ _ h | exact up_mxddiv _ _ _ _ h | exact up_mxdcmp _ _ _ _ _ h | exact up_mxlcmp _ _ _ _ h | exact up_mxJ2 _ _ _ _ _ h | exact up_mxI2D _ _ _ _ h | exact up_mxJ2I _ _ _ _ h | exact up_mxI2J _ _ _ _ h | exact up_mxI1 _ _ _ _ _ h | exact up_mxI2z _ _ _ _ _ h | exact up_mxI2 _ _ _ _ _ h | exact up_mxinc _ _ _ _ _ _ _ h | exact up_mxstA _ _ _ _ _ h | exact up_mxstD _ _ _ _ _ h | exact up_mxstJ _ _ _ _ _ h | exact up_mxstI _ _ _ _ _ h | exact up_mxldA _ _ _ _ _ h | exact up_mxldD _ _ _ _ _ h | exact up_mxldJ _ _ _ _ _ h | exact up_mxldI _ _ _ _ _ h
theorem up_mxif_lt (tgt pc : Nat) (loc : mxL) (st : List Value) (σ : mxS) {z : mxAct} (h : mxif_lt tgt pc loc st σ = some z) : mxon σ z := by
  unfold mxif_lt at h
  (repeat' split at h) <;> first | (cases h; done) | exact up_go h | exact up_wr h | exact up_al h | exact up_mxic_ne _ _ _ _ _ h | exact up_mxif_ne _ _ _ _ _ h | exact up_mxic_eq _ _ _ _ _ h | exact up_mxif_eq _ _ _ _ _ h | exact up_mxddiv _ _ _ _ h | exact up_mxdcmp _ _ _ _ _ h | exact up_mxlcmp _ _ _ _ h | exact up_mxJ2 _ _ _ _ _ h | exact up_mxI2D _ _ _ _ h | exact up_mxJ2I _ _ _ _ h | exact up_mxI2J _ _ _ _ h | exact up_mxI1 _ _ _ _ _ h | exact up_mxI2z _ _ _ _ _ h | exact up_mxI2 _ _ _ _ _ h | exact up_mxinc _ _ _ _ _ _ _ h | exact up_mxstA _ _ _ _ _ h | exact up_mxstD _ _ _ _ _ h | exact up_mxstJ _ _ _ _ _ h | exact up_mxstI _ _ _ _ _ h | exact up_mxldA _ _ _ _ _ h | exact up_mxldD _ _ _ _ _ h | exact up_mxldJ _ _ _ _ _ h | exact up_mxldI _ _ _ _ _ h
theorem up_mxic_lt (tgt pc : Nat) (loc : mxL) (st : List Value) (σ : mxS) {z : mxAct} (h : mxic_lt tgt pc loc st σ = some z) : mxon σ z := by
  unfold mxic_lt at h
  (repeat' split at h) <;> first | (cases h; done) | exact up_go h | exact up_wr h | exact up_al h | exact up_mxif_lt _ _ _ _ _ h | exact up_mxic_ne _ _ _ _ _ h | exact up_mxif_ne _ _ _ _ _ h | exact up_mxic_eq _ _ _ _ _ h | exact up_mxif_eq _ _ _ _ _ h | exact up_mxddiv _ _ _ _ h | exact up_mxdcmp _ _ _ _ _ h | exact up_mxlcmp _ _ _ _ h | exact up_mxJ2 _ _ _ _ _ h | exact up_mxI2D _ _ _ _ h | exact up_mxJ2I _ _ _ _ h | exact up_mxI2J _ _ _ _ h | exact up_mxI1 _ _ _ _ _ h | exact up_mxI2z _ _ _ _ _ h | exact up_mxI2 _ _ _ _ _ h | exact up_mxinc _ _ _ _ _ _ _ h | exact up_mxstA _ _ _ _ _ h | exact up_mxstD _ _ _ _ _ h | exact up_mxstJ _ _ _ _ _ h | exact up_mxstI _ _ _ _ _ h | exact up_mxldA _ _ _ _ _ h | exact up_mxldD _ _ _ _ _ h | exact up_mxldJ _ _ _ _ _ h | exact up_mxldI _ _ _ _ _ h
theorem up_mxif_ge (tgt pc : Nat) (loc : mxL) (st : List Value) (σ : mxS) {z : mxAct} (h : mxif_ge tgt pc loc st σ = some z) : mxon σ z := by
  unfold mxif_ge at h
  (repeat' split at h) <;> first | (cases h; done) | exact up_go h | exact up_wr h | exact up_al h | exact up_mxic_lt _ _ _ _ _ h | exact up_mxif_lt _ _ _ _ _ h | exact up_mxic_ne _ _ _ _ _ h | exact up_mxif_ne _ _ _ _ _ h | exact up_mxic_eq _ _ _ _ _ h | exact up_mxif_eq _ _ _ _ _ h | exact up_mxddiv _ _ _ _ h | exact up_mxdcmp _ _ _ _ _ h | exact up_mxlcmp _ _ _ _ h | exact up_mxJ2 _ _ _ _ _ h | exact up_mxI2D _ _ _ _ h | exact up_mxJ2I _ _ _ _ h | exact up_mxI2J _ _ _ _ h | exact up_mxI1 _ _ _ _ _ h | exact up_mxI2z _ _ _ _ _ h | exact up_mxI2 _ _ _ _ _ h | exact up_mxinc _ _ _ _ _ _ _ h | exact up_mxstA _ _ _ _ _ h | exact up_mxstD _ _ _ _ _ h | exact up_mxstJ _ _ _ _ _ h | exact up_mxstI _ _ _ _ _ h | exact up_mxldA _ _ _ _ _ h | exact up_mxldD _ _ _ _ _ h | exact up_mxldJ _ _ _ _ _ h | exact up_mxldI _ _ _ _ _ h
theorem up_mxic_ge (tgt pc : Nat) (loc : mxL) (st : List Value) (σ : mxS) {z : mxAct} (h : mxic_ge tgt pc loc st σ = some z) : mxon σ z := by
  unfold mxic_ge at h
  (repeat' split at h) <;> first | (cases h; done) | exact up_go h | exact up_wr h | exact up_al h | exact up_mxif_ge _ _ _ _ _ h | exact up_mxic_lt _ _ _ _ _ h | exact up_mxif_lt _ _ _ _ _ h | exact up_mxic_ne _ _ _ _ _ h | exact up_mxif_ne _ _ _ _ _ h | exact up_mxic_eq _ _ _ _ _ h | exact up_mxif_eq _ _ _ _ _ h | exact up_mxddiv _ _ _ _ h | exact up_mxdcmp _ _ _ _ _ h | exact up_mxlcmp _ _ _ _ h | exact up_mxJ2 _ _ _ _ _ h | exact up_mxI2D _ _ _ _ h | exact up_mxJ2I _ _ _ _ h | exact up_mxI2J _ _ _ _ h | exact up_mxI1 _ _ _ _ _ h | exact up_mxI2z _ _ _ _ _ h | exact up_mxI2 _ _ _ _ _ h | exact up_mxinc _ _ _ _ _ _ _ h | exact up_mxstA _ _ _ _ _ h | exact up_mxstD _ _ _ _ _ h | exact up_mxstJ _ _ _ _ _ h | exact up_mxstI _ _ _ _ _ h | exact up_mxldA _ _ _ _ _ h | exact up_mxldD _ _ _ _ _ h | exact up_mxldJ _ _ _ _ _ h | exact up_mxldI _ _ _ _ _ h
theorem up_mxif_gt (tgt pc : Nat) (loc : mxL) (st : List Value) (σ : mxS) {z : mxAct} (h : mxif_gt tgt pc loc st σ = some z) : mxon σ z := by
  unfold mxif_gt at h
  (repeat' split at h) <;> first | (cases h; done) | exact up_go h | exact up_wr h | exact up_al h | exact up_mxic_ge _ _ _ _ _ h | exact up_mxif_ge _ _ _ _ _ h | exact up_mxic_lt _ _ _ _ _ h | exact up_mxif_lt _ _ _ _ _ h | exact up_mxic_ne _ _ _ _ _ h | exact up_mxif_ne _ _ _ _ _ h | exact up_mxic_eq _ _ _ _ _ h | exact up_mxif_eq _ _ _ _ _ h | exact up_mxddiv _ _ _ _ h | exact up_mxdcmp _ _ _ _ _ h | exact up_mxlcmp _ _ _ _ h | exact up_mxJ2 _ _ _ _ _ h | exact up_mxI2D _ _ _ _ h | exact up_mxJ2I _ _ _ _ h | exact up_mxI2J _ _ _ _ h | exact up_mxI1 _ _ _ _ _ h | exact up_mxI2z _ _ _ _ _ h | exact up_mxI2 _ _ _ _ _ h | exact up_mxinc _ _ _ _ _ _ _ h | exact up_mxstA _ _ _ _ _ h | exact up_mxstD _ _ _ _ _ h | exact up_mxstJ _ _ _ _ _ h | exact up_mxstI _ _ _ _ _ h | exact up_mxldA _ _ _ _ _ h | exact up_mxldD _ _ _ _ _ h | exact up_mxldJ _ _ _ _ _ h | exact up_mxldI _ _ _ _ _ h
theorem up_mxic_gt (tgt pc : Nat) (loc : mxL) (st : List Value) (σ : mxS) {z : mxAct} (h : mxic_gt tgt pc loc st σ = some z) : mxon σ z := by
  unfold mxic_gt at h
  (repeat' split at h) <;> first | (cases h; done) | exact up_go h | exact up_wr h | exact up_al h | exact up_mxif_gt _ _ _ _ _ h | exact up_mxic_ge _ _ _ _ _ h | exact up_mxif_ge _ _ _ _ _ h | exact up_mxic_lt _ _ _ _ _ h | exact up_mxif_lt _ _ _ _ _ h | exact up_mxic_ne _ _ _ _ _ h | exact up_mxif_ne _ _ _ _ _ h | exact up_mxic_eq _ _ _ _ _ h | exact up_mxif_eq _ _ _ _ _ h | exact up_mxddiv _ _ _ _ h | exact up_mxdcmp _ _ _ _ _ h | exact up_mxlcmp _ _ _ _ h | exact up_mxJ2 _ _ _ _ _ h | exact up_mxI2D _ _ _ _ h | exact up_mxJ2I _ _ _ _ h | exact up_mxI2J _ _ _ _ h | exact up_mxI1 _ _ _ _ _ h | exact up_mxI2z _ _ _ _ _ h | exact up_mxI2 _ _ _ _ _ h | exact up_mxinc _ _ _ _ _ _ _ h | exact up_mxstA _ _ _ _ _ h | exact up_mxstD _ _ _ _ _ h | exact up_mxstJ _ _ _ _ _ h | exact up_mxstI _ _ _ _ _ h | exact up_mxldA _ _ _ _ _ h | exact up_mxldD _ _ _ _ _ h | exact up_mxldJ _ _ _ _ _ h | exact up_mxldI _ _ _ _ _ h
theorem up_mxif_le (tgt pc : Nat) (loc : mxL) (st : List Value) (σ : mxS) {z : mxAct} (h : mxif_le tgt pc loc st σ = some z) : mxon σ z := by
  unfold mxif_le at h
  (repeat' split at h) <;> first | (cases h; done) | exact up_go h | exact up_wr h | exact up_al h | exact up_mxic_gt _ _ _ _ _ h | exact up_mxif_gt _ _ _ _ _ h | exact up_mxic_ge _ _ _ _ _ h | exact up_mxif_ge _ _ _ _ _ h | exact up_mxic_lt _ _ _ _ _ h | exact up_mxif_lt _ _ _ _ _ h | exact up_mxic_ne _ _ _ _ _ h | exact up_mxif_ne _ _ _ _ _ h | exact up_mxic_eq _ _ _ _ _ h | exact up_mxif_eq _ _ _ _ _ h | exact up_mxddiv _ _ _ _ h | exact up_mxdcmp _ _ _ _ _ h | exact up_mxlcmp _ _ _ _ h | exact up_mxJ2 _ _ _ _ _ h | exact up_mxI2D _ _ _ _ h | exact up_mxJ2I _ _ _ _ h | exact up_mxI2J _ _ _ _ h | exact up_mxI1 _ _ _ _ _ h | exact up_mxI2z _ _ _ _ _ h | exact up_mxI2 _ _ _ _ _ h | exact up_mxinc _ _ _ _ _ _ _ h | exact up_mxstA _ _ _ _ _ h | exact up_mxstD _ _ _ _ _ h | exact up_mxstJ _ _ _ _ _ h | exact up_mxstI _ _ _ _ _ h | exact up_mxldA _ _ _ _ _ h | exact up_mxldD _ _ _ _ _ h | exact up_mxldJ _ _ _ _ _ h | exact up_mxldI _ _ _ _ _ h
theorem up_mxic_le (tgt pc : Nat) (loc : mxL) (st : List Value) (σ : mxS) {z : mxAct} (h : mxic_le tgt pc loc st σ = some z) : mxon σ z := by
  unfold mxic_le at h
  (repeat' split at h) <;> first | (cases h; done) | exact up_go h | exact up_wr h | exact up_al h | exact up_mxif_le _ _ _ _ _ h | exact up_mxic_gt _ _ _ _ _ h | exact up_mxif_gt _ _ _ _ _ h | exact up_mxic_ge _ _ _ _ _ h | exact up_mxif_ge _ _ _ _ _ h | exact up_mxic_lt _ _ _ _ _ h | exact up_mxif_lt _ _ _ _ _ h | exact up_mxic_ne _ _ _ _ _ h | exact up_mxif_ne _ _ _ _ _ h | exact up_mxic_eq _ _ _ _ _ h | exact up_mxif_eq _ _ _ _ _ h | exact up_mxddiv _ _ _ _ h | exact up_mxdcmp _ _ _ _ _ h | exact up_mxlcmp _ _ _ _ h | exact up_mxJ2 _ _ _ _ _ h | exact up_mxI2D _ _ _ _ h | exact up_mxJ2I _ _ _ _ h | exact up_mxI2J _ _ _ _ h | exact up_mxI1 _ _ _ _ _ h | exact up_mxI2z _ _ _ _ _ h | exact up_mxI2 _ _ _ _ _ h | exact up_mxinc _ _ _ _ _ _ _ h | exact up_mxstA _ _ _ _ _ h | exact up_mxstD _ _ _ _ _ h | exact up_mxstJ _ _ _ _ _ h | exact up_mxstI _ _ _ _ _ h | exact up_mxldA _ _ _ _ _ h | exact up_mxldD _ _ _ _ _ h | exact up_mxldJ _ _ _ _ _ h | exact up_mxldI _ _ _ _ _ h
theorem up_mxca2 (w : Bool) (tgt pc : Nat) (loc : mxL) (r : List Value) (σ : mxS) (o0 : Option (Option Nat)) (o1 : Option (Option Nat)) {z : mxAct} (h : mxca2 w tgt pc loc r σ o0 o1 = some z) : mxon σ z := by
  unfold mxca2 at h
  (repeat' split at h) <;> first | (cases h; done) | exact up_go h | exact up_wr h | exact up_al h | exact up_mxic_le _ _ _ _ _ h | exact up_mxif_le _ _ _ _ _ h | exact up_mxic_gt _ _ _ _ _ h | exact up_mxif_gt _ _ _ _ _ h | exact up_mxic_ge _ _ _ _ _ h | exact up_mxif_ge _ _ _ _ _ h | exact up_mxic_lt _ _ _ _ _ h | exact up_mxif_lt _ _ _ _ _ h | exact up_mxic_ne _ _ _ _ _ h | exact up_mxif_ne _ _ _ _ _ h | exact up_mxic_eq _ _ _ _ _ h | exact up_mxif_eq _ _ _ _ _ h | exact up_mxddiv _ _ _ _ h | exact up_mxdcmp _ _ _ _ _ h | exact up_mxlcmp _ _ _ _ h | exact up_mxJ2 _ _ _ _ _ h | exact up_mxI2D _ _ _ _ h | exact up_mxJ2I _ _ _ _ h | exact up_mxI2J _ _ _ _ h | exact up_mxI1 _ _ _ _ _ h | exact up_mxI2z _ _ _ _ _ h | exact up_mxI2 _ _ _ _ _ h | exact up_mxinc _ _ _ _ _ _ _ h | exact up_mxstA _ _ _ _ _ h | exact up_mxstD _ _ _ _ _ h | exact up_mxstJ _ _ _ _ _ h | exact up_mxstI _ _ _ _ _ h | exact up_mxldA _ _ _ _ _ h | exact up_mxldD _ _ _ _ _ h | exact up_mxldJ _ _ _ _ _ h | exact up_mxldI _ _ _ _ _ h
theorem up_mxca (w : Bool) (tgt pc : Nat) (loc : mxL) (st : List Value) (σ : mxS) {z : mxAct} (h : mxca w tgt pc loc st σ = some z) : mxon σ z := by
  unfold mxca at h
  (repeat' split at h) <;> first | (cases h; done) | exact up_go h | exact up_wr h | exact up_al h | exact up_mxca2 _ _ _ _ _ _ _ _ h | exact up_mxic_le _ _ _ _ _ h | exact up_mxif_le _ _ _ _ _ h | exact up_mxic_gt _ _ _ _ _ h | exact up_mxif_gt _ _ _ _ _ h | exact up_mxic_ge _ _ _ _ _ h | exact up_mxif_ge _ _ _ _ _ h | exact up_mxic_lt _ _ _ _ _ h | exact up_mxif_lt _ _ _ _ _ h | exact up_mxic_ne _ _ _ _ _ h | exact up_mxif_ne _ _ _ _ _ h | exact up_mxic_eq _ _ _ _ _ h | exact up_mxif_eq _ _ _ _ _ h | exact up_mxddiv _ _ _ _ h | exact up_mxdcmp _ _ _ _ _ h | exact up_mxlcmp _ _ _ _ h | exact up_mxJ2 _ _ _ _ _ h | exact up_mxI2D _ _ _ _ h | exact up_mxJ2I _ _ _ _ h | exact up_mxI2J _ _ _ _ h | exact up_mxI1 _ _ _ _ _ h | exact up_mxI2z _ _ _ _ _ h | exact up_mxI2 _ _ _ _ _ h | exact up_mxinc _ _ _ _ _ _ _ h | exact up_mxstA _ _ _ _ _ h | exact up_mxstD _ _ _ _ _ h | exact up_mxstJ _ _ _ _ _ h | exact up_mxstI _ _ _ _ _ h | exact up_mxldA _ _ _ _ _ h | exact up_mxldD _ _ _ _ _ h | exact up_mxldJ _ _ _ _ _ h | exact up_mxldI _ _ _ _ _ h
theorem up_mxsw (ps : List (Int × Nat)) (d : Nat) (loc : mxL) (st : List Value) (σ : mxS) {z : mxAct} (h : mxsw ps d loc st σ = some z) : mxon σ z := by
  unfold mxsw at h
  (repeat' split at h) <;> first | (cases h; done) | exact up_go h | exact up_wr h | exact up_al h | exact up_mxca _ _ _ _ _ _ h | exact up_mxca2 _ _ _ _ _ _ _ _ h | exact up_mxic_le _ _ _ _ _ h | exact up_mxif_le _ _ _ _ _ h | exact up_mxic_gt _ _ _ _ _ h | exact up_mxif_gt _ _ _ _ _ h | exact up_mxic_ge _ _ _ _ _ h | exact up_mxif_ge _ _ _ _ _ h | exact up_mxic_lt _ _ _ _ _ h | exact up_mxif_lt _ _ _ _ _ h | exact up_mxic_ne _ _ _ _ _ h | exact up_mxif_ne _ _ _ _ _ h | exact up_mxic_eq _ _ _ _ _ h | exact up_mxif_eq _ _ _ _ _ h | exact up_mxddiv _ _ _ _ h | exact up_mxdcmp _ _ _ _ _ h | exact up_mxlcmp _ _ _ _ h | exact up_mxJ2 _ _ _ _ _ h | exact up_mxI2D _ _ _ _ h | exact up_mxJ2I _ _ _ _ h | exact up_mxI2J _ _ _ _ h | exact up_mxI1 _ _ _ _ _ h | exact up_mxI2z _ _ _ _ _ h | exact up_mxI2 _ _ _ _ _ h | exact up_mxinc _ _ _ _ _ _ _ h | exact up_mxstA _ _ _ _ _ h | exact up_mxstD _ _ _ _ _ h | exact up_mxstJ _ _ _ _ _ h | exact up_mxstI _ _ _ _ _ h | exact up_mxldA _ _ _ _ _ h | exact up_mxldD _ _ _ _ _ h | exact up_mxldJ _ _ _ _ _ h | exact up_mxldI _ _ _ _ _ h
theorem up_mxdup (pc : Nat) (loc : mxL) (st : List Value) (σ : mxS) {z : mxAct} (h : mxdup pc loc st σ = some z) : mxon σ z := by
  unfold mxdup at h
  (repeat' split at h) <;> first | (cases h; done) | exact up_go h | exact up_wr h | exact up_al h | exact up_mxsw _ _ _ _ _ h | exact up_mxca _ _ _ _ _ _ h | exact up_mxca2 _ _ _ _ _ _ _ _ h | exact up_mxic_le _ _ _ _ _ h | exact up_mxif_le _ _ _ _ _ h | exact up_mxic_gt _ _ _ _ _ h | exact up_mxif_gt _ _ _ _ _ h | exact up_mxic_ge _ _ _ _ _ h | exact up_mxif_ge _ _ _ _ _ h | exact up_mxic_lt _ _ _ _ _ h | exact up_mxif_lt _ _ _ _ _ h | exact up_mxic_ne _ _ _ _ _ h | exact up_mxif_ne _ _ _ _ _ h | exact up_mxic_eq _ _ _ _ _ h | exact up_mxif_eq _ _ _ _ _ h | exact up_mxddiv _ _ _ _ h | exact up_mxdcmp _ _ _ _ _ h | exact up_mxlcmp _ _ _ _ h | exact up_mxJ2 _ _ _ _ _ h | exact up_mxI2D _ _ _ _ h | exact up_mxJ2I _ _ _ _ h | exact up_mxI2J _ _ _ _ h | exact up_mxI1 _ _ _ _ _ h | exact up_mxI2z _ _ _ _ _ h | exact up_mxI2 _ _ _ _ _ h | exact up_mxinc _ _ _ _ _ _ _ h | exact up_mxstA _ _ _ _ _ h | exact up_mxstD _ _ _ _ _ h | exact up_mxstJ _ _ _ _ _ h | exact up_mxstI _ _ _ _ _ h | exact up_mxldA _ _ _ _ _ h | exact up_mxldD _ _ _ _ _ h | exact up_mxldJ _ _ _ _ _ h | exact up_mxldI _ _ _ _ _ h
theorem up_mxdup2 (pc : Nat) (loc : mxL) (st : List Value) (σ : mxS) {z : mxAct} (h : mxdup2 pc loc st σ = some z) : mxon σ z := by
  unfold mxdup2 at h
  (repeat' split at h) <;> first | (cases h; done) | exact up_go h | exact up_wr h | exact up_al h | exact up_mxdup _ _ _ _ h | exact up_mxsw _ _ _ _ _ h | exact up_mxca _ _ _ _ _ _ h | exact up_mxca2 _ _ _ _ _ _ _ _ h | exact up_mxic_le _ _ _ _ _ h | exact up_mxif_le _ _ _ _ _ h | exact up_mxic_gt _ _ _ _ _ h | exact up_mxif_gt _ _ _ _ _ h | exact up_mxic_ge _ _ _ _ _ h | exact up_mxif_ge _ _ _ _ _ h | exact up_mxic_lt _ _ _ _ _ h | exact up_mxif_lt _ _ _ _ _ h | exact up_mxic_ne _ _ _ _ _ h | exact up_mxif_ne _ _ _ _ _ h | exact up_mxic_eq _ _ _ _ _ h | exact up_mxif_eq _ _ _ _ _ h | exact up_mxddiv _ _ _ _ h | exact up_mxdcmp _ _ _ _ _ h | exact up_mxlcmp _ _ _ _ h | exact up_mxJ2 _ _ _ _ _ h | exact up_mxI2D _ _ _ _ h | exact up_mxJ2I _ _ _ _ h | exact up_mxI2J _ _ _ _ h | exact up_mxI1 _ _ _ _ _ h | exact up_mxI2z _ _ _ _ _ h | exact up_mxI2 _ _ _ _ _ h | exact up_mxinc _ _ _ _ _ _ _ h | exact up_mxstA _ _ _ _ _ h | exact up_mxstD _ _ _ _ _ h | exact up_mxstJ _ _ _ _ _ h | exact up_mxstI _ _ _ _ _ h | exact up_mxldA _ _ _ _ _ h | exact up_mxldD _ _ _ _ _ h | exact up_mxldJ _ _ _ _ _ h | exact up_mxldI _ _ _ _ _ h
theorem up_mxpop (pc : Nat) (loc : mxL) (st : List Value) (σ : mxS) {z : mxAct} (h : mxpop pc loc st σ = some z) : mxon σ z := by
  unfold mxpop at h
  (repeat' split at h) <;> first | (cases h; done) | exact up_go h | exact up_wr h | exact up_al h | exact up_mxdup2 _ _ _ _ h | exact up_mxdup _ _ _ _ h | exact up_mxsw _ _ _ _ _ h | exact up_mxca _ _ _ _ _ _ h | exact up_mxca2 _ _ _ _ _ _ _ _ h | exact up_mxic_le _ _ _ _ _ h | exact up_mxif_le _ _ _ _ _ h | exact up_mxic_gt _ _ _ _ _ h | exact up_mxif_gt _ _ _ _ _ h | exact up_mxic_ge _ _ _ _ _ h | exact up_mxif_ge _ _ _ _ _ h | exact up_mxic_lt _ _ _ _ _ h | exact up_mxif_lt _ _ _ _ _ h | exact up_mxic_ne _ _ _ _ _ h | exact up_mxif_ne _ _ _ _ _ h | exact up_mxic_eq _ _ _ _ _ h | exact up_mxif_eq _ _ _ _ _ h | exact up_mxddiv _ _ _ _ h | exact up_mxdcmp _ _ _ _ _ h | exact up_mxlcmp _ _ _ _ h | exact up_mxJ2 _ _ _ _ _ h | exact up_mxI2D _ _ _ _ h | exact up_mxJ2I _ _ _ _ h | exact up_mxI2J _ _ _ _ h | exact up_mxI1 _ _ _ _ _ h | exact up_mxI2z _ _ _ _ _ h | exact up_mxI2 _ _ _ _ _ h | exact up_mxinc _ _ _ _ _ _ _ h | exact up_mxstA _ _ _ _ _ h | exact up_mxstD _ _ _ _ _ h | exact up_mxstJ _ _ _ _ _ h | exact up_mxstI _ _ _ _ _ h | exact up_mxldA _ _ _ _ _ h | exact up_mxldD _ _ _ _ _ h | exact up_mxldJ _ _ _ _ _ h | exact up_mxldI _ _ _ _ _ h
theorem up_mxgf3 (pc : Nat) (loc : mxL) (r : List Value) (σ : mxS) (o0 : Option Value) {z : mxAct} (h : mxgf3 pc loc r σ o0 = some z) : mxon σ z := by
  unfold mxgf3 at h
  (repeat' split at h) <;> first | (cases h; done) | exact up_go h | exact up_wr h | exact up_al h | exact up_mxpop _ _ _ _ h | exact up_mxdup2 _ _ _ _ h | exact up_mxdup _ _ _ _ h | exact up_mxsw _ _ _ _ _ h | exact up_mxca _ _ _ _ _ _ h | exact up_mxca2 _ _ _ _ _ _ _ _ h | exact up_mxic_le _ _ _ _ _ h | exact up_mxif_le _ _ _ _ _ h | exact up_mxic_gt _ _ _ _ _ h | exact up_mxif_gt _ _ _ _ _ h | exact up_mxic_ge _ _ _ _ _ h | exact up_mxif_ge _ _ _ _ _ h | exact up_mxic_lt _ _ _ _ _ h | exact up_mxif_lt _ _ _ _ _ h | exact up_mxic_ne _ _ _ _ _ h | exact up_mxif_ne _ _ _ _ _ h | exact up_mxic_eq _ _ _ _ _ h | exact up_mxif_eq _ _ _ _ _ h | exact up_mxddiv _ _ _ _ h | exact up_mxdcmp _ _ _ _ _ h | exact up_mxlcmp _ _ _ _ h | exact up_mxJ2 _ _ _ _ _ h | exact up_mxI2D _ _ _ _ h | exact up_mxJ2I _ _ _ _ h | exact up_mxI2J _ _ _ _ h | exact up_mxI1 _ _ _ _ _ h | exact up_mxI2z _ _ _ _ _ h | exact up_mxI2 _ _ _ _ _ h | exact up_mxinc _ _ _ _ _ _ _ h | exact up_mxstA _ _ _ _ _ h | exact up_mxstD _ _ _ _ _ h | exact up_mxstJ _ _ _ _ _ h | exact up_mxstI _ _ _ _ _ h | exact up_mxldA _ _ _ _ _ h | exact up_mxldD _ _ _ _ _ h | exact up_mxldJ _ _ _ _ _ h | exact up_mxldI _ _ _ _ _ h
theorem up_mxgf2 (ci k pc : Nat) (loc : mxL) (r : List Value) (σ : mxS) (o0 : mxC) {z : mxAct} (h : mxgf2 ci k pc loc r σ o0 = some z) : mxon σ z := by
  unfold mxgf2 at h
  (repeat' split at h) <;> first | (cases h; done) | exact up_go h | exact up_wr h | exact up_al h | exact up_mxgf3 _ _ _ _ _ h | exact up_mxpop _ _ _ _ h | exact up_mxdup2 _ _ _ _ h | exact up_mxdup _ _ _ _ h | exact up_mxsw _ _ _ _ _ h | exact up_mxca _ _ _ _ _ _ h | exact up_mxca2 _ _ _ _ _ _ _ _ h | exact up_mxic_le _ _ _ _ _ h | exact up_mxif_le _ _ _ _ _ h | exact up_mxic_gt _ _ _ _ _ h | exact up_mxif_gt _ _ _ _ _ h | exact up_mxic_ge _ _ _ _ _ h | exact up_mxif_ge _ _ _ _ _ h | exact up_mxic_lt _ _ _ _ _ h | exact up_mxif_lt _ _ _ _ _ h | exact up_mxic_ne _ _ _ _ _ h | exact up_mxif_ne _ _ _ _ _ h | exact up_mxic_eq _ _ _ _ _ h | exact up_mxif_eq _ _ _ _ _ h | exact up_mxddiv _ _ _ _ h | exact up_mxdcmp _ _ _ _ _ h | exact up_mxlcmp _ _ _ _ h | exact up_mxJ2 _ _ _ _ _ h | exact up_mxI2D _ _ _ _ h | exact up_mxJ2I _ _ _ _ h | exact up_mxI2J _ _ _ _ h | exact up_mxI1 _ _ _ _ _ h | exact up_mxI2z _ _ _ _ _ h | exact up_mxI2 _ _ _ _ _ h | exact up_mxinc _ _ _ _ _ _ _ h | exact up_mxstA _ _ _ _ _ h | exact up_mxstD _ _ _ _ _ h | exact up_mxstJ _ _ _ _ _ h | exact up_mxstI _ _ _ _ _ h | exact up_mxldA _ _ _ _ _ h | exact up_mxldD _ _ _ _ _ h | exact up_mxldJ _ _ _ _ _ h | exact up_mxldI _ _ _ _ _ h
theorem up_mxgf (ci k pc : Nat) (loc : mxL) (st : List Value) (σ : mxS) {z : mxAct} (h : mxgf ci k pc loc st σ = some z) : mxon σ z := by
  unfold mxgf at h
  (repeat' split at h) <;> first | (cases h; done) | exact up_go h | exact up_wr h | exact up_al h | exact up_mxgf2 _ _ _ _ _ _ _ h | exact up_mxgf3 _ _ _ _ _ h | exact up_mxpop _ _ _ _ h | exact up_mxdup2 _ _ _ _ h | exact up_mxdup _ _ _ _ h | exact up_mxsw _ _ _ _ _ h | exact up_mxca _ _ _ _ _ _ h | exact up_mxca2 _ _ _ _ _ _ _ _ h | exact up_mxic_le _ _ _ _ _ h | exact up_mxif_le _ _ _ _ _ h | exact up_mxic_gt _ _ _ _ _ h | exact up_mxif_gt _ _ _ _ _ h | exact up_mxic_ge _ _ _ _ _ h | exact up_mxif_ge _ _ _ _ _ h | exact up_mxic_lt _ _ _ _ _ h | exact up_mxif_lt _ _ _ _ _ h | exact up_mxic_ne _ _ _ _ _ h | exact up_mxif_ne _ _ _ _ _ h | exact up_mxic_eq _ _ _ _ _ h | exact up_mxif_eq _ _ _ _ _ h | exact up_mxddiv _ _ _ _ h | exact up_mxdcmp _ _ _ _ _ h | exact up_mxlcmp _ _ _ _ h | exact up_mxJ2 _ _ _ _ _ h | exact up_mxI2D _ _ _ _ h | exact up_mxJ2I _ _ _ _ h | exact up_mxI2J _ _ _ _ h | exact up_mxI1 _ _ _ _ _ h | exact up_mxI2z _ _ _ _ _ h | exact up_mxI2 _ _ _ _ _ h | exact up_mxinc _ _ _ _ _ _ _ h | exact up_mxstA _ _ _ _ _ h | exact up_mxstD _ _ _ _ _ h | exact up_mxstJ _ _ _ _ _ h | exact up_mxstI _ _ _ _ _ h | exact up_mxldA _ _ _ _ _ h | exact up_mxldD _ _ _ _ _ h | exact up_mxldJ _ _ _ _ _ h | exact up_mxldI _ _ _ _ _ h
theorem up_mxpf2 (ci k pc : Nat) (loc : mxL) (v : Value) (a : Nat) (r : List Value) (σ : mxS) (o0 : mxC) {z : mxAct} (h : mxpf2 ci k pc loc v a r σ o0 = some z) : mxon σ z := by
  unfold mxpf2 at h
  (repeat' split at h) <;> first | (cases h; done) | exact up_go h | exact up_wr h | exact up_al h | exact up_mxgf _ _ _ _ _ _ h | exact up_mxgf2 _ _ _ _ _ _ _ h | exact up_mxgf3 _ _ _ _ _ h | exact up_mxpop _ _ _ _ h | exact up_mxdup2 _ _ _ _ h | exact up_mxdup _ _ _ _ h | exact up_mxsw _ _ _ _ _ h | exact up_mxca _ _ _ _ _ _ h | exact up_mxca2 _ _ _ _ _ _ _ _ h | exact up_mxic_le _ _ _ _ _ h | exact up_mxif_le _ _ _ _ _ h | exact up_mxic_gt _ _ _ _ _ h | exact up_mxif_gt _ _ _ _ _ h | exact up_mxic_ge _ _ _ _ _ h | exact up_mxif_ge _ _ _ _ _ h | exact up_mxic_lt _ _ _ _ _ h | exact up_mxif_lt _ _ _ _ _ h | exact up_mxic_ne _ _ _ _ _ h | exact up_mxif_ne _ _ _ _ _ h | exact up_mxic_eq _ _ _ _ _ h | exact up_mxif_eq _ _ _ _ _ h | exact up_mxddiv _ _ _ _ h | exact up_mxdcmp _ _ _ _ _ h | exact up_mxlcmp _ _ _ _ h | exact up_mxJ2 _ _ _ _ _ h | exact up_mxI2D _ _ _ _ h | exact up_mxJ2I _ _ _ _ h | exact up_mxI2J _ _ _ _ h | exact up_mxI1 _ _ _ _ _ h | exact up_mxI2z _ _ _ _ _ h | exact up_mxI2 _ _ _ _ _ h | exact up_mxinc _ _ _ _ _ _ _ h | exact up_mxstA _ _ _ _ _ h | exact up_mxstD _ _ _ _ _ h | exact up_mxstJ _ _ _ _ _ h | exact up_mxstI _ _ _ _ _ h | exact up_mxldA _ _ _ _ _ h | exact up_mxldD _ _ _ _ _ h | exact up_mxldJ _ _ _ _ _ h | exact up_mxldI _ _ _ _ _ h
theorem up_mxpf (ci k knd pc : Nat) (loc : mxL) (st : List Value) (σ : mxS) {z : mxAct} (h : mxpf ci k knd pc loc st σ = some z) : mxon σ z := by
  unfold mxpf at h
  (repeat' split at h) <;> first | (cases h; done) | exact up_go h | exact up_wr h | exact up_al h | exact up_mxpf2 _ _ _ _ _ _ _ _ _ h | exact up_mxgf _ _ _ _ _ _ h | exact up_mxgf2 _ _ _ _ _ _ _ h | exact up_mxgf3 _ _ _ _ _ h | exact up_mxpop _ _ _ _ h | exact up_mxdup2 _ _ _ _ h | exact up_mxdup _ _ _ _ h | exact up_mxsw _ _ _ _ _ h | exact up_mxca _ _ _ _ _ _ h | exact up_mxca2 _ _ _ _ _ _ _ _ h | exact up_mxic_le _ _ _ _ _ h | exact up_mxif_le _ _ _ _ _ h | exact up_mxic_gt _ _ _ _ _ h | exact up_mxif_gt _ _ _ _ _ h | exact up_mxic_ge _ _ _ _ _ h | exact up_mxif_ge _ _ _ _ _ h | exact up_mxic_lt _ _ _ _ _ h | exact up_mxif_lt _ _ _ _ _ h | exact up_mxic_ne _ _ _ _ _ h | exact up_mxif_ne _ _ _ _ _ h | exact up_mxic_eq _ _ _ _ _ h | exact up_mxif_eq _ _ _ _ _ h | exact up_mxddiv _ _ _ _ h | exact up_mxdcmp _ _ _ _ _ h | exact up_mxlcmp _ _ _ _ h | exact up_mxJ2 _ _ _ _ _ h | exact up_mxI2D _ _ _ _ h | exact up_mxJ2I _ _ _ _ h | exact up_mxI2J _ _ _ _ h | exact up_mxI1 _ _ _ _ _ h | exact up_mxI2z _ _ _ _ _ h | exact up_mxI2 _ _ _ _ _ h | exact up_mxinc _ _ _ _ _ _ _ h | exact up_mxstA _ _ _ _ _ h | exact up_mxstD _ _ _ _ _ h | exact up_mxstJ _ _ _ _ _ h | exact up_mxstI _ _ _ _ _ h | exact up_mxldA _ _ _ _ _ h | exact up_mxldD _ _ _ _ _ h | exact up_mxldJ _ _ _ _ _ h | exact up_mxldI _ _ _ _ _ h
theorem up_mxlen2 (pc : Nat) (loc : mxL) (r : List Value) (σ : mxS) (o0 : mxC) {z : mxAct} (h : mxlen2 pc loc r σ o0 = some z) : mxon σ z := by
  unfold mxlen2 at h
  (repeat' split at h) <;> first | (cases h; done) | exact up_go h | exact up_wr h | exact up_al h | exact up_mxpf _ _ _ _ _ _ _ h | exact up_mxpf2 _ _ _ _ _ _ _ _ _ h | exact up_mxgf _ _ _ _ _ _ h | exact up_mxgf2 _ _ _ _ _ _ _ h | exact up_mxgf3 _ _ _ _ _ h | exact up_mxpop _ _ _ _ h | exact up_mxdup2 _ _ _ _ h | exact up_mxdup _ _ _ _ h | exact up_mxsw _ _ _ _ _ h | exact up_mxca _ _ _ _ _ _ h | exact up_mxca2 _ _ _ _ _ _ _ _ h | exact up_mxic_le _ _ _ _ _ h | exact up_mxif_le _ _ _ _ _ h | exact up_mxic_gt _ _ _ _ _ h | exact up_mxif_gt _ _ _ _ _ h | exact up_mxic_ge _ _ _ _ _ h | exact up_mxif_ge _ _ _ _ _ h | exact up_mxic_lt _ _ _ _ _ h | exact up_mxif_lt _ _ _ _ _ h | exact up_mxic_ne _ _ _ _ _ h | exact up_mxif_ne _ _ _ _ _ h | exact up_mxic_eq _ _ _ _ _ h | exact up_mxif_eq _ _ _ _ _ h | exact up_mxddiv _ _ _ _ h | exact up_mxdcmp _ _ _ _ _ h | exact up_mxlcmp _ _ _ _ h | exact up_mxJ2 _ _ _ _ _ h | exact up_mxI2D _ _ _ _ h | exact up_mxJ2I _ _ _ _ h | exact up_mxI2J _ _ _ _ h | exact up_mxI1 _ _ _ _ _ h | exact up_mxI2z _ _ _ _ _ h | exact up_mxI2 _ _ _ _ _ h | exact up_mxinc _ _ _ _ _ _ _ h | exact up_mxstA _ _ _ _ _ h | exact up_mxstD _ _ _ _ _ h | exact up_mxstJ _ _ _ _ _ h | exact up_mxstI _ _ _ _ _ h | exact up_mxldA _ _ _ _ _ h | exact up_mxldD _ _ _ _ _ h | exact up_mxldJ _ _ _ _ _ h | exact up_mxldI _ _ _ _ _ h
theorem up_mxlen (pc : Nat) (loc : mxL) (st : List Value) (σ : mxS) {z : mxAct} (h : mxlen pc loc st σ = some z) : mxon σ z := by
  unfold mxlen at h
  (repeat' split at h) <;> first | (cases h; done) | exact up_go h | exact up_wr h | exact up_al h | exact up_mxlen2 _ _ _ _ _ h | exact up_mxpf _ _ _ _ _ _ _ h | exact up_mxpf2 _ _ _ _ _ _ _ _ _ h | exact up_mxgf _ _ _ _ _ _ h | exact up_mxgf2 _ _ _ _ _ _ _ h | exact up_mxgf3 _ _ _ _ _ h | exact up_mxpop _ _ _ _ h | exact up_mxdup2 _ _ _ _ h | exact up_mxdup _ _ _ _ h | exact up_mxsw _ _ _ _ _ h | exact up_mxca _ _ _ _ _ _ h | exact up_mxca2 _ _ _ _ _ _ _ _ h | exact up_mxic_le _ _ _ _ _ h | exact up_mxif_le _ _ _ _ _ h | exact up_mxic_gt _ _ _ _ _ h | exact up_mxif_gt _ _ _ _ _ h | exact up_mxic_ge _ _ _ _ _ h | exact up_mxif_ge _ _ _ _ _ h | exact up_mxic_lt _ _ _ _ _ h | exact up_mxif_lt _ _ _ _ _ h | exact up_mxic_ne _ _ _ _ _ h | exact up_mxif_ne _ _ _ _ _ h | exact up_mxic_eq _ _ _ _ _ h | exact up_mxif_eq _ _ _ _ _ h | exact up_mxddiv _ _ _ _ h | exact up_mxdcmp _ _ _ _ _ h | exact up_mxlcmp _ _ _ _ h | exact up_mxJ2 _ _ _ _ _ h | exact up_mxI2D _ _ _ _ h | exact up_mxJ2I _ _ _ _ h | exact up_mxI2J _ _ _ _ h | exact up_mxI1 _ _ _ _ _ h | exact up_mxI2z _ _ _ _ _ h | exact up_mxI2 _ _ _ _ _ h | exact up_mxinc _ _ _ _ _ _ _ h | exact up_mxstA _ _ _ _ _ h | exact up_mxstD _ _ _ _ _ h | exact up_mxstJ _ _ _ _ _ h | exact up_mxstI _ _ _ _ _ h | exact up_mxldA _ _ _ _ _ h | exact up_mxldD _ _ _ _ _ h | exact up_mxldJ _ _ _ _ _ h | exact up_mxldI _ _ _ _ _ h
theorem up_mxal3 (pc : Nat) (loc : mxL) (r : List Value) (σ : mxS) (f : Nat → Int32) (o0 : Option Nat) {z : mxAct} (h : mxal3 pc loc r σ f o0 = some z) : mxon σ z := by
  unfold mxal3 at h
  (repeat' split at h) <;> first | (cases h; done) | exact up_go h | exact up_wr h | exact up_al h | exact up_mxlen _ _ _ _ h | exact up_mxlen2 _ _ _ _ _ h | exact up_mxpf _ _ _ _ _ _ _ h | exact up_mxpf2 _ _ _ _ _ _ _ _ _ h | exact up_mxgf _ _ _ _ _ _ h | exact up_mxgf2 _ _ _ _ _ _ _ h | exact up_mxgf3 _ _ _ _ _ h | exact up_mxpop _ _ _ _ h | exact up_mxdup2 _ _ _ _ h | exact up_mxdup _ _ _ _ h | exact up_mxsw _ _ _ _ _ h | exact up_mxca _ _ _ _ _ _ h | exact up_mxca2 _ _ _ _ _ _ _ _ h | exact up_mxic_le _ _ _ _ _ h | exact up_mxif_le _ _ _ _ _ h | exact up_mxic_gt _ _ _ _ _ h | exact up_mxif_gt _ _ _ _ _ h | exact up_mxic_ge _ _ _ _ _ h | exact up_mxif_ge _ _ _ _ _ h | exact up_mxic_lt _ _ _ _ _ h | exact up_mxif_lt _ _ _ _ _ h | exact up_mxic_ne _ _ _ _ _ h | exact up_mxif_ne _ _ _ _ _ h | exact up_mxic_eq _ _ _ _ _ h | exact up_mxif_eq _ _ _ _ _ h | exact up_mxddiv _ _ _ _ h | exact up_mxdcmp _ _ _ _ _ h | exact up_mxlcmp _ _ _ _ h | exact up_mxJ2 _ _ _ _ _ h | exact up_mxI2D _ _ _ _ h | exact up_mxJ2I _ _ _ _ h | exact up_mxI2J _ _ _ _ h | exact up_mxI1 _ _ _ _ _ h | exact up_mxI2z _ _ _ _ _ h | exact up_mxI2 _ _ _ _ _ h | exact up_mxinc _ _ _ _ _ _ _ h | exact up_mxstA _ _ _ _ _ h | exact up_mxstD _ _ _ _ _ h | exact up_mxstJ _ _ _ _ _ h | exact up_mxstI _ _ _ _ _ h | exact up_mxldA _ _ _ _ _ h | exact up_mxldD _ _ _ _ _ h | exact up_mxldJ _ _ _ _ _ h | exact up_mxldI _ _ _ _ _ h
theorem up_mxalJ3 (pc : Nat) (loc : mxL) (r : List Value) (σ : mxS) (f : Nat → Int64) (o0 : Option Nat) {z : mxAct} (h : mxalJ3 pc loc r σ f o0 = some z) : mxon σ z := by
  unfold mxalJ3 at h
  (repeat' split at h) <;> first | (cases h; done) | exact up_go h | exact up_wr h | exact up_al h | exact up_mxal3 _ _ _ _ _ _ h | exact up_mxlen _ _ _ _ h | exact up_mxlen2 _ _ _ _ _ h | exact up_mxpf _ _ _ _ _ _ _ h | exact up_mxpf2 _ _ _ _ _ _ _ _ _ h | exact up_mxgf _ _ _ _ _ _ h | exact up_mxgf2 _ _ _ _ _ _ _ h | exact up_mxgf3 _ _ _ _ _ h | exact up_mxpop _ _ _ _ h | exact up_mxdup2 _ _ _ _ h | exact up_mxdup _ _ _ _ h | exact up_mxsw _ _ _ _ _ h | exact up_mxca _ _ _ _ _ _ h | exact up_mxca2 _ _ _ _ _ _ _ _ h | exact up_mxic_le _ _ _ _ _ h | exact up_mxif_le _ _ _ _ _ h | exact up_mxic_gt _ _ _ _ _ h | exact up_mxif_gt _ _ _ _ _ h | exact up_mxic_ge _ _ _ _ _ h | exact up_mxif_ge _ _ _ _ _ h | exact up_mxic_lt _ _ _ _ _ h | exact up_mxif_lt _ _ _ _ _ h | exact up_mxic_ne _ _ _ _ _ h | exact up_mxif_ne _ _ _ _ _ h | exact up_mxic_eq _ _ _ _ _ h | exact up_mxif_eq _ _ _ _ _ h | exact up_mxddiv _ _ _ _ h | exact up_mxdcmp _ _ _ _ _ h | exact up_mxlcmp _ _ _ _ h | exact up_mxJ2 _ _ _ _ _ h | exact up_mxI2D _ _ _ _ h | exact up_mxJ2I _ _ _ _ h | exact up_mxI2J _ _ _ _ h | exact up_mxI1 _ _ _ _ _ h | exact up_mxI2z _ _ _ _ _ h | exact up_mxI2 _ _ _ _ _ h | exact up_mxinc _ _ _ _ _ _ _ h | exact up_mxstA _ _ _ _ _ h | exact up_mxstD _ _ _ _ _ h | exact up_mxstJ _ _ _ _ _ h | exact up_mxstI _ _ _ _ _ h | exact up_mxldA _ _ _ _ _ h | exact up_mxldD _ _ _ _ _ h | exact up_mxldJ _ _ _ _ _ h | exact up_mxldI _ _ _ _ _ h
theorem up_mxalA3 (pc : Nat) (loc : mxL) (r : List Value) (σ : mxS) (f : Nat → Option Nat) (o0 : Option Nat) {z : mxAct} (h : mxalA3 pc loc r σ f o0 = some z) : mxon σ z := by
  unfold mxalA3 at h
  (repeat' split at h) <;> first | (cases h; done) | exact up_go h | exact up_wr h | exact up_al h | exact up_mxalJ3 _ _ _ _ _ _ h | exact up_mxal3 _ _ _ _ _ _ h | exact up_mxlen _ _ _ _ h | exact up_mxlen2 _ _ _ _ _ h | exact up_mxpf _ _ _ _ _ _ _ h | exact up_mxpf2 _ _ _ _ _ _ _ _ _ h | exact up_mxgf _ _ _ _ _ _ h | exact up_mxgf2 _ _ _ _ _ _ _ h | exact up_mxgf3 _ _ _ _ _ h | exact up_mxpop _ _ _ _ h | exact up_mxdup2 _ _ _ _ h | exact up_mxdup _ _ _ _ h | exact up_mxsw _ _ _ _ _ h | exact up_mxca _ _ _ _ _ _ h | exact up_mxca2 _ _ _ _ _ _ _ _ h | exact up_mxic_le _ _ _ _ _ h | exact up_mxif_le _ _ _ _ _ h | exact up_mxic_gt _ _ _ _ _ h | exact up_mxif_gt _ _ _ _ _ h | exact up_mxic_ge _ _ _ _ _ h | exact up_mxif_ge _ _ _ _ _ h | exact up_mxic_lt _ _ _ _ _ h | exact up_mxif_lt _ _ _ _ _ h | exact up_mxic_ne _ _ _ _ _ h | exact up_mxif_ne _ _ _ _ _ h | exact up_mxic_eq _ _ _ _ _ h | exact up_mxif_eq _ _ _ _ _ h | exact up_mxddiv _ _ _ _ h | exact up_mxdcmp _ _ _ _ _ h | exact up_mxlcmp _ _ _ _ h | exact up_mxJ2 _ _ _ _ _ h | exact up_mxI2D _ _ _ _ h | exact up_mxJ2I _ _ _ _ h | exact up_mxI2J _ _ _ _ h | exact up_mxI1 _ _ _ _ _ h | exact up_mxI2z _ _ _ _ _ h | exact up_mxI2 _ _ _ _ _ h | exact up_mxinc _ _ _ _ _ _ _ h | exact up_mxstA _ _ _ _ _ h | exact up_mxstD _ _ _ _ _ h | exact up_mxstJ _ _ _ _ _ h | exact up_mxstI _ _ _ _ _ h | exact up_mxldA _ _ _ _ _ h | exact up_mxldD _ _ _ _ _ h | exact up_mxldJ _ _ _ _ _ h | exact up_mxldI _ _ _ _ _ h
theorem up_mxas3 (pc : Nat) (loc : mxL) (r : List Value) (σ : mxS) (a t n : Nat) (f : Nat → Int32) (x : Int32) (o0 : Option Nat) {z : mxAct} (h : mxas3 pc loc r σ a t n f x o0 = some z) : mxon σ z := by
  unfold mxas3 at h
  (repeat' split at h) <;> first | (cases h; done) | exact up_go h | exact up_wr h | exact up_al h | exact up_mxalA3 _ _ _ _ _ _ h | exact up_mxalJ3 _ _ _ _ _ _ h | exact up_mxal3 _ _ _ _ _ _ h | exact up_mxlen _ _ _ _ h | exact up_mxlen2 _ _ _ _ _ h | exact up_mxpf _ _ _ _ _ _ _ h | exact up_mxpf2 _ _ _ _ _ _ _ _ _ h | exact up_mxgf _ _ _ _ _ _ h | exact up_mxgf2 _ _ _ _ _ _ _ h | exact up_mxgf3 _ _ _ _ _ h | exact up_mxpop _ _ _ _ h | exact up_mxdup2 _ _ _ _ h | exact up_mxdup _ _ _ _ h | exact up_mxsw _ _ _ _ _ h | exact up_mxca _ _ _ _ _ _ h | exact up_mxca2 _ _ _ _ _ _ _ _ h | exact up_mxic_le _ _ _ _ _ h | exact up_mxif_le _ _ _ _ _ h | exact up_mxic_gt _ _ _ _ _ h | exact up_mxif_gt _ _ _ _ _ h | exact up_mxic_ge _ _ _ _ _ h | exact up_mxif_ge _ _ _ _ _ h | exact up_mxic_lt _ _ _ _ _ h | exact up_mxif_lt _ _ _ _ _ h | exact up_mxic_ne _ _ _ _ _ h | exact up_mxif_ne _ _ _ _ _ h | exact up_mxic_eq _ _ _ _ _ h | exact up_mxif_eq _ _ _ _ _ h | exact up_mxddiv _ _ _ _ h | exact up_mxdcmp _ _ _ _ _ h | exact up_mxlcmp _ _ _ _ h | exact up_mxJ2 _ _ _ _ _ h | exact up_mxI2D _ _ _ _ h | exact up_mxJ2I _ _ _ _ h | exact up_mxI2J _ _ _ _ h | exact up_mxI1 _ _ _ _ _ h | exact up_mxI2z _ _ _ _ _ h | exact up_mxI2 _ _ _ _ _ h | exact up_mxinc _ _ _ _ _ _ _ h | exact up_mxstA _ _ _ _ _ h | exact up_mxstD _ _ _ _ _ h | exact up_mxstJ _ _ _ _ _ h | exact up_mxstI _ _ _ _ _ h | exact up_mxldA _ _ _ _ _ h | exact up_mxldD _ _ _ _ _ h | exact up_mxldJ _ _ _ _ _ h | exact up_mxldI _ _ _ _ _ h
theorem up_mxasJ3 (pc : Nat) (loc : mxL) (r : List Value) (σ : mxS) (a t n : Nat) (f : Nat → Int64) (x : Int64) (o0 : Option Nat) {z : mxAct} (h : mxasJ3 pc loc r σ a t n f x o0 = some z) : mxon σ z := by
  unfold mxasJ3 at h
  (repeat' split at h) <;> first | (cases h; done) | exact up_go h | exact up_wr h | exact up_al h | exact up_mxas3 _ _ _ _ _ _ _ _ _ _ h | exact up_mxalA3 _ _ _ _ _ _ h | exact up_mxalJ3 _ _ _ _ _ _ h | exact up_mxal3 _ _ _ _ _ _ h | exact up_mxlen _ _ _ _ h | exact up_mxlen2 _ _ _ _ _ h | exact up_mxpf _ _ _ _ _ _ _ h | exact up_mxpf2 _ _ _ _ _ _ _ _ _ h | exact up_mxgf _ _ _ _ _ _ h | exact up_mxgf2 _ _ _ _ _ _ _ h | exact up_mxgf3 _ _ _ _ _ h | exact up_mxpop _ _ _ _ h | exact up_mxdup2 _ _ _ _ h | exact up_mxdup _ _ _ _ h | exact up_mxsw _ _ _ _ _ h | exact up_mxca _ _ _ _ _ _ h | exact up_mxca2 _ _ _ _ _ _ _ _ h | exact up_mxic_le _ _ _ _ _ h | exact up_mxif_le _ _ _ _ _ h | exact up_mxic_gt _ _ _ _ _ h | exact up_mxif_gt _ _ _ _ _ h | exact up_mxic_ge _ _ _ _ _ h | exact up_mxif_ge _ _ _ _ _ h | exact up_mxic_lt _ _ _ _ _ h | exact up_mxif_lt _ _ _ _ _ h | exact up_mxic_ne _ _ _ _ _ h | exact up_mxif_ne _ _ _ _ _ h | exact up_mxic_eq _ _ _ _ _ h | exact up_mxif_eq _ _ _ _ _ h | exact up_mxddiv _ _ _ _ h | exact up_mxdcmp _ _ _ _ _ h | exact up_mxlcmp _ _ _ _ h | exact up_mxJ2 _ _ _ _ _ h | exact up_mxI2D _ _ _ _ h | exact up_mxJ2I _ _ _ _ h | exact up_mxI2J _ _ _ _ h | exact up_mxI1 _ _ _ _ _ h | exact up_mxI2z _ _ _ _ _ h | exact up_mxI2 _ _ _ _ _ h | exact up_mxinc _ _ _ _ _ _ _ h | exact up_mxstA _ _ _ _ _ h | exact up_mxstD _ _ _ _ _ h | exact up_mxstJ _ _ _ _ _ h | exact up_mxstI _ _ _ _ _ h | exact up_mxldA _ _ _ _ _ h | exact up_mxldD _ _ _ _ _ h | exact up_mxldJ _ _ _ _ _ h | exact up_mxldI _ _ _ _ _ h
theorem up_mxasA3 (pc : Nat) (loc : mxL) (r : List Value) (σ : mxS) (a t n : Nat) (f : Nat → Option Nat) (v : Nat) (o0 : Option Nat) {z : mxAct} (h : mxasA3 pc loc r σ a t n f v o0 = some z) : mxon σ z := by
  unfold mxasA3 at h
  (repeat' split at h) <;> first | (cases h; done) | exact up_go h | exact up_wr h | exact up_al h | exact up_mxasJ3 _ _ _ _ _ _ _ _ _ _ h | exact up_mxas3 _ _ _ _ _ _ _ _ _ _ h | exact up_mxalA3 _ _ _ _ _ _ h | exact up_mxalJ3 _ _ _ _ _ _ h | exact up_mxal3 _ _ _ _ _ _ h | exact up_mxlen _ _ _ _ h | exact up_mxlen2 _ _ _ _ _ h | exact up_mxpf _ _ _ _ _ _ _ h | exact up_mxpf2 _ _ _ _ _ _ _ _ _ h | exact up_mxgf _ _ _ _ _ _ h | exact up_mxgf2 _ _ _ _ _ _ _ h | exact up_mxgf3 _ _ _ _ _ h | exact up_mxpop _ _ _ _ h | exact up_mxdup2 _ _ _ _ h | exact up_mxdup _ _ _ _ h | exact up_mxsw _ _ _ _ _ h | exact up_mxca _ _ _ _ _ _ h | exact up_mxca2 _ _ _ _ _ _ _ _ h | exact up_mxic_le _ _ _ _ _ h | exact up_mxif_le _ _ _ _ _ h | exact up_mxic_gt _ _ _ _ _ h | exact up_mxif_gt _ _ _ _ _ h | exact up_mxic_ge _ _ _ _ _ h | exact up_mxif_ge _ _ _ _ _ h | exact up_mxic_lt _ _ _ _ _ h | exact up_mxif_lt _ _ _ _ _ h | exact up_mxic_ne _ _ _ _ _ h | exact up_mxif_ne _ _ _ _ _ h | exact up_mxic_eq _ _ _ _ _ h | exact up_mxif_eq _ _ _ _ _ h | exact up_mxddiv _ _ _ _ h | exact up_mxdcmp _ _ _ _ _ h | exact up_mxlcmp _ _ _ _ h | exact up_mxJ2 _ _ _ _ _ h | exact up_mxI2D _ _ _ _ h | exact up_mxJ2I _ _ _ _ h | exact up_mxI2J _ _ _ _ h | exact up_mxI1 _ _ _ _ _ h | exact up_mxI2z _ _ _ _ _ h | exact up_mxI2 _ _ _ _ _ h | exact up_mxinc _ _ _ _ _ _ _ h | exact up_mxstA _ _ _ _ _ h | exact up_mxstD _ _ _ _ _ h | exact up_mxstJ _ _ _ _ _ h | exact up_mxstI _ _ _ _ _ h | exact up_mxldA _ _ _ _ _ h | exact up_mxldD _ _ _ _ _ h | exact up_mxldJ _ _ _ _ _ h | exact up_mxldI _ _ _ _ _ h
theorem up_mxal2 (ok : Nat → Bool) (pc : Nat) (loc : mxL) (i : Int32) (r : List Value) (σ : mxS) (o0 : mxC) {z : mxAct} (h : mxal2 ok pc loc i r σ o0 = some z) : mxon σ z := by
  unfold mxal2 at h
  (repeat' split at h) <;> first | (cases h; done) | exact up_go h | exact up_wr h | exact up_al h | exact up_mxasA3 _ _ _ _ _ _ _ _ _ _ h | exact up_mxasJ3 _ _ _ _ _ _ _ _ _ _ h | exact up_mxas3 _ _ _ _ _ _ _ _ _ _ h | exact up_mxalA3 _ _ _ _ _ _ h | exact up_mxalJ3 _ _ _ _ _ _ h | exact up_mxal3 _ _ _ _ _ _ h | exact up_mxlen _ _ _ _ h | exact up_mxlen2 _ _ _ _ _ h | exact up_mxpf _ _ _ _ _ _ _ h | exact up_mxpf2 _ _ _ _ _ _ _ _ _ h | exact up_mxgf _ _ _ _ _ _ h | exact up_mxgf2 _ _ _ _ _ _ _ h | exact up_mxgf3 _ _ _ _ _ h | exact up_mxpop _ _ _ _ h | exact up_mxdup2 _ _ _ _ h | exact up_mxdup _ _ _ _ h | exact up_mxsw _ _ _ _ _ h | exact up_mxca _ _ _ _ _ _ h | exact up_mxca2 _ _ _ _ _ _ _ _ h | exact up_mxic_le _ _ _ _ _ h | exact up_mxif_le _ _ _ _ _ h | exact up_mxic_gt _ _ _ _ _ h | exact up_mxif_gt _ _ _ _ _ h | exact up_mxic_ge _ _ _ _ _ h | exact up_mxif_ge _ _ _ _ _ h | exact up_mxic_lt _ _ _ _ _ h | exact up_mxif_lt _ _ _ _ _ h | exact up_mxic_ne _ _ _ _ _ h | exact up_mxif_ne _ _ _ _ _ h | exact up_mxic_eq _ _ _ _ _ h | exact up_mxif_eq _ _ _ _ _ h | exact up_mxddiv _ _ _ _ h | exact up_mxdcmp _ _ _ _ _ h | exact up_mxlcmp _ _ _ _ h | exact up_mxJ2 _ _ _ _ _ h | exact up_mxI2D _ _ _ _ h | exact up_mxJ2I _ _ _ _ h | exact up_mxI2J _ _ _ _ h | exact up_mxI1 _ _ _ _ _ h | exact up_mxI2z _ _ _ _ _ h | exact up_mxI2 _ _ _ _ _ h | exact up_mxinc _ _ _ _ _ _ _ h | exact up_mxstA _ _ _ _ _ h | exact up_mxstD _ _ _ _ _ h | exact up_mxstJ _ _ _ _ _ h | exact up_mxstI _ _ _ _ _ h | exact up_mxldA _ _ _ _ _ h | exact up_mxldD _ _ _ _ _ h | exact up_mxldJ _ _ _ _ _ h | exact up_mxldI _ _ _ _ _ h
theorem up_mxal (ok : Nat → Bool) (pc : Nat) (loc : mxL) (st : List Value) (σ : mxS) {z : mxAct} (h : mxal ok pc loc st σ = some z) : mxon σ z := by
  unfold mxal at h
  (repeat' split at h) <;> first | (cases h; done) | exact up_go h | exact up_wr h | exact up_al h | exact up_mxal2 _ _ _ _ _ _ _ h | exact up_mxasA3 _ _ _ _ _ _ _ _ _ _ h | exact up_mxasJ3 _ _ _ _ _ _ _ _ _ _ h | exact up_mxas3 _ _ _ _ _ _ _ _ _ _ h | exact up_mxalA3 _ _ _ _ _ _ h | exact up_mxalJ3 _ _ _ _ _ _ h | exact up_mxal3 _ _ _ _ _ _ h | exact up_mxlen _ _ _ _ h | exact up_mxlen2 _ _ _ _ _ h | exact up_mxpf _ _ _ _ _ _ _ h | exact up_mxpf2 _ _ _ _ _ _ _ _ _ h | exact up_mxgf _ _ _ _ _ _ h | exact up_mxgf2 _ _ _ _ _ _ _ h | exact up_mxgf3 _ _ _ _ _ h | exact up_mxpop _ _ _ _ h | exact up_mxdup2 _ _ _ _ h | exact up_mxdup _ _ _ _ h | exact up_mxsw _ _ _ _ _ h | exact up_mxca _ _ _ _ _ _ h | exact up_mxca2 _ _ _ _ _ _ _ _ h | exact up_mxic_le _ _ _ _ _ h | exact up_mxif_le _ _ _ _ _ h | exact up_mxic_gt _ _ _ _ _ h | exact up_mxif_gt _ _ _ _ _ h | exact up_mxic_ge _ _ _ _ _ h | exact up_mxif_ge _ _ _ _ _ h | exact up_mxic_lt _ _ _ _ _ h | exact up_mxif_lt _ _ _ _ _ h | exact up_mxic_ne _ _ _ _ _ h | exact up_mxif_ne _ _ _ _ _ h | exact up_mxic_eq _ _ _ _ _ h | exact up_mxif_eq _ _ _ _ _ h | exact up_mxddiv _ _ _ _ h | exact up_mxdcmp _ _ _ _ _ h | exact up_mxlcmp _ _ _ _ h | exact up_mxJ2 _ _ _ _ _ h | exact up_mxI2D _ _ _ _ h | exact up_mxJ2I _ _ _ _ h | exact up_mxI2J _ _ _ _ h | exact up_mxI1 _ _ _ _ _ h | exact up_mxI2z _ _ _ _ _ h | exact up_mxI2 _ _ _ _ _ h | exact up_mxinc _ _ _ _ _ _ _ h | exact up_mxstA _ _ _ _ _ h | exact up_mxstD _ _ _ _ _ h | exact up_mxstJ _ _ _ _ _ h | exact up_mxstI _ _ _ _ _ h | exact up_mxldA _ _ _ _ _ h | exact up_mxldD _ _ _ _ _ h | exact up_mxldJ _ _ _ _ _ h | exact up_mxldI _ _ _ _ _ h
theorem up_mxalJ2 (pc : Nat) (loc : mxL) (i : Int32) (r : List Value) (σ : mxS) (o0 : mxC) {z : mxAct} (h : mxalJ2 pc loc i r σ o0 = some z) : mxon σ z := by
  unfold mxalJ2 at h
  (repeat' split at h) <;> first | (cases h; done) | exact up_go h | exact up_wr h | exact up_al h | exact up_mxal _ _ _ _ _ h | exact up_mxal2 _ _ _ _ _ _ _ h | exact up_mxasA3 _ _ _ _ _ _ _ _ _ _ h | exact up_mxasJ3 _ _ _ _ _ _ _ _ _ _ h | exact up_mxas3 _ _ _ _ _ _ _ _ _ _ h | exact up_mxalA3 _ _ _ _ _ _ h | exact up_mxalJ3 _ _ _ _ _ _ h | exact up_mxal3 _ _ _ _ _ _ h | exact up_mxlen _ _ _ _ h | exact up_mxlen2 _ _ _ _ _ h | exact up_mxpf _ _ _ _ _ _ _ h | exact up_mxpf2 _ _ _ _ _ _ _ _ _ h | exact up_mxgf _ _ _ _ _ _ h | exact up_mxgf2 _ _ _ _ _ _ _ h | exact up_mxgf3 _ _ _ _ _ h | exact up_mxpop _ _ _ _ h | exact up_mxdup2 _ _ _ _ h | exact up_mxdup _ _ _ _ h | exact up_mxsw _ _ _ _ _ h | exact up_mxca _ _ _ _ _ _ h | exact up_mxca2 _ _ _ _ _ _ _ _ h | exact up_mxic_le _ _ _ _ _ h | exact up_mxif_le _ _ _ _ _ h | exact up_mxic_gt _ _ _ _ _ h | exact up_mxif_gt _ _ _ _ _ h | exact up_mxic_ge _ _ _ _ _ h | exact up_mxif_ge _ _ _ _ _ h | exact up_mxic_lt _ _ _ _ _ h | exact up_mxif_lt _ _ _ _ _ h | exact up_mxic_ne _ _ _ _ _ h | exact up_mxif_ne _ _ _ _ _ h | exact up_mxic_eq _ _ _ _ _ h | exact up_mxif_eq _ _ _ _ _ h | exact up_mxddiv _ _ _ _ h | exact up_mxdcmp _ _ _ _ _ h | exact up_mxlcmp _ _ _ _ h | exact up_mxJ2 _ _ _ _ _ h | exact up_mxI2D _ _ _ _ h | exact up_mxJ2I _ _ _ _ h | exact up_mxI2J _ _ _ _ h | exact up_mxI1 _ _ _ _ _ h | exact up_mxI2z _ _ _ _ _ h | exact up_mxI2 _ _ _ _ _ h | exact up_mxinc _ _ _ _ _ _ _ h | exact up_mxstA _ _ _ _ _ h | exact up_mxstD _ _ _ _ _ h | exact up_mxstJ _ _ _ _ _ h | exact up_mxstI _ _ _ _ _ h | exact up_mxldA _ _ _ _ _ h | exact up_mxldD _ _ _ _ _ h | exact up_mxldJ _ _ _ _ _ h | exact up_mxldI _ _ _ _ _ h
theorem up_mxalJ (pc : Nat) (loc : mxL) (st : List Value) (σ : mxS) {z : mxAct} (h : mxalJ pc loc st σ = some z) : mxon σ z := by
  unfold mxalJ at h
  (repeat' split at h) <;> first | (cases h; done) | exact up_go h | exact up_wr h | exact up_al h | exact up_mxalJ2 _ _ _ _ _ _ h | exact up_mxal _ _ _ _ _ h | exact up_mxal2 _ _ _ _ _ _ _ h | exact up_mxasA3 _ _ _ _ _ _ _ _ _ _ h | exact up_mxasJ3 _ _ _ _ _ _ _ _ _ _ h | exact up_mxas3 _ _ _ _ _ _ _ _ _ _ h | exact up_mxalA3 _ _ _ _ _ _ h | exact up_mxalJ3 _ _ _ _ _ _ h | exact up_mxal3 _ _ _ _ _ _ h | exact up_mxlen _ _ _ _ h | exact up_mxlen2 _ _ _ _ _ h | exact up_mxpf _ _ _ _ _ _ _ h | exact up_mxpf2 _ _ _ _ _ _ _ _ _ h | exact up_mxgf _ _ _ _ _ _ h | exact up_mxgf2 _ _ _ _ _ _ _ h | exact up_mxgf3 _ _ _ _ _ h | exact up_mxpop _ _ _ _ h | exact up_mxdup2 _ _ _ _ h | exact up_mxdup _ _ _ _ h | exact up_mxsw _ _ _ _ _ h | exact up_mxca _ _ _ _ _ _ h | exact up_mxca2 _ _ _ _ _ _ _ _ h | exact up_mxic_le _ _ _ _ _ h | exact up_mxif_le _ _ _ _ _ h | exact up_mxic_gt _ _ _ _ _ h | exact up_mxif_gt _ _ _ _ _ h | exact up_mxic_ge _ _ _ _ _ h | exact up_mxif_ge _ _ _ _ _ h | exact up_mxic_lt _ _ _ _ _ h | exact up_mxif_lt _ _ _ _ _ h | exact up_mxic_ne _ _ _ _ _ h | exact up_mxif_ne _ _ _ _ _ h | exact up_mxic_eq _ _ _ _ _ h | exact up_mxif_eq _ _ _ _ _ h | exact up_mxddiv _ _ _ _ h | exact up_mxdcmp _ _ _ _ _ h | exact up_mxlcmp _ _ _ _ h | exact up_mxJ2 _ _ _ _ _ h | exact up_mxI2D _ _ _ _ h | exact up_mxJ2I _ _ _ _ h | exact up_mxI2J _ _ _ _ h | exact up_mxI1 _ _ _ _ _ h | exact up_mxI2z _ _ _ _ _ h | exact up_mxI2 _ _ _ _ _ h | exact up_mxinc _ _ _ _ _ _ _ h | exact up_mxstA _ _ _ _ _ h | exact up_mxstD _ _ _ _ _ h | exact up_mxstJ _ _ _ _ _ h | exact up_mxstI _ _ _ _ _ h | exact up_mxldA _ _ _ _ _ h | exact up_mxldD _ _ _ _ _ h | exact up_mxldJ _ _ _ _ _ h | exact up_mxldI _ _ _ _ _ h
theorem up_mxalA2 (pc : Nat) (loc : mxL) (i : Int32) (r : List Value) (σ : mxS) (o0 : mxC) {z : mxAct} (h : mxalA2 pc loc i r σ o0 = some z) : mxon σ z := by
  unfold mxalA2 at h
  (repeat' split at h) <;> first | (cases h; done) | exact up_go h | exact up_wr h | exact up_al h | exact up_mxalJ _ _ _ _ h | exact up_mxalJ2 _ _ _ _ _ _ h | exact up_mxal _ _ _ _ _ h | exact up_mxal2 _ _ _ _ _ _ _ h | exact up_mxasA3 _ _ _ _ _ _ _ _ _ _ h | exact up_mxasJ3 _ _ _ _ _ _ _ _ _ _ h | exact up_mxas3 _ _ _ _ _ _ _ _ _ _ h | exact up_mxalA3 _ _ _ _ _ _ h | exact up_mxalJ3 _ _ _ _ _ _ h | exact up_mxal3 _ _ _ _ _ _ h | exact up_mxlen _ _ _ _ h | exact up_mxlen2 _ _ _ _ _ h | exact up_mxpf _ _ _ _ _ _ _ h | exact up_mxpf2 _ _ _ _ _ _ _ _ _ h | exact up_mxgf _ _ _ _ _ _ h | exact up_mxgf2 _ _ _ _ _ _ _ h | exact up_mxgf3 _ _ _ _ _ h | exact up_mxpop _ _ _ _ h | exact up_mxdup2 _ _ _ _ h | exact up_mxdup _ _ _ _ h | exact up_mxsw _ _ _ _ _ h | exact up_mxca _ _ _ _ _ _ h | exact up_mxca2 _ _ _ _ _ _ _ _ h | exact up_mxic_le _ _ _ _ _ h | exact up_mxif_le _ _ _ _ _ h | exact up_mxic_gt _ _ _ _ _ h | exact up_mxif_gt _ _ _ _ _ h | exact up_mxic_ge _ _ _ _ _ h | exact up_mxif_ge _ _ _ _ _ h | exact up_mxic_lt _ _ _ _ _ h | exact up_mxif_lt _ _ _ _ _ h | exact up_mxic_ne _ _ _ _ _ h | exact up_mxif_ne _ _ _ _ _ h | exact up_mxic_eq _ _ _ _ _ h | exact up_mxif_eq _ _ _ _ _ h | exact up_mxddiv _ _ _ _ h | exact up_mxdcmp _ _ _ _ _ h | exact up_mxlcmp _ _ _ _ h | exact up_mxJ2 _ _ _ _ _ h | exact up_mxI2D _ _ _ _ h | exact up_mxJ2I _ _ _ _ h | exact up_mxI2J _ _ _ _ h | exact up_mxI1 _ _ _ _ _ h | exact up_mxI2z _ _ _ _ _ h | exact up_mxI2 _ _ _ _ _ h | exact up_mxinc _ _ _ _ _ _ _ h | exact up_mxstA _ _ _ _ _ h | exact up_mxstD _ _ _ _ _ h | exact up_mxstJ _ _ _ _ _ h | exact up_mxstI _ _ _ _ _ h | exact up_mxldA _ _ _ _ _ h | exact up_mxldD _ _ _ _ _ h | exact up_mxldJ _ _ _ _ _ h | exact up_mxldI _ _ _ _ _ h
theorem up_mxalA (pc : Nat) (loc : mxL) (st : List Value) (σ : mxS) {z : mxAct} (h : mxalA pc loc st σ = some z) : mxon σ z := by
  unfold mxalA at h
  (repeat' split at h) <;> first | (cases h; done) | exact up_go h | exact up_wr h | exact up_al h | exact up_mxalA2 _ _ _ _ _ _ h | exact up_mxalJ _ _ _ _ h | exact up_mxalJ2 _ _ _ _ _ _ h | exact up_mxal _ _ _ _ _ h | exact up_mxal2 _ _ _ _ _ _ _ h | exact up_mxasA3 _ _ _ _ _ _ _ _ _ _ h | exact up_mxasJ3 _ _ _ _ _ _ _ _ _ _ h | exact up_mxas3 _ _ _ _ _ _ _ _ _ _ h | exact up_mxalA3 _ _ _ _ _ _ h | exact up_mxalJ3 _ _ _ _ _ _ h | exact up_mxal3 _ _ _ _ _ _ h | exact up_mxlen _ _ _ _ h | exact up_mxlen2 _ _ _ _ _ h | exact up_mxpf _ _ _ _ _ _ _ h | exact up_mxpf2 _ _ _ _ _ _ _ _ _ h | exact up_mxgf _ _ _ _ _ _ h | exact up_mxgf2 _ _ _ _ _ _ _ h | exact up_mxgf3 _ _ _ _ _ h | exact up_mxpop _ _ _ _ h | exact up_mxdup2 _ _ _ _ h | exact up_mxdup _ _ _ _ h | exact up_mxsw _ _ _ _ _ h | exact up_mxca _ _ _ _ _ _ h | exact up_mxca2 _ _ _ _ _ _ _ _ h | exact up_mxic_le _ _ _ _ _ h | exact up_mxif_le _ _ _ _ _ h | exact up_mxic_gt _ _ _ _ _ h | exact up_mxif_gt _ _ _ _ _ h | exact up_mxic_ge _ _ _ _ _ h | exact up_mxif_ge _ _ _ _ _ h | exact up_mxic_lt _ _ _ _ _ h | exact up_mxif_lt _ _ _ _ _ h | exact up_mxic_ne _ _ _ _ _ h | exact up_mxif_ne _ _ _ _ _ h | exact up_mxic_eq _ _ _ _ _ h | exact up_mxif_eq _ _ _ _ _ h | exact up_mxddiv _ _ _ _ h | exact up_mxdcmp _ _ _ _ _ h | exact up_mxlcmp _ _ _ _ h | exact up_mxJ2 _ _ _ _ _ h | exact up_mxI2D _ _ _ _ h | exact up_mxJ2I _ _ _ _ h | exact up_mxI2J _ _ _ _ h | exact up_mxI1 _ _ _ _ _ h | exact up_mxI2z _ _ _ _ _ h | exact up_mxI2 _ _ _ _ _ h | exact up_mxinc _ _ _ _ _ _ _ h | exact up_mxstA _ _ _ _ _ h | exact up_mxstD _ _ _ _ _ h | exact up_mxstJ _ _ _ _ _ h | exact up_mxstI _ _ _ _ _ h | exact up_mxldA _ _ _ _ _ h | exact up_mxldD _ _ _ _ _ h | exact up_mxldJ _ _ _ _ _ h | exact up_mxldI _ _ _ _ _ h
theorem up_mxas2 (ok : Nat → Bool) (g : Int32 → Int32) (pc : Nat) (loc : mxL) (x i : Int32) (a : Nat) (r : List Value) (σ : mxS) (o0 : mxC) {z : mxAct} (h : mxas2 ok g pc loc x i a r σ o0 = some z) : mxon σ z := by
  unfold mxas2 at h
  (repeat' split at h) <;> first | (cases h; done) | exact up_go h | exact up_wr h | exact up_al h | exact up_mxalA _ _ _ _ h | exact up_mxalA2 _ _ _ _ _ _ h | exact up_mxalJ _ _ _ _ h | exact up_mxalJ2 _ _ _ _ _ _ h | exact up_mxal _ _ _ _ _ h | exact up_mxal2 _ _ _ _ _ _ _ h | exact up_mxasA3 _ _ _ _ _ _ _ _ _ _ h | exact up_mxasJ3 _ _ _ _ _ _ _ _ _ _ h | exact up_mxas3 _ _ _ _ _ _ _ _ _ _ h | exact up_mxalA3 _ _ _ _ _ _ h | exact up_mxalJ3 _ _ _ _ _ _ h | exact up_mxal3 _ _ _ _ _ _ h | exact up_mxlen _ _ _ _ h | exact up_mxlen2 _ _ _ _ _ h | exact up_mxpf _ _ _ _ _ _ _ h | exact up_mxpf2 _ _ _ _ _ _ _ _ _ h | exact up_mxgf _ _ _ _ _ _ h | exact up_mxgf2 _ _ _ _ _ _ _ h | exact up_mxgf3 _ _ _ _ _ h | exact up_mxpop _ _ _ _ h | exact up_mxdup2 _ _ _ _ h | exact up_mxdup _ _ _ _ h | exact up_mxsw _ _ _ _ _ h | exact up_mxca _ _ _ _ _ _ h | exact up_mxca2 _ _ _ _ _ _ _ _ h | exact up_mxic_le _ _ _ _ _ h | exact up_mxif_le _ _ _ _ _ h | exact up_mxic_gt _ _ _ _ _ h | exact up_mxif_gt _ _ _ _ _ h | exact up_mxic_ge _ _ _ _ _ h | exact up_mxif_ge _ _ _ _ _ h | exact up_mxic_lt _ _ _ _ _ h | exact up_mxif_lt _ _ _ _ _ h | exact up_mxic_ne _ _ _ _ _ h | exact up_mxif_ne _ _ _ _ _ h | exact up_mxic_eq _ _ _ _ _ h | exact up_mxif_eq _ _ _ _ _ h | exact up_mxddiv _ _ _ _ h | exact up_mxdcmp _ _ _ _ _ h | exact up_mxlcmp _ _ _ _ h | exact up_mxJ2 _ _ _ _ _ h | exact up_mxI2D _ _ _ _ h | exact up_mxJ2I _ _ _ _ h | exact up_mxI2J _ _ _ _ h | exact up_mxI1 _ _ _ _ _ h | exact up_mxI2z _ _ _ _ _ h | exact up_mxI2 _ _ _ _ _ h | exact up_mxinc _ _ _ _ _ _ _ h | exact up_mxstA _ _ _ _ _ h | exact up_mxstD _ _ _ _ _ h | exact up_mxstJ _ _ _ _ _ h | exact up_mxstI _ _ _ _ _ h | exact up_mxldA _ _ _ _ _ h | exact up_mxldD _ _ _ _ _ h | exact up_mxldJ _ _ _ _ _ h | exact up_mxldI _ _ _ _ _ h
theorem up_mxas (ok : Nat → Bool) (g : Int32 → Int32) (pc : Nat) (loc : mxL) (st : List Value) (σ : mxS) {z : mxAct} (h : mxas ok g pc loc st σ = some z) : mxon σ z := by
  unfold mxas at h
  (repeat' split at h) <;> first | (cases h; done) | exact up_go h | exact up_wr h | exact up_al h | exact up_mxas2 _ _ _ _ _ _ _ _ _ _ h | exact up_mxalA _ _ _ _ h | exact up_mxalA2 _ _ _ _ _ _ h | exact up_mxalJ _ _ _ _ h | exact up_mxalJ2 _ _ _ _ _ _ h | exact up_mxal _ _ _ _ _ h | exact up_mxal2 _ _ _ _ _ _ _ h | exact up_mxasA3 _ _ _ _ _ _ _ _ _ _ h | exact up_mxasJ3 _ _ _ _ _ _ _ _ _ _ h | exact up_mxas3 _ _ _ _ _ _ _ _ _ _ h | exact up_mxalA3 _ _ _ _ _ _ h | exact up_mxalJ3 _ _ _ _ _ _ h | exact up_mxal3 _ _ _ _ _ _ h | exact up_mxlen _ _ _ _ h | exact up_mxlen2 _ _ _ _ _ h | exact up_mxpf _ _ _ _ _ _ _ h | exact up_mxpf2 _ _ _ _ _ _ _ _ _ h | exact up_mxgf _ _ _ _ _ _ h | exact up_mxgf2 _ _ _ _ _ _ _ h | exact up_mxgf3 _ _ _ _ _ h | exact up_mxpop _ _ _ _ h | exact up_mxdup2 _ _ _ _ h | exact up_mxdup _ _ _ _ h | exact up_mxsw _ _ _ _ _ h | exact up_mxca _ _ _ _ _ _ h | exact up_mxca2 _ _ _ _ _ _ _ _ h | exact up_mxic_le _ _ _ _ _ h | exact up_mxif_le _ _ _ _ _ h | exact up_mxic_gt _ _ _ _ _ h | exact up_mxif_gt _ _ _ _ _ h | exact up_mxic_ge _ _ _ _ _ h | exact up_mxif_ge _ _ _ _ _ h | exact up_mxic_lt _ _ _ _ _ h | exact up_mxif_lt _ _ _ _ _ h | exact up_mxic_ne _ _ _ _ _ h | exact up_mxif_ne _ _ _ _ _ h | exact up_mxic_eq _ _ _ _ _ h | exact up_mxif_eq _ _ _ _ _ h | exact up_mxddiv _ _ _ _ h | exact up_mxdcmp _ _ _ _ _ h | exact up_mxlcmp _ _ _ _ h | exact up_mxJ2 _ _ _ _ _ h | exact up_mxI2D _ _ _ _ h | exact up_mxJ2I _ _ _ _ h | exact up_mxI2J _ _ _ _ h | exact up_mxI1 _ _ _ _ _ h | exact up_mxI2z _ _ _ _ _ h | exact up_mxI2 _ _ _ _ _ h | exact up_mxinc _ _ _ _ _ _ _ h | exact up_mxstA _ _ _ _ _ h | exact up_mxstD _ _ _ _ _ h | exact up_mxstJ _ _ _ _ _ h | exact up_mxstI _ _ _ _ _ h | exact up_mxldA _ _ _ _ _ h | exact up_mxldD _ _ _ _ _ h | exact up_mxldJ _ _ _ _ _ h | exact up_mxldI _ _ _ _ _ h
theorem up_mxasB2 (pc : Nat) (loc : mxL) (x i : Int32) (a : Nat) (r : List Value) (σ : mxS) (o0 : mxC) {z : mxAct} (h : mxasB2 pc loc x i a r σ o0 = some z) : mxon σ z := by
  unfold mxasB2 at h
  (repeat' split at h) <;> first | (cases h; done) | exact up_go h | exact up_wr h | exact up_al h | exact up_mxas _ _ _ _ _ _ h | exact up_mxas2 _ _ _ _ _ _ _ _ _ _ h | exact up_mxalA _ _ _ _ h | exact up_mxalA2 _ _ _ _ _ _ h | exact up_mxalJ _ _ _ _ h | exact up_mxalJ2 _ _ _ _ _ _ h | exact up_mxal _ _ _ _ _ h | exact up_mxal2 _ _ _ _ _ _ _ h | exact up_mxasA3 _ _ _ _ _ _ _ _ _ _ h | exact up_mxasJ3 _ _ _ _ _ _ _ _ _ _ h | exact up_mxas3 _ _ _ _ _ _ _ _ _ _ h | exact up_mxalA3 _ _ _ _ _ _ h | exact up_mxalJ3 _ _ _ _ _ _ h | exact up_mxal3 _ _ _ _ _ _ h | exact up_mxlen _ _ _ _ h | exact up_mxlen2 _ _ _ _ _ h | exact up_mxpf _ _ _ _ _ _ _ h | exact up_mxpf2 _ _ _ _ _ _ _ _ _ h | exact up_mxgf _ _ _ _ _ _ h | exact up_mxgf2 _ _ _ _ _ _ _ h | exact up_mxgf3 _ _ _ _ _ h | exact up_mxpop _ _ _ _ h | exact up_mxdup2 _ _ _ _ h | exact up_mxdup _ _ _ _ h | exact up_mxsw _ _ _ _ _ h | exact up_mxca _ _ _ _ _ _ h | exact up_mxca2 _ _ _ _ _ _ _ _ h | exact up_mxic_le _ _ _ _ _ h | exact up_mxif_le _ _ _ _ _ h | exact up_mxic_gt _ _ _ _ _ h | exact up_mxif_gt _ _ _ _ _ h | exact up_mxic_ge _ _ _ _ _ h | exact up_mxif_ge _ _ _ _ _ h | exact up_mxic_lt _ _ _ _ _ h | exact up_mxif_lt _ _ _ _ _ h | exact up_mxic_ne _ _ _ _ _ h | exact up_mxif_ne _ _ _ _ _ h | exact up_mxic_eq _ _ _ _ _ h | exact up_mxif_eq _ _ _ _ _ h | exact up_mxddiv _ _ _ _ h | exact up_mxdcmp _ _ _ _ _ h | exact up_mxlcmp _ _ _ _ h | exact up_mxJ2 _ _ _ _ _ h | exact up_mxI2D _ _ _ _ h | exact up_mxJ2I _ _ _ _ h | exact up_mxI2J _ _ _ _ h | exact up_mxI1 _ _ _ _ _ h | exact up_mxI2z _ _ _ _ _ h | exact up_mxI2 _ _ _ _ _ h | exact up_mxinc _ _ _ _ _ _ _ h | exact up_mxstA _ _ _ _ _ h | exact up_mxstD _ _ _ _ _ h | exact up_mxstJ _ _ _ _ _ h | exact up_mxstI _ _ _ _ _ h | exact up_mxldA _ _ _ _ _ h | exact up_mxldD _ _ _ _ _ h | exact up_mxldJ _ _ _ _ _ h | exact up_mxldI _ _ _ _ _ h
theorem up_mxasB (pc : Nat) (loc : mxL) (st : List Value) (σ : mxS) {z : mxAct} (h : mxasB pc loc st σ = some z) : mxon σ z := by
  unfold mxasB at h
  (repeat' split at h) <;> first | (cases h; done) | exact up_go h | exact up_wr h | exact up_al h | exact up_mxasB2 _ _ _ _ _ _ _ _ h | exact up_mxas _ _ _ _ _ _ h | exact up_mxas2 _ _ _ _ _ _ _ _ _ _ h | exact up_mxalA _ _ _ _ h | exact up_mxalA2 _ _ _ _ _ _ h | exact up_mxalJ _ _ _ _ h | exact up_mxalJ2 _ _ _ _ _ _ h | exact up_mxal _ _ _ _ _ h | exact up_mxal2 _ _ _ _ _ _ _ h | exact up_mxasA3 _ _ _ _ _ _ _ _ _ _ h | exact up_mxasJ3 _ _ _ _ _ _ _ _ _ _ h | exact up_mxas3 _ _ _ _ _ _ _ _ _ _ h | exact up_mxalA3 _ _ _ _ _ _ h | exact up_mxalJ3 _ _ _ _ _ _ h | exact up_mxal3 _ _ _ _ _ _ h | exact up_mxlen _ _ _ _ h | exact up_mxlen2 _ _ _ _ _ h | exact up_mxpf _ _ _ _ _ _ _ h | exact up_mxpf2 _ _ _ _ _ _ _ _ _ h | exact up_mxgf _ _ _ _ _ _ h | exact up_mxgf2 _ _ _ _ _ _ _ h | exact up_mxgf3 _ _ _ _ _ h | exact up_mxpop _ _ _ _ h | exact up_mxdup2 _ _ _ _ h | exact up_mxdup _ _ _ _ h | exact up_mxsw _ _ _ _ _ h | exact up_mxca _ _ _ _ _ _ h | exact up_mxca2 _ _ _ _ _ _ _ _ h | exact up_mxic_le _ _ _ _ _ h | exact up_mxif_le _ _ _ _ _ h | exact up_mxic_gt _ _ _ _ _ h | exact up_mxif_gt _ _ _ _ _ h | exact up_mxic_ge _ _ _ _ _ h | exact up_mxif_ge _ _ _ _ _ h | exact up_mxic_lt _ _ _ _ _ h | exact up_mxif_lt _ _ _ _ _ h | exact up_mxic_ne _ _ _ _ _ h | exact up_mxif_ne _ _ _ _ _ h | exact up_mxic_eq _ _ _ _ _ h | exact up_mxif_eq _ _ _ _ _ h | exact up_mxddiv _ _ _ _ h | exact up_mxdcmp _ _ _ _ _ h | exact up_mxlcmp _ _ _ _ h | exact up_mxJ2 _ _ _ _ _ h | exact up_mxI2D _ _ _ _ h | exact up_mxJ2I _ _ _ _ h | exact up_mxI2J _ _ _ _ h | exact up_mxI1 _ _ _ _ _ h | exact up_mxI2z _ _ _ _ _ h | exact up_mxI2 _ _ _ _ _ h | exact up_mxinc _ _ _ _ _ _ _ h | exact up_mxstA _ _ _ _ _ h | exact up_mxstD _ _ _ _ _ h | exact up_mxstJ _ _ _ _ _ h | exact up_mxstI _ _ _ _ _ h | exact up_mxldA _ _ _ _ _ h | exact up_mxldD _ _ _ _ _ h | exact up_mxldJ _ _ _ _ _ h | exact up_mxldI _ _ _ _ _ h
theorem up_mxasJ2 (pc : Nat) (loc : mxL) (x : Int64) (i : Int32) (a : Nat) (r : List Value) (σ : mxS) (o0 : mxC) {z : mxAct} (h : mxasJ2 pc loc x i a r σ o0 = some z) : mxon σ z := by
  unfold mxasJ2 at h
  (repeat' split at h) <;> first | (cases h; done) | exact up_go h | exact up_wr h | exact up_al h | exact up_mxasB _ _ _ _ h | exact up_mxasB2 _ _ _ _ _ _ _ _ h | exact up_mxas _ _ _ _ _ _ h | exact up_mxas2 _ _ _ _ _ _ _ _ _ _ h | exact up_mxalA _ _ _ _ h | exact up_mxalA2 _ _ _ _ _ _ h | exact up_mxalJ _ _ _ _ h | exact up_mxalJ2 _ _ _ _ _ _ h | exact up_mxal _ _ _ _ _ h | exact up_mxal2 _ _ _ _ _ _ _ h | exact up_mxasA3 _ _ _ _ _ _ _ _ _ _ h | exact up_mxasJ3 _ _ _ _ _ _ _ _ _ _ h | exact up_mxas3 _ _ _ _ _ _ _ _ _ _ h | exact up_mxalA3 _ _ _ _ _ _ h | exact up_mxalJ3 _ _ _ _ _ _ h | exact up_mxal3 _ _ _ _ _ _ h | exact up_mxlen _ _ _ _ h | exact up_mxlen2 _ _ _ _ _ h | exact up_mxpf _ _ _ _ _ _ _ h | exact up_mxpf2 _ _ _ _ _ _ _ _ _ h | exact up_mxgf _ _ _ _ _ _ h | exact up_mxgf2 _ _ _ _ _ _ _ h | exact up_mxgf3 _ _ _ _ _ h | exact up_mxpop _ _ _ _ h | exact up_mxdup2 _ _ _ _ h | exact up_mxdup _ _ _ _ h | exact up_mxsw _ _ _ _ _ h | exact up_mxca _ _ _ _ _ _ h | exact up_mxca2 _ _ _ _ _ _ _ _ h | exact up_mxic_le _ _ _ _ _ h | exact up_mxif_le _ _ _ _ _ h | exact up_mxic_gt _ _ _ _ _ h | exact up_mxif_gt _ _ _ _ _ h | exact up_mxic_ge _ _ _ _ _ h | exact up_mxif_ge _ _ _ _ _ h | exact up_mxic_lt _ _ _ _ _ h | exact up_mxif_lt _ _ _ _ _ h | exact up_mxic_ne _ _ _ _ _ h | exact up_mxif_ne _ _ _ _ _ h | exact up_mxic_eq _ _ _ _ _ h | exact up_mxif_eq _ _ _ _ _ h | exact up_mxddiv _ _ _ _ h | exact up_mxdcmp _ _ _ _ _ h | exact up_mxlcmp _ _ _ _ h | exact up_mxJ2 _ _ _ _ _ h | exact up_mxI2D _ _ _ _ h | exact up_mxJ2I _ _ _ _ h | exact up_mxI2J _ _ _ _ h | exact up_mxI1 _ _ _ _ _ h | exact up_mxI2z _ _ _ _ _ h | exact up_mxI2 _ _ _ _ _ h | exact up_mxinc _ _ _ _ _ _ _ h | exact up_mxstA _ _ _ _ _ h | exact up_mxstD _ _ _ _ _ h | exact up_mxstJ _ _ _ _ _ h | exact up_mxstI _ _ _ _ _ h | exact up_mxldA _ _ _ _ _ h | exact up_mxldD _ _ _ _ _ h | exact up_mxldJ _ _ _ _ _ h | exact up_mxldI _ _ _ _ _ h
theorem up_mxasJ (pc : Nat) (loc : mxL) (st : List Value) (σ : mxS) {z : mxAct} (h : mxasJ pc loc st σ = some z) : mxon σ z := by
  unfold mxasJ at h
  (repeat' split at h) <;> first | (cases h; done) | exact up_go h | exact up_wr h | exact up_al h | exact up_mxasJ2 _ _ _ _ _ _ _ _ h | exact up_mxasB _ _ _ _ h | exact up_mxasB2 _ _ _ _ _ _ _ _ h | exact up_mxas _ _ _ _ _ _ h | exact up_mxas2 _ _ _ _ _ _ _ _ _ _ h | exact up_mxalA _ _ _ _ h | exact up_mxalA2 _ _ _ _ _ _ h | exact up_mxalJ _ _ _ _ h | exact up_mxalJ2 _ _ _ _ _ _ h | exact up_mxal _ _ _ _ _ h | exact up_mxal2 _ _ _ _ _ _ _ h | exact up_mxasA3 _ _ _ _ _ _ _ _ _ _ h | exact up_mxasJ3 _ _ _ _ _ _ _ _ _ _ h | exact up_mxas3 _ _ _ _ _ _ _ _ _ _ h | exact up_mxalA3 _ _ _ _ _ _ h | exact up_mxalJ3 _ _ _ _ _ _ h | exact up_mxal3 _ _ _ _ _ _ h | exact up_mxlen _ _ _ _ h | exact up_mxlen2 _ _ _ _ _ h | exact up_mxpf _ _ _ _ _ _ _ h | exact up_mxpf2 _ _ _ _ _ _ _ _ _ h | exact up_mxgf _ _ _ _ _ _ h | exact up_mxgf2 _ _ _ _ _ _ _ h | exact up_mxgf3 _ _ _ _ _ h | exact up_mxpop _ _ _ _ h | exact up_mxdup2 _ _ _ _ h | exact up_mxdup _ _ _ _ h | exact up_mxsw _ _ _ _ _ h | exact up_mxca _ _ _ _ _ _ h | exact up_mxca2 _ _ _ _ _ _ _ _ h | exact up_mxic_le _ _ _ _ _ h | exact up_mxif_le _ _ _ _ _ h | exact up_mxic_gt _ _ _ _ _ h | exact up_mxif_gt _ _ _ _ _ h | exact up_mxic_ge _ _ _ _ _ h | exact up_mxif_ge _ _ _ _ _ h | exact up_mxic_lt _ _ _ _ _ h | exact up_mxif_lt _ _ _ _ _ h | exact up_mxic_ne _ _ _ _ _ h | exact up_mxif_ne _ _ _ _ _ h | exact up_mxic_eq _ _ _ _ _ h | exact up_mxif_eq _ _ _ _ _ h | exact up_mxddiv _ _ _ _ h | exact up_mxdcmp _ _ _ _ _ h | exact up_mxlcmp _ _ _ _ h | exact up_mxJ2 _ _ _ _ _ h | exact up_mxI2D _ _ _ _ h | exact up_mxJ2I _ _ _ _ h | exact up_mxI2J _ _ _ _ h | exact up_mxI1 _ _ _ _ _ h | exact up_mxI2z _ _ _ _ _ h | exact up_mxI2 _ _ _ _ _ h | exact up_mxinc _ _ _ _ _ _ _ h | exact up_mxstA _ _ _ _ _ h | exact up_mxstD _ _ _ _ _ h | exact up_mxstJ _ _ _ _ _ h | exact up_mxstI _ _ _ _ _ h | exact up_mxldA _ _ _ _ _ h | exact up_mxldD _ _ _ _ _ h | exact up_mxldJ _ _ _ _ _ h | exact up_mxldI _ _ _ _ _ h
theorem up_mxasA2 (pc : Nat) (loc : mxL) (v : Nat) (i : Int32) (a : Nat) (r : List Value) (σ : mxS) (o0 : mxC) {z : mxAct} (h : mxasA2 pc loc v i a r σ o0 = some z) : mxon σ z := by
  unfold mxasA2 at h
  (repeat' split at h) <;> first | (cases h; done) | exact up_go h | exact up_wr h | exact up_al h | exact up_mxasJ _ _ _ _ h | exact up_mxasJ2 _ _ _ _ _ _ _ _ h | exact up_mxasB _ _ _ _ h | exact up_mxasB2 _ _ _ _ _ _ _ _ h | exact up_mxas _ _ _ _ _ _ h | exact up_mxas2 _ _ _ _ _ _ _ _ _ _ h | exact up_mxalA _ _ _ _ h | exact up_mxalA2 _ _ _ _ _ _ h | exact up_mxalJ _ _ _ _ h | exact up_mxalJ2 _ _ _ _ _ _ h | exact up_mxal _ _ _ _ _ h | exact up_mxal2 _ _ _ _ _ _ _ h | exact up_mxasA3 _ _ _ _ _ _ _ _ _ _ h | exact up_mxasJ3 _ _ _ _ _ _ _ _ _ _ h | exact up_mxas3 _ _ _ _ _ _ _ _ _ _ h | exact up_mxalA3 _ _ _ _ _ _ h | exact up_mxalJ3 _ _ _ _ _ _ h | exact up_mxal3 _ _ _ _ _ _ h | exact up_mxlen _ _ _ _ h | exact up_mxlen2 _ _ _ _ _ h | exact up_mxpf _ _ _ _ _ _ _ h | exact up_mxpf2 _ _ _ _ _ _ _ _ _ h | exact up_mxgf _ _ _ _ _ _ h | exact up_mxgf2 _ _ _ _ _ _ _ h | exact up_mxgf3 _ _ _ _ _ h | exact up_mxpop _ _ _ _ h | exact up_mxdup2 _ _ _ _ h | exact up_mxdup _ _ _ _ h | exact up_mxsw _ _ _ _ _ h | exact up_mxca _ _ _ _ _ _ h | exact up_mxca2 _ _ _ _ _ _ _ _ h | exact up_mxic_le _ _ _ _ _ h | exact up_mxif_le _ _ _ _ _ h | exact up_mxic_gt _ _ _ _ _ h | exact up_mxif_gt _ _ _ _ _ h | exact up_mxic_ge _ _ _ _ _ h | exact up_mxif_ge _ _ _ _ _ h | exact up_mxic_lt _ _ _ _ _ h | exact up_mxif_lt _ _ _ _ _ h | exact up_mxic_ne _ _ _ _ _ h | exact up_mxif_ne _ _ _ _ _ h | exact up_mxic_eq _ _ _ _ _ h | exact up_mxif_eq _ _ _ _ _ h | exact up_mxddiv _ _ _ _ h | exact up_mxdcmp _ _ _ _ _ h | exact up_mxlcmp _ _ _ _ h | exact up_mxJ2 _ _ _ _ _ h | exact up_mxI2D _ _ _ _ h | exact up_mxJ2I _ _ _ _ h | exact up_mxI2J _ _ _ _ h | exact up_mxI1 _ _ _ _ _ h | exact up_mxI2z _ _ _ _ _ h | exact up_mxI2 _ _ _ _ _ h | exact up_mxinc _ _ _ _ _ _ _ h | exact up_mxstA _ _ _ _ _ h | exact up_mxstD _ _ _ _ _ h | exact up_mxstJ _ _ _ _ _ h | exact up_mxstI _ _ _ _ _ h | exact up_mxldA _ _ _ _ _ h | exact up_mxldD _ _ _ _ _ h | exact up_mxldJ _ _ _ _ _ h | exact up_mxldI _ _ _ _ _ h
theorem up_mxasA (pc : Nat) (loc : mxL) (st : List Value) (σ : mxS) {z : mxAct} (h : mxasA pc loc st σ = some z) : mxon σ z := by
  unfold mxasA at h
  (repeat' split at h) <;> first | (cases h; done) | exact up_go h | exact up_wr h | exact up_al h | exact up_mxasA2 _ _ _ _ _ _ _ _ h | exact up_mxasJ _ _ _ _ h | exact up_mxasJ2 _ _ _ _ _ _ _ _ h | exact up_mxasB _ _ _ _ h | exact up_mxasB2 _ _ _ _ _ _ _ _ h | exact up_mxas _ _ _ _ _ _ h | exact up_mxas2 _ _ _ _ _ _ _ _ _ _ h | exact up_mxalA _ _ _ _ h | exact up_mxalA2 _ _ _ _ _ _ h | exact up_mxalJ _ _ _ _ h | exact up_mxalJ2 _ _ _ _ _ _ h | exact up_mxal _ _ _ _ _ h | exact up_mxal2 _ _ _ _ _ _ _ h | exact up_mxasA3 _ _ _ _ _ _ _ _ _ _ h | exact up_mxasJ3 _ _ _ _ _ _ _ _ _ _ h | exact up_mxas3 _ _ _ _ _ _ _ _ _ _ h | exact up_mxalA3 _ _ _ _ _ _ h | exact up_mxalJ3 _ _ _ _ _ _ h | exact up_mxal3 _ _ _ _ _ _ h | exact up_mxlen _ _ _ _ h | exact up_mxlen2 _ _ _ _ _ h | exact up_mxpf _ _ _ _ _ _ _ h | exact up_mxpf2 _ _ _ _ _ _ _ _ _ h | exact up_mxgf _ _ _ _ _ _ h | exact up_mxgf2 _ _ _ _ _ _ _ h | exact up_mxgf3 _ _ _ _ _ h | exact up_mxpop _ _ _ _ h | exact up_mxdup2 _ _ _ _ h | exact up_mxdup _ _ _ _ h | exact up_mxsw _ _ _ _ _ h | exact up_mxca _ _ _ _ _ _ h | exact up_mxca2 _ _ _ _ _ _ _ _ h | exact up_mxic_le _ _ _ _ _ h | exact up_mxif_le _ _ _ _ _ h | exact up_mxic_gt _ _ _ _ _ h | exact up_mxif_gt _ _ _ _ _ h | exact up_mxic_ge _ _ _ _ _ h | exact up_mxif_ge _ _ _ _ _ h | exact up_mxic_lt _ _ _ _ _ h | exact up_mxif_lt _ _ _ _ _ h | exact up_mxic_ne _ _ _ _ _ h | exact up_mxif_ne _ _ _ _ _ h | exact up_mxic_eq _ _ _ _ _ h | exact up_mxif_eq _ _ _ _ _ h | exact up_mxddiv _ _ _ _ h | exact up_mxdcmp _ _ _ _ _ h | exact up_mxlcmp _ _ _ _ h | exact up_mxJ2 _ _ _ _ _ h | exact up_mxI2D _ _ _ _ h | exact up_mxJ2I _ _ _ _ h | exact up_mxI2J _ _ _ _ h | exact up_mxI1 _ _ _ _ _ h | exact up_mxI2z _ _ _ _ _ h | exact up_mxI2 _ _ _ _ _ h | exact up_mxinc _ _ _ _ _ _ _ h | exact up_mxstA _ _ _ _ _ h | exact up_mxstD _ _ _ _ _ h | exact up_mxstJ _ _ _ _ _ h | exact up_mxstI _ _ _ _ _ h | exact up_mxldA _ _ _ _ _ h | exact up_mxldD _ _ _ _ _ h | exact up_mxldJ _ _ _ _ _ h | exact up_mxldI _ _ _ _ _ h
theorem up_mxnew (ci : Nat) (fs : List Value) (pc : Nat) (loc : mxL) (st : List Value) (σ : mxS) {z : mxAct} (h : mxnew ci fs pc loc st σ = some z) : mxon σ z := by
  unfold mxnew at h
  (repeat' split at h) <;> first | (cases h; done) | exact up_go h | exact up_wr h | exact up_al h | exact up_mxasA _ _ _ _ h | exact up_mxasA2 _ _ _ _ _ _ _ _ h | exact up_mxasJ _ _ _ _ h | exact up_mxasJ2 _ _ _ _ _ _ _ _ h | exact up_mxasB _ _ _ _ h | exact up_mxasB2 _ _ _ _ _ _ _ _ h | exact up_mxas _ _ _ _ _ _ h | exact up_mxas2 _ _ _ _ _ _ _ _ _ _ h | exact up_mxalA _ _ _ _ h | exact up_mxalA2 _ _ _ _ _ _ h | exact up_mxalJ _ _ _ _ h | exact up_mxalJ2 _ _ _ _ _ _ h | exact up_mxal _ _ _ _ _ h | exact up_mxal2 _ _ _ _ _ _ _ h | exact up_mxasA3 _ _ _ _ _ _ _ _ _ _ h | exact up_mxasJ3 _ _ _ _ _ _ _ _ _ _ h | exact up_mxas3 _ _ _ _ _ _ _ _ _ _ h | exact up_mxalA3 _ _ _ _ _ _ h | exact up_mxalJ3 _ _ _ _ _ _ h | exact up_mxal3 _ _ _ _ _ _ h | exact up_mxlen _ _ _ _ h | exact up_mxlen2 _ _ _ _ _ h | exact up_mxpf _ _ _ _ _ _ _ h | exact up_mxpf2 _ _ _ _ _ _ _ _ _ h | exact up_mxgf _ _ _ _ _ _ h | exact up_mxgf2 _ _ _ _ _ _ _ h | exact up_mxgf3 _ _ _ _ _ h | exact up_mxpop _ _ _ _ h | exact up_mxdup2 _ _ _ _ h | exact up_mxdup _ _ _ _ h | exact up_mxsw _ _ _ _ _ h | exact up_mxca _ _ _ _ _ _ h | exact up_mxca2 _ _ _ _ _ _ _ _ h | exact up_mxic_le _ _ _ _ _ h | exact up_mxif_le _ _ _ _ _ h | exact up_mxic_gt _ _ _ _ _ h | exact up_mxif_gt _ _ _ _ _ h | exact up_mxic_ge _ _ _ _ _ h | exact up_mxif_ge _ _ _ _ _ h | exact up_mxic_lt _ _ _ _ _ h | exact up_mxif_lt _ _ _ _ _ h | exact up_mxic_ne _ _ _ _ _ h | exact up_mxif_ne _ _ _ _ _ h | exact up_mxic_eq _ _ _ _ _ h | exact up_mxif_eq _ _ _ _ _ h | exact up_mxddiv _ _ _ _ h | exact up_mxdcmp _ _ _ _ _ h | exact up_mxlcmp _ _ _ _ h | exact up_mxJ2 _ _ _ _ _ h | exact up_mxI2D _ _ _ _ h | exact up_mxJ2I _ _ _ _ h | exact up_mxI2J _ _ _ _ h | exact up_mxI1 _ _ _ _ _ h | exact up_mxI2z _ _ _ _ _ h | exact up_mxI2 _ _ _ _ _ h | exact up_mxinc _ _ _ _ _ _ _ h | exact up_mxstA _ _ _ _ _ h | exact up_mxstD _ _ _ _ _ h | exact up_mxstJ _ _ _ _ _ h | exact up_mxstI _ _ _ _ _ h | exact up_mxldA _ _ _ _ _ h | exact up_mxldD _ _ _ _ _ h | exact up_mxldJ _ _ _ _ _ h | exact up_mxldI _ _ _ _ _ h
theorem up_mxna2 (t pc : Nat) (loc : mxL) (r : List Value) (σ : mxS) (o0 : Option Nat) {z : mxAct} (h : mxna2 t pc loc r σ o0 = some z) : mxon σ z := by
  unfold mxna2 at h
  (repeat' split at h) <;> first | (cases h; done) | exact up_go h | exact up_wr h | exact up_al h | exact up_mxnew _ _ _ _ _ _ h | exact up_mxasA _ _ _ _ h | exact up_mxasA2 _ _ _ _ _ _ _ _ h | exact up_mxasJ _ _ _ _ h | exact up_mxasJ2 _ _ _ _ _ _ _ _ h | exact up_mxasB _ _ _ _ h | exact up_mxasB2 _ _ _ _ _ _ _ _ h | exact up_mxas _ _ _ _ _ _ h | exact up_mxas2 _ _ _ _ _ _ _ _ _ _ h | exact up_mxalA _ _ _ _ h | exact up_mxalA2 _ _ _ _ _ _ h | exact up_mxalJ _ _ _ _ h | exact up_mxalJ2 _ _ _ _ _ _ h | exact up_mxal _ _ _ _ _ h | exact up_mxal2 _ _ _ _ _ _ _ h | exact up_mxasA3 _ _ _ _ _ _ _ _ _ _ h | exact up_mxasJ3 _ _ _ _ _ _ _ _ _ _ h | exact up_mxas3 _ _ _ _ _ _ _ _ _ _ h | exact up_mxalA3 _ _ _ _ _ _ h | exact up_mxalJ3 _ _ _ _ _ _ h | exact up_mxal3 _ _ _ _ _ _ h | exact up_mxlen _ _ _ _ h | exact up_mxlen2 _ _ _ _ _ h | exact up_mxpf _ _ _ _ _ _ _ h | exact up_mxpf2 _ _ _ _ _ _ _ _ _ h | exact up_mxgf _ _ _ _ _ _ h | exact up_mxgf2 _ _ _ _ _ _ _ h | exact up_mxgf3 _ _ _ _ _ h | exact up_mxpop _ _ _ _ h | exact up_mxdup2 _ _ _ _ h | exact up_mxdup _ _ _ _ h | exact up_mxsw _ _ _ _ _ h | exact up_mxca _ _ _ _ _ _ h | exact up_mxca2 _ _ _ _ _ _ _ _ h | exact up_mxic_le _ _ _ _ _ h | exact up_mxif_le _ _ _ _ _ h | exact up_mxic_gt _ _ _ _ _ h | exact up_mxif_gt _ _ _ _ _ h | exact up_mxic_ge _ _ _ _ _ h | exact up_mxif_ge _ _ _ _ _ h | exact up_mxic_lt _ _ _ _ _ h | exact up_mxif_lt _ _ _ _ _ h | exact up_mxic_ne _ _ _ _ _ h | exact up_mxif_ne _ _ _ _ _ h | exact up_mxic_eq _ _ _ _ _ h | exact up_mxif_eq _ _ _ _ _ h | exact up_mxddiv _ _ _ _ h | exact up_mxdcmp _ _ _ _ _ h | exact up_mxlcmp _ _ _ _ h | exact up_mxJ2 _ _ _ _ _ h | exact up_mxI2D _ _ _ _ h | exact up_mxJ2I _ _ _ _ h | exact up_mxI2J _ _ _ _ h | exact up_mxI1 _ _ _ _ _ h | exact up_mxI2z _ _ _ _ _ h | exact up_mxI2 _ _ _ _ _ h | exact up_mxinc _ _ _ _ _ _ _ h | exact up_mxstA _ _ _ _ _ h | exact up_mxstD _ _ _ _ _ h | exact up_mxstJ _ _ _ _ _ h | exact up_mxstI _ _ _ _ _ h | exact up_mxldA _ _ _ _ _ h | exact up_mxldD _ _ _ _ _ h | exact up_mxldJ _ _ _ _ _ h | exact up_mxldI _ _ _ _ _ h
theorem up_mxna (t pc : Nat) (loc : mxL) (st : List Value) (σ : mxS) {z : mxAct} (h : mxna t pc loc st σ = some z) : mxon σ z := by
  unfold mxna at h
  (repeat' split at h) <;> first | (cases h; done) | exact up_go h | exact up_wr h | exact up_al h | exact up_mxna2 _ _ _ _ _ _ h | exact up_mxnew _ _ _ _ _ _ h | exact up_mxasA _ _ _ _ h | exact up_mxasA2 _ _ _ _ _ _ _ _ h | exact up_mxasJ _ _ _ _ h | exact up_mxasJ2 _ _ _ _ _ _ _ _ h | exact up_mxasB _ _ _ _ h | exact up_mxasB2 _ _ _ _ _ _ _ _ h | exact up_mxas _ _ _ _ _ _ h | exact up_mxas2 _ _ _ _ _ _ _ _ _ _ h | exact up_mxalA _ _ _ _ h | exact up_mxalA2 _ _ _ _ _ _ h | exact up_mxalJ _ _ _ _ h | exact up_mxalJ2 _ _ _ _ _ _ h | exact up_mxal _ _ _ _ _ h | exact up_mxal2 _ _ _ _ _ _ _ h | exact up_mxasA3 _ _ _ _ _ _ _ _ _ _ h | exact up_mxasJ3 _ _ _ _ _ _ _ _ _ _ h | exact up_mxas3 _ _ _ _ _ _ _ _ _ _ h | exact up_mxalA3 _ _ _ _ _ _ h | exact up_mxalJ3 _ _ _ _ _ _ h | exact up_mxal3 _ _ _ _ _ _ h | exact up_mxlen _ _ _ _ h | exact up_mxlen2 _ _ _ _ _ h | exact up_mxpf _ _ _ _ _ _ _ h | exact up_mxpf2 _ _ _ _ _ _ _ _ _ h | exact up_mxgf _ _ _ _ _ _ h | exact up_mxgf2 _ _ _ _ _ _ _ h | exact up_mxgf3 _ _ _ _ _ h | exact up_mxpop _ _ _ _ h | exact up_mxdup2 _ _ _ _ h | exact up_mxdup _ _ _ _ h | exact up_mxsw _ _ _ _ _ h | exact up_mxca _ _ _ _ _ _ h | exact up_mxca2 _ _ _ _ _ _ _ _ h | exact up_mxic_le _ _ _ _ _ h | exact up_mxif_le _ _ _ _ _ h | exact up_mxic_gt _ _ _ _ _ h | exact up_mxif_gt _ _ _ _ _ h | exact up_mxic_ge _ _ _ _ _ h | exact up_mxif_ge _ _ _ _ _ h | exact up_mxic_lt _ _ _ _ _ h | exact up_mxif_lt _ _ _ _ _ h | exact up_mxic_ne _ _ _ _ _ h | exact up_mxif_ne _ _ _ _ _ h | exact up_mxic_eq _ _ _ _ _ h | exact up_mxif_eq _ _ _ _ _ h | exact up_mxddiv _ _ _ _ h | exact up_mxdcmp _ _ _ _ _ h | exact up_mxlcmp _ _ _ _ h | exact up_mxJ2 _ _ _ _ _ h | exact up_mxI2D _ _ _ _ h | exact up_mxJ2I _ _ _ _ h | exact up_mxI2J _ _ _ _ h | exact up_mxI1 _ _ _ _ _ h | exact up_mxI2z _ _ _ _ _ h | exact up_mxI2 _ _ _ _ _ h | exact up_mxinc _ _ _ _ _ _ _ h | exact up_mxstA _ _ _ _ _ h | exact up_mxstD _ _ _ _ _ h | exact up_mxstJ _ _ _ _ _ h | exact up_mxstI _ _ _ _ _ h | exact up_mxldA _ _ _ _ _ h | exact up_mxldD _ _ _ _ _ h | exact up_mxldJ _ _ _ _ _ h | exact up_mxldI _ _ _ _ _ h
theorem up_mxoi (pc : Nat) (loc : mxL) (st : List Value) (σ : mxS) {z : mxAct} (h : mxoi pc loc st σ = some z) : mxon σ z := by
  unfold mxoi at h
  (repeat' split at h) <;> first | (cases h; done) | exact up_go h | exact up_wr h | exact up_al h | exact up_mxna _ _ _ _ _ h | exact up_mxna2 _ _ _ _ _ _ h | exact up_mxnew _ _ _ _ _ _ h | exact up_mxasA _ _ _ _ h | exact up_mxasA2 _ _ _ _ _ _ _ _ h | exact up_mxasJ _ _ _ _ h | exact up_mxasJ2 _ _ _ _ _ _ _ _ h | exact up_mxasB _ _ _ _ h | exact up_mxasB2 _ _ _ _ _ _ _ _ h | exact up_mxas _ _ _ _ _ _ h | exact up_mxas2 _ _ _ _ _ _ _ _ _ _ h | exact up_mxalA _ _ _ _ h | exact up_mxalA2 _ _ _ _ _ _ h | exact up_mxalJ _ _ _ _ h | exact up_mxalJ2 _ _ _ _ _ _ h | exact up_mxal _ _ _ _ _ h | exact up_mxal2 _ _ _ _ _ _ _ h | exact up_mxasA3 _ _ _ _ _ _ _ _ _ _ h | exact up_mxasJ3 _ _ _ _ _ _ _ _ _ _ h | exact up_mxas3 _ _ _ _ _ _ _ _ _ _ h | exact up_mxalA3 _ _ _ _ _ _ h | exact up_mxalJ3 _ _ _ _ _ _ h | exact up_mxal3 _ _ _ _ _ _ h | exact up_mxlen _ _ _ _ h | exact up_mxlen2 _ _ _ _ _ h | exact up_mxpf _ _ _ _ _ _ _ h | exact up_mxpf2 _ _ _ _ _ _ _ _ _ h | exact up_mxgf _ _ _ _ _ _ h | exact up_mxgf2 _ _ _ _ _ _ _ h | exact up_mxgf3 _ _ _ _ _ h | exact up_mxpop _ _ _ _ h | exact up_mxdup2 _ _ _ _ h | exact up_mxdup _ _ _ _ h | exact up_mxsw _ _ _ _ _ h | exact up_mxca _ _ _ _ _ _ h | exact up_mxca2 _ _ _ _ _ _ _ _ h | exact up_mxic_le _ _ _ _ _ h | exact up_mxif_le _ _ _ _ _ h | exact up_mxic_gt _ _ _ _ _ h | exact up_mxif_gt _ _ _ _ _ h | exact up_mxic_ge _ _ _ _ _ h | exact up_mxif_ge _ _ _ _ _ h | exact up_mxic_lt _ _ _ _ _ h | exact up_mxif_lt _ _ _ _ _ h | exact up_mxic_ne _ _ _ _ _ h | exact up_mxif_ne _ _ _ _ _ h | exact up_mxic_eq _ _ _ _ _ h | exact up_mxif_eq _ _ _ _ _ h | exact up_mxddiv _ _ _ _ h | exact up_mxdcmp _ _ _ _ _ h | exact up_mxlcmp _ _ _ _ h | exact up_mxJ2 _ _ _ _ _ h | exact up_mxI2D _ _ _ _ h | exact up_mxJ2I _ _ _ _ h | exact up_mxI2J _ _ _ _ h | exact up_mxI1 _ _ _ _ _ h | exact up_mxI2z _ _ _ _ _ h | exact up_mxI2 _ _ _ _ _ h | exact up_mxinc _ _ _ _ _ _ _ h | exact up_mxstA _ _ _ _ _ h | exact up_mxstD _ _ _ _ _ h | exact up_mxstJ _ _ _ _ _ h | exact up_mxstI _ _ _ _ _ h | exact up_mxldA _ _ _ _ _ h | exact up_mxldD _ _ _ _ _ h | exact up_mxldJ _ _ _ _ _ h | exact up_mxldI _ _ _ _ _ h
theorem up_mxcp2 (pc : Nat) (loc : mxL) (n dp sp : Int32) (b : Nat) (r : List Value) (σ : mxS) (o0 : mxC) (o1 : mxC) {z : mxAct} (h : mxcp2 pc loc n dp sp b r σ o0 o1 = some z) : mxon σ z := by
  unfold mxcp2 at h
  (repeat' split at h) <;> first | (cases h; done) | exact up_go h | exact up_wr h | exact up_al h | exact up_mxoi _ _ _ _ h | exact up_mxna _ _ _ _ _ h | exact up_mxna2 _ _ _ _ _ _ h | exact up_mxnew _ _ _ _ _ _ h | exact up_mxasA _ _ _ _ h | exact up_mxasA2 _ _ _ _ _ _ _ _ h | exact up_mxasJ _ _ _ _ h | exact up_mxasJ2 _ _ _ _ _ _ _ _ h | exact up_mxasB _ _ _ _ h | exact up_mxasB2 _ _ _ _ _ _ _ _ h | exact up_mxas _ _ _ _ _ _ h | exact up_mxas2 _ _ _ _ _ _ _ _ _ _ h | exact up_mxalA _ _ _ _ h | exact up_mxalA2 _ _ _ _ _ _ h | exact up_mxalJ _ _ _ _ h | exact up_mxalJ2 _ _ _ _ _ _ h | exact up_mxal _ _ _ _ _ h | exact up_mxal2 _ _ _ _ _ _ _ h | exact up_mxasA3 _ _ _ _ _ _ _ _ _ _ h | exact up_mxasJ3 _ _ _ _ _ _ _ _ _ _ h | exact up_mxas3 _ _ _ _ _ _ _ _ _ _ h | exact up_mxalA3 _ _ _ _ _ _ h | exact up_mxalJ3 _ _ _ _ _ _ h | exact up_mxal3 _ _ _ _ _ _ h | exact up_mxlen _ _ _ _ h | exact up_mxlen2 _ _ _ _ _ h | exact up_mxpf _ _ _ _ _ _ _ h | exact up_mxpf2 _ _ _ _ _ _ _ _ _ h | exact up_mxgf _ _ _ _ _ _ h | exact up_mxgf2 _ _ _ _ _ _ _ h | exact up_mxgf3 _ _ _ _ _ h | exact up_mxpop _ _ _ _ h | exact up_mxdup2 _ _ _ _ h | exact up_mxdup _ _ _ _ h | exact up_mxsw _ _ _ _ _ h | exact up_mxca _ _ _ _ _ _ h | exact up_mxca2 _ _ _ _ _ _ _ _ h | exact up_mxic_le _ _ _ _ _ h | exact up_mxif_le _ _ _ _ _ h | exact up_mxic_gt _ _ _ _ _ h | exact up_mxif_gt _ _ _ _ _ h | exact up_mxic_ge _ _ _ _ _ h | exact up_mxif_ge _ _ _ _ _ h | exact up_mxic_lt _ _ _ _ _ h | exact up_mxif_lt _ _ _ _ _ h | exact up_mxic_ne _ _ _ _ _ h | exact up_mxif_ne _ _ _ _ _ h | exact up_mxic_eq _ _ _ _ _ h | exact up_mxif_eq _ _ _ _ _ h | exact up_mxddiv _ _ _ _ h | exact up_mxdcmp _ _ _ _ _ h | exact up_mxlcmp _ _ _ _ h | exact up_mxJ2 _ _ _ _ _ h | exact up_mxI2D _ _ _ _ h | exact up_mxJ2I _ _ _ _ h | exact up_mxI2J _ _ _ _ h | exact up_mxI1 _ _ _ _ _ h | exact up_mxI2z _ _ _ _ _ h | exact up_mxI2 _ _ _ _ _ h | exact up_mxinc _ _ _ _ _ _ _ h | exact up_mxstA _ _ _ _ _ h | exact up_mxstD _ _ _ _ _ h | exact up_mxstJ _ _ _ _ _ h | exact up_mxstI _ _ _ _ _ h | exact up_mxldA _ _ _ _ _ h | exact up_mxldD _ _ _ _ _ h | exact up_mxldJ _ _ _ _ _ h | exact up_mxldI _ _ _ _ _ h
theorem up_mxcp (pc : Nat) (loc : mxL) (st : List Value) (σ : mxS) {z : mxAct} (h : mxcp pc loc st σ = some z) : mxon σ z := by
  unfold mxcp at h
  (repeat' split at h) <;> first | (cases h; done) | exact up_go h | exact up_wr h | exact up_al h | exact up_mxcp2 _ _ _ _ _ _ _ _ _ _ h | exact up_mxoi _ _ _ _ h | exact up_mxna _ _ _ _ _ h | exact up_mxna2 _ _ _ _ _ _ h | exact up_mxnew _ _ _ _ _ _ h | exact up_mxasA _ _ _ _ h | exact up_mxasA2 _ _ _ _ _ _ _ _ h | exact up_mxasJ _ _ _ _ h | exact up_mxasJ2 _ _ _ _ _ _ _ _ h | exact up_mxasB _ _ _ _ h | exact up_mxasB2 _ _ _ _ _ _ _ _ h | exact up_mxas _ _ _ _ _ _ h | exact up_mxas2 _ _ _ _ _ _ _ _ _ _ h | exact up_mxalA _ _ _ _ h | exact up_mxalA2 _ _ _ _ _ _ h | exact up_mxalJ _ _ _ _ h | exact up_mxalJ2 _ _ _ _ _ _ h | exact up_mxal _ _ _ _ _ h | exact up_mxal2 _ _ _ _ _ _ _ h | exact up_mxasA3 _ _ _ _ _ _ _ _ _ _ h | exact up_mxasJ3 _ _ _ _ _ _ _ _ _ _ h | exact up_mxas3 _ _ _ _ _ _ _ _ _ _ h | exact up_mxalA3 _ _ _ _ _ _ h | exact up_mxalJ3 _ _ _ _ _ _ h | exact up_mxal3 _ _ _ _ _ _ h | exact up_mxlen _ _ _ _ h | exact up_mxlen2 _ _ _ _ _ h | exact up_mxpf _ _ _ _ _ _ _ h | exact up_mxpf2 _ _ _ _ _ _ _ _ _ h | exact up_mxgf _ _ _ _ _ _ h | exact up_mxgf2 _ _ _ _ _ _ _ h | exact up_mxgf3 _ _ _ _ _ h | exact up_mxpop _ _ _ _ h | exact up_mxdup2 _ _ _ _ h | exact up_mxdup _ _ _ _ h | exact up_mxsw _ _ _ _ _ h | exact up_mxca _ _ _ _ _ _ h | exact up_mxca2 _ _ _ _ _ _ _ _ h | exact up_mxic_le _ _ _ _ _ h | exact up_mxif_le _ _ _ _ _ h | exact up_mxic_gt _ _ _ _ _ h | exact up_mxif_gt _ _ _ _ _ h | exact up_mxic_ge _ _ _ _ _ h | exact up_mxif_ge _ _ _ _ _ h | exact up_mxic_lt _ _ _ _ _ h | exact up_mxif_lt _ _ _ _ _ h | exact up_mxic_ne _ _ _ _ _ h | exact up_mxif_ne _ _ _ _ _ h | exact up_mxic_eq _ _ _ _ _ h | exact up_mxif_eq _ _ _ _ _ h | exact up_mxddiv _ _ _ _ h | exact up_mxdcmp _ _ _ _ _ h | exact up_mxlcmp _ _ _ _ h | exact up_mxJ2 _ _ _ _ _ h | exact up_mxI2D _ _ _ _ h | exact up_mxJ2I _ _ _ _ h | exact up_mxI2J _ _ _ _ h | exact up_mxI1 _ _ _ _ _ h | exact up_mxI2z _ _ _ _ _ h | exact up_mxI2 _ _ _ _ _ h | exact up_mxinc _ _ _ _ _ _ _ h | exact up_mxstA _ _ _ _ _ h | exact up_mxstD _ _ _ _ _ h | exact up_mxstJ _ _ _ _ _ h | exact up_mxstI _ _ _ _ _ h | exact up_mxldA _ _ _ _ _ h | exact up_mxldD _ _ _ _ _ h | exact up_mxldJ _ _ _ _ _ h | exact up_mxldI _ _ _ _ _ h
def mxRetI (y : Nat) (i : Instr) : Prop := (i = .ireturn ∧ mxrk y ≤ 3) ∨ (i = .lreturn ∧ mxrk y = 4) ∨ (i = .dreturn ∧ mxrk y = 5) ∨ (i = .areturn ∧ mxrk y = 6) ∨ (i = .return_ ∧ mxrk y = 7)
/-- what an act may be -/
def mxSo (y pc : Nat) (loc : mxL) (st : List Value) (σ : mxS) (i : Instr) (z : mxAct) : Prop :=
  mxon σ z ∨ (mxRetI y i ∧ mxret (mxrk y) st = some z) ∨ (∃ k q, i = .new k ∧ mxTl y pc = some q ∧ st = [] ∧ z = .inr (.inr (.inr q))) ∨
  (∃ k w, (i = .invokevirtual k ∧ mxsV w.1 = true ∨ i = .invokestatic k ∧ mxsS w.1 = true ∨ i = .invokespecial k ∧ mxsI w.1 = true) ∧ mxVl (y / 128) k = some w ∧ mxinv w pc loc st σ = some z)
theorem mxthr_so {q : Nat} {st : List Value} {z : mxAct} (h : mxthr q st = some z) : st = [] ∧ z = .inr (.inr (.inr q)) := by
  unfold mxthr at h
  split at h
  · cases h; exact ⟨rfl, rfl⟩
  · cases h
theorem mxSem_so {y pc : Nat} {loc : mxL} {st : List Value} {σ : mxS} {i : Instr} {z : mxAct} (h : mxSem y pc loc st σ i = some z) : mxSo y pc loc st σ i z := by
  unfold mxSem at h
  split at h <;> first | (cases h; done) | exact Or.inl (up_go h) | exact Or.inl (up_mxldI _ _ _ _ _ h) | exact Or.inl (up_mxldJ _ _ _ _ _ h) | exact Or.inl (up_mxldD _ _ _ _ _ h) | exact Or.inl (up_mxldA _ _ _ _ _ h) | exact Or.inl (up_mxstI _ _ _ _ _ h) | exact Or.inl (up_mxstJ _ _ _ _ _ h) | exact Or.inl (up_mxstD _ _ _ _ _ h) | exact Or.inl (up_mxstA _ _ _ _ _ h) | exact Or.inl (up_mxinc _ _ _ _ _ _ _ h) | exact Or.inl (up_mxI2 _ _ _ _ _ h) | exact Or.inl (up_mxI2z _ _ _ _ _ h) | exact Or.inl (up_mxI1 _ _ _ _ _ h) | exact Or.inl (up_mxI2J _ _ _ _ h) | exact Or.inl (up_mxJ2I _ _ _ _ h) | exact Or.inl (up_mxI2D _ _ _ _ h) | exact Or.inl (up_mxJ2 _ _ _ _ _ h) | exact Or.inl (up_mxlcmp _ _ _ _ h) | exact Or.inl (up_mxdcmp _ _ _ _ _ h) | exact Or.inl (up_mxddiv _ _ _ _ h) | exact Or.inl (up_mxif_eq _ _ _ _ _ h) | exact Or.inl (up_mxic_eq _ _ _ _ _ h) | exact Or.inl (up_mxif_ne _ _ _ _ _ h) | exact Or.inl (up_mxic_ne _ _ _ _ _ h) | exact Or.inl (up_mxif_lt _ _ _ _ _ h) | exact Or.inl (up_mxic_lt _ _ _ _ _ h) | exact Or.inl (up_mxif_ge _ _ _ _ _ h) | exact Or.inl (up_mxic_ge _ _ _ _ _ h) | exact Or.inl (up_mxif_gt _ _ _ _ _ h) | exact Or.inl (up_mxic_gt _ _ _ _ _ h) | exact Or.inl (up_mxif_le _ _ _ _ _ h) | exact Or.inl (up_mxic_le _ _ _ _ _ h) | exact Or.inl (up_mxca2 _ _ _ _ _ _ _ _ h) | exact Or.inl (up_mxca _ _ _ _ _ _ h) | exact Or.inl (up_mxsw _ _ _ _ _ h) | exact Or.inl (up_mxdup _ _ _ _ h) | exact Or.inl (up_mxdup2 _ _ _ _ h) | exact Or.inl (up_mxpop _ _ _ _ h) | exact Or.inl (up_mxgf3 _ _ _ _ _ h) | exact Or.inl (up_mxgf2 _ _ _ _ _ _ _ h) | exact Or.inl (up_mxgf _ _ _ _ _ _ h) | exact Or.inl (up_mxpf2 _ _ _ _ _ _ _ _ _ h) | exact Or.inl (up_mxpf _ _ _ _ _ _ _ h) | exact Or.inl (up_mxlen2 _ _ _ _ _ h) | exact Or.inl (up_mxlen _ _ _ _ h) | exact Or.inl (up_mxal3 _ _ _ _ _ _ h) | exact Or.inl (up_mxalJ3 _ _ _ _ _ _ h) | exact Or.inl (up_mxalA3 _ _ _ _ _ _ h) | exact Or.inl (up_mxas3 _ _ _ _ _ _ _ _ _ _ h) | exact Or.inl (up_mxasJ3 _ _ _ _ _ _ _ _ _ _ h) | exact Or.inl (up_mxasA3 _ _ _ _ _ _ _ _ _ _ h) | exact Or.inl (up_mxal2 _ _ _ _ _ _ _ h) | exact Or.inl (up_mxal _ _ _ _ _ h) | exact Or.inl (up_mxalJ2 _ _ _ _ _ _ h) | exact Or.inl (up_mxalJ _ _ _ _ h) | exact Or.inl (up_mxalA2 _ _ _ _ _ _ h) | exact Or.inl (up_mxalA _ _ _ _ h) | exact Or.inl (up_mxas2 _ _ _ _ _ _ _ _ _ _ h) | exact Or.inl (up_mxas _ _ _ _ _ _ h) | exact Or.inl (up_mxasB2 _ _ _ _ _ _ _ _ h) | exact Or.inl (up_mxasB _ _ _ _ h) | exact Or.inl (up_mxasJ2 _ _ _ _ _ _ _ _ h) | exact Or.inl (up_mxasJ _ _ _ _ h) | exact Or.inl (up_mxasA2 _ _ _ _ _ _ _ _ h) | exact Or.inl (up_mxasA _ _ _ _ h) | exact Or.inl (up_mxnew _ _ _ _ _ _ h) | exact Or.inl (up_mxna2 _ _ _ _ _ _ h) | exact Or.inl (up_mxna _ _ _ _ _ h) | exact Or.inl (up_mxoi _ _ _ _ h) | exact Or.inl (up_mxcp2 _ _ _ _ _ _ _ _ _ _ h) | exact Or.inl (up_mxcp _ _ _ _ h) | ((repeat' split at h) <;> first | (cases h; done) | exact Or.inl (up_go h) | exact Or.inl (up_mxldI _ _ _ _ _ h) | exact Or.inl (up_mxldJ _ _ _ _ _ h) | exact Or.inl (up_mxldD _ _ _ _ _ h) | exact Or.inl (up_mxldA _ _ _ _ _ h) | exact Or.inl (up_mxstI _ _ _ _ _ h) | exact Or.inl (up_mxstJ _ _ _ _ _ h) | exact Or.inl (up_mxstD _ _ _ _ _ h) | exact Or.inl (up_mxstA _ _ _ _ _ h) | exact Or.inl (up_mxinc _ _ _ _ _ _ _ h) | exact Or.inl (up_mxI2 _ _ _ _ _ h) | exact Or.inl (up_mxI2z _ _ _ _ _ h) | exact Or.inl (up_mxI1 _ _ _ _ _ h) | exact Or.inl (up_mxI2J _ _ _ _ h) | exact Or.inl (up_mxJ2I _ _ _ _ h) | exact Or.inl (up_mxI2D _ _ _ _ h) | exact Or.inl (up_mxJ2 _ _ _ _ _ h) | exact Or.inl (up_mxlcmp _ _ _ _ h) | exact Or.inl (up_mxdcmp _ _ _ _ _ h) | exact Or.inl (up_mxddiv _ _ _ _ h) | exact Or.inl (up_mxif_eq _ _ _ _ _ h) | exact Or.inl (up_mxic_eq _ _ _ _ _ h) | exact Or.inl (up_mxif_ne _ _ _ _ _ h) | exact Or.inl (up_mxic_ne _ _ _ _ _ h) | exact Or.inl (up_mxif_lt _ _ _ _ _ h) | exact Or.inl (up_mxic_lt _ _ _ _ _ h) | exact Or.inl (up_mxif_ge _ _ _ _ _ h) | exact Or.inl (up_mxic_ge _ _ _ _ _ h) | exact Or.inl (up_mxif_gt _ _ _ _ _ h) | exact Or.inl (up_mxic_gt _ _ _ _ _ h) | exact Or.inl (up_mxif_le _ _ _ _ _ h) | exact Or.inl (up_mxic_le _ _ _ _ _ h) | exact Or.inl (up_mxca2 _ _ _ _ _ _ _ _ h) | exact Or.inl (up_mxca _ _ _ _ _ _ h) | exact Or.inl (up_mxsw _ _ _ _ _ h) | exact Or.inl (up_mxdup _ _ _ _ h) | exact Or.inl (up_mxdup2 _ _ _ _ h) | exact Or.inl (up_mxpop _ _ _ _ h) | exact Or.inl (up_mxgf3 _ _ _ _ _ h) | exact Or.inl (up_mxgf2 _ _ _ _ _ _ _ h) | exact Or.inl (up_mxgf _ _ _ _ _ _ h) | exact Or.inl (up_mxpf2 _ _ _ _ _ _ _ _ _ h) | exact Or.inl (up_mxpf _ _ _ _ _ _ _ h) | exact Or.inl (up_mxlen2 _ _ _ _ _ h) | exact Or.inl (up_mxlen _ _ _ _ h) | exact Or.inl (up_mxal3 _ _ _ _ _ _ h) | exact Or.inl (up_mxalJ3 _ _ _ _ _ _ h) | exact Or.inl (up_mxalA3 _ _ _ _ _ _ h) | exact Or.inl (up_mxas3 _ _ _ _ _ _ _ _ _ _ h) | exact Or.inl (up_mxasJ3 _ _ _ _ _ _ _ _ _ _ h) | exact Or.inl (up_mxasA3 _ _ _ _ _ _ _ _ _ _ h) | exact Or.inl (up_mxal2 _ _ _ _ _ _ _ h) | exact Or.inl (up_mxal _ _ _ _ _ h) | exact Or.inl (up_mxalJ2 _ _ _ _ _ _ h) | exact Or.inl (up_mxalJ _ _ _ _ h) | exact Or.inl (up_mxalA2 _ _ _ _ _ _ h) | exact Or.inl (up_mxalA _ _ _ _ h) | exact Or.inl (up_mxas2 _ _ _ _ _ _ _ _ _ _ h) | exact Or.inl (up_mxas _ _ _ _ _ _ h) | exact Or.inl (up_mxasB2 _ _ _ _ _ _ _ _ h) | exact Or.inl (up_mxasB _ _ _ _ h) | exact Or.inl (up_mxasJ2 _ _ _ _ _ _ _ _ h) | exact Or.inl (up_mxasJ _ _ _ _ h) | exact Or.inl (up_mxasA2 _ _ _ _ _ _ _ _ h) | exact Or.inl (up_mxasA _ _ _ _ h) | exact Or.inl (up_mxnew _ _ _ _ _ _ h) | exact Or.inl (up_mxna2 _ _ _ _ _ _ h) | exact Or.inl (up_mxna _ _ _ _ _ h) | exact Or.inl (up_mxoi _ _ _ _ h) | exact Or.inl (up_mxcp2 _ _ _ _ _ _ _ _ _ _ h) | exact Or.inl (up_mxcp _ _ _ _ h) | exact Or.inr (Or.inl ⟨Or.inl ⟨rfl, by assumption⟩, h⟩) | exact Or.inr (Or.inl ⟨Or.inr (Or.inl ⟨rfl, by assumption⟩), h⟩) | exact Or.inr (Or.inl ⟨Or.inr (Or.inr (Or.inl ⟨rfl, by assumption⟩)), h⟩) | exact Or.inr (Or.inl ⟨Or.inr (Or.inr (Or.inr (Or.inl ⟨rfl, by assumption⟩))), h⟩) | exact Or.inr (Or.inl ⟨Or.inr (Or.inr (Or.inr (Or.inr ⟨rfl, by assumption⟩))), h⟩) | exact Or.inr (Or.inr (Or.inl ⟨_, _, rfl, by assumption, mxthr_so h⟩)) | exact Or.inr (Or.inr (Or.inr ⟨_, _, Or.inl ⟨rfl, by assumption⟩, by assumption, h⟩)) | exact Or.inr (Or.inr (Or.inr ⟨_, _, Or.inr (Or.inl ⟨rfl, by assumption⟩), by assumption, h⟩)) | exact Or.inr (Or.inr (Or.inr ⟨_, _, Or.inr (Or.inr ⟨rfl, by assumption⟩), by assumption, h⟩)))
theorem mxStep_so {y pc : Nat} {loc : mxL} {st : List Value} {σ : mxS} {z : mxAct} (h : mxStep y pc loc st σ = some z) : ∃ i n, decode (mxb y) pc = .ok (i, n) ∧ mxLn i pc n = true ∧ mxSo y pc loc st σ i z := by
  unfold mxStep at h
  cases hd : decode (mxb y) pc with
  | error e => rw [hd] at h; cases h
  | ok w =>
    obtain ⟨i, n⟩ := w
    rw [hd] at h
    unfold mxM at h
    dsimp only at h
    split at h
    · rename_i hl
      exact ⟨i, n, rfl, hl, mxSem_so h⟩
    · cases h
/-- a call's act: of a class's method, of a static one, of a constructor; or a step -/
def mxCa (w : Nat × Nat × Nat × Nat) (st : List Value) (σ : mxS) (z : mxAct) : Prop := ∃ as r, z = .inr (.inr (.inl (w.2.1, as, r))) ∧ mxcat r ≤ 8 ∧
  ((w.1 = 0 ∧ ∃ a vs fs, as = .ref a :: vs ∧ vs.length = w.2.2.1 ∧ st = vs.reverse ++ .ref a :: r ∧ a < 1000 + σ.2.1 ∧ σ.1 a = .inr (w.2.2.2, fs)) ∨
   (w.1 = 1 ∧ as.length = w.2.2.1 ∧ st = as.reverse ++ r) ∨
   (w.1 = 2 ∧ ∃ a vs, as = .ref a :: vs ∧ vs.length = w.2.2.1 ∧ st = vs.reverse ++ .ref a :: r ∧ 1000 ≤ a))
theorem mxtk_ok : ∀ (n : Nat) (acc st as r : List Value), mxtk n acc st = some (as, r) → ∃ vs, as = vs ++ acc ∧ vs.length = n ∧ st = vs.reverse ++ r
  | 0, acc, st, as, r, h => by cases h; exact ⟨[], rfl, rfl, rfl⟩
  | n + 1, acc, [], as, r, h => by cases h
  | n + 1, acc, v :: st, as, r, h => by
    obtain ⟨vs, h1, h2, h3⟩ := mxtk_ok n (v :: acc) st as r h
    exact ⟨vs ++ [v], by rw [h1]; simp, by simp [h2], by rw [h3]; simp⟩
theorem mxtk_ok0 {n : Nat} {st as r : List Value} (h : mxtk n [] st = some (as, r)) : as.length = n ∧ st = as.reverse ++ r := by
  obtain ⟨vs, h1, h2, h3⟩ := mxtk_ok n [] st as r h
  rw [List.append_nil] at h1
  subst h1
  exact ⟨h2, h3⟩
theorem mxinv_so {w : Nat × Nat × Nat × Nat} {pc : Nat} {loc : mxL} {st : List Value} {σ : mxS} {z : mxAct} (h : mxinv w pc loc st σ = some z) : (w.1 = 3 ∧ mxoi (pc + 3) loc st σ = some z ∧ mxon σ z) ∨ (w.1 = 4 ∧ mxcp (pc + 3) loc st σ = some z ∧ mxon σ z) ∨ mxCa w st σ z := by
  unfold mxinv at h
  split at h
  · rename_i hw
    refine Or.inr (Or.inr ?_)
    unfold mxcV at h
    cases hz : mxtk (w.2.2.1 + 1) [] st with
    | none => rw [hz] at h; cases h
    | some q =>
      rw [hz] at h
      obtain ⟨as, r⟩ := q
      obtain ⟨h1, h2⟩ := mxtk_ok0 hz
      unfold mxcV2 at h
      split at h
      · rename_i a vs r' hq
        cases hq
        split at h
        · rename_i ha
          cases hσ : σ.1 a with
          | inl e => rw [hσ] at h; cases h
          | inr e =>
            obtain ⟨cj, fs⟩ := e
            rw [hσ] at h
            unfold mxcV3 at h
            dsimp only at h
            split at h
            · rename_i hcj
              subst hcj
              split at h
              · rename_i hr
                cases h
                exact ⟨_, _, rfl, hr, Or.inl ⟨hw, a, vs, fs, rfl, by simpa using h1, by rw [h2]; simp, ha, hσ⟩⟩
              · cases h
            · cases h
        · cases h
      · cases h
  · rename_i hw
    refine Or.inr (Or.inr ?_)
    unfold mxcS at h
    cases hz : mxtk w.2.2.1 [] st with
    | none => rw [hz] at h; cases h
    | some q =>
      rw [hz] at h
      obtain ⟨as, r⟩ := q
      obtain ⟨h1, h2⟩ := mxtk_ok0 hz
      unfold mxcall2 at h
      dsimp only at h
      split at h
      · rename_i hr
        cases h
        exact ⟨_, _, rfl, hr, Or.inr (Or.inl ⟨hw, h1, h2⟩)⟩
      · cases h
  · rename_i hw
    refine Or.inr (Or.inr ?_)
    unfold mxcI at h
    cases hz : mxtk (w.2.2.1 + 1) [] st with
    | none => rw [hz] at h; cases h
    | some q =>
      rw [hz] at h
      obtain ⟨as, r⟩ := q
      obtain ⟨h1, h2⟩ := mxtk_ok0 hz
      unfold mxcI2 at h
      split at h
      · rename_i a vs r' hq
        cases hq
        split at h
        · rename_i hr
          cases h
          exact ⟨_, _, rfl, hr.2, Or.inr (Or.inr ⟨hw, a, vs, rfl, by simpa using h1, by rw [h2]; simp, hr.1⟩)⟩
        · cases h
      · cases h
  · rename_i hw
    exact Or.inl ⟨hw, h, up_mxoi _ _ _ _ h⟩
  · rename_i hw
    exact Or.inr (Or.inl ⟨hw, h, up_mxcp _ _ _ _ h⟩)
  · cases h
theorem mxret_no {k : Nat} {st : List Value} {q : mxN} (h : mxret k st = some (.inl q)) : False := by
  unfold mxret at h
  (repeat' split at h) <;> cases h
theorem mxStep_up {y pc : Nat} {loc : mxL} {st : List Value} {σ : mxS} {q : mxN} (h : mxStep y pc loc st σ = some (.inl q)) : mxup σ q := by
  obtain ⟨i, n, -, -, h1 | ⟨-, h1⟩ | ⟨_, _, -, -, -, h1⟩ | ⟨k, w, -, -, h1⟩⟩ := mxStep_so h
  · obtain ⟨_, h2, h3⟩ := h1
    cases h2
    exact h3
  · exact (mxret_no h1).elim
  · cases h1
  · rcases mxinv_so h1 with ⟨-, -, _, h2, h3⟩ | ⟨-, -, _, h2, h3⟩ | ⟨_, _, h2, -⟩
    · cases h2; exact h3
    · cases h2; exact h3
    · cases h2
theorem mxrun_up : ∀ (n d y pc : Nat) (loc : mxL) (st : List Value) (σ : mxS) (r : mxR), mxrun n d y pc loc st σ = some r → σ.2.1 ≤ r.2.2.1 ∧ σ.2.2 ≤ r.2.2.2
  | 0, _, _, _, _, _, _, _, h => nomatch h
  | n + 1, d, y, pc, loc, st, σ, r, h => by
    rw [mxrun] at h
    cases hs : mxStep y pc loc st σ with
    | none => rw [hs] at h; cases h
    | some a =>
      rw [hs] at h
      match a, hs, h with
      | .inl (pc', loc', st', σ'), hs, h =>
        have h1 := mxStep_up hs
        have h2 := mxrun_up n d y pc' loc' st' σ' r h
        exact ⟨Nat.le_trans h1.1 h2.1, Nat.le_trans h1.2 h2.2⟩
      | .inr (.inl v), _, h => cases h; exact ⟨Nat.le_refl _, Nat.le_refl _⟩
      | .inr (.inr (.inr q)), _, h => cases h; exact ⟨Nat.le_add_right _ _, Nat.le_add_right _ _⟩
      | .inr (.inr (.inl (y', as, rs))), _, h =>
        dsimp only at h
        by_cases hd : d = 0
        · rw [if_pos hd] at h; cases h
        · rw [if_neg hd] at h
          cases he : mxent y' as with
          | none => rw [he] at h; cases h
          | some loc' =>
            rw [he] at h
            dsimp only at h
            cases hc : mxrun n (d - 1) y' 0 loc' [] σ with
            | none => rw [hc] at h; cases h
            | some b =>
              rw [hc] at h
              have h1 := mxrun_up n _ _ _ _ _ _ _ hc
              match b, h, h1 with
              | (.inl v, σ'), h, h1 =>
                have h2 := mxrun_up n _ _ _ _ _ _ _ h
                exact ⟨Nat.le_trans h1.1 h2.1, Nat.le_trans h1.2 h2.2⟩
              | (.inr q, σ'), h, h1 =>
                dsimp only at h
                by_cases hy : y' / 128 = 9 ∧ y' ≠ 1152
                · rw [if_pos hy] at h
                  cases hh : mxHl y pc q with
                  | none => rw [hh] at h; cases h; exact h1
                  | some tk =>
                    rw [hh] at h
                    obtain ⟨t, k⟩ := tk
                    have h2 := mxrun_up n _ _ _ _ _ _ _ h
                    exact ⟨Nat.le_trans h1.1 h2.1, Nat.le_trans h1.2 h2.2⟩
                · rw [if_neg hy] at h; cases h
theorem mx_inv_next {p : Program} {R : Room} {s : State} {m : MethodId} {args : Array Value} {meth : Method} {c : Code} {G : mxG} {y pc : Nat} {loc : mxL} {st : List Value} {σ : mxS} {q : mxN} {i : Nat} {w : Nat × Nat × Nat × Nat} (X : mxX p R s m args meth c G y) (hf : mxVl (y / 128) i = some w) (h : mxinv w pc loc st σ = some (.inl q)) :
    (w.1 = 3 ∧ Cond.methodLink (mxcn (y / 128)) i objectInit ∈ lw_good ∧ mxoi (pc + 3) loc st σ = some (.inl q)) ∨ (w.1 = 4 ∧ Cond.methodLink (mxcn (y / 128)) i arraycopyName ∈ lw_good ∧ mxcp (pc + 3) loc st σ = some (.inl q)) := by
  obtain ⟨s0, y0, n0', c0⟩ := w
  obtain ⟨⟨p1, p2, p3, p4⟩, hp⟩ := mxV_ok hf
  rcases mxinv_so h with ⟨hs, h1, -⟩ | ⟨hs, h1, -⟩ | ⟨_, _, h2, -⟩
  · dsimp only at hs
    subst hs
    refine Or.inl ⟨rfl, ?_, h1⟩
    match p1, hp with
    | 0, hp => exact mxG1_ok hp
    | 1, hp => cases hp
    | 2, hp => simp [mxVp] at hp
    | _ + 3, hp => cases hp
  · dsimp only at hs
    subst hs
    refine Or.inr ⟨rfl, ?_, h1⟩
    match p1, hp with
    | 0, hp => exact mxG1_ok hp
    | 1, hp => cases hp
    | 2, hp => simp [mxVp] at hp
    | _ + 3, hp => cases hp
  · cases h2
theorem mx_next {p : Program} {l : Launch} {e : Env} {R : Room} {s : State} {m : MethodId} {args : Array Value} {below : List Frame} {meth : Method} {c : Code} {Q : State → Prop} {G : mxG} {y n0 k0 pc : Nat} {loc : mxL} {st : List Value} {σ : mxS} {q : mxN} (X : mxX p R s m args meth c G y) (hN : n0 ≤ σ.2.1) (hK0 : k0 ≤ σ.2.2) (hR : q.2.2.2.2.1 ≤ n0 + R.cells ∧ q.2.2.2.2.2 ≤ k0 + R.slots) (h : mxStep y pc loc st σ = some (.inl q)) (kk : mxWs p l e R s m args below meth c Q G y n0 k0 q) : mxWs p l e R s m args below meth c Q G y n0 k0 (pc, loc, st, σ) := by
  unfold mxStep at h
  cases hd : decode (mxb y) pc with
  | error z => rw [hd] at h; cases h
  | ok z =>
    obtain ⟨i, nn⟩ := z
    rw [hd] at h
    unfold mxM at h
    dsimp only at h
    split at h
    · rename_i hln
      unfold mxSem at h
      split at h
      · rename_i k
        have hn := beq_iff_eq.mp hln
        subst hn
        exact mxk_iload_n X hd h kk
      · rename_i k
        have hn := beq_iff_eq.mp hln
        subst hn
        exact mxk_lload_n X hd h kk
      · rename_i k
        have hn := beq_iff_eq.mp hln
        subst hn
        exact mxk_dload_n X hd h kk
      · rename_i k
        have hn := beq_iff_eq.mp hln
        subst hn
        exact mxk_aload_n X hd h kk
      · rename_i k
        have hn := beq_iff_eq.mp hln
        subst hn
        exact mxk_iload X hd h kk
      · rename_i k
        have hn := beq_iff_eq.mp hln
        subst hn
        exact mxk_lload X hd h kk
      · rename_i k
        have hn := beq_iff_eq.mp hln
        subst hn
        exact mxk_dload X hd h kk
      · rename_i k
        have hn := beq_iff_eq.mp hln
        subst hn
        exact mxk_aload X hd h kk
      · rename_i k
        have hn := beq_iff_eq.mp hln
        subst hn
        exact mxk_istore_n X hd h kk
      · rename_i k
        have hn := beq_iff_eq.mp hln
        subst hn
        exact mxk_lstore_n X hd h kk
      · rename_i k
        have hn := beq_iff_eq.mp hln
        subst hn
        exact mxk_dstore_n X hd h kk
      · rename_i k
        have hn := beq_iff_eq.mp hln
        subst hn
        exact mxk_astore_n X hd h kk
      · rename_i k
        have hn := beq_iff_eq.mp hln
        subst hn
        exact mxk_istore X hd h kk
      · rename_i k
        have hn := beq_iff_eq.mp hln
        subst hn
        exact mxk_lstore X hd h kk
      · rename_i k
        have hn := beq_iff_eq.mp hln
        subst hn
        exact mxk_dstore X hd h kk
      · rename_i k
        have hn := beq_iff_eq.mp hln
        subst hn
        exact mxk_astore X hd h kk
      · rename_i n
        have hn := beq_iff_eq.mp hln
        subst hn
        exact mxk_iconst X hd h kk
      · rename_i n
        have hn := beq_iff_eq.mp hln
        subst hn
        exact mxk_lconst X hd h kk
      · rename_i n
        have hn := beq_iff_eq.mp hln
        subst hn
        split at h
        · rename_i hz
          subst hz
          exact mxk_dconst0 X hd h kk
        · cases h
      · rename_i n
        have hn := beq_iff_eq.mp hln
        subst hn
        exact mxk_bipush X hd h kk
      · rename_i n
        have hn := beq_iff_eq.mp hln
        subst hn
        exact mxk_sipush X hd h kk
      · have hn := beq_iff_eq.mp hln
        subst hn
        exact mxk_null X hd h kk
      · rename_i k n
        have hn := beq_iff_eq.mp hln
        subst hn
        exact mxk_iinc X hd h kk
      · have hn := beq_iff_eq.mp hln
        subst hn
        exact mxk_iadd X hd h kk
      · have hn := beq_iff_eq.mp hln
        subst hn
        exact mxk_isub X hd h kk
      · have hn := beq_iff_eq.mp hln
        subst hn
        exact mxk_imul X hd h kk
      · have hn := beq_iff_eq.mp hln
        subst hn
        exact mxk_iand X hd h kk
      · have hn := beq_iff_eq.mp hln
        subst hn
        exact mxk_ior X hd h kk
      · have hn := beq_iff_eq.mp hln
        subst hn
        exact mxk_ixor X hd h kk
      · have hn := beq_iff_eq.mp hln
        subst hn
        exact mxk_ishl X hd h kk
      · have hn := beq_iff_eq.mp hln
        subst hn
        exact mxk_ishr X hd h kk
      · have hn := beq_iff_eq.mp hln
        subst hn
        exact mxk_idiv X hd h kk
      · have hn := beq_iff_eq.mp hln
        subst hn
        exact mxk_irem X hd h kk
      · have hn := beq_iff_eq.mp hln
        subst hn
        exact mxk_ineg X hd h kk
      · have hn := beq_iff_eq.mp hln
        subst hn
        exact mxk_i2b X hd h kk
      · have hn := beq_iff_eq.mp hln
        subst hn
        exact mxk_i2c X hd h kk
      · have hn := beq_iff_eq.mp hln
        subst hn
        exact mxk_i2l X hd h kk
      · have hn := beq_iff_eq.mp hln
        subst hn
        exact mxk_l2i X hd h kk
      · have hn := beq_iff_eq.mp hln
        subst hn
        exact mxk_i2d X hd h kk
      · have hn := beq_iff_eq.mp hln
        subst hn
        exact mxk_ladd X hd h kk
      · have hn := beq_iff_eq.mp hln
        subst hn
        exact mxk_lmul X hd h kk
      · have hn := beq_iff_eq.mp hln
        subst hn
        exact mxk_lcmp X hd h kk
      · rename_i op
        have hn := beq_iff_eq.mp hln
        subst hn
        exact mxk_dcmp X hd h kk
      · have hn := beq_iff_eq.mp hln
        subst hn
        exact mxk_ddiv X hd h kk
      · rename_i o
        have hn := (Bool.and_eq_true _ _).mp hln
        have hn1 := beq_iff_eq.mp hn.1
        subst hn1
        exact mxk_if_eq (of_decide_eq_true hn.2) X hd h kk
      · rename_i o
        have hn := (Bool.and_eq_true _ _).mp hln
        have hn1 := beq_iff_eq.mp hn.1
        subst hn1
        exact mxk_if_ne (of_decide_eq_true hn.2) X hd h kk
      · rename_i o
        have hn := (Bool.and_eq_true _ _).mp hln
        have hn1 := beq_iff_eq.mp hn.1
        subst hn1
        exact mxk_if_lt (of_decide_eq_true hn.2) X hd h kk
      · rename_i o
        have hn := (Bool.and_eq_true _ _).mp hln
        have hn1 := beq_iff_eq.mp hn.1
        subst hn1
        exact mxk_if_ge (of_decide_eq_true hn.2) X hd h kk
      · rename_i o
        have hn := (Bool.and_eq_true _ _).mp hln
        have hn1 := beq_iff_eq.mp hn.1
        subst hn1
        exact mxk_if_gt (of_decide_eq_true hn.2) X hd h kk
      · rename_i o
        have hn := (Bool.and_eq_true _ _).mp hln
        have hn1 := beq_iff_eq.mp hn.1
        subst hn1
        exact mxk_if_le (of_decide_eq_true hn.2) X hd h kk
      · rename_i o
        have hn := (Bool.and_eq_true _ _).mp hln
        have hn1 := beq_iff_eq.mp hn.1
        subst hn1
        exact mxk_ic_eq (of_decide_eq_true hn.2) X hd h kk
      · rename_i o
        have hn := (Bool.and_eq_true _ _).mp hln
        have hn1 := beq_iff_eq.mp hn.1
        subst hn1
        exact mxk_ic_ne (of_decide_eq_true hn.2) X hd h kk
      · rename_i o
        have hn := (Bool.and_eq_true _ _).mp hln
        have hn1 := beq_iff_eq.mp hn.1
        subst hn1
        exact mxk_ic_lt (of_decide_eq_true hn.2) X hd h kk
      · rename_i o
        have hn := (Bool.and_eq_true _ _).mp hln
        have hn1 := beq_iff_eq.mp hn.1
        subst hn1
        exact mxk_ic_ge (of_decide_eq_true hn.2) X hd h kk
      · rename_i o
        have hn := (Bool.and_eq_true _ _).mp hln
        have hn1 := beq_iff_eq.mp hn.1
        subst hn1
        exact mxk_ic_gt (of_decide_eq_true hn.2) X hd h kk
      · rename_i o
        have hn := (Bool.and_eq_true _ _).mp hln
        have hn1 := beq_iff_eq.mp hn.1
        subst hn1
        exact mxk_ic_le (of_decide_eq_true hn.2) X hd h kk
      · rename_i o
        have hn := (Bool.and_eq_true _ _).mp hln
        have hn1 := beq_iff_eq.mp hn.1
        subst hn1
        exact mxk_ca_eq (of_decide_eq_true hn.2) X hd h kk
      · rename_i o
        have hn := (Bool.and_eq_true _ _).mp hln
        have hn1 := beq_iff_eq.mp hn.1
        subst hn1
        exact mxk_ca_ne (of_decide_eq_true hn.2) X hd h kk
      · rename_i o
        have hn := (Bool.and_eq_true _ _).mp hln
        have hn1 := beq_iff_eq.mp hn.1
        subst hn1
        exact mxk_goto (of_decide_eq_true hn.2) X hd h kk
      · rename_i d lo hi os
        have hn := (Bool.and_eq_true _ _).mp hln
        exact mxk_table (of_decide_eq_true hn.1) (fun o ho => of_decide_eq_true (List.all_eq_true.mp hn.2 o ho)) X hd h kk
      · rename_i d ps
        have hn := (Bool.and_eq_true _ _).mp hln
        have hn2 := (Bool.and_eq_true _ _).mp hn.1
        exact mxk_lookup (of_decide_eq_true hn2.1) (fun o ho => of_decide_eq_true (List.all_eq_true.mp hn2.2 o ho)) hn.2 X hd h kk
      · have hn := beq_iff_eq.mp hln
        subst hn
        exact mxk_dup X hd h kk
      · have hn := beq_iff_eq.mp hln
        subst hn
        exact mxk_dup2 X hd h kk
      · have hn := beq_iff_eq.mp hln
        subst hn
        exact mxk_pop X hd h kk
      · rename_i i
        have hn := beq_iff_eq.mp hln
        subst hn
        cases hf : mxFl (y / 128) i with
        | none => rw [hf] at h; cases h
        | some w =>
          rw [hf] at h
          dsimp only at h
          exact mxk_getfield X hd hf h kk
      · rename_i i
        have hn := beq_iff_eq.mp hln
        subst hn
        cases hf : mxFl (y / 128) i with
        | none => rw [hf] at h; cases h
        | some w =>
          rw [hf] at h
          dsimp only at h
          split at h
          · rename_i hfo
            exact mxk_putfield X hd hf hfo h kk
          · cases h
      · rename_i i
        have hn := beq_iff_eq.mp hln
        subst hn
        cases hf : mxSl (y / 128) i with
        | none => rw [hf] at h; cases h
        | some w =>
          rw [hf] at h
          dsimp only at h
          exact mxk_getstatic X hd hf h kk
      · rename_i i
        have hn := beq_iff_eq.mp hln
        subst hn
        cases hf : mxLl (y / 128) i with
        | none => rw [hf] at h; cases h
        | some w =>
          rw [hf] at h
          dsimp only at h
          split at h
          · rename_i hv
            exact mxk_ldc X hd hf hv h kk
          · cases h
      · rename_i i
        have hn := beq_iff_eq.mp hln
        subst hn
        cases hf : mxLl (y / 128) i with
        | none => rw [hf] at h; cases h
        | some w =>
          rw [hf] at h
          dsimp only at h
          split at h
          · rename_i hv
            exact mxk_ldc2 X hd hf hv h kk
          · cases h
      · rename_i i
        have hn := beq_iff_eq.mp hln
        subst hn
        cases hf : mxNl (y / 128) i with
        | some w =>
          rw [hf] at h
          exact mxk_new X hd hf h hN hK0 hR kk
        | none =>
          rw [hf] at h
          dsimp only at h
          cases hg : mxTl y pc with
          | none => rw [hg] at h; cases h
          | some w =>
            rw [hg] at h
            obtain ⟨-, h2⟩ := mxthr_so h
            cases h2
      · rename_i t0
        have hn := beq_iff_eq.mp hln
        subst hn
        cases hf : mxatype t0 with
        | none => rw [hf] at h; cases h
        | some w =>
          rw [hf] at h
          dsimp only at h
          exact mxk_newarray X hd hf h hN hK0 hR kk
      · rename_i i
        have hn := beq_iff_eq.mp hln
        subst hn
        cases hf : mxAl2 (y / 128) i with
        | none => rw [hf] at h; cases h
        | some w =>
          rw [hf] at h
          dsimp only at h
          exact mxk_anewarray X hd hf h hN hK0 hR kk
      · have hn := beq_iff_eq.mp hln
        subst hn
        exact mxk_arraylength X hd h kk
      · have hn := beq_iff_eq.mp hln
        subst hn
        exact mxk_iaload X hd h kk
      · have hn := beq_iff_eq.mp hln
        subst hn
        exact mxk_baload X hd h kk
      · have hn := beq_iff_eq.mp hln
        subst hn
        exact mxk_laload X hd h kk
      · have hn := beq_iff_eq.mp hln
        subst hn
        exact mxk_aaload X hd h kk
      · have hn := beq_iff_eq.mp hln
        subst hn
        exact mxk_iastore X hd h kk
      · have hn := beq_iff_eq.mp hln
        subst hn
        exact mxk_bastore X hd h kk
      · have hn := beq_iff_eq.mp hln
        subst hn
        exact mxk_lastore X hd h kk
      · have hn := beq_iff_eq.mp hln
        subst hn
        exact mxk_aastore X hd h kk
      · rename_i i
        have hn := beq_iff_eq.mp hln
        subst hn
        cases hf : mxVl (y / 128) i with
        | none => rw [hf] at h; cases h
        | some w =>
          rw [hf] at h
          dsimp only at h
          split at h
          · rename_i hs
            rcases mx_inv_next X hf h with ⟨e1, e2, e3⟩ | ⟨e1, e2, e3⟩
            · rw [e1] at hs; cases hs
            · rw [e1] at hs; cases hs
          · cases h
      · rename_i i
        have hn := beq_iff_eq.mp hln
        subst hn
        cases hf : mxVl (y / 128) i with
        | none => rw [hf] at h; cases h
        | some w =>
          rw [hf] at h
          dsimp only at h
          split at h
          · rename_i hs
            rcases mx_inv_next X hf h with ⟨e1, e2, e3⟩ | ⟨e1, e2, e3⟩
            · rw [e1] at hs; cases hs
            · exact mxk_copy X hd e2 e3 kk
          · cases h
      · rename_i i
        have hn := beq_iff_eq.mp hln
        subst hn
        cases hf : mxVl (y / 128) i with
        | none => rw [hf] at h; cases h
        | some w =>
          rw [hf] at h
          dsimp only at h
          split at h
          · rename_i hs
            rcases mx_inv_next X hf h with ⟨e1, e2, e3⟩ | ⟨e1, e2, e3⟩
            · exact mxk_objInit X hd e2 e3 kk
            · rw [e1] at hs; cases hs
          · cases h
      · split at h
        · unfold mxret at h
          (repeat' split at h) <;> cases h
        · cases h
      · split at h
        · unfold mxret at h
          (repeat' split at h) <;> cases h
        · cases h
      · split at h
        · unfold mxret at h
          (repeat' split at h) <;> cases h
        · cases h
      · split at h
        · unfold mxret at h
          (repeat' split at h) <;> cases h
        · cases h
      · split at h
        · unfold mxret at h
          (repeat' split at h) <;> cases h
        · cases h
      · cases h
    · cases h
