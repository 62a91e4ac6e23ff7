/-! ===== what stands fast while a method runs, and what it means that the run is right from here ===== -/
def mxX (p : Program) (R : Room) (s : State) (m : MethodId) (args : Array Value) (meth : Method) (c : Code) (G : mxG) (y : Nat) : Prop :=
  p.tables.exec = Jvm.exec ∧ c.code = mxb y ∧ c.maxLocals = mxml y ∧ s.vm.findClass (mxcn (y / 128)) = some m.cls ∧ (∀ w ∈ lw_good, w.before args s = true) ∧ mxKX G s s.heap ∧ (14 ≤ R.frames ∧ 200 ≤ R.locals) ∧ ((mxy y).name = "<init>" → meth.name = "<init>") ∧ meth.locks = false ∧ (y = 2582 ∨ mxyOK y)
def mxWs (p : Program) (l : Launch) (e : Env) (R : Room) (s : State) (m : MethodId) (args : Array Value) (below : List Frame) (meth : Method) (c : Code) (Q : State → Prop) (G : mxG) (y n0 k0 : Nat) (q : mxN) : Prop :=
  ∀ (H : Heap) (locs : List Loc) (ls : Array Slot), mxRel G q.2.2.2 H → va_S (mxfree G) s.heap H locs → mxLR G ls (mxml y) q.2.1 →
    W p l e R s m args below meth c H locs (q.2.2.2.2.1 - n0) (q.2.2.2.2.2 - k0) Q (F0 m q.1 ls (q.2.2.1.map (mxtr G)))
theorem mxKX.F {G : mxG} {U : State} {H : Heap} (h : mxKX G U H) : gF G = .null ∨ ∃ a, gF G = .ref a := h.2.2.2.2.2.2.2.2.2.2.2.2
theorem mxX.F {p : Program} {R : Room} {s : State} {m : MethodId} {args : Array Value} {meth : Method} {c : Code} {G : mxG} {y : Nat} (X : mxX p R s m args meth c G y) : gF G = .null ∨ ∃ a, gF G = .ref a := X.2.2.2.2.2.1.F
theorem mxtgt_eq {pc : Nat} {o : Int} (h : 0 ≤ (pc : Int) + o) : (pc : Int) + o = (mxtgt pc o : Int) := (Int.toNat_of_nonneg h).symm
theorem mxtr_ref (G : mxG) (hF : gF G = .null ∨ ∃ a, gF G = .ref a) (x : Nat) : (∃ a, mxtr G (.ref x) = .ref a) ∨ mxtr G (.ref x) = .null := by
  show (∃ a, (if x = 998 then gF G else .ref (mxad G x)) = .ref a) ∨ (if x = 998 then gF G else .ref (mxad G x)) = .null
  split
  · rcases hF with h | ⟨a, h⟩
    · exact Or.inr h
    · exact Or.inl ⟨a, h⟩
  · exact Or.inl ⟨_, rfl⟩
theorem mxk_iload_n {p : Program} {l : Launch} {e : Env} {R : Room} {s : State} {m : MethodId} {args : Array Value} {below : List Frame} {meth : Method} {c : Code} {Q : State → Prop} {G : mxG} {y n0 k0 pc : Nat} {loc : mxL} {st : List Value} {σ : mxS} {q : mxN} {k : Fin 4} (X : mxX p R s m args meth c G y) (hd : decode (mxb y) pc = .ok (.iload_n k, 1)) (h : mxldI (pc + 1) loc st σ (mxat loc k.val) = some (.inl q)) (kk : mxWs p l e R s m args below meth c Q G y n0 k0 q) : mxWs p l e R s m args below meth c Q G y n0 k0 (pc, loc, st, σ) := by
  cases hv : mxat loc k.val with
  | none => rw [hv] at h; cases h
  | some v =>
    rw [hv] at h
    cases v with
    | int x =>
      cases h
      intro H locs ls hr hs hl
      exact lv_iload_n X.1 X.2.1 hd rfl (hl.2.2.2 _ _ hv) (kk H locs ls hr hs hl)
    | _ => cases h
theorem mxk_iload {p : Program} {l : Launch} {e : Env} {R : Room} {s : State} {m : MethodId} {args : Array Value} {below : List Frame} {meth : Method} {c : Code} {Q : State → Prop} {G : mxG} {y n0 k0 pc : Nat} {loc : mxL} {st : List Value} {σ : mxS} {q : mxN} {k : Nat} (X : mxX p R s m args meth c G y) (hd : decode (mxb y) pc = .ok (.iload k, 2)) (h : mxldI (pc + 2) loc st σ (mxat loc k) = some (.inl q)) (kk : mxWs p l e R s m args below meth c Q G y n0 k0 q) : mxWs p l e R s m args below meth c Q G y n0 k0 (pc, loc, st, σ) := by
  cases hv : mxat loc k with
  | none => rw [hv] at h; cases h
  | some v =>
    rw [hv] at h
    cases v with
    | int x =>
      cases h
      intro H locs ls hr hs hl
      exact lv_iload X.1 X.2.1 hd (hl.2.2.2 _ _ hv) (kk H locs ls hr hs hl)
    | _ => cases h
theorem mxk_lload_n {p : Program} {l : Launch} {e : Env} {R : Room} {s : State} {m : MethodId} {args : Array Value} {below : List Frame} {meth : Method} {c : Code} {Q : State → Prop} {G : mxG} {y n0 k0 pc : Nat} {loc : mxL} {st : List Value} {σ : mxS} {q : mxN} {k : Fin 4} (X : mxX p R s m args meth c G y) (hd : decode (mxb y) pc = .ok (.lload_n k, 1)) (h : mxldJ (pc + 1) loc st σ (mxat loc k.val) = some (.inl q)) (kk : mxWs p l e R s m args below meth c Q G y n0 k0 q) : mxWs p l e R s m args below meth c Q G y n0 k0 (pc, loc, st, σ) := by
  cases hv : mxat loc k.val with
  | none => rw [hv] at h; cases h
  | some v =>
    rw [hv] at h
    cases v with
    | long x =>
      cases h
      intro H locs ls hr hs hl
      exact lv_lload_n X.1 X.2.1 hd rfl (hl.2.2.2 _ _ hv) (kk H locs ls hr hs hl)
    | _ => cases h
theorem mxk_lload {p : Program} {l : Launch} {e : Env} {R : Room} {s : State} {m : MethodId} {args : Array Value} {below : List Frame} {meth : Method} {c : Code} {Q : State → Prop} {G : mxG} {y n0 k0 pc : Nat} {loc : mxL} {st : List Value} {σ : mxS} {q : mxN} {k : Nat} (X : mxX p R s m args meth c G y) (hd : decode (mxb y) pc = .ok (.lload k, 2)) (h : mxldJ (pc + 2) loc st σ (mxat loc k) = some (.inl q)) (kk : mxWs p l e R s m args below meth c Q G y n0 k0 q) : mxWs p l e R s m args below meth c Q G y n0 k0 (pc, loc, st, σ) := by
  cases hv : mxat loc k with
  | none => rw [hv] at h; cases h
  | some v =>
    rw [hv] at h
    cases v with
    | long x =>
      cases h
      intro H locs ls hr hs hl
      exact lv_lload X.1 X.2.1 hd (hl.2.2.2 _ _ hv) (kk H locs ls hr hs hl)
    | _ => cases h
theorem mxk_dload_n {p : Program} {l : Launch} {e : Env} {R : Room} {s : State} {m : MethodId} {args : Array Value} {below : List Frame} {meth : Method} {c : Code} {Q : State → Prop} {G : mxG} {y n0 k0 pc : Nat} {loc : mxL} {st : List Value} {σ : mxS} {q : mxN} {k : Fin 4} (X : mxX p R s m args meth c G y) (hd : decode (mxb y) pc = .ok (.dload_n k, 1)) (h : mxldD (pc + 1) loc st σ (mxat loc k.val) = some (.inl q)) (kk : mxWs p l e R s m args below meth c Q G y n0 k0 q) : mxWs p l e R s m args below meth c Q G y n0 k0 (pc, loc, st, σ) := by
  cases hv : mxat loc k.val with
  | none => rw [hv] at h; cases h
  | some v =>
    rw [hv] at h
    cases v with
    | double x =>
      cases h
      intro H locs ls hr hs hl
      exact lv_dload_n X.1 X.2.1 hd rfl (hl.2.2.2 _ _ hv) (kk H locs ls hr hs hl)
    | _ => cases h
theorem mxk_dload {p : Program} {l : Launch} {e : Env} {R : Room} {s : State} {m : MethodId} {args : Array Value} {below : List Frame} {meth : Method} {c : Code} {Q : State → Prop} {G : mxG} {y n0 k0 pc : Nat} {loc : mxL} {st : List Value} {σ : mxS} {q : mxN} {k : Nat} (X : mxX p R s m args meth c G y) (hd : decode (mxb y) pc = .ok (.dload k, 2)) (h : mxldD (pc + 2) loc st σ (mxat loc k) = some (.inl q)) (kk : mxWs p l e R s m args below meth c Q G y n0 k0 q) : mxWs p l e R s m args below meth c Q G y n0 k0 (pc, loc, st, σ) := by
  cases hv : mxat loc k with
  | none => rw [hv] at h; cases h
  | some v =>
    rw [hv] at h
    cases v with
    | double x =>
      cases h
      intro H locs ls hr hs hl
      exact lv_dload X.1 X.2.1 hd (hl.2.2.2 _ _ hv) (kk H locs ls hr hs hl)
    | _ => cases h
theorem mxk_aload_n {p : Program} {l : Launch} {e : Env} {R : Room} {s : State} {m : MethodId} {args : Array Value} {below : List Frame} {meth : Method} {c : Code} {Q : State → Prop} {G : mxG} {y n0 k0 pc : Nat} {loc : mxL} {st : List Value} {σ : mxS} {q : mxN} {k : Fin 4} (X : mxX p R s m args meth c G y) (hd : decode (mxb y) pc = .ok (.aload_n k, 1)) (h : mxldA (pc + 1) loc st σ (mxat loc k.val) = some (.inl q)) (kk : mxWs p l e R s m args below meth c Q G y n0 k0 q) : mxWs p l e R s m args below meth c Q G y n0 k0 (pc, loc, st, σ) := by
  cases hv : mxat loc k.val with
  | none => rw [hv] at h; cases h
  | some v =>
    rw [hv] at h
    cases v with
    | ref x =>
      cases h
      intro H locs ls hr hs hl
      have hz := hl.2.2.2 _ _ hv
      rcases mxtr_ref G X.F x with ⟨a, ha⟩ | ha
      · rw [ha] at hz
        refine lv_aload_n X.1 X.2.1 hd rfl hz ?_
        rw [← ha]
        exact kk H locs ls hr hs hl
      · rw [ha] at hz
        refine lv_aload_nN X.1 X.2.1 hd rfl hz ?_
        rw [← ha]
        exact kk H locs ls hr hs hl
    | null =>
      cases h
      intro H locs ls hr hs hl
      exact lv_aload_nN X.1 X.2.1 hd rfl (hl.2.2.2 _ _ hv) (kk H locs ls hr hs hl)
    | _ => cases h
theorem mxk_aload {p : Program} {l : Launch} {e : Env} {R : Room} {s : State} {m : MethodId} {args : Array Value} {below : List Frame} {meth : Method} {c : Code} {Q : State → Prop} {G : mxG} {y n0 k0 pc : Nat} {loc : mxL} {st : List Value} {σ : mxS} {q : mxN} {k : Nat} (X : mxX p R s m args meth c G y) (hd : decode (mxb y) pc = .ok (.aload k, 2)) (h : mxldA (pc + 2) loc st σ (mxat loc k) = some (.inl q)) (kk : mxWs p l e R s m args below meth c Q G y n0 k0 q) : mxWs p l e R s m args below meth c Q G y n0 k0 (pc, loc, st, σ) := by
  cases hv : mxat loc k with
  | none => rw [hv] at h; cases h
  | some v =>
    rw [hv] at h
    cases v with
    | ref x =>
      cases h
      intro H locs ls hr hs hl
      have hz := hl.2.2.2 _ _ hv
      rcases mxtr_ref G X.F x with ⟨a, ha⟩ | ha
      · rw [ha] at hz
        refine lv_aload X.1 X.2.1 hd hz ?_
        rw [← ha]
        exact kk H locs ls hr hs hl
      · rw [ha] at hz
        refine lv_aloadN X.1 X.2.1 hd hz ?_
        rw [← ha]
        exact kk H locs ls hr hs hl
    | null =>
      cases h
      intro H locs ls hr hs hl
      exact lv_aloadN X.1 X.2.1 hd (hl.2.2.2 _ _ hv) (kk H locs ls hr hs hl)
    | _ => cases h
theorem mxk_istore_n {p : Program} {l : Launch} {e : Env} {R : Room} {s : State} {m : MethodId} {args : Array Value} {below : List Frame} {meth : Method} {c : Code} {Q : State → Prop} {G : mxG} {y n0 k0 pc : Nat} {loc : mxL} {st : List Value} {σ : mxS} {q : mxN} {k : Fin 4} (X : mxX p R s m args meth c G y) (hd : decode (mxb y) pc = .ok (.istore_n k, 1)) (h : mxstI k.val (pc + 1) loc st σ = some (.inl q)) (kk : mxWs p l e R s m args below meth c Q G y n0 k0 q) : mxWs p l e R s m args below meth c Q G y n0 k0 (pc, loc, st, σ) := by
  cases st with
  | nil => cases h
  | cons v r =>
    cases v with
    | int x =>
      unfold mxstI at h
      dsimp only at h
      split at h
      · rename_i hk
        cases h
        intro H locs ls hr hs hl
        exact lv_istore_n X.1 X.2.1 hd rfl hl.has (Nat.lt_of_lt_of_le hk hl.2.2.1) rfl (fun ls' h' => kk H locs ls' hr hs (hl.st1 hk rfl X.F h'))
      · cases h
    | _ => cases h
theorem mxk_istore {p : Program} {l : Launch} {e : Env} {R : Room} {s : State} {m : MethodId} {args : Array Value} {below : List Frame} {meth : Method} {c : Code} {Q : State → Prop} {G : mxG} {y n0 k0 pc : Nat} {loc : mxL} {st : List Value} {σ : mxS} {q : mxN} {k : Nat} (X : mxX p R s m args meth c G y) (hd : decode (mxb y) pc = .ok (.istore k, 2)) (h : mxstI k (pc + 2) loc st σ = some (.inl q)) (kk : mxWs p l e R s m args below meth c Q G y n0 k0 q) : mxWs p l e R s m args below meth c Q G y n0 k0 (pc, loc, st, σ) := by
  cases st with
  | nil => cases h
  | cons v r =>
    cases v with
    | int x =>
      unfold mxstI at h
      dsimp only at h
      split at h
      · rename_i hk
        cases h
        intro H locs ls hr hs hl
        exact lv_istore X.1 X.2.1 hd hl.has (Nat.lt_of_lt_of_le hk hl.2.2.1) rfl (fun ls' h' => kk H locs ls' hr hs (hl.st1 hk rfl X.F h'))
      · cases h
    | _ => cases h
theorem mxk_lstore_n {p : Program} {l : Launch} {e : Env} {R : Room} {s : State} {m : MethodId} {args : Array Value} {below : List Frame} {meth : Method} {c : Code} {Q : State → Prop} {G : mxG} {y n0 k0 pc : Nat} {loc : mxL} {st : List Value} {σ : mxS} {q : mxN} {k : Fin 4} (X : mxX p R s m args meth c G y) (hd : decode (mxb y) pc = .ok (.lstore_n k, 1)) (h : mxstJ k.val (pc + 1) loc st σ = some (.inl q)) (kk : mxWs p l e R s m args below meth c Q G y n0 k0 q) : mxWs p l e R s m args below meth c Q G y n0 k0 (pc, loc, st, σ) := by
  cases st with
  | nil => cases h
  | cons v r =>
    cases v with
    | long x =>
      unfold mxstJ at h
      dsimp only at h
      split at h
      · rename_i hk
        cases h
        intro H locs ls hr hs hl
        exact lv_lstore_n X.1 X.2.1 hd rfl hl.has (Nat.lt_of_lt_of_le hk hl.2.2.1) rfl (fun ls' h' => kk H locs ls' hr hs (hl.st2 hk rfl X.F h'))
      · cases h
    | _ => cases h
theorem mxk_lstore {p : Program} {l : Launch} {e : Env} {R : Room} {s : State} {m : MethodId} {args : Array Value} {below : List Frame} {meth : Method} {c : Code} {Q : State → Prop} {G : mxG} {y n0 k0 pc : Nat} {loc : mxL} {st : List Value} {σ : mxS} {q : mxN} {k : Nat} (X : mxX p R s m args meth c G y) (hd : decode (mxb y) pc = .ok (.lstore k, 2)) (h : mxstJ k (pc + 2) loc st σ = some (.inl q)) (kk : mxWs p l e R s m args below meth c Q G y n0 k0 q) : mxWs p l e R s m args below meth c Q G y n0 k0 (pc, loc, st, σ) := by
  cases st with
  | nil => cases h
  | cons v r =>
    cases v with
    | long x =>
      unfold mxstJ at h
      dsimp only at h
      split at h
      · rename_i hk
        cases h
        intro H locs ls hr hs hl
        exact lv_lstore X.1 X.2.1 hd hl.has (Nat.lt_of_lt_of_le hk hl.2.2.1) rfl (fun ls' h' => kk H locs ls' hr hs (hl.st2 hk rfl X.F h'))
      · cases h
    | _ => cases h
theorem mxk_dstore_n {p : Program} {l : Launch} {e : Env} {R : Room} {s : State} {m : MethodId} {args : Array Value} {below : List Frame} {meth : Method} {c : Code} {Q : State → Prop} {G : mxG} {y n0 k0 pc : Nat} {loc : mxL} {st : List Value} {σ : mxS} {q : mxN} {k : Fin 4} (X : mxX p R s m args meth c G y) (hd : decode (mxb y) pc = .ok (.dstore_n k, 1)) (h : mxstD k.val (pc + 1) loc st σ = some (.inl q)) (kk : mxWs p l e R s m args below meth c Q G y n0 k0 q) : mxWs p l e R s m args below meth c Q G y n0 k0 (pc, loc, st, σ) := by
  cases st with
  | nil => cases h
  | cons v r =>
    cases v with
    | double x =>
      unfold mxstD at h
      dsimp only at h
      split at h
      · rename_i hk
        cases h
        intro H locs ls hr hs hl
        exact lv_dstore_n X.1 X.2.1 hd rfl hl.has (Nat.lt_of_lt_of_le hk hl.2.2.1) rfl (fun ls' h' => kk H locs ls' hr hs (hl.st2 hk rfl X.F h'))
      · cases h
    | _ => cases h
theorem mxk_dstore {p : Program} {l : Launch} {e : Env} {R : Room} {s : State} {m : MethodId} {args : Array Value} {below : List Frame} {meth : Method} {c : Code} {Q : State → Prop} {G : mxG} {y n0 k0 pc : Nat} {loc : mxL} {st : List Value} {σ : mxS} {q : mxN} {k : Nat} (X : mxX p R s m args meth c G y) (hd : decode (mxb y) pc = .ok (.dstore k, 2)) (h : mxstD k (pc + 2) loc st σ = some (.inl q)) (kk : mxWs p l e R s m args below meth c Q G y n0 k0 q) : mxWs p l e R s m args below meth c Q G y n0 k0 (pc, loc, st, σ) := by
  cases st with
  | nil => cases h
  | cons v r =>
    cases v with
    | double x =>
      unfold mxstD at h
      dsimp only at h
      split at h
      · rename_i hk
        cases h
        intro H locs ls hr hs hl
        exact lv_dstore X.1 X.2.1 hd hl.has (Nat.lt_of_lt_of_le hk hl.2.2.1) rfl (fun ls' h' => kk H locs ls' hr hs (hl.st2 hk rfl X.F h'))
      · cases h
    | _ => cases h
theorem mxk_astore_n {p : Program} {l : Launch} {e : Env} {R : Room} {s : State} {m : MethodId} {args : Array Value} {below : List Frame} {meth : Method} {c : Code} {Q : State → Prop} {G : mxG} {y n0 k0 pc : Nat} {loc : mxL} {st : List Value} {σ : mxS} {q : mxN} {k : Fin 4} (X : mxX p R s m args meth c G y) (hd : decode (mxb y) pc = .ok (.astore_n k, 1)) (h : mxstA k.val (pc + 1) loc st σ = some (.inl q)) (kk : mxWs p l e R s m args below meth c Q G y n0 k0 q) : mxWs p l e R s m args below meth c Q G y n0 k0 (pc, loc, st, σ) := by
  cases st with
  | nil => cases h
  | cons v r =>
    cases v with
    | ref x =>
      unfold mxstA at h
      dsimp only at h
      split at h
      · rename_i hk
        cases h
        intro H locs ls hr hs hl
        rcases mxtr_ref G X.F x with ⟨a, ha⟩ | ha
        · show W _ _ _ _ _ _ _ _ _ _ _ _ _ _ _ (F0 m pc ls (mxtr G (.ref x) :: r.map (mxtr G)))
          rw [ha]
          exact lv_astore_n X.1 X.2.1 hd rfl hl.has (Nat.lt_of_lt_of_le hk hl.2.2.1) rfl (fun ls' h' => kk H locs ls' hr hs (hl.st1 hk ha.symm X.F h'))
        · show W _ _ _ _ _ _ _ _ _ _ _ _ _ _ _ (F0 m pc ls (mxtr G (.ref x) :: r.map (mxtr G)))
          rw [ha]
          exact lv_astore_nN X.1 X.2.1 hd rfl hl.has (Nat.lt_of_lt_of_le hk hl.2.2.1) rfl (fun ls' h' => kk H locs ls' hr hs (hl.st1 hk ha.symm X.F h'))
      · cases h
    | null =>
      unfold mxstA at h
      dsimp only at h
      split at h
      · rename_i hk
        cases h
        intro H locs ls hr hs hl
        exact lv_astore_nN X.1 X.2.1 hd rfl hl.has (Nat.lt_of_lt_of_le hk hl.2.2.1) rfl (fun ls' h' => kk H locs ls' hr hs (hl.st1 hk rfl X.F h'))
      · cases h
    | _ => cases h
theorem mxk_astore {p : Program} {l : Launch} {e : Env} {R : Room} {s : State} {m : MethodId} {args : Array Value} {below : List Frame} {meth : Method} {c : Code} {Q : State → Prop} {G : mxG} {y n0 k0 pc : Nat} {loc : mxL} {st : List Value} {σ : mxS} {q : mxN} {k : Nat} (X : mxX p R s m args meth c G y) (hd : decode (mxb y) pc = .ok (.astore k, 2)) (h : mxstA k (pc + 2) loc st σ = some (.inl q)) (kk : mxWs p l e R s m args below meth c Q G y n0 k0 q) : mxWs p l e R s m args below meth c Q G y n0 k0 (pc, loc, st, σ) := by
  cases st with
  | nil => cases h
  | cons v r =>
    cases v with
    | ref x =>
      unfold mxstA at h
      dsimp only at h
      split at h
      · rename_i hk
        cases h
        intro H locs ls hr hs hl
        rcases mxtr_ref G X.F x with ⟨a, ha⟩ | ha
        · show W _ _ _ _ _ _ _ _ _ _ _ _ _ _ _ (F0 m pc ls (mxtr G (.ref x) :: r.map (mxtr G)))
          rw [ha]
          exact lv_astore X.1 X.2.1 hd hl.has (Nat.lt_of_lt_of_le hk hl.2.2.1) rfl (fun ls' h' => kk H locs ls' hr hs (hl.st1 hk ha.symm X.F h'))
        · show W _ _ _ _ _ _ _ _ _ _ _ _ _ _ _ (F0 m pc ls (mxtr G (.ref x) :: r.map (mxtr G)))
          rw [ha]
          exact lv_astoreN X.1 X.2.1 hd hl.has (Nat.lt_of_lt_of_le hk hl.2.2.1) rfl (fun ls' h' => kk H locs ls' hr hs (hl.st1 hk ha.symm X.F h'))
      · cases h
    | null =>
      unfold mxstA at h
      dsimp only at h
      split at h
      · rename_i hk
        cases h
        intro H locs ls hr hs hl
        exact lv_astoreN X.1 X.2.1 hd hl.has (Nat.lt_of_lt_of_le hk hl.2.2.1) rfl (fun ls' h' => kk H locs ls' hr hs (hl.st1 hk rfl X.F h'))
      · cases h
    | _ => cases h
theorem mxk_iinc {p : Program} {l : Launch} {e : Env} {R : Room} {s : State} {m : MethodId} {args : Array Value} {below : List Frame} {meth : Method} {c : Code} {Q : State → Prop} {G : mxG} {y n0 k0 pc : Nat} {loc : mxL} {st : List Value} {σ : mxS} {q : mxN} {k : Nat} {n : Int} (X : mxX p R s m args meth c G y) (hd : decode (mxb y) pc = .ok (.iinc k n, 3)) (h : mxinc k n (pc + 3) loc st σ (mxat loc k) = some (.inl q)) (kk : mxWs p l e R s m args below meth c Q G y n0 k0 q) : mxWs p l e R s m args below meth c Q G y n0 k0 (pc, loc, st, σ) := by
  cases hv : mxat loc k with
  | none => rw [hv] at h; cases h
  | some v =>
    rw [hv] at h
    cases v with
    | int x =>
      unfold mxinc at h
      dsimp only at h
      split at h
      · rename_i hk
        cases h
        intro H locs ls hr hs hl
        obtain ⟨j, hj⟩ := List.mem_iff_getElem?.mp ((mxlv_mem G loc 0 (k, mxtr G (.int x))).mpr ⟨k, _, hv, by rw [Nat.zero_add]⟩)
        exact lv_iinc X.1 X.2.1 hd hl.has hj rfl (Nat.lt_of_lt_of_le hk hl.2.2.1) rfl (fun ls' h' => kk H locs ls' hr hs (hl.st1 hk rfl X.F h'))
      · cases h
    | _ => cases h
theorem mxk_iconst {p : Program} {l : Launch} {e : Env} {R : Room} {s : State} {m : MethodId} {args : Array Value} {below : List Frame} {meth : Method} {c : Code} {Q : State → Prop} {G : mxG} {y n0 k0 pc : Nat} {loc : mxL} {st : List Value} {σ : mxS} {q : mxN} {n : Int} (X : mxX p R s m args meth c G y) (hd : decode (mxb y) pc = .ok (.iconst n, 1)) (h : mxgo (pc + 1) loc (.int (Int32.ofInt n) :: st) σ = some (.inl q)) (kk : mxWs p l e R s m args below meth c Q G y n0 k0 q) : mxWs p l e R s m args below meth c Q G y n0 k0 (pc, loc, st, σ) := by
  cases h
  intro H locs ls hr hs hl
  exact lv_iconst X.1 X.2.1 hd rfl (kk H locs ls hr hs hl)
theorem mxk_lconst {p : Program} {l : Launch} {e : Env} {R : Room} {s : State} {m : MethodId} {args : Array Value} {below : List Frame} {meth : Method} {c : Code} {Q : State → Prop} {G : mxG} {y n0 k0 pc : Nat} {loc : mxL} {st : List Value} {σ : mxS} {q : mxN} {n : Fin 2} (X : mxX p R s m args meth c G y) (hd : decode (mxb y) pc = .ok (.lconst n, 1)) (h : mxgo (pc + 1) loc (.long (Int64.ofNat n.val) :: st) σ = some (.inl q)) (kk : mxWs p l e R s m args below meth c Q G y n0 k0 q) : mxWs p l e R s m args below meth c Q G y n0 k0 (pc, loc, st, σ) := by
  cases h
  intro H locs ls hr hs hl
  exact lv_lconst X.1 X.2.1 hd rfl (kk H locs ls hr hs hl)
theorem mxk_bipush {p : Program} {l : Launch} {e : Env} {R : Room} {s : State} {m : MethodId} {args : Array Value} {below : List Frame} {meth : Method} {c : Code} {Q : State → Prop} {G : mxG} {y n0 k0 pc : Nat} {loc : mxL} {st : List Value} {σ : mxS} {q : mxN} {n : Int} (X : mxX p R s m args meth c G y) (hd : decode (mxb y) pc = .ok (.bipush n, 2)) (h : mxgo (pc + 2) loc (.int (Int8.ofInt n).toInt32 :: st) σ = some (.inl q)) (kk : mxWs p l e R s m args below meth c Q G y n0 k0 q) : mxWs p l e R s m args below meth c Q G y n0 k0 (pc, loc, st, σ) := by
  cases h
  intro H locs ls hr hs hl
  exact lv_bipush X.1 X.2.1 hd rfl (kk H locs ls hr hs hl)
theorem mxk_sipush {p : Program} {l : Launch} {e : Env} {R : Room} {s : State} {m : MethodId} {args : Array Value} {below : List Frame} {meth : Method} {c : Code} {Q : State → Prop} {G : mxG} {y n0 k0 pc : Nat} {loc : mxL} {st : List Value} {σ : mxS} {q : mxN} {n : Int} (X : mxX p R s m args meth c G y) (hd : decode (mxb y) pc = .ok (.sipush n, 3)) (h : mxgo (pc + 3) loc (.int (Int16.ofInt n).toInt32 :: st) σ = some (.inl q)) (kk : mxWs p l e R s m args below meth c Q G y n0 k0 q) : mxWs p l e R s m args below meth c Q G y n0 k0 (pc, loc, st, σ) := by
  cases h
  intro H locs ls hr hs hl
  exact lv_sipush X.1 X.2.1 hd rfl (kk H locs ls hr hs hl)
theorem mxk_null {p : Program} {l : Launch} {e : Env} {R : Room} {s : State} {m : MethodId} {args : Array Value} {below : List Frame} {meth : Method} {c : Code} {Q : State → Prop} {G : mxG} {y n0 k0 pc : Nat} {loc : mxL} {st : List Value} {σ : mxS} {q : mxN}  (X : mxX p R s m args meth c G y) (hd : decode (mxb y) pc = .ok (.aconst_null, 1)) (h : mxgo (pc + 1) loc (.null :: st) σ = some (.inl q)) (kk : mxWs p l e R s m args below meth c Q G y n0 k0 q) : mxWs p l e R s m args below meth c Q G y n0 k0 (pc, loc, st, σ) := by
  cases h
  intro H locs ls hr hs hl
  exact lv_null X.1 X.2.1 hd (kk H locs ls hr hs hl)
theorem mxk_dconst0 {p : Program} {l : Launch} {e : Env} {R : Room} {s : State} {m : MethodId} {args : Array Value} {below : List Frame} {meth : Method} {c : Code} {Q : State → Prop} {G : mxG} {y n0 k0 pc : Nat} {loc : mxL} {st : List Value} {σ : mxS} {q : mxN}  (X : mxX p R s m args meth c G y) (hd : decode (mxb y) pc = .ok (.dconst 0, 1)) (h : mxgo (pc + 1) loc (.double FP.dconst0 :: st) σ = some (.inl q)) (kk : mxWs p l e R s m args below meth c Q G y n0 k0 q) : mxWs p l e R s m args below meth c Q G y n0 k0 (pc, loc, st, σ) := by
  cases h
  intro H locs ls hr hs hl
  exact lv_dconst0 X.1 X.2.1 hd (kk H locs ls hr hs hl)
theorem mxk_iadd {p : Program} {l : Launch} {e : Env} {R : Room} {s : State} {m : MethodId} {args : Array Value} {below : List Frame} {meth : Method} {c : Code} {Q : State → Prop} {G : mxG} {y n0 k0 pc : Nat} {loc : mxL} {st : List Value} {σ : mxS} {q : mxN}  (X : mxX p R s m args meth c G y) (hd : decode (mxb y) pc = .ok (.iadd, 1)) (h : mxI2 (fun x y => x + y) (pc + 1) loc st σ = some (.inl q)) (kk : mxWs p l e R s m args below meth c Q G y n0 k0 q) : mxWs p l e R s m args below meth c Q G y n0 k0 (pc, loc, st, σ) := by
  cases st with
  | nil => cases h
  | cons v r =>
    cases v with
    | int y2 =>
      cases r with
      | nil => cases h
      | cons w r =>
        cases w with
        | int x2 =>
          cases h
          intro H locs ls hr hs hl
          exact lv_iadd X.1 X.2.1 hd (kk H locs ls hr hs hl)
        | _ => cases h
    | _ => cases h
theorem mxk_isub {p : Program} {l : Launch} {e : Env} {R : Room} {s : State} {m : MethodId} {args : Array Value} {below : List Frame} {meth : Method} {c : Code} {Q : State → Prop} {G : mxG} {y n0 k0 pc : Nat} {loc : mxL} {st : List Value} {σ : mxS} {q : mxN}  (X : mxX p R s m args meth c G y) (hd : decode (mxb y) pc = .ok (.isub, 1)) (h : mxI2 (fun x y => x - y) (pc + 1) loc st σ = some (.inl q)) (kk : mxWs p l e R s m args below meth c Q G y n0 k0 q) : mxWs p l e R s m args below meth c Q G y n0 k0 (pc, loc, st, σ) := by
  cases st with
  | nil => cases h
  | cons v r =>
    cases v with
    | int y2 =>
      cases r with
      | nil => cases h
      | cons w r =>
        cases w with
        | int x2 =>
          cases h
          intro H locs ls hr hs hl
          exact lv_isub X.1 X.2.1 hd (kk H locs ls hr hs hl)
        | _ => cases h
    | _ => cases h
theorem mxk_imul {p : Program} {l : Launch} {e : Env} {R : Room} {s : State} {m : MethodId} {args : Array Value} {below : List Frame} {meth : Method} {c : Code} {Q : State → Prop} {G : mxG} {y n0 k0 pc : Nat} {loc : mxL} {st : List Value} {σ : mxS} {q : mxN}  (X : mxX p R s m args meth c G y) (hd : decode (mxb y) pc = .ok (.imul, 1)) (h : mxI2 (fun x y => x * y) (pc + 1) loc st σ = some (.inl q)) (kk : mxWs p l e R s m args below meth c Q G y n0 k0 q) : mxWs p l e R s m args below meth c Q G y n0 k0 (pc, loc, st, σ) := by
  cases st with
  | nil => cases h
  | cons v r =>
    cases v with
    | int y2 =>
      cases r with
      | nil => cases h
      | cons w r =>
        cases w with
        | int x2 =>
          cases h
          intro H locs ls hr hs hl
          exact lv_imul X.1 X.2.1 hd (kk H locs ls hr hs hl)
        | _ => cases h
    | _ => cases h
theorem mxk_iand {p : Program} {l : Launch} {e : Env} {R : Room} {s : State} {m : MethodId} {args : Array Value} {below : List Frame} {meth : Method} {c : Code} {Q : State → Prop} {G : mxG} {y n0 k0 pc : Nat} {loc : mxL} {st : List Value} {σ : mxS} {q : mxN}  (X : mxX p R s m args meth c G y) (hd : decode (mxb y) pc = .ok (.iand, 1)) (h : mxI2 (fun x y => x &&& y) (pc + 1) loc st σ = some (.inl q)) (kk : mxWs p l e R s m args below meth c Q G y n0 k0 q) : mxWs p l e R s m args below meth c Q G y n0 k0 (pc, loc, st, σ) := by
  cases st with
  | nil => cases h
  | cons v r =>
    cases v with
    | int y2 =>
      cases r with
      | nil => cases h
      | cons w r =>
        cases w with
        | int x2 =>
          cases h
          intro H locs ls hr hs hl
          exact lv_iand X.1 X.2.1 hd (kk H locs ls hr hs hl)
        | _ => cases h
    | _ => cases h
theorem mxk_ior {p : Program} {l : Launch} {e : Env} {R : Room} {s : State} {m : MethodId} {args : Array Value} {below : List Frame} {meth : Method} {c : Code} {Q : State → Prop} {G : mxG} {y n0 k0 pc : Nat} {loc : mxL} {st : List Value} {σ : mxS} {q : mxN}  (X : mxX p R s m args meth c G y) (hd : decode (mxb y) pc = .ok (.ior, 1)) (h : mxI2 (fun x y => x ||| y) (pc + 1) loc st σ = some (.inl q)) (kk : mxWs p l e R s m args below meth c Q G y n0 k0 q) : mxWs p l e R s m args below meth c Q G y n0 k0 (pc, loc, st, σ) := by
  cases st with
  | nil => cases h
  | cons v r =>
    cases v with
    | int y2 =>
      cases r with
      | nil => cases h
      | cons w r =>
        cases w with
        | int x2 =>
          cases h
          intro H locs ls hr hs hl
          exact lv_ior X.1 X.2.1 hd (kk H locs ls hr hs hl)
        | _ => cases h
    | _ => cases h
theorem mxk_ixor {p : Program} {l : Launch} {e : Env} {R : Room} {s : State} {m : MethodId} {args : Array Value} {below : List Frame} {meth : Method} {c : Code} {Q : State → Prop} {G : mxG} {y n0 k0 pc : Nat} {loc : mxL} {st : List Value} {σ : mxS} {q : mxN}  (X : mxX p R s m args meth c G y) (hd : decode (mxb y) pc = .ok (.ixor, 1)) (h : mxI2 (fun x y => x ^^^ y) (pc + 1) loc st σ = some (.inl q)) (kk : mxWs p l e R s m args below meth c Q G y n0 k0 q) : mxWs p l e R s m args below meth c Q G y n0 k0 (pc, loc, st, σ) := by
  cases st with
  | nil => cases h
  | cons v r =>
    cases v with
    | int y2 =>
      cases r with
      | nil => cases h
      | cons w r =>
        cases w with
        | int x2 =>
          cases h
          intro H locs ls hr hs hl
          exact lv_ixor X.1 X.2.1 hd (kk H locs ls hr hs hl)
        | _ => cases h
    | _ => cases h
theorem mxk_ishl {p : Program} {l : Launch} {e : Env} {R : Room} {s : State} {m : MethodId} {args : Array Value} {below : List Frame} {meth : Method} {c : Code} {Q : State → Prop} {G : mxG} {y n0 k0 pc : Nat} {loc : mxL} {st : List Value} {σ : mxS} {q : mxN}  (X : mxX p R s m args meth c G y) (hd : decode (mxb y) pc = .ok (.ishl, 1)) (h : mxI2 (fun x y => x <<< (y &&& 31)) (pc + 1) loc st σ = some (.inl q)) (kk : mxWs p l e R s m args below meth c Q G y n0 k0 q) : mxWs p l e R s m args below meth c Q G y n0 k0 (pc, loc, st, σ) := by
  cases st with
  | nil => cases h
  | cons v r =>
    cases v with
    | int y2 =>
      cases r with
      | nil => cases h
      | cons w r =>
        cases w with
        | int x2 =>
          cases h
          intro H locs ls hr hs hl
          exact lv_ishl X.1 X.2.1 hd (kk H locs ls hr hs hl)
        | _ => cases h
    | _ => cases h
theorem mxk_ishr {p : Program} {l : Launch} {e : Env} {R : Room} {s : State} {m : MethodId} {args : Array Value} {below : List Frame} {meth : Method} {c : Code} {Q : State → Prop} {G : mxG} {y n0 k0 pc : Nat} {loc : mxL} {st : List Value} {σ : mxS} {q : mxN}  (X : mxX p R s m args meth c G y) (hd : decode (mxb y) pc = .ok (.ishr, 1)) (h : mxI2 (fun x y => x >>> (y &&& 31)) (pc + 1) loc st σ = some (.inl q)) (kk : mxWs p l e R s m args below meth c Q G y n0 k0 q) : mxWs p l e R s m args below meth c Q G y n0 k0 (pc, loc, st, σ) := by
  cases st with
  | nil => cases h
  | cons v r =>
    cases v with
    | int y2 =>
      cases r with
      | nil => cases h
      | cons w r =>
        cases w with
        | int x2 =>
          cases h
          intro H locs ls hr hs hl
          exact lv_ishr X.1 X.2.1 hd (kk H locs ls hr hs hl)
        | _ => cases h
    | _ => cases h
theorem mxk_ladd {p : Program} {l : Launch} {e : Env} {R : Room} {s : State} {m : MethodId} {args : Array Value} {below : List Frame} {meth : Method} {c : Code} {Q : State → Prop} {G : mxG} {y n0 k0 pc : Nat} {loc : mxL} {st : List Value} {σ : mxS} {q : mxN}  (X : mxX p R s m args meth c G y) (hd : decode (mxb y) pc = .ok (.ladd, 1)) (h : mxJ2 (fun x y => x + y) (pc + 1) loc st σ = some (.inl q)) (kk : mxWs p l e R s m args below meth c Q G y n0 k0 q) : mxWs p l e R s m args below meth c Q G y n0 k0 (pc, loc, st, σ) := by
  cases st with
  | nil => cases h
  | cons v r =>
    cases v with
    | long y2 =>
      cases r with
      | nil => cases h
      | cons w r =>
        cases w with
        | long x2 =>
          cases h
          intro H locs ls hr hs hl
          exact lv_ladd X.1 X.2.1 hd (kk H locs ls hr hs hl)
        | _ => cases h
    | _ => cases h
theorem mxk_lmul {p : Program} {l : Launch} {e : Env} {R : Room} {s : State} {m : MethodId} {args : Array Value} {below : List Frame} {meth : Method} {c : Code} {Q : State → Prop} {G : mxG} {y n0 k0 pc : Nat} {loc : mxL} {st : List Value} {σ : mxS} {q : mxN}  (X : mxX p R s m args meth c G y) (hd : decode (mxb y) pc = .ok (.lmul, 1)) (h : mxJ2 (fun x y => x * y) (pc + 1) loc st σ = some (.inl q)) (kk : mxWs p l e R s m args below meth c Q G y n0 k0 q) : mxWs p l e R s m args below meth c Q G y n0 k0 (pc, loc, st, σ) := by
  cases st with
  | nil => cases h
  | cons v r =>
    cases v with
    | long y2 =>
      cases r with
      | nil => cases h
      | cons w r =>
        cases w with
        | long x2 =>
          cases h
          intro H locs ls hr hs hl
          exact lv_lmul X.1 X.2.1 hd (kk H locs ls hr hs hl)
        | _ => cases h
    | _ => cases h
theorem mxk_lcmp {p : Program} {l : Launch} {e : Env} {R : Room} {s : State} {m : MethodId} {args : Array Value} {below : List Frame} {meth : Method} {c : Code} {Q : State → Prop} {G : mxG} {y n0 k0 pc : Nat} {loc : mxL} {st : List Value} {σ : mxS} {q : mxN}  (X : mxX p R s m args meth c G y) (hd : decode (mxb y) pc = .ok (.lcmp, 1)) (h : mxlcmp (pc + 1) loc st σ = some (.inl q)) (kk : mxWs p l e R s m args below meth c Q G y n0 k0 q) : mxWs p l e R s m args below meth c Q G y n0 k0 (pc, loc, st, σ) := by
  cases st with
  | nil => cases h
  | cons v r =>
    cases v with
    | long y2 =>
      cases r with
      | nil => cases h
      | cons w r =>
        cases w with
        | long x2 =>
          cases h
          intro H locs ls hr hs hl
          exact W.lcmp X.1 X.2.1 hd (kk H locs ls hr hs hl)
        | _ => cases h
    | _ => cases h
theorem mxk_dcmp {p : Program} {l : Launch} {e : Env} {R : Room} {s : State} {m : MethodId} {args : Array Value} {below : List Frame} {meth : Method} {c : Code} {Q : State → Prop} {G : mxG} {y n0 k0 pc : Nat} {loc : mxL} {st : List Value} {σ : mxS} {q : mxN} {op : CmpOp} (X : mxX p R s m args meth c G y) (hd : decode (mxb y) pc = .ok (.dcmp op, 1)) (h : mxdcmp op (pc + 1) loc st σ = some (.inl q)) (kk : mxWs p l e R s m args below meth c Q G y n0 k0 q) : mxWs p l e R s m args below meth c Q G y n0 k0 (pc, loc, st, σ) := by
  cases st with
  | nil => cases h
  | cons v r =>
    cases v with
    | double y2 =>
      cases r with
      | nil => cases h
      | cons w r =>
        cases w with
        | double x2 =>
          cases h
          intro H locs ls hr hs hl
          exact lv_dcmp X.1 X.2.1 hd (kk H locs ls hr hs hl)
        | _ => cases h
    | _ => cases h
theorem mxk_idiv {p : Program} {l : Launch} {e : Env} {R : Room} {s : State} {m : MethodId} {args : Array Value} {below : List Frame} {meth : Method} {c : Code} {Q : State → Prop} {G : mxG} {y n0 k0 pc : Nat} {loc : mxL} {st : List Value} {σ : mxS} {q : mxN}  (X : mxX p R s m args meth c G y) (hd : decode (mxb y) pc = .ok (.idiv, 1)) (h : mxI2z (fun x y => x / y) (pc + 1) loc st σ = some (.inl q)) (kk : mxWs p l e R s m args below meth c Q G y n0 k0 q) : mxWs p l e R s m args below meth c Q G y n0 k0 (pc, loc, st, σ) := by
  cases st with
  | nil => cases h
  | cons v r =>
    cases v with
    | int y2 =>
      cases r with
      | nil => cases h
      | cons w r =>
        cases w with
        | int x2 =>
          unfold mxI2z at h
          dsimp only at h
          split at h
          · cases h
          · rename_i hk
            cases h
            intro H locs ls hr hs hl
            exact lv_idiv X.1 X.2.1 hd hk (kk H locs ls hr hs hl)
        | _ => cases h
    | _ => cases h
theorem mxk_irem {p : Program} {l : Launch} {e : Env} {R : Room} {s : State} {m : MethodId} {args : Array Value} {below : List Frame} {meth : Method} {c : Code} {Q : State → Prop} {G : mxG} {y n0 k0 pc : Nat} {loc : mxL} {st : List Value} {σ : mxS} {q : mxN}  (X : mxX p R s m args meth c G y) (hd : decode (mxb y) pc = .ok (.irem, 1)) (h : mxI2z (fun x y => x - x / y * y) (pc + 1) loc st σ = some (.inl q)) (kk : mxWs p l e R s m args below meth c Q G y n0 k0 q) : mxWs p l e R s m args below meth c Q G y n0 k0 (pc, loc, st, σ) := by
  cases st with
  | nil => cases h
  | cons v r =>
    cases v with
    | int y2 =>
      cases r with
      | nil => cases h
      | cons w r =>
        cases w with
        | int x2 =>
          unfold mxI2z at h
          dsimp only at h
          split at h
          · cases h
          · rename_i hk
            cases h
            intro H locs ls hr hs hl
            exact lv_irem X.1 X.2.1 hd hk (kk H locs ls hr hs hl)
        | _ => cases h
    | _ => cases h
theorem mxk_ddiv {p : Program} {l : Launch} {e : Env} {R : Room} {s : State} {m : MethodId} {args : Array Value} {below : List Frame} {meth : Method} {c : Code} {Q : State → Prop} {G : mxG} {y n0 k0 pc : Nat} {loc : mxL} {st : List Value} {σ : mxS} {q : mxN}  (X : mxX p R s m args meth c G y) (hd : decode (mxb y) pc = .ok (.ddiv, 1)) (h : mxddiv (pc + 1) loc st σ = some (.inl q)) (kk : mxWs p l e R s m args below meth c Q G y n0 k0 q) : mxWs p l e R s m args below meth c Q G y n0 k0 (pc, loc, st, σ) := by
  cases st with
  | nil => cases h
  | cons v r =>
    cases v with
    | double y2 =>
      cases r with
      | nil => cases h
      | cons w r =>
        cases w with
        | double x2 =>
          unfold mxddiv at h
          dsimp only at h
          split at h
          · rename_i hk
            cases h
            intro H locs ls hr hs hl
            exact lv_ddiv X.1 X.2.1 hd hk (kk H locs ls hr hs hl)
          · cases h
        | _ => cases h
    | _ => cases h
theorem mxk_ineg {p : Program} {l : Launch} {e : Env} {R : Room} {s : State} {m : MethodId} {args : Array Value} {below : List Frame} {meth : Method} {c : Code} {Q : State → Prop} {G : mxG} {y n0 k0 pc : Nat} {loc : mxL} {st : List Value} {σ : mxS} {q : mxN}  (X : mxX p R s m args meth c G y) (hd : decode (mxb y) pc = .ok (.ineg, 1)) (h : mxI1 (fun x => -x) (pc + 1) loc st σ = some (.inl q)) (kk : mxWs p l e R s m args below meth c Q G y n0 k0 q) : mxWs p l e R s m args below meth c Q G y n0 k0 (pc, loc, st, σ) := by
  cases st with
  | nil => cases h
  | cons v r =>
    cases v with
    | int x2 =>
      cases h
      intro H locs ls hr hs hl
      exact lv_ineg X.1 X.2.1 hd (kk H locs ls hr hs hl)
    | _ => cases h
theorem mxk_i2b {p : Program} {l : Launch} {e : Env} {R : Room} {s : State} {m : MethodId} {args : Array Value} {below : List Frame} {meth : Method} {c : Code} {Q : State → Prop} {G : mxG} {y n0 k0 pc : Nat} {loc : mxL} {st : List Value} {σ : mxS} {q : mxN}  (X : mxX p R s m args meth c G y) (hd : decode (mxb y) pc = .ok (.i2b, 1)) (h : mxI1 (fun x => x.toInt8.toInt32) (pc + 1) loc st σ = some (.inl q)) (kk : mxWs p l e R s m args below meth c Q G y n0 k0 q) : mxWs p l e R s m args below meth c Q G y n0 k0 (pc, loc, st, σ) := by
  cases st with
  | nil => cases h
  | cons v r =>
    cases v with
    | int x2 =>
      cases h
      intro H locs ls hr hs hl
      exact lv_i2b X.1 X.2.1 hd rfl (kk H locs ls hr hs hl)
    | _ => cases h
theorem mxk_i2c {p : Program} {l : Launch} {e : Env} {R : Room} {s : State} {m : MethodId} {args : Array Value} {below : List Frame} {meth : Method} {c : Code} {Q : State → Prop} {G : mxG} {y n0 k0 pc : Nat} {loc : mxL} {st : List Value} {σ : mxS} {q : mxN}  (X : mxX p R s m args meth c G y) (hd : decode (mxb y) pc = .ok (.i2c, 1)) (h : mxI1 (fun x => (x.toUInt32 % 65536).toInt32) (pc + 1) loc st σ = some (.inl q)) (kk : mxWs p l e R s m args below meth c Q G y n0 k0 q) : mxWs p l e R s m args below meth c Q G y n0 k0 (pc, loc, st, σ) := by
  cases st with
  | nil => cases h
  | cons v r =>
    cases v with
    | int x2 =>
      cases h
      intro H locs ls hr hs hl
      exact lv_i2c X.1 X.2.1 hd rfl (kk H locs ls hr hs hl)
    | _ => cases h
theorem mxk_i2l {p : Program} {l : Launch} {e : Env} {R : Room} {s : State} {m : MethodId} {args : Array Value} {below : List Frame} {meth : Method} {c : Code} {Q : State → Prop} {G : mxG} {y n0 k0 pc : Nat} {loc : mxL} {st : List Value} {σ : mxS} {q : mxN}  (X : mxX p R s m args meth c G y) (hd : decode (mxb y) pc = .ok (.i2l, 1)) (h : mxI2J (pc + 1) loc st σ = some (.inl q)) (kk : mxWs p l e R s m args below meth c Q G y n0 k0 q) : mxWs p l e R s m args below meth c Q G y n0 k0 (pc, loc, st, σ) := by
  cases st with
  | nil => cases h
  | cons v r =>
    cases v with
    | int x2 =>
      cases h
      intro H locs ls hr hs hl
      exact lv_i2l X.1 X.2.1 hd rfl (kk H locs ls hr hs hl)
    | _ => cases h
theorem mxk_l2i {p : Program} {l : Launch} {e : Env} {R : Room} {s : State} {m : MethodId} {args : Array Value} {below : List Frame} {meth : Method} {c : Code} {Q : State → Prop} {G : mxG} {y n0 k0 pc : Nat} {loc : mxL} {st : List Value} {σ : mxS} {q : mxN}  (X : mxX p R s m args meth c G y) (hd : decode (mxb y) pc = .ok (.l2i, 1)) (h : mxJ2I (pc + 1) loc st σ = some (.inl q)) (kk : mxWs p l e R s m args below meth c Q G y n0 k0 q) : mxWs p l e R s m args below meth c Q G y n0 k0 (pc, loc, st, σ) := by
  cases st with
  | nil => cases h
  | cons v r =>
    cases v with
    | long x2 =>
      cases h
      intro H locs ls hr hs hl
      exact lv_l2i X.1 X.2.1 hd rfl (kk H locs ls hr hs hl)
    | _ => cases h
theorem mxk_i2d {p : Program} {l : Launch} {e : Env} {R : Room} {s : State} {m : MethodId} {args : Array Value} {below : List Frame} {meth : Method} {c : Code} {Q : State → Prop} {G : mxG} {y n0 k0 pc : Nat} {loc : mxL} {st : List Value} {σ : mxS} {q : mxN}  (X : mxX p R s m args meth c G y) (hd : decode (mxb y) pc = .ok (.i2d, 1)) (h : mxI2D (pc + 1) loc st σ = some (.inl q)) (kk : mxWs p l e R s m args below meth c Q G y n0 k0 q) : mxWs p l e R s m args below meth c Q G y n0 k0 (pc, loc, st, σ) := by
  cases st with
  | nil => cases h
  | cons v r =>
    cases v with
    | int x2 =>
      cases h
      intro H locs ls hr hs hl
      exact lv_i2d X.1 X.2.1 hd (kk H locs ls hr hs hl)
    | _ => cases h
theorem mxk_if_eq {p : Program} {l : Launch} {e : Env} {R : Room} {s : State} {m : MethodId} {args : Array Value} {below : List Frame} {meth : Method} {c : Code} {Q : State → Prop} {G : mxG} {y n0 k0 pc : Nat} {loc : mxL} {st : List Value} {σ : mxS} {q : mxN} {o : Int} (h0 : 0 ≤ (pc : Int) + o) (X : mxX p R s m args meth c G y) (hd : decode (mxb y) pc = .ok (.ifCond .eq o, 3)) (h : mxif_eq (mxtgt pc o) (pc + 3) loc st σ = some (.inl q)) (kk : mxWs p l e R s m args below meth c Q G y n0 k0 q) : mxWs p l e R s m args below meth c Q G y n0 k0 (pc, loc, st, σ) := by
  cases st with
  | nil => cases h
  | cons v r =>
    cases v with
    | int x2 =>
      unfold mxif_eq at h
      dsimp only at h
      intro H locs ls hr hs hl
      exact lv_if_eq X.1 X.2.1 hd (mxtgt_eq h0) (fun hx => by rw [if_pos hx] at h; cases h; exact kk H locs ls hr hs hl) (fun hx => by rw [if_neg hx] at h; cases h; exact kk H locs ls hr hs hl)
    | _ => cases h
theorem mxk_ic_eq {p : Program} {l : Launch} {e : Env} {R : Room} {s : State} {m : MethodId} {args : Array Value} {below : List Frame} {meth : Method} {c : Code} {Q : State → Prop} {G : mxG} {y n0 k0 pc : Nat} {loc : mxL} {st : List Value} {σ : mxS} {q : mxN} {o : Int} (h0 : 0 ≤ (pc : Int) + o) (X : mxX p R s m args meth c G y) (hd : decode (mxb y) pc = .ok (.if_icmp .eq o, 3)) (h : mxic_eq (mxtgt pc o) (pc + 3) loc st σ = some (.inl q)) (kk : mxWs p l e R s m args below meth c Q G y n0 k0 q) : mxWs p l e R s m args below meth c Q G y n0 k0 (pc, loc, st, σ) := by
  cases st with
  | nil => cases h
  | cons v r =>
    cases v with
    | int y2 =>
      cases r with
      | nil => cases h
      | cons w r =>
        cases w with
        | int x2 =>
          unfold mxic_eq at h
          dsimp only at h
          intro H locs ls hr hs hl
          exact lv_icmp_eq X.1 X.2.1 hd (mxtgt_eq h0) (fun hx => by rw [if_pos hx] at h; cases h; exact kk H locs ls hr hs hl) (fun hx => by rw [if_neg hx] at h; cases h; exact kk H locs ls hr hs hl)
        | _ => cases h
    | _ => cases h
theorem mxk_if_ne {p : Program} {l : Launch} {e : Env} {R : Room} {s : State} {m : MethodId} {args : Array Value} {below : List Frame} {meth : Method} {c : Code} {Q : State → Prop} {G : mxG} {y n0 k0 pc : Nat} {loc : mxL} {st : List Value} {σ : mxS} {q : mxN} {o : Int} (h0 : 0 ≤ (pc : Int) + o) (X : mxX p R s m args meth c G y) (hd : decode (mxb y) pc = .ok (.ifCond .ne o, 3)) (h : mxif_ne (mxtgt pc o) (pc + 3) loc st σ = some (.inl q)) (kk : mxWs p l e R s m args below meth c Q G y n0 k0 q) : mxWs p l e R s m args below meth c Q G y n0 k0 (pc, loc, st, σ) := by
  cases st with
  | nil => cases h
  | cons v r =>
    cases v with
    | int x2 =>
      unfold mxif_ne at h
      dsimp only at h
      intro H locs ls hr hs hl
      exact lv_if_ne X.1 X.2.1 hd (mxtgt_eq h0) (fun hx => by rw [if_pos hx] at h; cases h; exact kk H locs ls hr hs hl) (fun hx => by rw [if_neg (fun z => z hx)] at h; cases h; exact kk H locs ls hr hs hl)
    | _ => cases h
theorem mxk_ic_ne {p : Program} {l : Launch} {e : Env} {R : Room} {s : State} {m : MethodId} {args : Array Value} {below : List Frame} {meth : Method} {c : Code} {Q : State → Prop} {G : mxG} {y n0 k0 pc : Nat} {loc : mxL} {st : List Value} {σ : mxS} {q : mxN} {o : Int} (h0 : 0 ≤ (pc : Int) + o) (X : mxX p R s m args meth c G y) (hd : decode (mxb y) pc = .ok (.if_icmp .ne o, 3)) (h : mxic_ne (mxtgt pc o) (pc + 3) loc st σ = some (.inl q)) (kk : mxWs p l e R s m args below meth c Q G y n0 k0 q) : mxWs p l e R s m args below meth c Q G y n0 k0 (pc, loc, st, σ) := by
  cases st with
  | nil => cases h
  | cons v r =>
    cases v with
    | int y2 =>
      cases r with
      | nil => cases h
      | cons w r =>
        cases w with
        | int x2 =>
          unfold mxic_ne at h
          dsimp only at h
          intro H locs ls hr hs hl
          exact lv_icmp_ne X.1 X.2.1 hd (mxtgt_eq h0) (fun hx => by rw [if_pos hx] at h; cases h; exact kk H locs ls hr hs hl) (fun hx => by rw [if_neg (fun z => z hx)] at h; cases h; exact kk H locs ls hr hs hl)
        | _ => cases h
    | _ => cases h
theorem mxk_if_lt {p : Program} {l : Launch} {e : Env} {R : Room} {s : State} {m : MethodId} {args : Array Value} {below : List Frame} {meth : Method} {c : Code} {Q : State → Prop} {G : mxG} {y n0 k0 pc : Nat} {loc : mxL} {st : List Value} {σ : mxS} {q : mxN} {o : Int} (h0 : 0 ≤ (pc : Int) + o) (X : mxX p R s m args meth c G y) (hd : decode (mxb y) pc = .ok (.ifCond .lt o, 3)) (h : mxif_lt (mxtgt pc o) (pc + 3) loc st σ = some (.inl q)) (kk : mxWs p l e R s m args below meth c Q G y n0 k0 q) : mxWs p l e R s m args below meth c Q G y n0 k0 (pc, loc, st, σ) := by
  cases st with
  | nil => cases h
  | cons v r =>
    cases v with
    | int x2 =>
      unfold mxif_lt at h
      dsimp only at h
      intro H locs ls hr hs hl
      exact lv_if_lt X.1 X.2.1 hd (mxtgt_eq h0) (fun hx => by rw [if_pos hx] at h; cases h; exact kk H locs ls hr hs hl) (fun hx => by rw [if_neg hx] at h; cases h; exact kk H locs ls hr hs hl)
    | _ => cases h
theorem mxk_ic_lt {p : Program} {l : Launch} {e : Env} {R : Room} {s : State} {m : MethodId} {args : Array Value} {below : List Frame} {meth : Method} {c : Code} {Q : State → Prop} {G : mxG} {y n0 k0 pc : Nat} {loc : mxL} {st : List Value} {σ : mxS} {q : mxN} {o : Int} (h0 : 0 ≤ (pc : Int) + o) (X : mxX p R s m args meth c G y) (hd : decode (mxb y) pc = .ok (.if_icmp .lt o, 3)) (h : mxic_lt (mxtgt pc o) (pc + 3) loc st σ = some (.inl q)) (kk : mxWs p l e R s m args below meth c Q G y n0 k0 q) : mxWs p l e R s m args below meth c Q G y n0 k0 (pc, loc, st, σ) := by
  cases st with
  | nil => cases h
  | cons v r =>
    cases v with
    | int y2 =>
      cases r with
      | nil => cases h
      | cons w r =>
        cases w with
        | int x2 =>
          unfold mxic_lt at h
          dsimp only at h
          intro H locs ls hr hs hl
          exact lv_icmp_lt X.1 X.2.1 hd (mxtgt_eq h0) (fun hx => by rw [if_pos hx] at h; cases h; exact kk H locs ls hr hs hl) (fun hx => by rw [if_neg hx] at h; cases h; exact kk H locs ls hr hs hl)
        | _ => cases h
    | _ => cases h
theorem mxk_if_ge {p : Program} {l : Launch} {e : Env} {R : Room} {s : State} {m : MethodId} {args : Array Value} {below : List Frame} {meth : Method} {c : Code} {Q : State → Prop} {G : mxG} {y n0 k0 pc : Nat} {loc : mxL} {st : List Value} {σ : mxS} {q : mxN} {o : Int} (h0 : 0 ≤ (pc : Int) + o) (X : mxX p R s m args meth c G y) (hd : decode (mxb y) pc = .ok (.ifCond .ge o, 3)) (h : mxif_ge (mxtgt pc o) (pc + 3) loc st σ = some (.inl q)) (kk : mxWs p l e R s m args below meth c Q G y n0 k0 q) : mxWs p l e R s m args below meth c Q G y n0 k0 (pc, loc, st, σ) := by
  cases st with
  | nil => cases h
  | cons v r =>
    cases v with
    | int x2 =>
      unfold mxif_ge at h
      dsimp only at h
      intro H locs ls hr hs hl
      exact lv_if_ge X.1 X.2.1 hd (mxtgt_eq h0) (fun hx => by rw [if_pos hx] at h; cases h; exact kk H locs ls hr hs hl) (fun hx => by rw [if_neg hx] at h; cases h; exact kk H locs ls hr hs hl)
    | _ => cases h
theorem mxk_ic_ge {p : Program} {l : Launch} {e : Env} {R : Room} {s : State} {m : MethodId} {args : Array Value} {below : List Frame} {meth : Method} {c : Code} {Q : State → Prop} {G : mxG} {y n0 k0 pc : Nat} {loc : mxL} {st : List Value} {σ : mxS} {q : mxN} {o : Int} (h0 : 0 ≤ (pc : Int) + o) (X : mxX p R s m args meth c G y) (hd : decode (mxb y) pc = .ok (.if_icmp .ge o, 3)) (h : mxic_ge (mxtgt pc o) (pc + 3) loc st σ = some (.inl q)) (kk : mxWs p l e R s m args below meth c Q G y n0 k0 q) : mxWs p l e R s m args below meth c Q G y n0 k0 (pc, loc, st, σ) := by
  cases st with
  | nil => cases h
  | cons v r =>
    cases v with
    | int y2 =>
      cases r with
      | nil => cases h
      | cons w r =>
        cases w with
        | int x2 =>
          unfold mxic_ge at h
          dsimp only at h
          intro H locs ls hr hs hl
          exact lv_icmp_ge X.1 X.2.1 hd (mxtgt_eq h0) (fun hx => by rw [if_pos hx] at h; cases h; exact kk H locs ls hr hs hl) (fun hx => by rw [if_neg hx] at h; cases h; exact kk H locs ls hr hs hl)
        | _ => cases h
    | _ => cases h
theorem mxk_if_gt {p : Program} {l : Launch} {e : Env} {R : Room} {s : State} {m : MethodId} {args : Array Value} {below : List Frame} {meth : Method} {c : Code} {Q : State → Prop} {G : mxG} {y n0 k0 pc : Nat} {loc : mxL} {st : List Value} {σ : mxS} {q : mxN} {o : Int} (h0 : 0 ≤ (pc : Int) + o) (X : mxX p R s m args meth c G y) (hd : decode (mxb y) pc = .ok (.ifCond .gt o, 3)) (h : mxif_gt (mxtgt pc o) (pc + 3) loc st σ = some (.inl q)) (kk : mxWs p l e R s m args below meth c Q G y n0 k0 q) : mxWs p l e R s m args below meth c Q G y n0 k0 (pc, loc, st, σ) := by
  cases st with
  | nil => cases h
  | cons v r =>
    cases v with
    | int x2 =>
      unfold mxif_gt at h
      dsimp only at h
      intro H locs ls hr hs hl
      exact lv_if_gt X.1 X.2.1 hd (mxtgt_eq h0) (fun hx => by rw [if_pos hx] at h; cases h; exact kk H locs ls hr hs hl) (fun hx => by rw [if_neg hx] at h; cases h; exact kk H locs ls hr hs hl)
    | _ => cases h
theorem mxk_ic_gt {p : Program} {l : Launch} {e : Env} {R : Room} {s : State} {m : MethodId} {args : Array Value} {below : List Frame} {meth : Method} {c : Code} {Q : State → Prop} {G : mxG} {y n0 k0 pc : Nat} {loc : mxL} {st : List Value} {σ : mxS} {q : mxN} {o : Int} (h0 : 0 ≤ (pc : Int) + o) (X : mxX p R s m args meth c G y) (hd : decode (mxb y) pc = .ok (.if_icmp .gt o, 3)) (h : mxic_gt (mxtgt pc o) (pc + 3) loc st σ = some (.inl q)) (kk : mxWs p l e R s m args below meth c Q G y n0 k0 q) : mxWs p l e R s m args below meth c Q G y n0 k0 (pc, loc, st, σ) := by
  cases st with
  | nil => cases h
  | cons v r =>
    cases v with
    | int y2 =>
      cases r with
      | nil => cases h
      | cons w r =>
        cases w with
        | int x2 =>
          unfold mxic_gt at h
          dsimp only at h
          intro H locs ls hr hs hl
          exact lv_icmp_gt X.1 X.2.1 hd (mxtgt_eq h0) (fun hx => by rw [if_pos hx] at h; cases h; exact kk H locs ls hr hs hl) (fun hx => by rw [if_neg hx] at h; cases h; exact kk H locs ls hr hs hl)
        | _ => cases h
    | _ => cases h
theorem mxk_if_le {p : Program} {l : Launch} {e : Env} {R : Room} {s : State} {m : MethodId} {args : Array Value} {below : List Frame} {meth : Method} {c : Code} {Q : State → Prop} {G : mxG} {y n0 k0 pc : Nat} {loc : mxL} {st : List Value} {σ : mxS} {q : mxN} {o : Int} (h0 : 0 ≤ (pc : Int) + o) (X : mxX p R s m args meth c G y) (hd : decode (mxb y) pc = .ok (.ifCond .le o, 3)) (h : mxif_le (mxtgt pc o) (pc + 3) loc st σ = some (.inl q)) (kk : mxWs p l e R s m args below meth c Q G y n0 k0 q) : mxWs p l e R s m args below meth c Q G y n0 k0 (pc, loc, st, σ) := by
  cases st with
  | nil => cases h
  | cons v r =>
    cases v with
    | int x2 =>
      unfold mxif_le at h
      dsimp only at h
      intro H locs ls hr hs hl
      exact lv_if_le X.1 X.2.1 hd (mxtgt_eq h0) (fun hx => by rw [if_pos hx] at h; cases h; exact kk H locs ls hr hs hl) (fun hx => by rw [if_neg hx] at h; cases h; exact kk H locs ls hr hs hl)
    | _ => cases h
theorem mxk_ic_le {p : Program} {l : Launch} {e : Env} {R : Room} {s : State} {m : MethodId} {args : Array Value} {below : List Frame} {meth : Method} {c : Code} {Q : State → Prop} {G : mxG} {y n0 k0 pc : Nat} {loc : mxL} {st : List Value} {σ : mxS} {q : mxN} {o : Int} (h0 : 0 ≤ (pc : Int) + o) (X : mxX p R s m args meth c G y) (hd : decode (mxb y) pc = .ok (.if_icmp .le o, 3)) (h : mxic_le (mxtgt pc o) (pc + 3) loc st σ = some (.inl q)) (kk : mxWs p l e R s m args below meth c Q G y n0 k0 q) : mxWs p l e R s m args below meth c Q G y n0 k0 (pc, loc, st, σ) := by
  cases st with
  | nil => cases h
  | cons v r =>
    cases v with
    | int y2 =>
      cases r with
      | nil => cases h
      | cons w r =>
        cases w with
        | int x2 =>
          unfold mxic_le at h
          dsimp only at h
          intro H locs ls hr hs hl
          exact lv_icmp_le X.1 X.2.1 hd (mxtgt_eq h0) (fun hx => by rw [if_pos hx] at h; cases h; exact kk H locs ls hr hs hl) (fun hx => by rw [if_neg hx] at h; cases h; exact kk H locs ls hr hs hl)
        | _ => cases h
    | _ => cases h
theorem mxk_goto {p : Program} {l : Launch} {e : Env} {R : Room} {s : State} {m : MethodId} {args : Array Value} {below : List Frame} {meth : Method} {c : Code} {Q : State → Prop} {G : mxG} {y n0 k0 pc : Nat} {loc : mxL} {st : List Value} {σ : mxS} {q : mxN} {o : Int} (h0 : 0 ≤ (pc : Int) + o) (X : mxX p R s m args meth c G y) (hd : decode (mxb y) pc = .ok (.goto o, 3)) (h : mxgo (mxtgt pc o) loc st σ = some (.inl q)) (kk : mxWs p l e R s m args below meth c Q G y n0 k0 q) : mxWs p l e R s m args below meth c Q G y n0 k0 (pc, loc, st, σ) := by
  cases h
  intro H locs ls hr hs hl
  exact lv_goto X.1 X.2.1 hd (mxtgt_eq h0) (kk H locs ls hr hs hl)
theorem mxen_rf {G : mxG} {v : Value} {a : Option Nat} (h : mxen v = some a) : mxtr G v = va_rf (a.map (mxgA G)) ∧ ∀ x, a = some x → x < 47 := by
  cases v with
  | ref x =>
    unfold mxen at h
    dsimp only at h
    split at h
    · rename_i hx
      cases h
      refine ⟨?_, fun z hz => by cases hz; exact hx⟩
      show (if x = 998 then gF G else .ref (mxad G x)) = _
      have key : ∀ n : Nat, n < 47 → (¬ n = 998) ∧ n < 1000 := fun n h => by omega
      rw [if_neg (key x hx).1, mxad, if_pos (key x hx).2]
      rfl
    · cases h
  | null => cases h; exact ⟨rfl, fun z hz => nomatch hz⟩
  | _ => cases h
theorem mxen_inj {G : mxG} (hi : ∀ i j, i < 47 → j < 47 → mxgA G i = mxgA G j → i = j) {a b : Option Nat} (ha : ∀ x, a = some x → x < 47) (hb : ∀ x, b = some x → x < 47) : a.map (mxgA G) = b.map (mxgA G) ↔ a = b := by
  cases a with
  | none => cases b with
    | none => exact ⟨fun _ => rfl, fun _ => rfl⟩
    | some b => exact ⟨fun h => (nomatch h), fun h => (nomatch h)⟩
  | some a => cases b with
    | none => exact ⟨fun h => (nomatch h), fun h => (nomatch h)⟩
    | some b =>
      constructor
      · intro h
        rw [hi a b (ha a rfl) (hb b rfl) (Option.some.inj h)]
      · intro h
        rw [h]
theorem mxk_ca_eq {p : Program} {l : Launch} {e : Env} {R : Room} {s : State} {m : MethodId} {args : Array Value} {below : List Frame} {meth : Method} {c : Code} {Q : State → Prop} {G : mxG} {y n0 k0 pc : Nat} {loc : mxL} {st : List Value} {σ : mxS} {q : mxN} {o : Int} (h0 : 0 ≤ (pc : Int) + o) (X : mxX p R s m args meth c G y) (hd : decode (mxb y) pc = .ok (.if_acmp .eq o, 3)) (h : mxca true (mxtgt pc o) (pc + 3) loc st σ = some (.inl q)) (kk : mxWs p l e R s m args below meth c Q G y n0 k0 q) : mxWs p l e R s m args below meth c Q G y n0 k0 (pc, loc, st, σ) := by
  cases st with
  | nil => cases h
  | cons v r =>
    cases r with
    | nil => cases h
    | cons w r =>
      unfold mxca at h
      dsimp only at h
      cases ha : mxen w with
      | none => rw [ha] at h; cases h
      | some a =>
        cases hb : mxen v with
        | none => rw [ha, hb] at h; cases h
        | some b =>
          rw [ha, hb] at h
          unfold mxca2 at h
          dsimp only at h
          intro H locs ls hr hs hl
          obtain ⟨a1, a2⟩ := mxen_rf (G := G) ha
          obtain ⟨b1, b2⟩ := mxen_rf (G := G) hb
          have hi := mxen_inj X.2.2.2.2.2.1.2.2.2.2.2.2.2.2.2.1 a2 b2
          show W _ _ _ _ _ _ _ _ _ _ _ _ _ _ _ (F0 m pc ls (mxtr G v :: mxtr G w :: r.map (mxtr G)))
          rw [a1, b1]
          refine lv_acmp_eq X.1 X.2.1 hd (mxtgt_eq h0) (fun hx => ?_) (fun hx => ?_)
          · have hq : a = b := hi.mp hx
            rw [if_pos (by simp [hq])] at h
            cases h
            exact kk H locs ls hr hs hl
          · have hq : ¬ a = b := fun z => hx (hi.mpr z)
            rw [if_neg (by simp [hq])] at h
            cases h
            exact kk H locs ls hr hs hl
theorem mxk_ca_ne {p : Program} {l : Launch} {e : Env} {R : Room} {s : State} {m : MethodId} {args : Array Value} {below : List Frame} {meth : Method} {c : Code} {Q : State → Prop} {G : mxG} {y n0 k0 pc : Nat} {loc : mxL} {st : List Value} {σ : mxS} {q : mxN} {o : Int} (h0 : 0 ≤ (pc : Int) + o) (X : mxX p R s m args meth c G y) (hd : decode (mxb y) pc = .ok (.if_acmp .ne o, 3)) (h : mxca false (mxtgt pc o) (pc + 3) loc st σ = some (.inl q)) (kk : mxWs p l e R s m args below meth c Q G y n0 k0 q) : mxWs p l e R s m args below meth c Q G y n0 k0 (pc, loc, st, σ) := by
  cases st with
  | nil => cases h
  | cons v r =>
    cases r with
    | nil => cases h
    | cons w r =>
      unfold mxca at h
      dsimp only at h
      cases ha : mxen w with
      | none => rw [ha] at h; cases h
      | some a =>
        cases hb : mxen v with
        | none => rw [ha, hb] at h; cases h
        | some b =>
          rw [ha, hb] at h
          unfold mxca2 at h
          dsimp only at h
          intro H locs ls hr hs hl
          obtain ⟨a1, a2⟩ := mxen_rf (G := G) ha
          obtain ⟨b1, b2⟩ := mxen_rf (G := G) hb
          have hi := mxen_inj X.2.2.2.2.2.1.2.2.2.2.2.2.2.2.2.1 a2 b2
          show W _ _ _ _ _ _ _ _ _ _ _ _ _ _ _ (F0 m pc ls (mxtr G v :: mxtr G w :: r.map (mxtr G)))
          rw [a1, b1]
          refine lv_acmp_ne X.1 X.2.1 hd (mxtgt_eq h0) (fun hx => ?_) (fun hx => ?_)
          · have hq : ¬ a = b := fun z => hx (hi.mpr z)
            rw [if_pos (by simp [hq])] at h
            cases h
            exact kk H locs ls hr hs hl
          · have hq : a = b := hi.mp hx
            rw [if_neg (by simp [hq])] at h
            cases h
            exact kk H locs ls hr hs hl
theorem mxlk_off (pc : Nat) (dflt : Int) (x : Int) : ∀ ps : List (Int × Int), mxlk (ps.map (fun q => (q.1, mxtgt pc q.2))) (mxtgt pc dflt) x = mxtgt pc (Op.lookupswitch.offset ps dflt x)
  | [] => rfl
  | (k, o) :: ps => by
    rw [List.map_cons, mxlk, Op.lookupswitch.offset]
    by_cases h : x = k
    · subst h
      simp
    · rw [if_neg h]
      have := mxlk_off pc dflt x ps
      simp [h, Ne.symm h, this, eq_comm]
theorem mxoff_in (pc : Nat) (dflt : Int) (x : Int) (hd : 0 ≤ (pc : Int) + dflt) : ∀ ps : List (Int × Int), (∀ q ∈ ps, 0 ≤ (pc : Int) + q.2) → 0 ≤ (pc : Int) + Op.lookupswitch.offset ps dflt x
  | [], _ => hd
  | (k, o) :: ps, h => by
    have := mxoff_in pc dflt x hd ps (fun q hq => h q (List.mem_cons_of_mem _ hq))
    have h1 := h (k, o) List.mem_cons_self
    rw [Op.lookupswitch.offset]
    split
    · exact h1
    · exact this
theorem mxk_lookup {p : Program} {l : Launch} {e : Env} {R : Room} {s : State} {m : MethodId} {args : Array Value} {below : List Frame} {meth : Method} {c : Code} {Q : State → Prop} {G : mxG} {y n0 k0 pc : Nat} {loc : mxL} {st : List Value} {σ : mxS} {q : mxN} {d : Int} {ps : Array (Int × Int)} {nn : Nat} (h0 : 0 ≤ (pc : Int) + d) (h1 : ∀ q ∈ ps.toList, 0 ≤ (pc : Int) + q.2) (hz : (ps.toList.zip (ps.toList.drop 1)).all (fun (a, next) => a.1 < next.1) = true) (X : mxX p R s m args meth c G y) (hd : decode (mxb y) pc = .ok (.lookupswitch d ps, nn)) (h : mxsw (ps.toList.map (fun q => (q.1, mxtgt pc q.2))) (mxtgt pc d) loc st σ = some (.inl q)) (kk : mxWs p l e R s m args below meth c Q G y n0 k0 q) : mxWs p l e R s m args below meth c Q G y n0 k0 (pc, loc, st, σ) := by
  cases st with
  | nil => cases h
  | cons v r =>
    cases v with
    | int x2 =>
      unfold mxsw at h
      dsimp only at h
      rw [mxlk_off] at h
      cases h
      intro H locs ls hr hs hl
      exact lv_lookup X.1 X.2.1 hd hz rfl (mxtgt_eq (mxoff_in pc d _ h0 _ h1)) (kk H locs ls hr hs hl)
    | _ => cases h
theorem mxtab_in (pc d : Nat) (x : Int) : ∀ (os : List Int) (lo : Int), ¬ x < lo → ∀ o, os[(x - lo).toNat]? = some o → mxlk (mxTabs pc lo os) d x = mxtgt pc o
  | [], lo, _, o, h => by simp at h
  | o1 :: os, lo, hlo, o, h => by
    rw [mxTabs, mxlk]
    by_cases e : x = lo
    · subst e
      rw [if_pos rfl]
      simp at h
      rw [h]
    · rw [if_neg e]
      refine mxtab_in pc d x os (lo + 1) (by omega) o ?_
      rw [show (x - lo).toNat = (x - (lo + 1)).toNat + 1 by omega, List.getElem?_cons_succ] at h
      exact h
theorem mxtab_out (pc d : Nat) (x : Int) : ∀ (os : List Int) (lo : Int), (x < lo ∨ lo + os.length ≤ x) → mxlk (mxTabs pc lo os) d x = d
  | [], lo, _ => rfl
  | o1 :: os, lo, h => by
    rw [mxTabs, mxlk, if_neg (by simp only [List.length_cons] at h; omega)]
    refine mxtab_out pc d x os (lo + 1) ?_
    simp only [List.length_cons] at h
    omega
theorem mxk_table {p : Program} {l : Launch} {e : Env} {R : Room} {s : State} {m : MethodId} {args : Array Value} {below : List Frame} {meth : Method} {c : Code} {Q : State → Prop} {G : mxG} {y n0 k0 pc : Nat} {loc : mxL} {st : List Value} {σ : mxS} {q : mxN} {d lo hi : Int} {os : Array Int} {nn : Nat} (h0 : 0 ≤ (pc : Int) + d) (h1 : ∀ o ∈ os.toList, 0 ≤ (pc : Int) + o) (X : mxX p R s m args meth c G y) (hd : decode (mxb y) pc = .ok (.tableswitch d lo hi os, nn)) (h : (if os.size = (hi - lo + 1).toNat then mxsw (mxTabs pc lo os.toList) (mxtgt pc d) loc st σ else none) = some (.inl q)) (kk : mxWs p l e R s m args below meth c Q G y n0 k0 q) : mxWs p l e R s m args below meth c Q G y n0 k0 (pc, loc, st, σ) := by
  split at h
  · rename_i hsz
    cases st with
    | nil => cases h
    | cons v r =>
      cases v with
      | int x2 =>
        unfold mxsw at h
        dsimp only at h
        intro H locs ls hr hs hl
        by_cases hx : x2.toInt < lo ∨ hi < x2.toInt
        · rw [mxtab_out pc _ _ _ _ (by rw [Array.length_toList, hsz]; omega)] at h
          cases h
          exact lv_tableOut X.1 X.2.1 hd hx (mxtgt_eq h0) (kk H locs ls hr hs hl)
        · have hj : (x2.toInt - lo).toNat < os.size := by omega
          have ho : os[(x2.toInt - lo).toNat]? = some os[(x2.toInt - lo).toNat] := Array.getElem?_eq_getElem hj
          rw [mxtab_in pc _ _ _ _ (by omega) _ (by rw [Array.getElem?_toList]; exact ho)] at h
          cases h
          exact lv_tableIn X.1 X.2.1 hd (by omega) (by omega) ho (mxtgt_eq (h1 _ (Array.getElem_mem_toList hj))) (kk H locs ls hr hs hl)
      | _ => cases h
  · cases h
theorem mxk_dup {p : Program} {l : Launch} {e : Env} {R : Room} {s : State} {m : MethodId} {args : Array Value} {below : List Frame} {meth : Method} {c : Code} {Q : State → Prop} {G : mxG} {y n0 k0 pc : Nat} {loc : mxL} {st : List Value} {σ : mxS} {q : mxN}  (X : mxX p R s m args meth c G y) (hd : decode (mxb y) pc = .ok (.dup, 1)) (h : mxdup (pc + 1) loc st σ = some (.inl q)) (kk : mxWs p l e R s m args below meth c Q G y n0 k0 q) : mxWs p l e R s m args below meth c Q G y n0 k0 (pc, loc, st, σ) := by
  cases st with
  | nil => cases h
  | cons v r =>
    unfold mxdup at h
    dsimp only at h
    split at h
    · rename_i hv
      cases h
      intro H locs ls hr hs hl
      exact lv_dup X.1 X.2.1 hd ((mxtr_cat G X.F v).trans hv) (kk H locs ls hr hs hl)
    · cases h
theorem mxk_pop {p : Program} {l : Launch} {e : Env} {R : Room} {s : State} {m : MethodId} {args : Array Value} {below : List Frame} {meth : Method} {c : Code} {Q : State → Prop} {G : mxG} {y n0 k0 pc : Nat} {loc : mxL} {st : List Value} {σ : mxS} {q : mxN}  (X : mxX p R s m args meth c G y) (hd : decode (mxb y) pc = .ok (.pop, 1)) (h : mxpop (pc + 1) loc st σ = some (.inl q)) (kk : mxWs p l e R s m args below meth c Q G y n0 k0 q) : mxWs p l e R s m args below meth c Q G y n0 k0 (pc, loc, st, σ) := by
  cases st with
  | nil => cases h
  | cons v r =>
    unfold mxpop at h
    dsimp only at h
    split at h
    · rename_i hv
      cases h
      intro H locs ls hr hs hl
      exact lv_pop X.1 X.2.1 hd ((mxtr_cat G X.F v).trans hv) (kk H locs ls hr hs hl)
    · cases h
theorem mxk_dup2 {p : Program} {l : Launch} {e : Env} {R : Room} {s : State} {m : MethodId} {args : Array Value} {below : List Frame} {meth : Method} {c : Code} {Q : State → Prop} {G : mxG} {y n0 k0 pc : Nat} {loc : mxL} {st : List Value} {σ : mxS} {q : mxN}  (X : mxX p R s m args meth c G y) (hd : decode (mxb y) pc = .ok (.dup2, 1)) (h : mxdup2 (pc + 1) loc st σ = some (.inl q)) (kk : mxWs p l e R s m args below meth c Q G y n0 k0 q) : mxWs p l e R s m args below meth c Q G y n0 k0 (pc, loc, st, σ) := by
  cases st with
  | nil => cases h
  | cons v r =>
    cases r with
    | nil => cases h
    | cons w r =>
      unfold mxdup2 at h
      dsimp only at h
      split at h
      · rename_i hv
        cases h
        intro H locs ls hr hs hl
        exact lv_dup2_11 X.1 X.2.1 hd ((mxtr_cat G X.F v).trans hv.1) ((mxtr_cat G X.F w).trans hv.2) (kk H locs ls hr hs hl)
      · cases h
