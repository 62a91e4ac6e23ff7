/-! ===== the end of a run ===== -/
def mxexn (q : Nat) : String := if q = 0 then "java/lang/IllegalStateException" else if q = 1 then "java/lang/IllegalArgumentException" else "java/lang/IndexOutOfBoundsException"
def mxQc (G : mxG) (r : mxR) : Array Value → State → Outcome → State → Prop := fun _ U o t => ∃ v, r.1 = .inl v ∧ o = .returned (v.map (mxtr G)) ∧ mxRel G r.2 t.heap ∧ va_F (mxfree G) U t
def mxXC (G : mxG) (r : mxR) : String → State → State → Prop := fun E U t => ∃ q, r.1 = .inr q ∧ q < 3 ∧ E = mxexn q ∧ mxRel G r.2 t.heap ∧ va_F (mxfree G) U t
def mxMQ (below : List Frame) (G : mxG) (r : mxR) (args : Array Value) (s : State) (n0 k0 : Nat) : State → Prop := vx_MQ below (mxQc G r) (mxXC G r) args s (r.2.2.1 - n0) (r.2.2.2 - k0) (mxfree G)
/-- a frame's room, the handlers of its method, what it answers -/
def mxY (R : Room) (d y : Nat) (meth : Method) (c : Code) : Prop := (d + 14 ≤ R.frames ∧ 100 * d + 200 ≤ R.locals) ∧ meth.sig.returnType = mxrt y ∧ (y ≠ 2582 → c.exceptionTable.toList.map (fun h => (h.startPc, h.endPc, h.handlerPc, h.catchType)) = mxhh y)
theorem mxnoex {R : Room} {d y : Nat} {meth : Method} {c : Code} (h : mxY R d y meth c) (hn : y ≠ 2582) (hy : mxhh y = []) : ∀ x ∈ c.exceptionTable.toList, False := by
  intro x hx
  have h1 := h.2.2 hn
  rw [hy] at h1
  rw [List.map_eq_nil_iff.mp h1] at hx
  cases hx
theorem mxrok_i {rt : Option FieldType} : mxrok 0 rt = true → rt = some .int := by
  intro h; cases rt with
  | none => cases h
  | some t => cases t <;> first | rfl | cases h
theorem mxrok_z {rt : Option FieldType} : mxrok 1 rt = true → rt = some .boolean := by
  intro h; cases rt with
  | none => cases h
  | some t => cases t <;> first | rfl | cases h
theorem mxrok_b {rt : Option FieldType} : mxrok 2 rt = true → rt = some .byte := by
  intro h; cases rt with
  | none => cases h
  | some t => cases t <;> first | rfl | cases h
theorem mxrok_c {rt : Option FieldType} : mxrok 3 rt = true → rt = some .char := by
  intro h; cases rt with
  | none => cases h
  | some t => cases t <;> first | rfl | cases h
theorem mxrok_l {rt : Option FieldType} : mxrok 4 rt = true → rt = some .long := by
  intro h; cases rt with
  | none => cases h
  | some t => cases t <;> first | rfl | cases h
theorem mxrok_d {rt : Option FieldType} : mxrok 5 rt = true → rt = some .double := by
  intro h; cases rt with
  | none => cases h
  | some t => cases t <;> first | rfl | cases h
theorem mxrok_a {rt : Option FieldType} : mxrok 6 rt = true → ∃ t, rt = some t ∧ ((∃ n, t = .object n) ∨ ∃ c, t = .array c) := by
  intro h; cases rt with
  | none => cases h
  | some t => cases t <;> first | exact ⟨_, rfl, Or.inl ⟨_, rfl⟩⟩ | exact ⟨_, rfl, Or.inr ⟨_, rfl⟩⟩ | cases h
theorem mxrok_v {rt : Option FieldType} : mxrok 7 rt = true → rt = none := by
  intro h; cases rt with
  | none => rfl
  | some t => cases t <;> cases h
theorem mxS_F {G : mxG} {s t : State} {H : Heap} {locs : List Loc} (hs : va_S (mxfree G) s.heap H locs) (ht : t.heap = H) : va_F (mxfree G) s t := by
  refine ⟨by rw [ht]; exact hs.1, fun q h1 h2 => by rw [ht]; exact hs.2.1 q h1 h2⟩
theorem mxk_ret {p : Program} {l : Launch} {e : Env} {R : Room} {s : State} {m : MethodId} {args : Array Value} {below : List Frame} {meth : Method} {c : Code} {G : mxG} {y n0 k0 pc : Nat} {loc : mxL} {st : List Value} {σ : mxS} {i : Instr} {n : Nat} {v : Option Value} (X : mxX p R s m args meth c G y) (hret : meth.sig.returnType = mxrt y) (hd : decode (mxb y) pc = .ok (i, n)) (hln : mxLn i pc n = true) (hi : mxRetI y i) (h : mxret (mxrk y) st = some (.inr (.inl v))) :
    mxWs p l e R s m args below meth c (mxMQ below G (.inl v, σ) args s n0 k0) G y n0 k0 (pc, loc, st, σ) := by
  have hok : mxrok (mxrk y) (mxrt y) = true := X.2.2.2.2.2.2.2.2.2.elim (fun z => by rw [z]; decide +kernel) (fun z => (mxyOK_ck z).2.2.2.2.2.2)
  have hlocks : meth.locks = false := X.2.2.2.2.2.2.2.2.1
  unfold mxRetI at hi
  revert hok hi h
  generalize mxrk y = k
  intro hi h hok
  intro H locs ls hr hs hl
  have hq : ∀ t : State, t.heap = H → s.WarmedH t.vm → mxQc G (.inl v, σ) args s (.returned (v.map (mxtr G))) t := fun t ht _ => ⟨v, rfl, rfl, by rw [ht]; exact hr, mxS_F hs ht⟩
  unfold mxret at h
  split at h
  · rcases hi with ⟨rfl, _⟩ | ⟨_, z⟩ | ⟨_, z⟩ | ⟨_, z⟩ | ⟨_, z⟩
    · have hn := beq_iff_eq.mp hln
      subst hn
      cases h
      exact vx_ret (W.iret X.1 X.2.1 (hret.trans (mxrok_i hok)) hq hs.2.2 hd hlocks)
    all_goals cases z
  · rcases hi with ⟨rfl, _⟩ | ⟨_, z⟩ | ⟨_, z⟩ | ⟨_, z⟩ | ⟨_, z⟩
    · have hn := beq_iff_eq.mp hln
      subst hn
      split at h
      · rename_i hx
        cases h
        exact vx_ret (W.zret X.1 X.2.1 (hret.trans (mxrok_z hok)) (by rcases hx with rfl | rfl <;> rfl) hq hs.2.2 hd hlocks)
      · cases h
    all_goals cases z
  · rcases hi with ⟨rfl, _⟩ | ⟨_, z⟩ | ⟨_, z⟩ | ⟨_, z⟩ | ⟨_, z⟩
    · have hn := beq_iff_eq.mp hln
      subst hn
      split at h
      · rename_i hx
        cases h
        exact vx_ret (W.zret X.1 X.2.1 (hret.trans (mxrok_b hok)) (congrArg Value.int hx) hq hs.2.2 hd hlocks)
      · cases h
    all_goals cases z
  · rcases hi with ⟨rfl, _⟩ | ⟨_, z⟩ | ⟨_, z⟩ | ⟨_, z⟩ | ⟨_, z⟩
    · have hn := beq_iff_eq.mp hln
      subst hn
      split at h
      · rename_i hx
        cases h
        refine vx_ret (W.zret X.1 X.2.1 (hret.trans (mxrok_c hok)) (congrArg Value.int (Eq.trans ?_ hx)) hq hs.2.2 hd hlocks)
        simp
      · cases h
    all_goals cases z
  · rcases hi with ⟨_, z⟩ | ⟨rfl, _⟩ | ⟨_, z⟩ | ⟨_, z⟩ | ⟨_, z⟩
    · exact absurd z (by decide)
    · have hn := beq_iff_eq.mp hln
      subst hn
      cases h
      exact vx_ret (W.lret X.1 X.2.1 (hret.trans (mxrok_l hok)) hq hs.2.2 hd hlocks)
    all_goals cases z
  · rcases hi with ⟨_, z⟩ | ⟨_, z⟩ | ⟨rfl, _⟩ | ⟨_, z⟩ | ⟨_, z⟩
    · exact absurd z (by decide)
    · cases z
    · have hn := beq_iff_eq.mp hln
      subst hn
      cases h
      exact vx_ret (W.dret X.1 X.2.1 (hret.trans (mxrok_d hok)) hq hs.2.2 hd hlocks)
    all_goals cases z
  · rcases hi with ⟨_, z⟩ | ⟨_, z⟩ | ⟨_, z⟩ | ⟨rfl, _⟩ | ⟨_, z⟩
    · exact absurd z (by decide)
    · cases z
    · cases z
    · have hn := beq_iff_eq.mp hln
      subst hn
      cases h
      obtain ⟨rt, hrt, hk⟩ := mxrok_a hok
      exact vx_ret (W.aret X.1 X.2.1 (hret.trans hrt) hk (mxtr_ref G X.F _).symm hq hs.2.2 hd hlocks)
    · cases z
  · rcases hi with ⟨_, z⟩ | ⟨_, z⟩ | ⟨_, z⟩ | ⟨rfl, _⟩ | ⟨_, z⟩
    · exact absurd z (by decide)
    · cases z
    · cases z
    · have hn := beq_iff_eq.mp hln
      subst hn
      cases h
      obtain ⟨rt, hrt, hk⟩ := mxrok_a hok
      exact vx_ret (W.aret (v := .null) X.1 X.2.1 (hret.trans hrt) hk (Or.inl rfl) hq hs.2.2 hd hlocks)
    · cases z
  · rcases hi with ⟨_, z⟩ | ⟨_, z⟩ | ⟨_, z⟩ | ⟨_, z⟩ | ⟨rfl, _⟩
    · exact absurd z (by decide)
    · cases z
    · cases z
    · cases z
    · have hn := beq_iff_eq.mp hln
      subst hn
      cases h
      exact vx_ret (W.vret X.1 X.2.1 (hret.trans (mxrok_v hok)) hq hs.2.2 hd hlocks)
  · cases h
/-! ===== an exception is thrown ===== -/
theorem mxhat {args : Array Value} {s : State} {G : mxG} (hg : ∀ w ∈ lw_good, w.before args s = true) (hK : mxKX G s s.heap) {L : List Cond} (h1 : ∀ w ∈ L.filter goodWord, w ∈ lw_tbl) (h2 : ∀ w ∈ L.filter (fun w => !goodWord w), w ∈ mxNC) : ∀ w ∈ L, w.before args s = true := by
  refine vx_hat (B := mxNC) (fun w hw => hg w (lw_g (h1 w hw) (List.mem_filter.mp hw).2)) h2 (fun w hw => ?_)
  have h9 := hK.2.2.2.1 w hw
  simp only [mxNC, List.mem_cons, List.not_mem_nil, or_false] at hw
  rcases hw with rfl | rfl | rfl | rfl | rfl | rfl <;> exact va_Nw.use rfl h9
theorem mxthr_Q {G : mxG} {s t : State} {σ : mxS} {H : Heap} {locs : List Loc} {q : Nat} (hq : q < 3) (hr : mxRel G σ H) (hs : va_S (mxfree G) s.heap H locs) (h1 : H.size + 1 = t.heap.size) (h2 : ∀ z : Nat, z < H.size → t.heap[z]? = H[z]?) :
    mxXC G (.inr q, mxAl σ (.inr (99, [])) 6) (mxexn q) s t :=
  ⟨q, rfl, hq, rfl, hr.al h1.symm h2 (Or.inl rfl), ⟨by have := hs.1; omega, fun z g1 g2 => (h2 z (Nat.lt_of_lt_of_le g1 hs.1)).trans (hs.2.1 z g1 g2)⟩⟩
def mxnames : List String := ["java/lang/RuntimeException", "java/lang/Exception"]
theorem mxat1_70_0 : ∀ w ∈ (vx_atS "RoofPigeons" 70 "java/lang/IllegalStateException" mxnames).filter goodWord, w ∈ lw_tbl := by decide +kernel
theorem mxat2_70_0 : ∀ w ∈ (vx_atS "RoofPigeons" 70 "java/lang/IllegalStateException" mxnames).filter (fun w => !goodWord w), w ∈ mxNC := by decide +kernel
theorem mxat3_70_0 : ∀ w ∈ Cond.classLink "RoofPigeons" 66 "java/lang/IllegalStateException" :: Cond.initialized "java/lang/IllegalStateException" :: (vx_atS "RoofPigeons" 70 "java/lang/IllegalStateException" mxnames), vx_ot w = true := by decide +kernel
theorem mxat4_70_0 : Cond.classLink "RoofPigeons" 66 "java/lang/IllegalStateException" ∈ lw_good ∧ Cond.initialized "java/lang/IllegalStateException" ∈ lw_good := ⟨mxG1_ok (i := 4046) (by decide +kernel), mxG1_ok (i := 1019) (by decide +kernel)⟩
theorem mxdc1153 : decode (mxb 1153) 12 = .ok (.new 66, 3) ∧ decode (mxb 1153) (12 + 3) = .ok (.dup, 1) ∧ decode (mxb 1153) (12 + 4) = .ok (.ldc 68, 2) ∧ decode (mxb 1153) (12 + 6) = .ok (.invokespecial 70, 3) ∧ decode (mxb 1153) (12 + 9) = .ok (.athrow, 1) := ⟨by decide +kernel, by decide +kernel, by decide +kernel, by decide +kernel, by decide +kernel⟩
theorem mxthr_1153 {p : Program} {l : Launch} {e : Env} {R : Room} {s : State} {m : MethodId} {args : Array Value} {below : List Frame} {meth : Method} {c : Code} {G : mxG} {n0 k0 d0 : Nat} {loc : mxL} {σ : mxS} (X : mxX p R s m args meth c G 1153) (hl : l.stackTraces = false) (hY : mxY R d0 1153 meth c) (hN : n0 ≤ σ.2.1) (hK0 : k0 ≤ σ.2.2) (hR1 : σ.2.1 + 1 ≤ n0 + R.cells) (hR2 : σ.2.2 + 6 ≤ k0 + R.slots) :
    mxWs p l e R s m args below meth c (mxMQ below G (.inr 0, mxAl σ (.inr (99, [])) 6) args s n0 k0) G 1153 n0 k0 (12, loc, [], σ) := by
  intro H locs ls hr hs hlr
  have hown : s.vm.findClass "RoofPigeons" = some m.cls := X.2.2.2.1
  have hKX := X.2.2.2.2.2.1
  obtain ⟨sa, hsa⟩ := hKX.2.2.2.2.2.1 ("RoofPigeons", 68, "the tape is full") (by decide +kernel)
  have hex := mxnoex hY (by decide) (by decide +kernel)
  have hf := X.2.2.2.2.2.2.1
  refine vx_throwS (cls := "java/lang/IllegalStateException") (names := mxnames) X.1 X.2.1 hl hown (by decide +kernel) (by decide +kernel) (X.good mxat4_70_0.1) (X.good mxat4_70_0.2) hsa (mxhat (fun w hw => X.good hw) hKX mxat1_70_0 mxat2_70_0) mxat3_70_0 hKX.2.2.2.2.2.2.2.2.2.2.1.1 hKX.2.2.2.2.2.2.2.2.2.2.1.2 hs (hlr.1.trans X.2.2.1.symm) (mxdc1153).1 (mxdc1153).2.1 (mxdc1153).2.2.1 (mxdc1153).2.2.2.1 (mxdc1153).2.2.2.2 (fun x hx => (hex x hx).elim) ?_ ?_ ?_ ?_ X.2.2.2.2.2.2.2.2.1 (fun t _ h1 h2 => mxthr_Q (q := 0) (by decide) hr hs h1 h2) hs.2.2 ?_ ?_
  · show 2 + 3 < R.frames
    omega
  · show 0 + (13 * (2 + 1) + 43) ≤ R.locals
    omega
  · show σ.2.1 - n0 + 1 ≤ R.cells
    omega
  · show σ.2.2 - k0 + 6 ≤ R.slots
    omega
  · show σ.2.1 - n0 + 1 ≤ σ.2.1 + 1 - n0
    omega
  · show σ.2.2 - k0 + 6 ≤ σ.2.2 + 6 - k0
    omega
theorem mxat1_84_1 : ∀ w ∈ (vx_atS "RoofPigeons" 84 "java/lang/IllegalArgumentException" mxnames).filter goodWord, w ∈ lw_tbl := by decide +kernel
theorem mxat2_84_1 : ∀ w ∈ (vx_atS "RoofPigeons" 84 "java/lang/IllegalArgumentException" mxnames).filter (fun w => !goodWord w), w ∈ mxNC := by decide +kernel
theorem mxat3_84_1 : ∀ w ∈ Cond.classLink "RoofPigeons" 80 "java/lang/IllegalArgumentException" :: Cond.initialized "java/lang/IllegalArgumentException" :: (vx_atS "RoofPigeons" 84 "java/lang/IllegalArgumentException" mxnames), vx_ot w = true := by decide +kernel
theorem mxat4_84_1 : Cond.classLink "RoofPigeons" 80 "java/lang/IllegalArgumentException" ∈ lw_good ∧ Cond.initialized "java/lang/IllegalArgumentException" ∈ lw_good := ⟨mxG1_ok (i := 4125) (by decide +kernel), mxG1_ok (i := 1020) (by decide +kernel)⟩
theorem mxdc1154 : decode (mxb 1154) 15 = .ok (.new 80, 3) ∧ decode (mxb 1154) (15 + 3) = .ok (.dup, 1) ∧ decode (mxb 1154) (15 + 4) = .ok (.ldc 82, 2) ∧ decode (mxb 1154) (15 + 6) = .ok (.invokespecial 84, 3) ∧ decode (mxb 1154) (15 + 9) = .ok (.athrow, 1) := ⟨by decide +kernel, by decide +kernel, by decide +kernel, by decide +kernel, by decide +kernel⟩
theorem mxthr_1154 {p : Program} {l : Launch} {e : Env} {R : Room} {s : State} {m : MethodId} {args : Array Value} {below : List Frame} {meth : Method} {c : Code} {G : mxG} {n0 k0 d0 : Nat} {loc : mxL} {σ : mxS} (X : mxX p R s m args meth c G 1154) (hl : l.stackTraces = false) (hY : mxY R d0 1154 meth c) (hN : n0 ≤ σ.2.1) (hK0 : k0 ≤ σ.2.2) (hR1 : σ.2.1 + 1 ≤ n0 + R.cells) (hR2 : σ.2.2 + 6 ≤ k0 + R.slots) :
    mxWs p l e R s m args below meth c (mxMQ below G (.inr 1, mxAl σ (.inr (99, [])) 6) args s n0 k0) G 1154 n0 k0 (15, loc, [], σ) := by
  intro H locs ls hr hs hlr
  have hown : s.vm.findClass "RoofPigeons" = some m.cls := X.2.2.2.1
  have hKX := X.2.2.2.2.2.1
  obtain ⟨sa, hsa⟩ := hKX.2.2.2.2.2.1 ("RoofPigeons", 82, "the tape has not so many bytes") (by decide +kernel)
  have hex := mxnoex hY (by decide) (by decide +kernel)
  have hf := X.2.2.2.2.2.2.1
  refine vx_throwS (cls := "java/lang/IllegalArgumentException") (names := mxnames) X.1 X.2.1 hl hown (by decide +kernel) (by decide +kernel) (X.good mxat4_84_1.1) (X.good mxat4_84_1.2) hsa (mxhat (fun w hw => X.good hw) hKX mxat1_84_1 mxat2_84_1) mxat3_84_1 hKX.2.2.2.2.2.2.2.2.2.2.1.1 hKX.2.2.2.2.2.2.2.2.2.2.1.2 hs (hlr.1.trans X.2.2.1.symm) (mxdc1154).1 (mxdc1154).2.1 (mxdc1154).2.2.1 (mxdc1154).2.2.2.1 (mxdc1154).2.2.2.2 (fun x hx => (hex x hx).elim) ?_ ?_ ?_ ?_ X.2.2.2.2.2.2.2.2.1 (fun t _ h1 h2 => mxthr_Q (q := 1) (by decide) hr hs h1 h2) hs.2.2 ?_ ?_
  · show 2 + 3 < R.frames
    omega
  · show 0 + (13 * (2 + 1) + 43) ≤ R.locals
    omega
  · show σ.2.1 - n0 + 1 ≤ R.cells
    omega
  · show σ.2.2 - k0 + 6 ≤ R.slots
    omega
  · show σ.2.1 - n0 + 1 ≤ σ.2.1 + 1 - n0
    omega
  · show σ.2.2 - k0 + 6 ≤ σ.2.2 + 6 - k0
    omega
theorem mxdc1179 : decode (mxb 1179) 17 = .ok (.new 66, 3) ∧ decode (mxb 1179) (17 + 3) = .ok (.dup, 1) ∧ decode (mxb 1179) (17 + 4) = .ok (.ldc 177, 2) ∧ decode (mxb 1179) (17 + 6) = .ok (.invokespecial 70, 3) ∧ decode (mxb 1179) (17 + 9) = .ok (.athrow, 1) := ⟨by decide +kernel, by decide +kernel, by decide +kernel, by decide +kernel, by decide +kernel⟩
theorem mxthr_1179 {p : Program} {l : Launch} {e : Env} {R : Room} {s : State} {m : MethodId} {args : Array Value} {below : List Frame} {meth : Method} {c : Code} {G : mxG} {n0 k0 d0 : Nat} {loc : mxL} {σ : mxS} (X : mxX p R s m args meth c G 1179) (hl : l.stackTraces = false) (hY : mxY R d0 1179 meth c) (hN : n0 ≤ σ.2.1) (hK0 : k0 ≤ σ.2.2) (hR1 : σ.2.1 + 1 ≤ n0 + R.cells) (hR2 : σ.2.2 + 6 ≤ k0 + R.slots) :
    mxWs p l e R s m args below meth c (mxMQ below G (.inr 0, mxAl σ (.inr (99, [])) 6) args s n0 k0) G 1179 n0 k0 (17, loc, [], σ) := by
  intro H locs ls hr hs hlr
  have hown : s.vm.findClass "RoofPigeons" = some m.cls := X.2.2.2.1
  have hKX := X.2.2.2.2.2.1
  obtain ⟨sa, hsa⟩ := hKX.2.2.2.2.2.1 ("RoofPigeons", 177, "no taller tower on that side") (by decide +kernel)
  have hex := mxnoex hY (by decide) (by decide +kernel)
  have hf := X.2.2.2.2.2.2.1
  refine vx_throwS (cls := "java/lang/IllegalStateException") (names := mxnames) X.1 X.2.1 hl hown (by decide +kernel) (by decide +kernel) (X.good mxat4_70_0.1) (X.good mxat4_70_0.2) hsa (mxhat (fun w hw => X.good hw) hKX mxat1_70_0 mxat2_70_0) mxat3_70_0 hKX.2.2.2.2.2.2.2.2.2.2.1.1 hKX.2.2.2.2.2.2.2.2.2.2.1.2 hs (hlr.1.trans X.2.2.1.symm) (mxdc1179).1 (mxdc1179).2.1 (mxdc1179).2.2.1 (mxdc1179).2.2.2.1 (mxdc1179).2.2.2.2 (fun x hx => (hex x hx).elim) ?_ ?_ ?_ ?_ X.2.2.2.2.2.2.2.2.1 (fun t _ h1 h2 => mxthr_Q (q := 0) (by decide) hr hs h1 h2) hs.2.2 ?_ ?_
  · show 2 + 3 < R.frames
    omega
  · show 0 + (13 * (2 + 1) + 43) ≤ R.locals
    omega
  · show σ.2.1 - n0 + 1 ≤ R.cells
    omega
  · show σ.2.2 - k0 + 6 ≤ R.slots
    omega
  · show σ.2.1 - n0 + 1 ≤ σ.2.1 + 1 - n0
    omega
  · show σ.2.2 - k0 + 6 ≤ σ.2.2 + 6 - k0
    omega
theorem mxdc1180 : decode (mxb 1180) 17 = .ok (.new 66, 3) ∧ decode (mxb 1180) (17 + 3) = .ok (.dup, 1) ∧ decode (mxb 1180) (17 + 4) = .ok (.ldc 182, 2) ∧ decode (mxb 1180) (17 + 6) = .ok (.invokespecial 70, 3) ∧ decode (mxb 1180) (17 + 9) = .ok (.athrow, 1) := ⟨by decide +kernel, by decide +kernel, by decide +kernel, by decide +kernel, by decide +kernel⟩
theorem mxthr_1180 {p : Program} {l : Launch} {e : Env} {R : Room} {s : State} {m : MethodId} {args : Array Value} {below : List Frame} {meth : Method} {c : Code} {G : mxG} {n0 k0 d0 : Nat} {loc : mxL} {σ : mxS} (X : mxX p R s m args meth c G 1180) (hl : l.stackTraces = false) (hY : mxY R d0 1180 meth c) (hN : n0 ≤ σ.2.1) (hK0 : k0 ≤ σ.2.2) (hR1 : σ.2.1 + 1 ≤ n0 + R.cells) (hR2 : σ.2.2 + 6 ≤ k0 + R.slots) :
    mxWs p l e R s m args below meth c (mxMQ below G (.inr 0, mxAl σ (.inr (99, [])) 6) args s n0 k0) G 1180 n0 k0 (17, loc, [], σ) := by
  intro H locs ls hr hs hlr
  have hown : s.vm.findClass "RoofPigeons" = some m.cls := X.2.2.2.1
  have hKX := X.2.2.2.2.2.1
  obtain ⟨sa, hsa⟩ := hKX.2.2.2.2.2.1 ("RoofPigeons", 182, "no lower tower beside on that side") (by decide +kernel)
  have hex := mxnoex hY (by decide) (by decide +kernel)
  have hf := X.2.2.2.2.2.2.1
  refine vx_throwS (cls := "java/lang/IllegalStateException") (names := mxnames) X.1 X.2.1 hl hown (by decide +kernel) (by decide +kernel) (X.good mxat4_70_0.1) (X.good mxat4_70_0.2) hsa (mxhat (fun w hw => X.good hw) hKX mxat1_70_0 mxat2_70_0) mxat3_70_0 hKX.2.2.2.2.2.2.2.2.2.2.1.1 hKX.2.2.2.2.2.2.2.2.2.2.1.2 hs (hlr.1.trans X.2.2.1.symm) (mxdc1180).1 (mxdc1180).2.1 (mxdc1180).2.2.1 (mxdc1180).2.2.2.1 (mxdc1180).2.2.2.2 (fun x hx => (hex x hx).elim) ?_ ?_ ?_ ?_ X.2.2.2.2.2.2.2.2.1 (fun t _ h1 h2 => mxthr_Q (q := 0) (by decide) hr hs h1 h2) hs.2.2 ?_ ?_
  · show 2 + 3 < R.frames
    omega
  · show 0 + (13 * (2 + 1) + 43) ≤ R.locals
    omega
  · show σ.2.1 - n0 + 1 ≤ R.cells
    omega
  · show σ.2.2 - k0 + 6 ≤ R.slots
    omega
  · show σ.2.1 - n0 + 1 ≤ σ.2.1 + 1 - n0
    omega
  · show σ.2.2 - k0 + 6 ≤ σ.2.2 + 6 - k0
    omega
theorem mxdc1181 : decode (mxb 1181) 17 = .ok (.new 66, 3) ∧ decode (mxb 1181) (17 + 3) = .ok (.dup, 1) ∧ decode (mxb 1181) (17 + 4) = .ok (.ldc 187, 2) ∧ decode (mxb 1181) (17 + 6) = .ok (.invokespecial 70, 3) ∧ decode (mxb 1181) (17 + 9) = .ok (.athrow, 1) := ⟨by decide +kernel, by decide +kernel, by decide +kernel, by decide +kernel, by decide +kernel⟩
theorem mxthr_1181 {p : Program} {l : Launch} {e : Env} {R : Room} {s : State} {m : MethodId} {args : Array Value} {below : List Frame} {meth : Method} {c : Code} {G : mxG} {n0 k0 d0 : Nat} {loc : mxL} {σ : mxS} (X : mxX p R s m args meth c G 1181) (hl : l.stackTraces = false) (hY : mxY R d0 1181 meth c) (hN : n0 ≤ σ.2.1) (hK0 : k0 ≤ σ.2.2) (hR1 : σ.2.1 + 1 ≤ n0 + R.cells) (hR2 : σ.2.2 + 6 ≤ k0 + R.slots) :
    mxWs p l e R s m args below meth c (mxMQ below G (.inr 0, mxAl σ (.inr (99, [])) 6) args s n0 k0) G 1181 n0 k0 (17, loc, [], σ) := by
  intro H locs ls hr hs hlr
  have hown : s.vm.findClass "RoofPigeons" = some m.cls := X.2.2.2.1
  have hKX := X.2.2.2.2.2.1
  obtain ⟨sa, hsa⟩ := hKX.2.2.2.2.2.1 ("RoofPigeons", 187, "the tower is as high as can be") (by decide +kernel)
  have hex := mxnoex hY (by decide) (by decide +kernel)
  have hf := X.2.2.2.2.2.2.1
  refine vx_throwS (cls := "java/lang/IllegalStateException") (names := mxnames) X.1 X.2.1 hl hown (by decide +kernel) (by decide +kernel) (X.good mxat4_70_0.1) (X.good mxat4_70_0.2) hsa (mxhat (fun w hw => X.good hw) hKX mxat1_70_0 mxat2_70_0) mxat3_70_0 hKX.2.2.2.2.2.2.2.2.2.2.1.1 hKX.2.2.2.2.2.2.2.2.2.2.1.2 hs (hlr.1.trans X.2.2.1.symm) (mxdc1181).1 (mxdc1181).2.1 (mxdc1181).2.2.1 (mxdc1181).2.2.2.1 (mxdc1181).2.2.2.2 (fun x hx => (hex x hx).elim) ?_ ?_ ?_ ?_ X.2.2.2.2.2.2.2.2.1 (fun t _ h1 h2 => mxthr_Q (q := 0) (by decide) hr hs h1 h2) hs.2.2 ?_ ?_
  · show 2 + 3 < R.frames
    omega
  · show 0 + (13 * (2 + 1) + 43) ≤ R.locals
    omega
  · show σ.2.1 - n0 + 1 ≤ R.cells
    omega
  · show σ.2.2 - k0 + 6 ≤ R.slots
    omega
  · show σ.2.1 - n0 + 1 ≤ σ.2.1 + 1 - n0
    omega
  · show σ.2.2 - k0 + 6 ≤ σ.2.2 + 6 - k0
    omega
theorem mxdc1182 : decode (mxb 1182) 17 = .ok (.new 66, 3) ∧ decode (mxb 1182) (17 + 3) = .ok (.dup, 1) ∧ decode (mxb 1182) (17 + 4) = .ok (.ldc 189, 2) ∧ decode (mxb 1182) (17 + 6) = .ok (.invokespecial 70, 3) ∧ decode (mxb 1182) (17 + 9) = .ok (.athrow, 1) := ⟨by decide +kernel, by decide +kernel, by decide +kernel, by decide +kernel, by decide +kernel⟩
theorem mxthr_1182 {p : Program} {l : Launch} {e : Env} {R : Room} {s : State} {m : MethodId} {args : Array Value} {below : List Frame} {meth : Method} {c : Code} {G : mxG} {n0 k0 d0 : Nat} {loc : mxL} {σ : mxS} (X : mxX p R s m args meth c G 1182) (hl : l.stackTraces = false) (hY : mxY R d0 1182 meth c) (hN : n0 ≤ σ.2.1) (hK0 : k0 ≤ σ.2.2) (hR1 : σ.2.1 + 1 ≤ n0 + R.cells) (hR2 : σ.2.2 + 6 ≤ k0 + R.slots) :
    mxWs p l e R s m args below meth c (mxMQ below G (.inr 0, mxAl σ (.inr (99, [])) 6) args s n0 k0) G 1182 n0 k0 (17, loc, [], σ) := by
  intro H locs ls hr hs hlr
  have hown : s.vm.findClass "RoofPigeons" = some m.cls := X.2.2.2.1
  have hKX := X.2.2.2.2.2.1
  obtain ⟨sa, hsa⟩ := hKX.2.2.2.2.2.1 ("RoofPigeons", 189, "the tower is worn down") (by decide +kernel)
  have hex := mxnoex hY (by decide) (by decide +kernel)
  have hf := X.2.2.2.2.2.2.1
  refine vx_throwS (cls := "java/lang/IllegalStateException") (names := mxnames) X.1 X.2.1 hl hown (by decide +kernel) (by decide +kernel) (X.good mxat4_70_0.1) (X.good mxat4_70_0.2) hsa (mxhat (fun w hw => X.good hw) hKX mxat1_70_0 mxat2_70_0) mxat3_70_0 hKX.2.2.2.2.2.2.2.2.2.2.1.1 hKX.2.2.2.2.2.2.2.2.2.2.1.2 hs (hlr.1.trans X.2.2.1.symm) (mxdc1182).1 (mxdc1182).2.1 (mxdc1182).2.2.1 (mxdc1182).2.2.2.1 (mxdc1182).2.2.2.2 (fun x hx => (hex x hx).elim) ?_ ?_ ?_ ?_ X.2.2.2.2.2.2.2.2.1 (fun t _ h1 h2 => mxthr_Q (q := 0) (by decide) hr hs h1 h2) hs.2.2 ?_ ?_
  · show 2 + 3 < R.frames
    omega
  · show 0 + (13 * (2 + 1) + 43) ≤ R.locals
    omega
  · show σ.2.1 - n0 + 1 ≤ R.cells
    omega
  · show σ.2.2 - k0 + 6 ≤ R.slots
    omega
  · show σ.2.1 - n0 + 1 ≤ σ.2.1 + 1 - n0
    omega
  · show σ.2.2 - k0 + 6 ≤ σ.2.2 + 6 - k0
    omega
theorem mxdc1186 : decode (mxb 1186) 15 = .ok (.new 80, 3) ∧ decode (mxb 1186) (15 + 3) = .ok (.dup, 1) ∧ decode (mxb 1186) (15 + 4) = .ok (.ldc 202, 2) ∧ decode (mxb 1186) (15 + 6) = .ok (.invokespecial 84, 3) ∧ decode (mxb 1186) (15 + 9) = .ok (.athrow, 1) := ⟨by decide +kernel, by decide +kernel, by decide +kernel, by decide +kernel, by decide +kernel⟩
theorem mxthr_1186 {p : Program} {l : Launch} {e : Env} {R : Room} {s : State} {m : MethodId} {args : Array Value} {below : List Frame} {meth : Method} {c : Code} {G : mxG} {n0 k0 d0 : Nat} {loc : mxL} {σ : mxS} (X : mxX p R s m args meth c G 1186) (hl : l.stackTraces = false) (hY : mxY R d0 1186 meth c) (hN : n0 ≤ σ.2.1) (hK0 : k0 ≤ σ.2.2) (hR1 : σ.2.1 + 1 ≤ n0 + R.cells) (hR2 : σ.2.2 + 6 ≤ k0 + R.slots) :
    mxWs p l e R s m args below meth c (mxMQ below G (.inr 1, mxAl σ (.inr (99, [])) 6) args s n0 k0) G 1186 n0 k0 (15, loc, [], σ) := by
  intro H locs ls hr hs hlr
  have hown : s.vm.findClass "RoofPigeons" = some m.cls := X.2.2.2.1
  have hKX := X.2.2.2.2.2.1
  obtain ⟨sa, hsa⟩ := hKX.2.2.2.2.2.1 ("RoofPigeons", 202, "no tower can have this height") (by decide +kernel)
  have hex := mxnoex hY (by decide) (by decide +kernel)
  have hf := X.2.2.2.2.2.2.1
  refine vx_throwS (cls := "java/lang/IllegalArgumentException") (names := mxnames) X.1 X.2.1 hl hown (by decide +kernel) (by decide +kernel) (X.good mxat4_84_1.1) (X.good mxat4_84_1.2) hsa (mxhat (fun w hw => X.good hw) hKX mxat1_84_1 mxat2_84_1) mxat3_84_1 hKX.2.2.2.2.2.2.2.2.2.2.1.1 hKX.2.2.2.2.2.2.2.2.2.2.1.2 hs (hlr.1.trans X.2.2.1.symm) (mxdc1186).1 (mxdc1186).2.1 (mxdc1186).2.2.1 (mxdc1186).2.2.2.1 (mxdc1186).2.2.2.2 (fun x hx => (hex x hx).elim) ?_ ?_ ?_ ?_ X.2.2.2.2.2.2.2.2.1 (fun t _ h1 h2 => mxthr_Q (q := 1) (by decide) hr hs h1 h2) hs.2.2 ?_ ?_
  · show 2 + 3 < R.frames
    omega
  · show 0 + (13 * (2 + 1) + 43) ≤ R.locals
    omega
  · show σ.2.1 - n0 + 1 ≤ R.cells
    omega
  · show σ.2.2 - k0 + 6 ≤ R.slots
    omega
  · show σ.2.1 - n0 + 1 ≤ σ.2.1 + 1 - n0
    omega
  · show σ.2.2 - k0 + 6 ≤ σ.2.2 + 6 - k0
    omega
theorem mxat1_261_2 : ∀ w ∈ (vx_atS "RoofPigeons" 261 "java/lang/IndexOutOfBoundsException" mxnames).filter goodWord, w ∈ lw_tbl := by decide +kernel
theorem mxat2_261_2 : ∀ w ∈ (vx_atS "RoofPigeons" 261 "java/lang/IndexOutOfBoundsException" mxnames).filter (fun w => !goodWord w), w ∈ mxNC := by decide +kernel
theorem mxat3_261_2 : ∀ w ∈ Cond.classLink "RoofPigeons" 257 "java/lang/IndexOutOfBoundsException" :: Cond.initialized "java/lang/IndexOutOfBoundsException" :: (vx_atS "RoofPigeons" 261 "java/lang/IndexOutOfBoundsException" mxnames), vx_ot w = true := by decide +kernel
theorem mxat4_261_2 : Cond.classLink "RoofPigeons" 257 "java/lang/IndexOutOfBoundsException" ∈ lw_good ∧ Cond.initialized "java/lang/IndexOutOfBoundsException" ∈ lw_good := ⟨mxG1_ok (i := 4153) (by decide +kernel), mxG1_ok (i := 1027) (by decide +kernel)⟩
theorem mxdc1193 : decode (mxb 1193) 15 = .ok (.new 257, 3) ∧ decode (mxb 1193) (15 + 3) = .ok (.dup, 1) ∧ decode (mxb 1193) (15 + 4) = .ok (.ldc_w 259, 3) ∧ decode (mxb 1193) (15 + 7) = .ok (.invokespecial 261, 3) ∧ decode (mxb 1193) (15 + 10) = .ok (.athrow, 1) := ⟨by decide +kernel, by decide +kernel, by decide +kernel, by decide +kernel, by decide +kernel⟩
theorem mxthr_1193 {p : Program} {l : Launch} {e : Env} {R : Room} {s : State} {m : MethodId} {args : Array Value} {below : List Frame} {meth : Method} {c : Code} {G : mxG} {n0 k0 d0 : Nat} {loc : mxL} {σ : mxS} (X : mxX p R s m args meth c G 1193) (hl : l.stackTraces = false) (hY : mxY R d0 1193 meth c) (hN : n0 ≤ σ.2.1) (hK0 : k0 ≤ σ.2.2) (hR1 : σ.2.1 + 1 ≤ n0 + R.cells) (hR2 : σ.2.2 + 6 ≤ k0 + R.slots) :
    mxWs p l e R s m args below meth c (mxMQ below G (.inr 2, mxAl σ (.inr (99, [])) 6) args s n0 k0) G 1193 n0 k0 (15, loc, [], σ) := by
  intro H locs ls hr hs hlr
  have hown : s.vm.findClass "RoofPigeons" = some m.cls := X.2.2.2.1
  have hKX := X.2.2.2.2.2.1
  obtain ⟨sa, hsa⟩ := hKX.2.2.2.2.2.1 ("RoofPigeons", 259, "no such tower") (by decide +kernel)
  have hex := mxnoex hY (by decide) (by decide +kernel)
  have hf := X.2.2.2.2.2.2.1
  refine vx_throwSW (cls := "java/lang/IndexOutOfBoundsException") (names := mxnames) X.1 X.2.1 hl hown (by decide +kernel) (by decide +kernel) (X.good mxat4_261_2.1) (X.good mxat4_261_2.2) hsa (mxhat (fun w hw => X.good hw) hKX mxat1_261_2 mxat2_261_2) mxat3_261_2 hKX.2.2.2.2.2.2.2.2.2.2.1.1 hKX.2.2.2.2.2.2.2.2.2.2.1.2 hs (hlr.1.trans X.2.2.1.symm) (mxdc1193).1 (mxdc1193).2.1 (mxdc1193).2.2.1 (mxdc1193).2.2.2.1 (mxdc1193).2.2.2.2 (fun x hx => (hex x hx).elim) ?_ ?_ ?_ ?_ X.2.2.2.2.2.2.2.2.1 (fun t _ h1 h2 => mxthr_Q (q := 2) (by decide) hr hs h1 h2) hs.2.2 ?_ ?_
  · show 2 + 3 < R.frames
    omega
  · show 0 + (13 * (2 + 1) + 43) ≤ R.locals
    omega
  · show σ.2.1 - n0 + 1 ≤ R.cells
    omega
  · show σ.2.2 - k0 + 6 ≤ R.slots
    omega
  · show σ.2.1 - n0 + 1 ≤ σ.2.1 + 1 - n0
    omega
  · show σ.2.2 - k0 + 6 ≤ σ.2.2 + 6 - k0
    omega
theorem mxdc1194 : decode (mxb 1194) 15 = .ok (.new 257, 3) ∧ decode (mxb 1194) (15 + 3) = .ok (.dup, 1) ∧ decode (mxb 1194) (15 + 4) = .ok (.ldc_w 262, 3) ∧ decode (mxb 1194) (15 + 7) = .ok (.invokespecial 261, 3) ∧ decode (mxb 1194) (15 + 10) = .ok (.athrow, 1) := ⟨by decide +kernel, by decide +kernel, by decide +kernel, by decide +kernel, by decide +kernel⟩
theorem mxthr_1194 {p : Program} {l : Launch} {e : Env} {R : Room} {s : State} {m : MethodId} {args : Array Value} {below : List Frame} {meth : Method} {c : Code} {G : mxG} {n0 k0 d0 : Nat} {loc : mxL} {σ : mxS} (X : mxX p R s m args meth c G 1194) (hl : l.stackTraces = false) (hY : mxY R d0 1194 meth c) (hN : n0 ≤ σ.2.1) (hK0 : k0 ≤ σ.2.2) (hR1 : σ.2.1 + 1 ≤ n0 + R.cells) (hR2 : σ.2.2 + 6 ≤ k0 + R.slots) :
    mxWs p l e R s m args below meth c (mxMQ below G (.inr 2, mxAl σ (.inr (99, [])) 6) args s n0 k0) G 1194 n0 k0 (15, loc, [], σ) := by
  intro H locs ls hr hs hlr
  have hown : s.vm.findClass "RoofPigeons" = some m.cls := X.2.2.2.1
  have hKX := X.2.2.2.2.2.1
  obtain ⟨sa, hsa⟩ := hKX.2.2.2.2.2.1 ("RoofPigeons", 262, "no such pigeon") (by decide +kernel)
  have hex := mxnoex hY (by decide) (by decide +kernel)
  have hf := X.2.2.2.2.2.2.1
  refine vx_throwSW (cls := "java/lang/IndexOutOfBoundsException") (names := mxnames) X.1 X.2.1 hl hown (by decide +kernel) (by decide +kernel) (X.good mxat4_261_2.1) (X.good mxat4_261_2.2) hsa (mxhat (fun w hw => X.good hw) hKX mxat1_261_2 mxat2_261_2) mxat3_261_2 hKX.2.2.2.2.2.2.2.2.2.2.1.1 hKX.2.2.2.2.2.2.2.2.2.2.1.2 hs (hlr.1.trans X.2.2.1.symm) (mxdc1194).1 (mxdc1194).2.1 (mxdc1194).2.2.1 (mxdc1194).2.2.2.1 (mxdc1194).2.2.2.2 (fun x hx => (hex x hx).elim) ?_ ?_ ?_ ?_ X.2.2.2.2.2.2.2.2.1 (fun t _ h1 h2 => mxthr_Q (q := 2) (by decide) hr hs h1 h2) hs.2.2 ?_ ?_
  · show 2 + 3 < R.frames
    omega
  · show 0 + (13 * (2 + 1) + 43) ≤ R.locals
    omega
  · show σ.2.1 - n0 + 1 ≤ R.cells
    omega
  · show σ.2.2 - k0 + 6 ≤ R.slots
    omega
  · show σ.2.1 - n0 + 1 ≤ σ.2.1 + 1 - n0
    omega
  · show σ.2.2 - k0 + 6 ≤ σ.2.2 + 6 - k0
    omega
theorem mxdc1195 : decode (mxb 1195) 11 = .ok (.new 80, 3) ∧ decode (mxb 1195) (11 + 3) = .ok (.dup, 1) ∧ decode (mxb 1195) (11 + 4) = .ok (.ldc_w 264, 3) ∧ decode (mxb 1195) (11 + 7) = .ok (.invokespecial 84, 3) ∧ decode (mxb 1195) (11 + 10) = .ok (.athrow, 1) := ⟨by decide +kernel, by decide +kernel, by decide +kernel, by decide +kernel, by decide +kernel⟩
theorem mxthr_1195 {p : Program} {l : Launch} {e : Env} {R : Room} {s : State} {m : MethodId} {args : Array Value} {below : List Frame} {meth : Method} {c : Code} {G : mxG} {n0 k0 d0 : Nat} {loc : mxL} {σ : mxS} (X : mxX p R s m args meth c G 1195) (hl : l.stackTraces = false) (hY : mxY R d0 1195 meth c) (hN : n0 ≤ σ.2.1) (hK0 : k0 ≤ σ.2.2) (hR1 : σ.2.1 + 1 ≤ n0 + R.cells) (hR2 : σ.2.2 + 6 ≤ k0 + R.slots) :
    mxWs p l e R s m args below meth c (mxMQ below G (.inr 1, mxAl σ (.inr (99, [])) 6) args s n0 k0) G 1195 n0 k0 (11, loc, [], σ) := by
  intro H locs ls hr hs hlr
  have hown : s.vm.findClass "RoofPigeons" = some m.cls := X.2.2.2.1
  have hKX := X.2.2.2.2.2.1
  obtain ⟨sa, hsa⟩ := hKX.2.2.2.2.2.1 ("RoofPigeons", 264, "not 1 to 30 days") (by decide +kernel)
  have hex := mxnoex hY (by decide) (by decide +kernel)
  have hf := X.2.2.2.2.2.2.1
  refine vx_throwSW (cls := "java/lang/IllegalArgumentException") (names := mxnames) X.1 X.2.1 hl hown (by decide +kernel) (by decide +kernel) (X.good mxat4_84_1.1) (X.good mxat4_84_1.2) hsa (mxhat (fun w hw => X.good hw) hKX mxat1_84_1 mxat2_84_1) mxat3_84_1 hKX.2.2.2.2.2.2.2.2.2.2.1.1 hKX.2.2.2.2.2.2.2.2.2.2.1.2 hs (hlr.1.trans X.2.2.1.symm) (mxdc1195).1 (mxdc1195).2.1 (mxdc1195).2.2.1 (mxdc1195).2.2.2.1 (mxdc1195).2.2.2.2 (fun x hx => (hex x hx).elim) ?_ ?_ ?_ ?_ X.2.2.2.2.2.2.2.2.1 (fun t _ h1 h2 => mxthr_Q (q := 1) (by decide) hr hs h1 h2) hs.2.2 ?_ ?_
  · show 2 + 3 < R.frames
    omega
  · show 0 + (13 * (2 + 1) + 43) ≤ R.locals
    omega
  · show σ.2.1 - n0 + 1 ≤ R.cells
    omega
  · show σ.2.2 - k0 + 6 ≤ R.slots
    omega
  · show σ.2.1 - n0 + 1 ≤ σ.2.1 + 1 - n0
    omega
  · show σ.2.2 - k0 + 6 ≤ σ.2.2 + 6 - k0
    omega
theorem mxTT_y {y pc q : Nat} (h : mxTl y pc = some q) : (y = 1153 ∧ pc = 12 ∧ q = 0) ∨ (y = 1154 ∧ pc = 15 ∧ q = 1) ∨ (y = 1179 ∧ pc = 17 ∧ q = 0) ∨ (y = 1180 ∧ pc = 17 ∧ q = 0) ∨ (y = 1181 ∧ pc = 17 ∧ q = 0) ∨ (y = 1182 ∧ pc = 17 ∧ q = 0) ∨ (y = 1186 ∧ pc = 15 ∧ q = 1) ∨ (y = 1193 ∧ pc = 15 ∧ q = 2) ∨ (y = 1194 ∧ pc = 15 ∧ q = 2) ∨ (y = 1195 ∧ pc = 11 ∧ q = 1) := by
  unfold mxTl at h
  have h1 : (mxTT.map (fun e => (e.1.1, e.1.2, e.2))).contains (y, pc, q) = true := by
    revert h
    generalize hT : mxTT = T
    have : ∀ T : List ((Nat × Nat) × Nat), T.lookup (y, pc) = some q → (T.map (fun e => (e.1.1, e.1.2, e.2))).contains (y, pc, q) = true := by
      intro T
      induction T with
      | nil => intro h; cases h
      | cons e T ih =>
        obtain ⟨⟨a, b⟩, v⟩ := e
        intro h
        rw [List.lookup_cons] at h
        by_cases z : (y, pc) = (a, b)
        · cases z
          simp at h
          subst h
          simp
        · rw [beq_eq_false_iff_ne.mpr z] at h
          have := ih h
          simp only [List.map_cons, List.contains_cons, this, Bool.or_true]
    exact this T
  simp only [mxTT, List.map_cons, List.map_nil, List.contains_cons, List.contains_nil, Bool.or_false, Bool.or_eq_true, beq_iff_eq, Prod.mk.injEq] at h1
  exact h1
theorem mxk_throw {p : Program} {l : Launch} {e : Env} {R : Room} {s : State} {m : MethodId} {args : Array Value} {below : List Frame} {meth : Method} {c : Code} {G : mxG} {y n0 k0 pc : Nat} {loc : mxL} {st : List Value} {σ : mxS} {k q d0 : Nat} (X : mxX p R s m args meth c G y) (hl : l.stackTraces = false) (hY : mxY R d0 y meth c) (hd : decode (mxb y) pc = .ok (.new k, 3)) (h : mxTl y pc = some q) (hN : n0 ≤ σ.2.1) (hK0 : k0 ≤ σ.2.2) (hR1 : σ.2.1 + 1 ≤ n0 + R.cells) (hR2 : σ.2.2 + 6 ≤ k0 + R.slots) :
    mxWs p l e R s m args below meth c (mxMQ below G (.inr q, mxAl σ (.inr (99, [])) 6) args s n0 k0) G y n0 k0 (pc, loc, [], σ) := by
  rcases mxTT_y h with ⟨rfl, rfl, rfl⟩ | ⟨rfl, rfl, rfl⟩ | ⟨rfl, rfl, rfl⟩ | ⟨rfl, rfl, rfl⟩ | ⟨rfl, rfl, rfl⟩ | ⟨rfl, rfl, rfl⟩ | ⟨rfl, rfl, rfl⟩ | ⟨rfl, rfl, rfl⟩ | ⟨rfl, rfl, rfl⟩ | ⟨rfl, rfl, rfl⟩
  · exact mxthr_1153 X hl hY hN hK0 hR1 hR2
  · exact mxthr_1154 X hl hY hN hK0 hR1 hR2
  · exact mxthr_1179 X hl hY hN hK0 hR1 hR2
  · exact mxthr_1180 X hl hY hN hK0 hR1 hR2
  · exact mxthr_1181 X hl hY hN hK0 hR1 hR2
  · exact mxthr_1182 X hl hY hN hK0 hR1 hR2
  · exact mxthr_1186 X hl hY hN hK0 hR1 hR2
  · exact mxthr_1193 X hl hY hN hK0 hR1 hR2
  · exact mxthr_1194 X hl hY hN hK0 hR1 hR2
  · exact mxthr_1195 X hl hY hN hK0 hR1 hR2
