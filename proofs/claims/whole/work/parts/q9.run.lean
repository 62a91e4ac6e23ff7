/-! ===== calls ===== -/
def mxPc (G : mxG) (σ : mxS) (as : List Value) : Array Value → State → Prop := fun a U => a = (as.map (mxtr G)).toArray ∧ mxRel G σ U.heap ∧ mxKX G U U.heap
def mxrm (d : Nat) (σ σ' : mxS) : Room := { frames := d + 14, cells := σ'.2.1 - σ.2.1, slots := σ'.2.2 - σ.2.2, locals := 100 * d + 200 }
def mxwl (y : Nat) : List Cond := mxcode y :: lw_good
def mxMt (l : Launch) (G : mxG) (y d : Nat) (as : List Value) (σ : mxS) (r : mxR) : Prop := vx_Met l (mxy y) (mxwl y) (mxrm d σ r.2) (mxPc G σ as) (mxQc G r) (mxXC G r) (r.2.2.1 - σ.2.1) (r.2.2.2 - σ.2.2) (mxfree G)
theorem mxMet_of {l : Launch} {y : MethodName} {ws : List Cond} {rm : Room} {Pc : Array Value → State → Prop} {G : mxG} {b : mxR} {mc ms : Nat} {free : Addr → Prop} (h : vx_Met l y ws rm Pc (mxQc G b) (mxXC G b) mc ms free) (hb : ∃ v, b.1 = .inl v) : Met l y ws rm Pc (mxQc G b) mc ms free := by
  intro p e ha hc hk s m args below hf happ hP hK
  obtain ⟨n, o, h1, h2, h3, h4⟩ := h p e ha hc hk s m args below hf happ hP hK
  refine ⟨n, o, h1, h2, h3, ?_⟩
  rcases h4 with h4 | ⟨q, _, E, ce, L, ⟨q', hq', _⟩, _⟩
  · exact h4
  · obtain ⟨v, hv⟩ := hb
    rw [hv] at hq'
    cases hq'
theorem mxcn_law (y : Nat) (h : y / 128 = 20) : mxcn (y / 128) = "RoofPigeonsLaw" := by rw [h]; rfl
theorem mxci_ck : (List.range mxVT.length).all (fun o => (mxVT.getD o []).all (fun r => decide (r.2.2.2.2 < 22 ∨ r.2.1 ≠ 0))) = true := by decide +kernel
theorem mxci_ok {o i y n ci : Nat} (h : mxVl o i = some (0, y, n, ci)) : ci < 22 := by
  have h1 := of_decide_eq_true (mx_all (ck := fun o r => decide (r.2.2.2.2 < 22 ∨ r.2.1 ≠ 0)) mxci_ck h)
  exact h1.resolve_right (fun z => z rfl)
theorem mxrecv {p : Program} {R : Room} {s : State} {m : MethodId} {args : Array Value} {meth : Method} {c : Code} {G : mxG} {y : Nat} (X : mxX p R s m args meth c G y) {σ : mxS} {H : Heap} {locs : List Loc} (hr : mxRel G σ H) (hs : va_S (mxfree G) s.heap H locs) {a ci : Nat} {fs : List Value} (ha : a < 1000 + σ.2.1) (hσ : σ.1 a = .inr (ci, fs)) (hci : ci < 22) :
    a ≠ 998 ∧ ∃ cell : Cell, H[mxad G a]? = some cell ∧ cell.vm.isStatics = false ∧ s.vm.findClass (mxoc ci) = some cell.cls := by
  by_cases h1 : a < 1000
  · have hk := hr.2.1 a h1
    rw [hσ] at hk
    have hK := X.kon h1
    rw [← hk] at hK
    have h98 : ci ≠ 98 := by omega
    obtain ⟨⟨cell, g1, g2, g3, g4⟩, -⟩ := hK.resolve_left h98
    refine ⟨fun z => ?_, cell, ?_, g2, g3⟩
    · rw [z, mxkon_998] at hk
      cases hk
      exact h98 rfl
    · rw [mxad, if_pos h1]
      exact (hs.2.1 _ (Array.getElem?_eq_some_iff.mp g1).1 g4).trans g1
  · have hcell := hr.cell (Nat.not_lt.mp h1) ha
    rw [hσ] at hcell
    obtain ⟨hlt, rr, hrr, cell, q1, q2, q3, q4⟩ := hcell.resolve_left (by omega)
    obtain ⟨-, hfc, -⟩ := X.K.1 ci _ hrr
    refine ⟨mxn998 (Nat.not_lt.mp h1), cell, q1, by rw [q3]; rfl, ?_⟩
    rw [q2]
    unfold mxoc
    dsimp only at hrr
    rw [hrr]
    exact hfc
theorem mxPre {p : Program} {R : Room} {s : State} {m : MethodId} {args : Array Value} {meth : Method} {c : Code} {G : mxG} {y : Nat} (X : mxX p R s m args meth c G y) {σ : mxS} {H : Heap} {locs : List Loc} (hr : mxRel G σ H) (hs : va_S (mxfree G) s.heap H locs) (as : List Value) : PreS s H (mxPc G σ as) (as.map (mxtr G)) :=
  ⟨fun _ U _ _ h => ⟨h.1, h.2.1, mxKX.go (State.WarmedH.refl U) (fun _ _ _ => rfl) h.2.2⟩, fun U hU hW => ⟨rfl, by rw [hU]; exact hr, by rw [hU]; exact mxKX.go hW (fun q h1 h2 => hs.2.1 q h1 h2) X.2.2.2.2.2.1⟩⟩
theorem mxbase {p : Program} {R : Room} {s : State} {m : MethodId} {args : Array Value} {meth : Method} {c : Code} {G : mxG} {y : Nat} (X : mxX p R s m args meth c G y) {y' d : Nat} {σ σ' : mxS} (hy : mxyOK y') (hd : d ≠ 0) (hY : mxY R d y meth c) :
    (mxrm (d - 1) σ σ').frames + 1 ≤ R.frames ∧ 8 + (mxml y' + 11) + (mxrm (d - 1) σ σ').locals ≤ R.locals ∧ (∀ w ∈ mxwl y', ∀ (a' : Array Value) (U : State), s.WarmedH U.vm → w.before a' U = true) ∧ mxcode y' ∈ mxwl y' ∧ (mxcode y').before args s = true := by
  obtain ⟨c1, c2, c3, c4, c5, c6, c7⟩ := mxyOK_ck hy
  obtain ⟨⟨r1, r2⟩, -⟩ := hY
  refine ⟨?_, ?_, fun w hw a' U hW => ?_, List.mem_cons_self, X.good c1⟩
  · show d - 1 + 14 + 1 ≤ R.frames
    omega
  · show 8 + (mxml y' + 11) + (100 * (d - 1) + 200) ≤ R.locals
    omega
  · have hg : w ∈ lw_good := by
      rcases List.mem_cons.mp hw with h | h
      · rw [h]; exact c1
      · exact h
    exact word_at hW (good_of_word (List.mem_filter.mp hg).2) (X.good hg)
theorem mxnMH_ok {y : Nat} (h : mxnMH y = true) : (mxy y).cls ≠ "java/lang/invoke/MethodHandle" ∧ (mxy y).cls ≠ "java/lang/invoke/VarHandle" := by
  simpa [mxnMH] using h
theorem mxlen_ok {y n : Nat} (h : mxlen1 y n = true) : ∀ sig, parseMethodDescriptor (mxy y).desc = some sig → n = sig.parameters.length := by
  intro sig hs
  unfold mxlen1 at h
  rw [hs] at h
  have := of_decide_eq_true h
  simpa using this.symm
theorem mxcode_0 {y : Nat} (h : mxhh y = []) : mxcode y = .code (mxy y) (mxb y) (mxml y) (mxrt y) := if_pos h
theorem mxcode_1 {y : Nat} (h : mxhh y ≠ []) : mxcode y = .codeWith (mxy y) (mxb y) (mxml y) (mxrt y) (mxhh y) := if_neg h
theorem mxord : Cond.sameMethod "RoofPigeons$Kind" "java/lang/Enum" "ordinal" "()I" ∈ lw_good ∧ Cond.selects "RoofPigeons$Kind" ⟨"RoofPigeons$Kind", "ordinal", "()I"⟩ (mxy 1664) ∈ lw_good ∧ Cond.instanceMethod (mxy 1664) ∈ lw_good := ⟨mxG1_ok (i := 2212) (by decide +kernel), mxG1_ok (i := 2214) (by decide +kernel), mxG1_ok (i := 2215) (by decide +kernel)⟩
theorem mxk_call {p : Program} {l : Launch} {e : Env} {R : Room} {s : State} {m : MethodId} {args : Array Value} {below : List Frame} {meth : Method} {c : Code} {G : mxG} {y n0 k0 pc : Nat} {loc : mxL} {st : List Value} {σ : mxS} {k d : Nat} {w : Nat × Nat × Nat × Nat} {i : Instr} {as r : List Value} {b : mxR} (X : mxX p R s m args meth c G y) (hY : mxY R d y meth c) (hd : decode (mxb y) pc = .ok (i, 3)) (hi : i = .invokevirtual k ∧ mxsV w.1 = true ∨ i = .invokestatic k ∧ mxsS w.1 = true ∨ i = .invokespecial k ∧ mxsI w.1 = true) (hf : mxVl (y / 128) k = some w) (hca : mxCa w st σ (.inr (.inr (.inl (w.2.1, as, r))))) (hd0 : d ≠ 0)
    (hM : mxyOK w.2.1 → mxMt l G w.2.1 (d - 1) as σ b) (hb : (∃ v, b.1 = .inl v) ∨ mxmt w.2.1) (hN : n0 ≤ σ.2.1) (hK0 : k0 ≤ σ.2.2) (hu : σ.2.1 ≤ b.2.2.1 ∧ σ.2.2 ≤ b.2.2.2) (hR1 : b.2.2.1 ≤ n0 + R.cells) (hR2 : b.2.2.2 ≤ k0 + R.slots)
    {H : Heap} {locs : List Loc} {ls : Array Slot} (hr : mxRel G σ H) (hs : va_S (mxfree G) s.heap H locs) (hl : mxLR G ls (mxml y) loc) :
    mxcat r ≤ 8 ∧ mxyOK w.2.1 ∧ vx_Run p l e R s m args below meth c H locs (σ.2.1 - n0) (σ.2.2 - k0) (b.2.2.1 - σ.2.1) (b.2.2.2 - σ.2.2) (F0 m pc ls (st.map (mxtr G))) (r.map (mxtr G)) (mxQc G b (as.map (mxtr G)).toArray) (mxXC G b) (mxfree G) := by
  obtain ⟨s0, y', n, ci⟩ := w
  obtain ⟨as', r', he, hcat, hsh⟩ := hca
  cases he
  dsimp only at hf hM hb hi hsh ⊢
  obtain ⟨⟨p1, p2, p3, p4⟩, hp⟩ := mxV_ok hf
  have hts : ∀ w ∈ lw_good, w.before args s = true := fun w hw => X.good hw
  have S : CallFix p m c (mxb y) (mxml y) s args lw_good (mxcn (y / 128)) := ⟨X.1, X.2.1, X.2.2.1, X.2.2.2.1, hts⟩
  have hW : 2 * (F0 m pc ls (st.map (mxtr G))).monitorRoom + ((r.map (mxtr G)).map fun v => v.category).sum ≤ 8 := by
    rw [mxcat_map X.F]
    show 2 * 0 + mxcat r ≤ 8
    omega
  have hff : σ.2.1 - n0 + (b.2.2.1 - σ.2.1) ≤ R.cells ∧ σ.2.2 - k0 + (b.2.2.2 - σ.2.2) ≤ R.slots := by omega
  have hinl : ∀ {Qa : State → Outcome → State → Prop}, va_Run p l e R s m args below meth c H locs (σ.2.1 - n0) (σ.2.2 - k0) (b.2.2.1 - σ.2.1) (b.2.2.2 - σ.2.2) (F0 m pc ls (st.map (mxtr G))) (r.map (mxtr G)) Qa (mxfree G) → vx_Run p l e R s m args below meth c H locs (σ.2.1 - n0) (σ.2.2 - k0) (b.2.2.1 - σ.2.1) (b.2.2.2 - σ.2.2) (F0 m pc ls (st.map (mxtr G))) (r.map (mxtr G)) Qa (mxXC G b) (mxfree G) := fun h T hT Z => Or.inl (h T hT Z)
  refine ⟨hcat, ?_⟩
  rcases hsh with ⟨hs0, a, vs, fs, has, hlen, hst, ha, hσ⟩ | ⟨hs0, hlen, hst⟩ | ⟨hs0, a, vs, has, hlen, hst, ha⟩
  · subst hs0
    have hiv : i = .invokevirtual k := by
      rcases hi with h | h | h
      · exact h.1
      · exact absurd h.2 (by decide)
      · exact absurd h.2 (by decide)
    subst hiv
    obtain ⟨ha98, hcellB⟩ := mxrecv X hr hs ha hσ (mxci_ok hf)
    have hst2 : st.map (mxtr G) = (vs.map (mxtr G)).reverse ++ .ref (mxad G a) :: r.map (mxtr G) := by
      rw [hst, List.map_append, List.map_reverse, List.map_cons, mxtr_998 G ha98]
    have has2 : as.map (mxtr G) = .ref (mxad G a) :: vs.map (mxtr G) := by rw [has, List.map_cons, mxtr_998 G ha98]
    have hpre := mxPre X hr hs as
    match p1, hp with
    | 0, hp =>
      simp only [mxVp, Bool.and_eq_true, decide_eq_true_eq] at hp
      obtain ⟨⟨⟨⟨⟨⟨h1, h2⟩, h3⟩, h4⟩, h5⟩, h6⟩, h7⟩ := hp
      have hyo := mxyIn_ok h1
      obtain ⟨c1, c2, c3, c4, c5, c6, c7⟩ := mxyOK_ck hyo
      obtain ⟨b1, b2, b3, b4, b5⟩ := mxbase X (σ := σ) (σ' := b.2) hyo hd0 hY
      rw [mxcode_0 h7] at b4 b5
      refine ⟨hyo, ?_⟩
      rw [has2] at hpre ⊢
      exact vx_runV S (hM hyo) ⟨⟨rfl, rfl, b1, b2, b3, b4, b5, X.good c2, mxnMH_ok c5, mxlen_ok h2, X.good (mxG1_ok h4)⟩, X.good (mxG1_ok h5), X.good (mxG1_ok h6)⟩ ⟨hpre.1, by rw [h3]; exact hcellB, hpre.2⟩ rfl ((List.length_map _).trans hlen) hl.1 hst2 hW hd hff
    | 1, hp =>
      simp only [mxVp, Bool.and_eq_true, decide_eq_true_eq, Bool.and_true] at hp
      obtain ⟨⟨⟨⟨⟨⟨⟨h1, h2⟩, h3⟩, h4⟩, h5⟩, h6⟩, h7⟩, h8⟩ := hp
      have hyo := mxyIn_ok h1
      have hb' := hb.resolve_right (fun z => h8 z.1)
      obtain ⟨c1, c2, c3, c4, c5, c6, c7⟩ := mxyOK_ck hyo
      obtain ⟨b1, b2, b3, b4, b5⟩ := mxbase X (σ := σ) (σ' := b.2) hyo hd0 hY
      rw [mxcode_0 h7] at b4 b5
      refine ⟨hyo, hinl ?_⟩
      rw [has2] at hpre ⊢
      exact va_runVN (C := (mxy y').cls) S (mxMet_of (hM hyo) hb') ⟨⟨⟨rfl, rfl, b1, b2, b3, b4⟩, b5, X.good c2, mxnMH_ok c5, mxlen_ok h2, X.nm (List.mem_filter.mpr ⟨mxWd_mem h4, rfl⟩)⟩, X.good (mxG1_ok h5), X.good (mxG1_ok h6)⟩ ⟨hpre.1, by rw [h3]; exact hcellB, hpre.2⟩ rfl ((List.length_map _).trans hlen) hl.1 hst2 hW hd hff
    | 2, hp =>
      simp only [mxVp, Bool.and_eq_true, beq_iff_eq] at hp
      obtain ⟨⟨⟨⟨-, hy⟩, hn⟩, hci⟩, h5⟩ := hp
      subst hy hn hci
      have hyo : mxyOK 1664 := mxyIn_ok (by decide +kernel)
      have hb' := hb.resolve_right (fun z => absurd z.1 (by decide))
      obtain ⟨c1, c2, c3, c4, c5, c6, c7⟩ := mxyOK_ck hyo
      obtain ⟨b1, b2, b3, b4, b5⟩ := mxbase X (σ := σ) (σ' := b.2) hyo hd0 hY
      have h7 : mxhh 1664 = [] := by decide +kernel
      rw [mxcode_0 h7] at b4 b5
      refine ⟨hyo, hinl ?_⟩
      rw [has2] at hpre ⊢
      exact va_runU (C := "RoofPigeons$Kind") (owner := "java/lang/Enum") (x := ⟨"RoofPigeons$Kind", "ordinal", "()I"⟩) S (mxMet_of (hM hyo) hb') ⟨⟨rfl, rfl, b1, b2, b3, b4⟩, b5, X.good c2, by decide, mxlen_ok (y := 1664) (by decide +kernel), X.good (mxG1_ok h5), X.good mxord.1, va_Decl.of (X.good mxord.2.2) b5, X.good mxord.2.1, X.good mxord.2.2⟩ ⟨hpre.1, hcellB, hpre.2⟩ rfl ((List.length_map _).trans hlen) hl.1 hst2 hW hd hff
    | _ + 3, hp => cases hp
  · subst hs0
    have hiv : i = .invokestatic k := by
      rcases hi with h | h | h
      · exact absurd h.2 (by decide)
      · exact h.1
      · exact absurd h.2 (by decide)
    subst hiv
    have hst2 : st.map (mxtr G) = (as.map (mxtr G)).reverse ++ r.map (mxtr G) := by rw [hst, List.map_append, List.map_reverse]
    have hpre := mxPre X hr hs as
    match p1, hp with
    | 0, hp =>
      simp only [mxVp, Bool.and_eq_true, decide_eq_true_eq] at hp
      obtain ⟨⟨⟨⟨h1, h2⟩, h4⟩, h5⟩, h8⟩ := hp
      have hyo := mxyIn_ok h1
      have hb' := hb.resolve_right (fun z => h8 z.1)
      obtain ⟨c1, c2, c3, c4, c5, c6, c7⟩ := mxyOK_ck hyo
      obtain ⟨b1, b2, b3, b4, b5⟩ := mxbase X (σ := σ) (σ' := b.2) hyo hd0 hY
      refine ⟨hyo, hinl ?_⟩
      by_cases h7 : mxhh y' = []
      · rw [mxcode_0 h7] at b4 b5
        exact va_runS S (mxMet_of (hM hyo) hb') ⟨⟨rfl, rfl, b1, b2, b3, b4, b5, X.good c2, mxnMH_ok c5, mxlen_ok h2, X.good (mxG1_ok h4)⟩, X.good (mxG1_ok h5)⟩ hpre rfl ((List.length_map _).trans hlen) hl.1 hst2 hW hd hff
      · rw [mxcode_1 h7] at b4 b5
        exact vx_runSW S (mxMet_of (hM hyo) hb') ⟨⟨rfl, rfl, b1, b2, b3, b4⟩, b5, X.good c2, mxnMH_ok c5, mxlen_ok h2, X.good (mxG1_ok h4), X.good (mxG1_ok h5)⟩ hpre rfl ((List.length_map _).trans hlen) hl.1 hst2 hW hd hff
    | 1, hp =>
      simp only [mxVp, Bool.and_eq_true, decide_eq_true_eq, Bool.and_true] at hp
      obtain ⟨⟨⟨⟨⟨h1, h2⟩, h4⟩, h5⟩, h7⟩, h8⟩ := hp
      have hyo := mxyIn_ok h1
      have hb' := hb.resolve_right (fun z => h8 z.1)
      obtain ⟨c1, c2, c3, c4, c5, c6, c7⟩ := mxyOK_ck hyo
      obtain ⟨b1, b2, b3, b4, b5⟩ := mxbase X (σ := σ) (σ' := b.2) hyo hd0 hY
      rw [mxcode_0 h7] at b4 b5
      refine ⟨hyo, hinl ?_⟩
      exact va_runSN S (mxMet_of (hM hyo) hb') ⟨⟨⟨rfl, rfl, b1, b2, b3, b4⟩, b5, X.good c2, mxnMH_ok c5, mxlen_ok h2, X.nm (List.mem_filter.mpr ⟨mxWd_mem h4, rfl⟩)⟩, X.good (mxG1_ok h5), trivial⟩ hpre rfl ((List.length_map _).trans hlen) hl.1 hst2 hW hd hff
    | 2, hp => simp [mxVp] at hp
    | _ + 3, hp => cases hp
  · subst hs0
    have hiv : i = .invokespecial k := by
      rcases hi with h | h | h
      · exact absurd h.2 (by decide)
      · exact absurd h.2 (by decide)
      · exact h.1
    subst hiv
    have ha98 : a ≠ 998 := mxn998 ha
    have hst2 : st.map (mxtr G) = (vs.map (mxtr G)).reverse ++ .ref (mxad G a) :: r.map (mxtr G) := by
      rw [hst, List.map_append, List.map_reverse, List.map_cons, mxtr_998 G ha98]
    have has2 : as.map (mxtr G) = .ref (mxad G a) :: vs.map (mxtr G) := by rw [has, List.map_cons, mxtr_998 G ha98]
    have hpre := mxPre X hr hs as
    match p1, hp with
    | 0, hp =>
      simp only [mxVp, Bool.and_eq_true, decide_eq_true_eq] at hp
      obtain ⟨⟨⟨⟨⟨⟨⟨h1, h2⟩, h4⟩, h5⟩, h3⟩, h6⟩, h7⟩, h8⟩ := hp
      have hyo := mxyIn_ok h1
      have hb' := hb.resolve_right (fun z => h8 z)
      obtain ⟨c1, c2, c3, c4, c5, c6, c7⟩ := mxyOK_ck hyo
      obtain ⟨b1, b2, b3, b4, b5⟩ := mxbase X (σ := σ) (σ' := b.2) hyo hd0 hY
      rw [mxcode_0 h7, h6] at b4 b5
      refine ⟨hyo, hinl ?_⟩
      rw [has2] at hpre ⊢
      exact va_runI S (mxMet_of (hM hyo) hb') ⟨⟨rfl, rfl, b1, b2, b3, b4, b5, X.good c2, mxnMH_ok c5, mxlen_ok h2, X.good (mxG1_ok h4)⟩, h3, X.good (mxG1_ok h5)⟩ hpre rfl ((List.length_map _).trans hlen) hl.1 hst2 hW hd hff
    | 1, hp =>
      simp only [mxVp, Bool.and_eq_true, decide_eq_true_eq, Bool.and_true] at hp
      obtain ⟨⟨⟨⟨⟨⟨⟨h1, h2⟩, h4⟩, h5⟩, h3⟩, h6⟩, h7⟩, h8⟩ := hp
      have hyo := mxyIn_ok h1
      have hb' := hb.resolve_right (fun z => h8 z.1)
      obtain ⟨c1, c2, c3, c4, c5, c6, c7⟩ := mxyOK_ck hyo
      obtain ⟨b1, b2, b3, b4, b5⟩ := mxbase X (σ := σ) (σ' := b.2) hyo hd0 hY
      rw [mxcode_0 h7, h6] at b4 b5
      refine ⟨hyo, hinl ?_⟩
      rw [has2] at hpre ⊢
      exact va_runIN S (mxMet_of (hM hyo) hb') ⟨⟨⟨rfl, rfl, b1, b2, b3, b4⟩, b5, X.good c2, mxnMH_ok c5, mxlen_ok h2, X.nm (List.mem_filter.mpr ⟨mxWd_mem h4, rfl⟩)⟩, h3, X.good (mxG1_ok h5)⟩ hpre rfl ((List.length_map _).trans hlen) hl.1 hst2 hW hd hff
    | 2, hp => simp [mxVp] at hp
    | _ + 3, hp => cases hp
