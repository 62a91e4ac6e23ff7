/-! ===== handlers ===== -/
def mxHw (ct : Nat) : Option (Nat × Nat) := if ct = 13 then some (0, 4037) else if ct = 19 then some (1, 4120) else if ct = 24 then some (2, 4144) else none
theorem mxHw_ok {ct q i : Nat} (h : mxHw ct = some (q, i)) : Cond.classLink "RoofPigeonsLaw" ct (mxexn q) ∈ lw_good ∧ ct ≠ 0 ∧ q < 3 := by
  unfold mxHw at h
  split at h
  · rename_i hc
    subst hc
    cases h
    exact ⟨mxG1_ok (i := 4037) (by decide +kernel), by decide, by decide⟩
  · split at h
    · rename_i hc
      subst hc
      cases h
      exact ⟨mxG1_ok (i := 4120) (by decide +kernel), by decide, by decide⟩
    · split at h
      · rename_i hc
        subst hc
        cases h
        exact ⟨mxG1_ok (i := 4144) (by decide +kernel), by decide, by decide⟩
      · cases h
def mxHs (y h t k : Nat) : Bool := match decode (mxb y) h with
  | .ok (.astore_n j, 1) => decide (t = h + 1 ∧ j.val = k ∧ k < mxml y)
  | .ok (.astore j, 2) => decide (t = h + 2 ∧ j = k ∧ k < mxml y)
  | _ => false
def mxHok (y pc q t k : Nat) : List (Nat × Nat × Nat × Nat) → Bool
  | [] => false
  | x :: l => if x.1 ≤ pc ∧ pc < x.2.1 then (match mxHw x.2.2.2 with
      | some q' => if q'.1 = q then mxHs y x.2.2.1 t k else decide (q'.1 = 2 ∧ q < 2) && mxHok y pc q t k l
      | none => false) else mxHok y pc q t k l
theorem mxH_ck : mxHT.all (fun e => decide (e.1.1 / 128 = 20) && mxHok e.1.1 e.1.2.1 e.1.2.2 e.2.1 e.2.2 (mxhh e.1.1)) = true := by decide +kernel
theorem mxlookup_mem {α β : Type} [BEq α] [LawfulBEq α] {a : α} {b : β} : ∀ {l : List (α × β)}, l.lookup a = some b → (a, b) ∈ l
  | [], h => by cases h
  | (x, z) :: l, h => by
    rw [List.lookup_cons] at h
    by_cases e : a = x
    · subst e
      simp at h
      subst h
      exact List.mem_cons_self
    · rw [beq_eq_false_iff_ne.mpr e] at h
      exact List.mem_cons_of_mem _ (mxlookup_mem h)
theorem mxH_ok {y pc q t k : Nat} (h : mxHl y pc q = some (t, k)) : y / 128 = 20 ∧ mxHok y pc q t k (mxhh y) = true := by
  have h1 := List.all_eq_true.mp mxH_ck _ (mxlookup_mem h)
  simp only [Bool.and_eq_true, decide_eq_true_eq] at h1
  exact h1
theorem mxNCc {G : mxG} {U : State} {H : Heap} (h : mxKX G U H) {args : Array Value} {q : Nat} (hq : q < 3) : (Cond.castable (mxexn q) (mxexn q)).before args U = true := by
  match q, hq with
  | 0, _ => exact va_Nw.use rfl (h.2.2.2.1 (.castable "java/lang/IllegalStateException" "java/lang/IllegalStateException") (by simp [mxNC]))
  | 1, _ => exact va_Nw.use rfl (h.2.2.2.1 (.castable "java/lang/IllegalArgumentException" "java/lang/IllegalArgumentException") (by simp [mxNC]))
  | 2, _ => exact va_Nw.use rfl (h.2.2.2.1 (.castable "java/lang/IndexOutOfBoundsException" "java/lang/IndexOutOfBoundsException") (by simp [mxNC]))
theorem mxNcc {G : mxG} {U : State} {H : Heap} (h : mxKX G U H) {q : Nat} (hq : q < 2) : va_Nc (mxexn q) (mxexn 2) U := by
  have h12 := h.2.2.2.2.2.2.2.2.2.2.2.1
  match q, hq with
  | 0, _ => exact h12.1
  | 1, _ => exact h12.2
theorem mxk_catch {p : Program} {l : Launch} {e : Env} {R : Room} {s : State} {m : MethodId} {args : Array Value} {below : List Frame} {meth : Method} {c : Code} {G : mxG} {y n0 k0 pc : Nat} {loc : mxL} {st : List Value} {σ : mxS} {t k q d : Nat} {Q : State → Prop} (X : mxX p R s m args meth c G y) (hY : mxY R d y meth c) (hh : mxHl y pc q = some (t, k)) (kk : mxWs p l e R s m args below meth c Q G y n0 k0 (t, mxdrop loc k, [], σ)) {H : Heap} {locs : List Loc} {ls : Array Slot} {rest : List Value} {q9 : Nat} {ce : Cell}
    (hr : mxRel G σ H) (hs : va_S (mxfree G) s.heap H locs) (hl : mxLR G ls (mxml y) loc) (hce : H[q9]? = some ce) (hcv : ce.vm = .none) (hcl : s.vm.findClass (mxexn q) = some ce.cls) :
    vx_W p l e R s m args below meth c H locs (σ.2.1 - n0) (σ.2.2 - k0) Q (F0 m pc ls rest) q9 := by
  obtain ⟨h20, hok⟩ := mxH_ok hh
  have hown : s.vm.findClass "RoofPigeonsLaw" = some m.cls := by rw [← mxcn_law y h20]; exact X.2.2.2.1
  have hKX := X.2.2.2.2.2.1
  have hy25 : y ≠ 2582 := fun z => by
    rw [z, show mxhh 2582 = [] by decide +kernel] at hok
    cases hok
  rw [← hY.2.2 hy25] at hok
  have main : ∀ (suf pre : List ExceptionTableEntry), c.exceptionTable.toList = pre ++ suf → (∀ z ∈ pre, covers z pc = false ∨ (z.catchType ≠ 0 ∧ ∃ nm : String, (Cond.classLink "RoofPigeonsLaw" z.catchType nm).before args s = true ∧ va_Nc (mxexn q) nm s)) →
      mxHok y pc q t k (suf.map (fun h => (h.startPc, h.endPc, h.handlerPc, h.catchType))) = true → vx_W p l e R s m args below meth c H locs (σ.2.1 - n0) (σ.2.2 - k0) Q (F0 m pc ls rest) q9 := by
    intro suf
    induction suf with
    | nil => intro pre _ _ h; cases h
    | cons x suf ih =>
      intro pre hsp hpass h
      rw [List.map_cons, mxHok] at h
      dsimp only at h
      have hsp2 : c.exceptionTable.toList = (pre ++ [x]) ++ suf := by rw [hsp]; simp
      by_cases hc : x.startPc ≤ pc ∧ pc < x.endPc
      · rw [if_pos hc] at h
        cases hw : mxHw x.catchType with
        | none => rw [hw] at h; cases h
        | some qi =>
          rw [hw] at h
          obtain ⟨q', ix⟩ := qi
          dsimp only at h
          obtain ⟨g1, g2, g3⟩ := mxHw_ok hw
          by_cases hqq : q' = q
          · rw [if_pos hqq] at h
            subst hqq
            refine vx_catch hown pre x suf hsp hpass (by simp [covers, hc.1, hc.2]) g2 (X.good g1) (mxNCc hKX g3) hce hcv hcl ?_
            unfold mxHs at h
            split at h
            · rename_i j hdec
              obtain ⟨e1, e2, e3⟩ := of_decide_eq_true h
              refine lv_astore_n X.1 X.2.1 hdec e2 hl.has e3 rfl (fun ls' h' => ?_)
              rw [← e1]
              exact kk H locs ls' hr hs (hl.drop X.F h')
            · rename_i j hdec
              obtain ⟨e1, e2, e3⟩ := of_decide_eq_true h
              subst e2
              refine lv_astore X.1 X.2.1 hdec hl.has e3 rfl (fun ls' h' => ?_)
              rw [← e1]
              exact kk H locs ls' hr hs (hl.drop X.F h')
            · cases h
          · rw [if_neg hqq] at h
            simp only [Bool.and_eq_true, decide_eq_true_eq] at h
            refine ih (pre ++ [x]) hsp2 (fun z hz => ?_) h.2
            rcases List.mem_append.mp hz with hz | hz
            · exact hpass z hz
            · rw [List.mem_singleton.mp hz]
              refine Or.inr ⟨g2, mxexn 2, ?_, mxNcc hKX h.1.2⟩
              rw [h.1.1] at g1
              exact X.good g1
      · rw [if_neg hc] at h
        refine ih (pre ++ [x]) hsp2 (fun z hz => ?_) h
        rcases List.mem_append.mp hz with hz | hz
        · exact hpass z hz
        · rw [List.mem_singleton.mp hz]
          refine Or.inl ?_
          by_cases h1 : x.startPc ≤ pc
          · have h2 : ¬ pc < x.endPc := fun z => hc ⟨h1, z⟩
            simp [covers, h2]
          · simp [covers, h1]
  exact main _ [] rfl (fun z hz => nomatch hz) hok
theorem mxhT_ck : mxhT.all (fun e => decide (e.1 / 128 ≠ 9)) = true := by decide +kernel
theorem mxhh_9 {y : Nat} (h : mxmt y) : mxhh y = [] := by
  unfold mxhh
  cases hl : mxhT.lookup y with
  | none => rfl
  | some v => exact absurd h.1 (of_decide_eq_true (List.all_eq_true.mp mxhT_ck _ (mxlookup_mem hl)))
/-! ===== behind a call ===== -/
theorem mx_back {p : Program} {l : Launch} {e : Env} {R : Room} {s : State} {m : MethodId} {args : Array Value} {below : List Frame} {meth : Method} {c : Code} {G : mxG} {y n0 k0 pc : Nat} {loc : mxL} {st : List Value} {σ : mxS} {Q : State → Prop} {b : mxR} {r st0 : List Value} {a0 : Array Value} (X : mxX p R s m args meth c G y) (hN : n0 ≤ σ.2.1) (hK0 : k0 ≤ σ.2.2) (hu : σ.2.1 ≤ b.2.2.1 ∧ σ.2.2 ≤ b.2.2.2) {H : Heap} {locs : List Loc} {ls : Array Slot} (hs : va_S (mxfree G) s.heap H locs) (hl : mxLR G ls (mxml y) loc)
    (hrun : vx_Run p l e R s m args below meth c H locs (σ.2.1 - n0) (σ.2.2 - k0) (b.2.2.1 - σ.2.1) (b.2.2.2 - σ.2.2) (F0 m pc ls st0) (r.map (mxtr G)) (mxQc G b a0) (mxXC G b) (mxfree G))
    (kk : ∀ v : Option Value, b.1 = .inl v → mxWs p l e R s m args below meth c Q G y n0 k0 (pc + 3, loc, v.toList ++ r, b.2))
    (kx : ∀ q : Nat, b.1 = .inr q → q < 3 → ∀ (H1 : Heap) (locs1 : List Loc) (q9 : Nat) (ce : Cell), mxRel G b.2 H1 → va_S (mxfree G) s.heap H1 locs1 → H1[q9]? = some ce → ce.vm = .none → s.vm.findClass (mxexn q) = some ce.cls → vx_W p l e R s m args below meth c H1 locs1 (b.2.2.1 - n0) (b.2.2.2 - k0) Q (F0 m pc ls (r.map (mxtr G))) q9) :
    W p l e R s m args below meth c H locs (σ.2.1 - n0) (σ.2.2 - k0) Q (F0 m pc ls st0) := by
  have c1 : σ.2.1 - n0 + (b.2.2.1 - σ.2.1) = b.2.2.1 - n0 := by omega
  have c2 : σ.2.2 - k0 + (b.2.2.2 - σ.2.2) = b.2.2.2 - k0 := by omega
  intro T hT Z
  rcases hrun T hT Z with ⟨v, st₀, t, T', L, h0, Z', hL, e1, e2, ⟨v', hv', ho, hrel, hF⟩, st⟩ | ⟨q, st₀, t, T', L, E, ce, h0, Z', hL, e1, e2, ⟨q', hq', hq3, rfl, hrel, hF⟩, hce, hcv, hcl, st⟩
  · cases ho
    rw [c1, c2] at Z'
    have keep := vx_keep h0 e1 hs (fun q _ h => h) (fun q h => h) hL hF
    obtain ⟨t2, a1, b1⟩ := kk v' hv' T'.heap (locs ++ L) ls (by rw [e1]; exact hrel) keep.2.2 hl T' rfl Z'
    refine ⟨t2, st t2 ?_, b1⟩
    cases v' <;> exact a1
  · rw [c1, c2] at Z'
    have keep := vx_keep h0 e1 hs (fun q _ h => h) (fun q h => h) hL hF
    obtain ⟨t2, a1, b1⟩ := kx q' hq' hq3 T'.heap (locs ++ L) q ce (by rw [e1]; exact hrel) keep.2.2 (by rw [e1]; exact hce) hcv hcl T' rfl Z'
    exact ⟨t2, st.trans a1, b1⟩
/-! ===== the theorem ===== -/
def mxSnd (l : Launch) (n : Nat) : Prop := ∀ (d y pc : Nat) (loc : mxL) (st : List Value) (σ : mxS) (r : mxR), mxrun n d y pc loc st σ = some r → ((∃ v, r.1 = .inl v) ∨ mxmt y) →
  ∀ {p : Program} {e : Env} {R : Room} {s : State} {m : MethodId} {args : Array Value} {below : List Frame} {meth : Method} {c : Code} {G : mxG} {n0 k0 : Nat}, mxX p R s m args meth c G y → mxY R d y meth c → n0 ≤ σ.2.1 → k0 ≤ σ.2.2 → r.2.2.1 ≤ n0 + R.cells → r.2.2.2 ≤ k0 + R.slots →
    mxWs p l e R s m args below meth c (mxMQ below G r args s n0 k0) G y n0 k0 (pc, loc, st, σ)
theorem mx_met {l : Launch} {n : Nat} (IH : mxSnd l n) {G : mxG} {y d : Nat} {as : List Value} {loc : mxL} {σ : mxS} {r : mxR} (hr : mxrun n d y 0 loc [] σ = some r) (he : mxent y as = some loc) (hy : mxyOK y) (hres : (∃ v, r.1 = .inl v) ∨ mxmt y) : mxMt l G y d as σ r := by
  obtain ⟨c1, c2, c3, c4, c5, c6, c7⟩ := mxyOK_ck hy
  have hup := mxrun_up _ _ _ _ _ _ _ _ hr
  refine MetFree.of_bodySF (code := mxb y) (maxLocals := mxml y) (ret := mxrt y) c4 ?_ ?_
  · intro args s m h hn
    have hw := atoms_spec (ws := mxwl y) h _ List.mem_cons_self
    by_cases h7 : mxhh y = []
    · rw [mxcode_0 h7] at hw
      obtain ⟨meth, c, h1, h2, h3, h4, h5, h6, -, -⟩ := Cond.code_spec hn hw
      exact ⟨meth, c, h1, h2, h3, h4, h5, h6⟩
    · rw [mxcode_1 h7] at hw
      obtain ⟨m9, meth, c, hn9, h1, h2, h3, h4, -, h5, h6, -⟩ := Cond.codeWith_spec hw
      cases hn.symm.trans hn9
      exact ⟨meth, c, h1, h2, h3, h4, h5, h6⟩
  · intro p e s m args below meth c s₁ Bd hml hP _
    obtain ⟨ha, hrel, hKX⟩ := hP
    have hg : ∀ w ∈ lw_good, w.before args s = true := fun w hw => atoms_spec (ws := mxwl y) Bd.pre w (List.mem_cons_of_mem _ hw)
    have hh0 : s₁.heap = s.heap := by rw [Bd.state]; rfl
    have Z := Stand.of_body Bd
    have hown : s.vm.findClass (mxcn (y / 128)) = some m.cls := by rw [← c3]; exact findClass_of_methodNamed Bd.named
    have hnm : meth.name = (mxy y).name := (name_of_methodNamed Bd.named Bd.method).1
    have hex : c.exceptionTable.toList.map (fun h => (h.startPc, h.endPc, h.handlerPc, h.catchType)) = mxhh y := by
      have hw := atoms_spec (ws := mxwl y) Bd.pre _ List.mem_cons_self
      by_cases h7 : mxhh y = []
      · rw [mxcode_0 h7] at hw
        obtain ⟨meth9, c9, h1, h2, -, -, -, -, h8, -⟩ := Cond.code_spec Bd.named hw
        cases Option.some.inj (h1.symm.trans Bd.method)
        cases Option.some.inj (h2.symm.trans Z.code)
        rw [h7, Array.isEmpty_iff.mp h8]
        rfl
      · rw [mxcode_1 h7] at hw
        obtain ⟨m9, meth9, c9, hn9, h1, h2, -, -, h5, -⟩ := Cond.codeWith_spec hw
        cases Option.some.inj (hn9.symm.trans Bd.named)
        cases Option.some.inj (h1.symm.trans Bd.method)
        cases Option.some.inj (h2.symm.trans Z.code)
        exact h5
    have X : mxX p (mxrm d σ r.2) s m args meth c G y := ⟨Bd.exec, Bd.bytes, hml, hown, hg, hKX, ⟨by show 14 ≤ d + 14; omega, by show 200 ≤ 100 * d + 200; omega⟩, (fun h => hnm.trans h), Bd.notSynchronized, .inr hy⟩
    have hY : mxY (mxrm d σ r.2) d y meth c := ⟨⟨Nat.le_refl _, Nat.le_refl _⟩, Bd.returns, fun _ => hex⟩
    have key := IH d y 0 loc [] σ r hr hres (e := e) (below := below) X hY (Nat.le_refl _) (Nat.le_refl _) (by show r.2.2.1 ≤ σ.2.1 + (r.2.2.1 - σ.2.1); omega) (by show r.2.2.2 ≤ σ.2.2 + (r.2.2.2 - σ.2.2); omega)
    have key2 := key s.heap [] _ hrel ⟨Nat.le_refl _, fun _ _ _ => rfl, fun _ h => nomatch h⟩ (mxent_LR G hKX.F he)
    rw [show ((0, loc, [], σ) : mxN).2.2.2.2.1 - σ.2.1 = 0 from Nat.sub_self _, show ((0, loc, [], σ) : mxN).2.2.2.2.2 - σ.2.2 = 0 from Nat.sub_self _] at key2
    obtain ⟨t, a1, o, b1, b2, b3⟩ := key2 s₁ hh0 Z
    refine ⟨t, o, ?_, b1, b2, b3⟩
    rw [ha, lg_entry_eq]
    exact a1
theorem mxSo_inl {y pc : Nat} {loc : mxL} {st : List Value} {σ : mxS} {i : Instr} {v : Option Value} (h : mxSo y pc loc st σ i (.inr (.inl v))) : mxRetI y i ∧ mxret (mxrk y) st = some (.inr (.inl v)) := by
  rcases h with ⟨_, z, _⟩ | h | ⟨_, _, _, _, _, z⟩ | ⟨k, w, hi, hf, hv⟩
  · cases z
  · exact h
  · cases z
  · rcases mxinv_so hv with ⟨-, -, _, z, -⟩ | ⟨-, -, _, z, -⟩ | ⟨_, _, z, -⟩
    · cases z
    · cases z
    · cases z
theorem mxret_inl {k : Nat} {st : List Value} {z : mxAct} (h : mxret k st = some z) : ∃ v, z = .inr (.inl v) := by
  unfold mxret at h
  (repeat' split at h) <;> first | (cases h; done) | (cases h; exact ⟨_, rfl⟩)
theorem mxSo_thr {y pc : Nat} {loc : mxL} {st : List Value} {σ : mxS} {i : Instr} {q : Nat} (h : mxSo y pc loc st σ i (.inr (.inr (.inr q)))) : ∃ k, i = .new k ∧ mxTl y pc = some q ∧ st = [] := by
  rcases h with ⟨_, z, _⟩ | ⟨_, h⟩ | ⟨k, q', h1, h2, h3, z⟩ | ⟨k, w, hi, hf, hv⟩
  · cases z
  · obtain ⟨_, z⟩ := mxret_inl h
    cases z
  · cases z
    exact ⟨k, h1, h2, h3⟩
  · rcases mxinv_so hv with ⟨-, -, _, z, -⟩ | ⟨-, -, _, z, -⟩ | ⟨_, _, z, -⟩
    · cases z
    · cases z
    · cases z
theorem mxSo_call {y pc : Nat} {loc : mxL} {st : List Value} {σ : mxS} {i : Instr} {y' : Nat} {as r : List Value} (h : mxSo y pc loc st σ i (.inr (.inr (.inl (y', as, r))))) : ∃ k w, (i = .invokevirtual k ∧ mxsV w.1 = true ∨ i = .invokestatic k ∧ mxsS w.1 = true ∨ i = .invokespecial k ∧ mxsI w.1 = true) ∧ mxVl (y / 128) k = some w ∧ y' = w.2.1 ∧ mxCa w st σ (.inr (.inr (.inl (w.2.1, as, r)))) := by
  rcases h with ⟨_, z, _⟩ | ⟨_, h⟩ | ⟨_, _, _, _, _, z⟩ | ⟨k, w, hi, hf, hv⟩
  · cases z
  · obtain ⟨_, z⟩ := mxret_inl h
    cases z
  · cases z
  · rcases mxinv_so hv with ⟨-, -, _, z, -⟩ | ⟨-, -, _, z, -⟩ | hca
    · cases z
    · cases z
    · have hca2 := hca
      obtain ⟨as', r', he, -⟩ := hca
      cases he
      exact ⟨k, w, hi, hf, rfl, hca2⟩
theorem mx_sound {l : Launch} (hl : l.stackTraces = false) : ∀ n, mxSnd l n
  | 0 => fun _ _ _ _ _ _ _ h => nomatch h
  | n + 1 => by
    have IH := mx_sound hl n
    intro d y pc loc st σ r h hres p e R s m args below meth c G n0 k0 X hY hN hK0 hR1 hR2
    rw [mxrun] at h
    cases hs : mxStep y pc loc st σ with
    | none => rw [hs] at h; cases h
    | some a =>
      rw [hs] at h
      obtain ⟨i, nn, hd, hln, hso⟩ := mxStep_so hs
      match a, hs, hso, h with
      | .inl (pc', loc', st', σ'), hs, hso, h =>
        have hup := mxStep_up hs
        have hfin := mxrun_up n d y pc' loc' st' σ' r h
        exact mx_next X hN hK0 ⟨Nat.le_trans hfin.1 hR1, Nat.le_trans hfin.2 hR2⟩ hs (IH d y pc' loc' st' σ' r h hres X hY (Nat.le_trans hN hup.1) (Nat.le_trans hK0 hup.2) hR1 hR2)
      | .inr (.inl v), _, hso, h =>
        cases h
        obtain ⟨h1, h2⟩ := mxSo_inl hso
        exact mxk_ret X hY.2.1 hd hln h1 h2
      | .inr (.inr (.inr q)), _, hso, h =>
        cases h
        obtain ⟨k, rfl, h2, rfl⟩ := mxSo_thr hso
        have hn3 := beq_iff_eq.mp hln
        subst hn3
        exact mxk_throw (st := []) X hl hY hd h2 hN hK0 hR1 hR2
      | .inr (.inr (.inl (y', as, rs))), _, hso, h =>
        obtain ⟨k, w, hi, hf, hyw, hca⟩ := mxSo_call hso
        subst hyw
        have hn3 : nn = 3 := by
          rcases hi with ⟨rfl, _⟩ | ⟨rfl, _⟩ | ⟨rfl, _⟩ <;> exact beq_iff_eq.mp hln
        subst hn3
        dsimp only at h
        by_cases hd0 : d = 0
        · rw [if_pos hd0] at h; cases h
        · rw [if_neg hd0] at h
          cases he : mxent w.2.1 as with
          | none => rw [he] at h; cases h
          | some loc' =>
            rw [he] at h
            dsimp only at h
            cases hc : mxrun n (d - 1) w.2.1 0 loc' [] σ with
            | none => rw [hc] at h; cases h
            | some b =>
              rw [hc] at h
              have hu := mxrun_up _ _ _ _ _ _ _ _ hc
              match b, hc, hu, h with
              | (.inl v, σ'), hc, hu, h =>
                dsimp only at h
                have hfin := mxrun_up _ _ _ _ _ _ _ _ h
                have kk := IH d y (pc + 3) loc (v.toList ++ rs) σ' r h hres (e := e) (below := below) X hY (Nat.le_trans hN hu.1) (Nat.le_trans hK0 hu.2) hR1 hR2
                intro H locs ls hr hs' hl'
                obtain ⟨hcat, hyo, hrun⟩ := mxk_call (l := l) (e := e) (below := below) X hY hd hi hf hca hd0 (fun hyo => mx_met IH hc he hyo (Or.inl ⟨v, rfl⟩)) (Or.inl ⟨v, rfl⟩) hN hK0 hu (Nat.le_trans hfin.1 hR1) (Nat.le_trans hfin.2 hR2) hr hs' hl'
                exact mx_back (st := st) X hN hK0 hu hs' hl' hrun (fun v' hv' => by cases hv'; exact kk) (fun q hq => by cases hq)
              | (.inr q, σ'), hc, hu, h =>
                dsimp only at h
                by_cases hy9 : w.2.1 / 128 = 9 ∧ w.2.1 ≠ 1152
                · rw [if_pos hy9] at h
                  cases hh : mxHl y pc q with
                  | none =>
                    rw [hh] at h
                    cases h
                    have hmt : mxmt y := hres.resolve_left (fun ⟨_, z⟩ => by cases z)
                    have hex := mxnoex hY (fun z => absurd hmt.1 (by rw [z]; decide)) (mxhh_9 hmt)
                    intro H locs ls hr hs' hl'
                    obtain ⟨hcat, hyo, hrun⟩ := mxk_call (l := l) (e := e) (below := below) X hY hd hi hf hca hd0 (fun hyo => mx_met IH hc he hyo (Or.inr hy9)) (Or.inr hy9) hN hK0 hu hR1 hR2 hr hs' hl'
                    refine mx_back (st := st) X hN hK0 hu hs' hl' hrun (fun v' hv' => by cases hv') (fun q' hq' hq3 H1 locs1 q9 ce g1 g2 g3 g4 g5 => ?_)
                    cases hq'
                    exact vx_out (fun x hx => (hex x hx).elim) X.2.2.2.2.2.2.2.2.1 g3 g4 g5 (fun t ht _ => ⟨q, rfl, hq3, rfl, by rw [ht]; exact g1, mxS_F g2 ht⟩) g2.2.2 (Nat.le_refl _) (Nat.le_refl _)
                  | some tk =>
                    rw [hh] at h
                    obtain ⟨t, k9⟩ := tk
                    dsimp only at h
                    have hfin := mxrun_up _ _ _ _ _ _ _ _ h
                    have kk := IH d y t (mxdrop loc k9) [] σ' r h hres (e := e) (below := below) X hY (Nat.le_trans hN hu.1) (Nat.le_trans hK0 hu.2) hR1 hR2
                    intro H locs ls hr hs' hl'
                    obtain ⟨hcat, hyo, hrun⟩ := mxk_call (l := l) (e := e) (below := below) X hY hd hi hf hca hd0 (fun hyo => mx_met IH hc he hyo (Or.inr hy9)) (Or.inr hy9) hN hK0 hu (Nat.le_trans hfin.1 hR1) (Nat.le_trans hfin.2 hR2) hr hs' hl'
                    refine mx_back (st := st) X hN hK0 hu hs' hl' hrun (fun v' hv' => by cases hv') (fun q' hq' hq3 H1 locs1 q9 ce g1 g2 g3 g4 g5 => ?_)
                    cases hq'
                    exact mxk_catch (st := st) X hY hh kk g1 g2 hl' g3 g4 g5
                · rw [if_neg hy9] at h; cases h
