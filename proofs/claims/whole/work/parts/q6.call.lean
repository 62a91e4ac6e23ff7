/-! ===== making cells ===== -/
theorem mxS_al {G : mxG} {H0 H H1 : Heap} {locs : List Loc} (hS : va_S (mxfree G) H0 H locs) (z1 : H1.size = H.size + 1) (o1 : ∀ x : Nat, x < H.size → H1[x]? = H[x]?) : va_S (mxfree G) H0 H1 locs :=
  ⟨Nat.le_trans hS.1 (by omega), fun x h1 h2 => (o1 x (Nat.lt_of_lt_of_le h1 hS.1)).trans (hS.2.1 x h1 h2), hS.2.2⟩
theorem mxtr_new {G : mxG} {σ : mxS} {H : Heap} (hr : mxRel G σ H) : mxtr G (.ref (1000 + σ.2.1)) = .ref H.size := by
  rw [mxtr_998 G (mxn998 (Nat.le_add_right _ _)), mxad, if_neg (by omega), hr.1, show 1000 + σ.2.1 - 1000 = σ.2.1 by omega]
theorem mxlb (n n0 k : Nat) (h : n0 ≤ n) : n - n0 + k = n + k - n0 := by omega
theorem mxk_new {p : Program} {l : Launch} {e : Env} {R : Room} {s : State} {m : MethodId} {args : Array Value} {below : List Frame} {meth : Method} {c : Code} {Q : State → Prop} {G : mxG} {y n0 k0 pc : Nat} {loc : mxL} {st : List Value} {σ : mxS} {q : mxN} {i ci : Nat} {fs : List Value} (X : mxX p R s m args meth c G y) (hd : decode (mxb y) pc = .ok (.new i, 3)) (hf : mxNl (y / 128) i = some (ci, fs)) (h : mxnew ci fs (pc + 3) loc st σ = some (.inl q)) (hN : n0 ≤ σ.2.1) (hK0 : k0 ≤ σ.2.2) (hR : q.2.2.2.2.1 ≤ n0 + R.cells ∧ q.2.2.2.2.2 ≤ k0 + R.slots) (kk : mxWs p l e R s m args below meth c Q G y n0 k0 q) : mxWs p l e R s m args below meth c Q G y n0 k0 (pc, loc, st, σ) := by
  cases h
  obtain ⟨r, hr0, w1, w2, w3, hlen, hdef, hnr⟩ := mxN_ok hf
  obtain ⟨hin, hty, -⟩ := mxL_ok hr0
  have hR1 : σ.2.1 + 1 ≤ n0 + R.cells := hR.1
  have hR2 : σ.2.2 + fs.length ≤ k0 + R.slots := hR.2
  intro H locs ls hr hs hl
  have hKn := X.K.1 ci _ hr0
  refine W.newcK X.1 X.2.1 X.2.2.2.1 (X.good w1) (X.good w2) (X.good w3) rfl hd (by show σ.2.1 - n0 + 1 ≤ _; omega) (by show σ.2.2 - k0 + _ ≤ _; omega) hKn.2.1 rfl fun H1 kC hkC e1 z1 o1 => ?_
  have hmap : fs.map (mxtr G) = fs := by
    have : ∀ v ∈ fs, mxtr G v = v := fun v hv => by
      have := List.all_eq_true.mp hnr v hv
      cases v <;> first | rfl | cases this
    clear hlen hdef hnr hf hR hR2 kk
    induction fs with
    | nil => rfl
    | cons a l ih => rw [List.map_cons, this a List.mem_cons_self, ih (fun v hv => this v (List.mem_cons_of_mem _ hv))]
  have hrel : mxRel G (mxAl σ (.inr (ci, fs)) fs.length) H1 := by
    refine hr.al z1 o1 (Or.inr ⟨(List.getElem?_eq_some_iff.mp hr0).1, r, hr0, ?_⟩)
    rw [hmap]
    exact (u_born (mxtyc ci) (fun w hw => X.good hw) hin hKn hkC e1 hty).to hdef
  have key := kk H1 locs ls hrel (mxS_al hs z1 o1) hl
  have hn1 : (pc + 3, loc, Value.ref (1000 + σ.2.1) :: st, mxAl σ (.inr (ci, fs)) fs.length).2.2.1.map (mxtr G) = .ref H.size :: st.map (mxtr G) := by
    show mxtr G (.ref (1000 + σ.2.1)) :: _ = _
    rw [mxtr_new hr]
  rw [hn1] at key
  have a1 : σ.2.1 - n0 + 1 = σ.2.1 + 1 - n0 := mxlb _ _ _ hN
  have a2 : σ.2.2 - k0 + r.2.2 = σ.2.2 + fs.length - k0 := by rw [hlen]; exact mxlb _ _ _ hK0
  show W _ _ _ _ _ _ _ _ _ _ _ _ (σ.2.1 - n0 + 1) (σ.2.2 - k0 + r.2.2) _ _
  rw [a1, a2]
  exact key
theorem mxidx_10k {n : Int32} {k : Nat} (h : mxidx n 10000 = some k) : ¬ n < 0 ∧ n.toNatClampNeg = k ∧ k < 10000 := by
  obtain ⟨h1, rfl⟩ := mxidx_some h
  exact ⟨fun z => h1 (Or.inl z), rfl, Nat.not_le.mp fun z => h1 (Or.inr z)⟩
theorem mxzero_cell {G : mxG} {cA : ClassId} {k t : Nat} (h : t < 4) : arrV cA k (fun _ => defaultValue (mxtyp t)) = vp_cell cA (k, mxsum G (mxzero t)) := by
  match t, h with
  | 0, _ => rfl
  | 1, _ => rfl
  | 2, _ => rfl
  | 3, _ => rfl
theorem mxatype_ok {t0 : ArrayType} {t : Nat} (h : mxatype t0 = some t) : t < 4 ∧ newarray.typeOf t0 = mxtyp t ∧ Cond.arrayClass (newarray.typeOf t0) ∈ lw_good ∧ componentBytes (newarray.typeOf t0) ≤ 8 := by
  cases t0 with
  | int => cases h; exact ⟨by decide, rfl, mxW_arr_int, by decide⟩
  | long => cases h; exact ⟨by decide, rfl, mxW_arr_long, by decide⟩
  | byte => cases h; exact ⟨by decide, rfl, mxW_arr_byte, by decide⟩
  | boolean => cases h; exact ⟨by decide, rfl, mxW_arr_boolean, by decide⟩
  | _ => cases h
theorem mxk_newarray {p : Program} {l : Launch} {e : Env} {R : Room} {s : State} {m : MethodId} {args : Array Value} {below : List Frame} {meth : Method} {c : Code} {Q : State → Prop} {G : mxG} {y n0 k0 pc : Nat} {loc : mxL} {st : List Value} {σ : mxS} {q : mxN} {t0 : ArrayType} {t : Nat} (X : mxX p R s m args meth c G y) (hd : decode (mxb y) pc = .ok (.newarray t0, 2)) (hf : mxatype t0 = some t) (h : mxna t (pc + 2) loc st σ = some (.inl q)) (hN : n0 ≤ σ.2.1) (hK0 : k0 ≤ σ.2.2) (hR : q.2.2.2.2.1 ≤ n0 + R.cells ∧ q.2.2.2.2.2 ≤ k0 + R.slots) (kk : mxWs p l e R s m args below meth c Q G y n0 k0 q) : mxWs p l e R s m args below meth c Q G y n0 k0 (pc, loc, st, σ) := by
  cases st with
  | nil => cases h
  | cons v r =>
    cases v with
    | int n =>
      unfold mxna at h
      dsimp only at h
      cases hj : mxidx n 10000 with
      | none => rw [hj] at h; cases h
      | some k =>
        rw [hj] at h
        cases h
        obtain ⟨hn0, hk, hk2⟩ := mxidx_10k hj
        obtain ⟨h4, hty, hw, hcb⟩ := mxatype_ok hf
        have hR1 : σ.2.1 + 1 ≤ n0 + R.cells := hR.1
        have hR2 : σ.2.2 + k ≤ k0 + R.slots := hR.2
        intro H locs ls hr hs hl
        have hb2 : k * componentBytes (newarray.typeOf t0) ≤ 536870912 := Nat.le_trans (Nat.mul_le_mul (Nat.le_of_lt hk2) hcb) (by decide)
        refine va_newaK X.1 X.2.1 (X.good hw) rfl hd rfl hn0 hk hb2 (by show σ.2.1 - n0 + 1 ≤ _; omega) (by show σ.2.2 - k0 + _ ≤ _; omega) rfl fun H1 cA e1 z1 o1 hAr hNm => ?_
        have hcA : cA = gC G t := by
          have hRA := (X.K.2 t _ (mxtys_at G (by omega))).2
          rw [hty] at hNm
          match t, h4, hRA, hNm with
          | 0, _, hRA, hNm => exact Option.some.inj (hNm.symm.trans hRA)
          | 1, _, hRA, hNm => exact Option.some.inj (hNm.symm.trans hRA)
          | 2, _, hRA, hNm => exact Option.some.inj (hNm.symm.trans hRA)
          | 3, _, hRA, hNm => exact Option.some.inj (hNm.symm.trans hRA)
        subst hcA
        have hrel : mxRel G (mxAl σ (.inl (t, k, mxzero t)) k) H1 := by
          refine hr.al z1 o1 ⟨by omega, ?_, ?_⟩
          · rw [hty, mxzero_cell (G := G) h4] at e1
            exact e1
          · match t, h4 with
            | 0, _ => trivial
            | 1, _ => trivial
            | 2, _ => trivial
            | 3, _ => trivial
        have key := kk H1 locs ls hrel (mxS_al hs z1 o1) hl
        have hn1 : (pc + 2, loc, Value.ref (1000 + σ.2.1) :: r, mxAl σ (.inl (t, k, mxzero t)) k).2.2.1.map (mxtr G) = .ref H.size :: r.map (mxtr G) := by
          show mxtr G (.ref (1000 + σ.2.1)) :: _ = _
          rw [mxtr_new hr]
        rw [hn1] at key
        have a1 : σ.2.1 - n0 + 1 = σ.2.1 + 1 - n0 := mxlb _ _ _ hN
        have a2 : σ.2.2 - k0 + k = σ.2.2 + k - k0 := mxlb _ _ _ hK0
        show W _ _ _ _ _ _ _ _ _ _ _ _ (σ.2.1 - n0 + 1) (σ.2.2 - k0 + k) _ _
        rw [a1, a2]
        exact key
    | _ => cases h
theorem mxk_anewarray {p : Program} {l : Launch} {e : Env} {R : Room} {s : State} {m : MethodId} {args : Array Value} {below : List Frame} {meth : Method} {c : Code} {Q : State → Prop} {G : mxG} {y n0 k0 pc : Nat} {loc : mxL} {st : List Value} {σ : mxS} {q : mxN} {i t : Nat} (X : mxX p R s m args meth c G y) (hd : decode (mxb y) pc = .ok (.anewarray i, 3)) (hf : mxAl2 (y / 128) i = some t) (h : mxna t (pc + 3) loc st σ = some (.inl q)) (hN : n0 ≤ σ.2.1) (hK0 : k0 ≤ σ.2.2) (hR : q.2.2.2.2.1 ≤ n0 + R.cells ∧ q.2.2.2.2.2 ≤ k0 + R.slots) (kk : mxWs p l e R s m args below meth c Q G y n0 k0 q) : mxWs p l e R s m args below meth c Q G y n0 k0 (pc, loc, st, σ) := by
  cases st with
  | nil => cases h
  | cons v r =>
    cases v with
    | int n =>
      unfold mxna at h
      dsimp only at h
      cases hj : mxidx n 10000 with
      | none => rw [hj] at h; cases h
      | some k =>
        rw [hj] at h
        cases h
        obtain ⟨hn0, hk, hk2⟩ := mxidx_10k hj
        obtain ⟨h45, hw⟩ := mxA_ok hf
        have hR1 : σ.2.1 + 1 ≤ n0 + R.cells := hR.1
        have hR2 : σ.2.2 + k ≤ k0 + R.slots := hR.2
        have hAO : va_AO (mxref t) s := by
          rcases h45 with rfl | rfl
          · exact X.2.2.2.2.2.1.2.2.2.2.1.1
          · exact X.2.2.2.2.2.1.2.2.2.2.1.2
        intro H locs ls hr hs hl
        refine W.anew X.1 X.2.1 X.2.2.2.1 (X.good hw) (va_AO.use hAO) rfl hd rfl hn0 (by rw [hk]; omega) (by show σ.2.1 - n0 + 1 ≤ _; omega) (by rw [hk]; show σ.2.2 - k0 + _ ≤ _; omega) fun cA kA comp f1 f2 f3 f4 => ?_
        rw [hk]
        generalize hH1 : H.push ({ cls := cA, slots := Array.replicate k .null, vm := .none } : Cell) = H1
        have z1 : H1.size = H.size + 1 := by rw [← hH1, Array.size_push]
        have e1 : H1[H.size]? = some (arrV cA k (fun _ => .null)) := by rw [← hH1, Array.getElem?_push_size, ← arrV_new]
        have o1 : ∀ q : Nat, q < H.size → H1[q]? = H[q]? := fun q hq => by rw [← hH1, Array.getElem?_push, if_neg (Nat.ne_of_lt hq)]
        have hcA : cA = gC G t := by
          rcases h45 with rfl | rfl
          · obtain ⟨_, _, _, _, _, g⟩ := (X.K.2 4 _ (mxtys_at G (by decide))).2
            exact Option.some.inj (f1.symm.trans g)
          · obtain ⟨_, _, _, _, _, g⟩ := (X.K.2 5 _ (mxtys_at G (by decide))).2
            exact Option.some.inj (f1.symm.trans g)
        subst hcA
        have hrel : mxRel G (mxAl σ (.inl (t, k, mxzero t)) k) H1 := by
          refine hr.al z1 o1 ⟨by omega, ?_, ?_⟩
          · rcases h45 with rfl | rfl <;> exact e1
          · rcases h45 with rfl | rfl <;> exact fun j hz => nomatch hz
        have key := kk H1 locs ls hrel (mxS_al hs z1 o1) hl
        have hn1 : (pc + 3, loc, Value.ref (1000 + σ.2.1) :: r, mxAl σ (.inl (t, k, mxzero t)) k).2.2.1.map (mxtr G) = .ref H.size :: r.map (mxtr G) := by
          show mxtr G (.ref (1000 + σ.2.1)) :: _ = _
          rw [mxtr_new hr]
        rw [hn1] at key
        have a1 : σ.2.1 - n0 + 1 = σ.2.1 + 1 - n0 := mxlb _ _ _ hN
        have a2 : σ.2.2 - k0 + k = σ.2.2 + k - k0 := mxlb _ _ _ hK0
        show W _ _ _ _ _ _ _ _ _ _ _ _ (σ.2.1 - n0 + 1) (σ.2.2 - k0 + k) _ _
        rw [a1, a2]
        exact key
    | _ => cases h
/-! ===== statics, constants of the pool, Object's constructor ===== -/
theorem mxk_getstatic {p : Program} {l : Launch} {e : Env} {R : Room} {s : State} {m : MethodId} {args : Array Value} {below : List Frame} {meth : Method} {c : Code} {Q : State → Prop} {G : mxG} {y n0 k0 pc : Nat} {loc : mxL} {st : List Value} {σ : mxS} {q : mxN} {i : Nat} {v : Value} (X : mxX p R s m args meth c G y) (hd : decode (mxb y) pc = .ok (.getstatic i, 3)) (hf : mxSl (y / 128) i = some v) (h : mxgo (pc + 3) loc (v :: st) σ = some (.inl q)) (kk : mxWs p l e R s m args below meth c Q G y n0 k0 q) : mxWs p l e R s m args below meth c Q G y n0 k0 (pc, loc, st, σ) := by
  cases h
  obtain ⟨z, hz, rfl, hlink⟩ := mxS_ok hf
  intro H locs ls hr hs hl
  have hZ := X.2.2.2.2.2.1.2.2.2.2.2.2.2.1 z hz
  rcases hlink with hlink | ⟨host, hlink⟩
  · exact va_gets X.1 X.2.1 hZ hs X.2.2.2.1 (X.good hlink) (fun x hx => hx) hd (kk H locs ls hr hs hl)
  · exact va_getsN X.1 X.2.1 hZ hs X.2.2.2.1 (X.nf hlink) (fun x hx => hx) hd (kk H locs ls hr hs hl)
theorem mxk_ldc2 {p : Program} {l : Launch} {e : Env} {R : Room} {s : State} {m : MethodId} {args : Array Value} {below : List Frame} {meth : Method} {c : Code} {Q : State → Prop} {G : mxG} {y n0 k0 pc : Nat} {loc : mxL} {st : List Value} {σ : mxS} {q : mxN} {i : Nat} {v : Value} (X : mxX p R s m args meth c G y) (hd : decode (mxb y) pc = .ok (.ldc2_w i, 3)) (hf : mxLl (y / 128) i = some v) (hv : v.category = 2) (h : mxgo (pc + 3) loc (v :: st) σ = some (.inl q)) (kk : mxWs p l e R s m args below meth c Q G y n0 k0 q) : mxWs p l e R s m args below meth c Q G y n0 k0 (pc, loc, st, σ) := by
  cases h
  intro H locs ls hr hs hl
  rcases mxLl_ok hf with ⟨x2, rfl, hw⟩ | ⟨rfl, -⟩
  · exact lv_ldc2 X.1 X.2.1 X.2.2.2.1 (X.good hw) hd (kk H locs ls hr hs hl)
  · cases hv
theorem mxk_ldc {p : Program} {l : Launch} {e : Env} {R : Room} {s : State} {m : MethodId} {args : Array Value} {below : List Frame} {meth : Method} {c : Code} {Q : State → Prop} {G : mxG} {y n0 k0 pc : Nat} {loc : mxL} {st : List Value} {σ : mxS} {q : mxN} {i : Nat} {v : Value} (X : mxX p R s m args meth c G y) (hd : decode (mxb y) pc = .ok (.ldc i, 2)) (hf : mxLl (y / 128) i = some v) (hv : v.category = 1) (h : mxgo (pc + 2) loc (v :: st) σ = some (.inl q)) (kk : mxWs p l e R s m args below meth c Q G y n0 k0 q) : mxWs p l e R s m args below meth c Q G y n0 k0 (pc, loc, st, σ) := by
  cases h
  intro H locs ls hr hs hl
  rcases mxLl_ok hf with ⟨x2, rfl, hw⟩ | ⟨rfl, ho, hi⟩
  · cases hv
  · have hZ := X.2.2.2.2.2.1.2.2.2.2.2.2.1
    have hown := X.2.2.2.1
    rw [ho] at hown
    subst hi
    exact va_ldcS X.1 X.2.1 hown hZ hd (kk H locs ls hr hs hl)
theorem mxcat_map {G : mxG} (hF : gF G = .null ∨ ∃ a, gF G = .ref a) (r : List Value) : ((r.map (mxtr G)).map fun v => v.category).sum = mxcat r := mxcat_tr G hF r
theorem mxoi_words : Cond.instanceMethod objectInit ∈ lw_good ∧ Cond.code objectInit ⟨#[0xb1]⟩ 1 none ∈ lw_good := ⟨mxG1_ok (i := 1034) (by decide +kernel), mxG1_ok (i := 1035) (by decide +kernel)⟩
theorem mxk_objInit {p : Program} {l : Launch} {e : Env} {R : Room} {s : State} {m : MethodId} {args : Array Value} {below : List Frame} {meth : Method} {c : Code} {Q : State → Prop} {G : mxG} {y n0 k0 pc : Nat} {loc : mxL} {st : List Value} {σ : mxS} {q : mxN} {i : Nat} (X : mxX p R s m args meth c G y) (hd : decode (mxb y) pc = .ok (.invokespecial i, 3)) (hf : Cond.methodLink (mxcn (y / 128)) i objectInit ∈ lw_good) (h : mxoi (pc + 3) loc st σ = some (.inl q)) (kk : mxWs p l e R s m args below meth c Q G y n0 k0 q) : mxWs p l e R s m args below meth c Q G y n0 k0 (pc, loc, st, σ) := by
  cases st with
  | nil => cases h
  | cons v r =>
    cases v with
    | ref a =>
      unfold mxoi at h
      dsimp only at h
      split at h
      · rename_i ha
        cases h
        intro H locs ls hr hs hl
        show W _ _ _ _ _ _ _ _ _ _ _ _ _ _ _ (F0 m pc ls (mxtr G (.ref a) :: r.map (mxtr G)))
        rw [mxtr_998 G (mxn998 ha.1)]
        have h1 : mxcat r ≤ 8 := ha.2
        have h2 : 200 ≤ R.locals := X.2.2.2.2.2.2.1.2
        have h3 : 14 ≤ R.frames := X.2.2.2.2.2.2.1.1
        refine W.objInit X.1 X.2.1 X.2.2.2.1 (X.good hf) (X.good mxoi_words.1) (X.good mxoi_words.2) rfl (hl.1.trans X.2.2.1.symm) rfl hd (by omega) ?_ (kk H locs ls hr hs hl)
        rw [mxcat_map X.F]
        show 2 * 0 + mxcat r + 12 ≤ R.locals
        omega
      · cases h
    | _ => cases h
/-! ===== a stretch is copied ===== -/
theorem mxcp_words : Cond.native arraycopyName ∈ lw_good ∧ Cond.static arraycopyName ∈ lw_good ∧ Cond.initialized "java/lang/System" ∈ lw_good := ⟨mxG1_ok (i := 2061) (by decide +kernel), mxG1_ok (i := 2060) (by decide +kernel), mxG1_ok (i := 1011) (by decide +kernel)⟩
theorem mxk_copy {p : Program} {l : Launch} {e : Env} {R : Room} {s : State} {m : MethodId} {args : Array Value} {below : List Frame} {meth : Method} {c : Code} {Q : State → Prop} {G : mxG} {y n0 k0 pc : Nat} {loc : mxL} {st : List Value} {σ : mxS} {q : mxN} {i : Nat} (X : mxX p R s m args meth c G y) (hd : decode (mxb y) pc = .ok (.invokestatic i, 3)) (hf : Cond.methodLink (mxcn (y / 128)) i arraycopyName ∈ lw_good) (h : mxcp (pc + 3) loc st σ = some (.inl q)) (kk : mxWs p l e R s m args below meth c Q G y n0 k0 q) : mxWs p l e R s m args below meth c Q G y n0 k0 (pc, loc, st, σ) := by
  unfold mxcp at h
  split at h
  · rename_i n dp b sp a r
    split at h
    · rename_i ha
      obtain ⟨ha1, ha2, hb1, hb2⟩ := ha
      cases hσa : σ.1 a with
      | inr e => rw [hσa] at h; cases h
      | inl ea =>
        cases hσb : σ.1 b with
        | inr e =>
          rw [hσa, hσb] at h
          unfold mxcp2 at h
          split at h
          · rename_i hz
            cases hz
          · cases h
        | inl eb =>
          rw [hσa, hσb] at h
          unfold mxcp2 at h
          split at h
          · rename_i n0' f n1' g hea heb
            cases hea
            cases heb
            split at h
            · rename_i hc
              cases h
              obtain ⟨c1, c2, c3, c4, c5, c6⟩ := hc
              intro H locs ls hr hs hl
              have hca := hr.cell ha1 ha2
              have hcb := hr.cell hb1 hb2
              rw [show ((pc, loc, Value.int n :: Value.int dp :: Value.ref b :: Value.int sp :: Value.ref a :: r, σ) : mxN).2.2.2 = σ from rfl] at hca hcb
              rw [hσa] at hca
              rw [hσb] at hcb
              obtain ⟨-, hc0, -⟩ := hca
              obtain ⟨-, hc1, -⟩ := hcb
              show W _ _ _ _ _ _ _ _ _ _ _ _ _ _ _ (F0 m pc ls (.int n :: .int dp :: mxtr G (.ref b) :: .int sp :: mxtr G (.ref a) :: r.map (mxtr G)))
              rw [mxtr_998 G (mxn998 ha1), mxtr_998 G (mxn998 hb1)]
              have nn : ∀ z : Int32, ¬ z < 0 → z.toInt = (z.toNatClampNeg : Int) := by
                intro z hz
                have hz0 : (0 : Int) ≤ z.toInt := by
                  have := Int32.not_lt.mp hz
                  simpa using Int32.le_iff_toInt_le.mp this
                show z.toInt = ((z.toInt.toNat : Nat) : Int)
                omega
              intro T hT Z
              have g0 : T.heap[mxad G a]? = some (vp_cell (gC G 0) (n0', .inl f)) := by rw [hT]; exact hc0
              have g1 : T.heap[mxad G b]? = some (vp_cell (gC G 0) (n1', .inl g)) := by rw [hT]; exact hc1
              obtain ⟨-, k1, hk1, cm1, hkk1⟩ := X.arr (t := 0) (by decide) n1' (fun j => .int (g j))
              have h2 : 200 ≤ R.locals := X.2.2.2.2.2.2.1.2
              have h3 : 14 ≤ R.frames := X.2.2.2.2.2.2.1.1
              have hnw : nativeFrameWords "java/lang/System" "arraycopy" 5 ≤ 100 := by decide +kernel
              obtain ⟨vm', Z', step⟩ := Z.arraycopy X.1 X.2.2.2.1 (X.good hf) (X.good mxcp_words.1) (X.good mxcp_words.2.1) (X.good mxcp_words.2.2) (src := mxad G a) (dst := mxad G b) (cs := vp_cell (gC G 0) (n0', .inl f)) (cd := vp_cell (gC G 0) (n1', .inl g)) (srcPos := sp) (destPos := dp) (n := n) g0 g1
                (fun _ z => by cases z) (fun _ z => by cases z) (fun z => by cases z) (fun z => by cases z) hk1 hk1 hkk1 hkk1 rfl c1 c2 c3
                (by rw [nn sp c1, nn n c3]; show ¬ _ > ((arrV (gC G 0) n0' (fun j => .int (f j))).slots.size : Int); rw [arrV_size]; omega)
                (by rw [nn dp c2, nn n c3]; show ¬ _ > ((arrV (gC G 0) n1' (fun j => .int (g j))).slots.size : Int); rw [arrV_size]; omega)
                (fun vm₁ _ j hj => by
                  have e : (vp_cell (gC G 0) (n0', .inl f)).slots.getD (sp.toNatClampNeg + j) .null = .int (f (sp.toNatClampNeg + j)) := by
                    show (arrV (gC G 0) n0' (fun j => .int (f j))).slots.getD _ _ = _
                    rw [Array.getD_eq_getD_getElem?, arrV_read _ _ (by omega)]
                    rfl
                  refine ⟨?_, ?_⟩
                  · rw [e]
                    rfl
                  · rw [e]
                    exact trivial)
                (g := F0 m pc ls (.int n :: .int dp :: .ref (mxad G b) :: .int sp :: .ref (mxad G a) :: r.map (mxtr G))) rfl (hl.1.trans X.2.2.1.symm) (rest := r.map (mxtr G)) rfl (by rw [X.2.1]; exact hd) (by omega) (by rw [mxcat_map X.F]; show 2 * 0 + _ + _ ≤ _; omega)
              have e1 : copied (vp_cell (gC G 0) (n0', .inl f)) (vp_cell (gC G 0) (n1', .inl g)) sp dp n = vp_cell (gC G 0) (n1', .inl (va_cpy f g sp.toNatClampNeg dp.toNatClampNeg n.toNatClampNeg)) := va_copied (fun z => .int z) _ _ f g c4
              rw [e1] at Z' step
              have hl2 : mxad G b < H.size := (Array.getElem?_eq_some_iff.mp hc1).1
              have hheap : ((T.setVm vm').setCell (mxad G b) (vp_cell (gC G 0) (n1', .inl (va_cpy f g sp.toNatClampNeg dp.toNatClampNeg n.toNatClampNeg)))).heap = H.setIfInBounds (mxad G b) (vp_cell (gC G 0) (n1', .inl (va_cpy f g sp.toNatClampNeg dp.toNatClampNeg n.toNatClampNeg))) := by rw [← hT]; rfl
              have oq : ∀ q : Nat, q ≠ mxad G b → (H.setIfInBounds (mxad G b) (vp_cell (gC G 0) (n1', .inl (va_cpy f g sp.toNatClampNeg dp.toNatClampNeg n.toNatClampNeg))))[q]? = H[q]? := fun q hq => by simp [Array.getElem?_setIfInBounds, Ne.symm hq]
              obtain ⟨t, a1, b1⟩ := kk _ _ ls (hr.wr hb1 hb2 (Array.size_setIfInBounds ..) oq ⟨by decide, (show (H.setIfInBounds (mxad G b) _)[mxad G b]? = some _ by simp [Array.getElem?_setIfInBounds, hl2]; rfl), trivial⟩)
                ⟨by simp; exact hs.1, fun q g1 g2 => by
                  rw [oq q (fun e => g2 (by rw [e]; exact mxad_free G hb1))]
                  exact hs.2.1 q g1 g2, fun q hq => by
                  rcases List.mem_append.mp hq with h | h
                  · exact hs.2.2 q h
                  · obtain ⟨z, -, hz⟩ := List.mem_map.mp h
                    rw [← hz]
                    exact mxad_free G hb1⟩ hl _ hheap Z'
              exact ⟨t, step t a1, b1⟩
            · cases h
          · cases h
    · cases h
  · cases h
