/-! ===== rows: length, reading, writing, making ===== -/
theorem mxk_arraylength {p : Program} {l : Launch} {e : Env} {R : Room} {s : State} {m : MethodId} {args : Array Value} {below : List Frame} {meth : Method} {c : Code} {Q : State → Prop} {G : mxG} {y n0 k0 pc : Nat} {loc : mxL} {st : List Value} {σ : mxS} {q : mxN} (X : mxX p R s m args meth c G y) (hd : decode (mxb y) pc = .ok (.arraylength, 1)) (h : mxlen (pc + 1) loc st σ = some (.inl q)) (kk : mxWs p l e R s m args below meth c Q G y n0 k0 q) : mxWs p l e R s m args below meth c Q G y n0 k0 (pc, loc, st, σ) := by
  cases st with
  | nil => cases h
  | cons v r =>
    cases v with
    | ref a =>
      unfold mxlen at h
      dsimp only at h
      split at h
      · rename_i ha
        cases hσ : σ.1 a with
        | inr e => rw [hσ] at h; cases h
        | inl e =>
          obtain ⟨t, n, cc⟩ := e
          rw [hσ] at h
          cases h
          intro H locs ls hr hs hl
          show W _ _ _ _ _ _ _ _ _ _ _ _ _ _ _ (F0 m pc ls (mxtr G (.ref a) :: r.map (mxtr G)))
          by_cases h1 : a < 1000
          · have hk := hr.2.1 a h1
            rw [show ((pc, loc, Value.ref a :: r, σ) : mxN).2.2.2 = σ from rfl, hσ] at hk
            have hK := X.kon h1
            rw [← hk] at hK
            rw [mxtr_998 G (fun z => by rw [z, mxkon_998] at hk; cases hk), mxad, if_pos h1]
            exact va_tlen X.1 X.2.1 hK hs rfl hd (kk H locs ls hr hs hl)
          · have hcell := hr.cell (Nat.not_lt.mp h1) ha
            rw [show ((pc, loc, Value.ref a :: r, σ) : mxN).2.2.2 = σ from rfl, hσ] at hcell
            obtain ⟨hlt, hat, -⟩ := hcell
            rw [mxtr_998 G (mxn998 (Nat.not_lt.mp h1))]
            exact va_alen X.1 X.2.1 X.K (mxP1 hat) 0 t rfl (mxtys_at G hlt) rfl hd (kk H locs ls hr hs hl)
      · cases h
    | _ => cases h
theorem mxk_iaload {p : Program} {l : Launch} {e : Env} {R : Room} {s : State} {m : MethodId} {args : Array Value} {below : List Frame} {meth : Method} {c : Code} {Q : State → Prop} {G : mxG} {y n0 k0 pc : Nat} {loc : mxL} {st : List Value} {σ : mxS} {q : mxN} (X : mxX p R s m args meth c G y) (hd : decode (mxb y) pc = .ok (.iaload, 1)) (h : mxal (fun t => t == 0) (pc + 1) loc st σ = some (.inl q)) (kk : mxWs p l e R s m args below meth c Q G y n0 k0 q) : mxWs p l e R s m args below meth c Q G y n0 k0 (pc, loc, st, σ) := by
  cases st with
  | nil => cases h
  | cons v r =>
    cases v with
    | int i =>
      cases r with
      | nil => cases h
      | cons w r =>
        cases w with
        | ref a =>
          unfold mxal at h
          dsimp only at h
          split at h
          · rename_i ha
            cases hσ : σ.1 a with
            | inr e => rw [hσ] at h; cases h
            | inl e =>
              obtain ⟨t, n, cc⟩ := e
              rw [hσ] at h
              cases cc with
              | inr cc => cases h
              | inl f =>
                unfold mxal2 at h
                dsimp only at h
                split at h
                · rename_i ht
                  have ht := beq_iff_eq.mp ht
                  subst ht
                  cases hj : mxidx i n with
                  | none => rw [hj] at h; cases h
                  | some j =>
                    rw [hj] at h
                    cases h
                    obtain ⟨hin, rfl⟩ := mxidx_some hj
                    intro H locs ls hr hs hl
                    show W _ _ _ _ _ _ _ _ _ _ _ _ _ _ _ (F0 m pc ls (.int i :: mxtr G (.ref a) :: r.map (mxtr G)))
                    by_cases h1 : a < 1000
                    · have hk := hr.2.1 a h1
                      rw [show ((pc, loc, Value.int i :: Value.ref a :: r, σ) : mxN).2.2.2 = σ from rfl, hσ] at hk
                      have hK := X.kon h1
                      rw [← hk] at hK
                      rw [mxtr_998 G (fun z => by rw [z, mxkon_998] at hk; cases hk), mxad, if_pos h1]
                      exact va_ti X.1 X.2.1 hK hs hin rfl hd (kk H locs ls hr hs hl)
                    · have hcell := hr.cell (Nat.not_lt.mp h1) ha
                      rw [show ((pc, loc, Value.int i :: Value.ref a :: r, σ) : mxN).2.2.2 = σ from rfl, hσ] at hcell
                      obtain ⟨hlt, hat, -⟩ := hcell
                      rw [mxtr_998 G (mxn998 (Nat.not_lt.mp h1))]
                      exact va_iald X.1 X.2.1 X.K (mxP1 hat) 0 0 rfl (mxtys_at G hlt) hin hd (kk H locs ls hr hs hl)
                · cases h
          · cases h
        | _ => cases h
    | _ => cases h
theorem mxk_baload {p : Program} {l : Launch} {e : Env} {R : Room} {s : State} {m : MethodId} {args : Array Value} {below : List Frame} {meth : Method} {c : Code} {Q : State → Prop} {G : mxG} {y n0 k0 pc : Nat} {loc : mxL} {st : List Value} {σ : mxS} {q : mxN} (X : mxX p R s m args meth c G y) (hd : decode (mxb y) pc = .ok (.baload, 1)) (h : mxal (fun t => t == 2 || t == 3) (pc + 1) loc st σ = some (.inl q)) (kk : mxWs p l e R s m args below meth c Q G y n0 k0 q) : mxWs p l e R s m args below meth c Q G y n0 k0 (pc, loc, st, σ) := by
  cases st with
  | nil => cases h
  | cons v r =>
    cases v with
    | int i =>
      cases r with
      | nil => cases h
      | cons w r =>
        cases w with
        | ref a =>
          unfold mxal at h
          dsimp only at h
          split at h
          · rename_i ha
            cases hσ : σ.1 a with
            | inr e => rw [hσ] at h; cases h
            | inl e =>
              obtain ⟨t, n, cc⟩ := e
              rw [hσ] at h
              cases cc with
              | inr cc => cases h
              | inl f =>
                unfold mxal2 at h
                dsimp only at h
                split at h
                · rename_i ht
                  have ht : t = 2 ∨ t = 3 := by simpa using ht
                  cases hj : mxidx i n with
                  | none => rw [hj] at h; cases h
                  | some j =>
                    rw [hj] at h
                    cases h
                    obtain ⟨hin, rfl⟩ := mxidx_some hj
                    intro H locs ls hr hs hl
                    show W _ _ _ _ _ _ _ _ _ _ _ _ _ _ _ (F0 m pc ls (.int i :: mxtr G (.ref a) :: r.map (mxtr G)))
                    by_cases h1 : a < 1000
                    · have hk := hr.2.1 a h1
                      rw [show ((pc, loc, Value.int i :: Value.ref a :: r, σ) : mxN).2.2.2 = σ from rfl, hσ] at hk
                      have hK := X.kon h1
                      rw [← hk] at hK
                      rw [mxtr_998 G (fun z => by rw [z, mxkon_998] at hk; cases hk), mxad, if_pos h1]
                      have h2 : t = 2 := by
                        rcases mxkon_ar hk.symm with (z | z) | z
                        · exact z
                        · omega
                        · omega
                      subst h2
                      exact va_tb X.1 X.2.1 hK hs hin rfl hd (kk H locs ls hr hs hl)
                    · have hcell := hr.cell (Nat.not_lt.mp h1) ha
                      rw [show ((pc, loc, Value.int i :: Value.ref a :: r, σ) : mxN).2.2.2 = σ from rfl, hσ] at hcell
                      obtain ⟨hlt, hat, -⟩ := hcell
                      rw [mxtr_998 G (mxn998 (Nat.not_lt.mp h1))]
                      rcases ht with rfl | rfl
                      · exact va_bald X.1 X.2.1 X.K (mxP1 hat) 0 2 rfl (mxtys_at G hlt) hin hd (kk H locs ls hr hs hl)
                      · exact va_zald X.1 X.2.1 X.K (mxP1 hat) 0 3 rfl (mxtys_at G hlt) hin hd (kk H locs ls hr hs hl)
                · cases h
          · cases h
        | _ => cases h
    | _ => cases h
theorem mxk_laload {p : Program} {l : Launch} {e : Env} {R : Room} {s : State} {m : MethodId} {args : Array Value} {below : List Frame} {meth : Method} {c : Code} {Q : State → Prop} {G : mxG} {y n0 k0 pc : Nat} {loc : mxL} {st : List Value} {σ : mxS} {q : mxN} (X : mxX p R s m args meth c G y) (hd : decode (mxb y) pc = .ok (.laload, 1)) (h : mxalJ (pc + 1) loc st σ = some (.inl q)) (kk : mxWs p l e R s m args below meth c Q G y n0 k0 q) : mxWs p l e R s m args below meth c Q G y n0 k0 (pc, loc, st, σ) := by
  cases st with
  | nil => cases h
  | cons v r =>
    cases v with
    | int i =>
      cases r with
      | nil => cases h
      | cons w r =>
        cases w with
        | ref a =>
          unfold mxalJ at h
          dsimp only at h
          split at h
          · rename_i ha
            cases hσ : σ.1 a with
            | inr e => rw [hσ] at h; cases h
            | inl e =>
              obtain ⟨t, n, cc⟩ := e
              rw [hσ] at h
              rcases cc with cc | cc | cc
              · cases h
              · unfold mxalJ2 at h
                dsimp only at h
                split at h
                · rename_i ht
                  subst ht
                  cases hj : mxidx i n with
                  | none => rw [hj] at h; cases h
                  | some j =>
                    rw [hj] at h
                    cases h
                    obtain ⟨hin, rfl⟩ := mxidx_some hj
                    intro H locs ls hr hs hl
                    show W _ _ _ _ _ _ _ _ _ _ _ _ _ _ _ (F0 m pc ls (.int i :: mxtr G (.ref a) :: r.map (mxtr G)))
                    by_cases h1 : a < 1000
                    · exfalso
                      have hk := hr.2.1 a h1
                      rw [show ((pc, loc, Value.int i :: Value.ref a :: r, σ) : mxN).2.2.2 = σ from rfl, hσ] at hk
                      rcases mxkon_ar hk.symm with (z | z) | z
                      · omega
                      · omega
                      · omega
                    · have hcell := hr.cell (Nat.not_lt.mp h1) ha
                      rw [show ((pc, loc, Value.int i :: Value.ref a :: r, σ) : mxN).2.2.2 = σ from rfl, hσ] at hcell
                      obtain ⟨hlt, hat, -⟩ := hcell
                      rw [mxtr_998 G (mxn998 (Nat.not_lt.mp h1))]
                      exact va_lald X.1 X.2.1 X.K (mxP1 hat) 0 1 rfl (mxtys_at G hlt) hin hd (kk H locs ls hr hs hl)
                · cases h
              · cases h
          · cases h
        | _ => cases h
    | _ => cases h
theorem mxk_aaload {p : Program} {l : Launch} {e : Env} {R : Room} {s : State} {m : MethodId} {args : Array Value} {below : List Frame} {meth : Method} {c : Code} {Q : State → Prop} {G : mxG} {y n0 k0 pc : Nat} {loc : mxL} {st : List Value} {σ : mxS} {q : mxN} (X : mxX p R s m args meth c G y) (hd : decode (mxb y) pc = .ok (.aaload, 1)) (h : mxalA (pc + 1) loc st σ = some (.inl q)) (kk : mxWs p l e R s m args below meth c Q G y n0 k0 q) : mxWs p l e R s m args below meth c Q G y n0 k0 (pc, loc, st, σ) := by
  cases st with
  | nil => cases h
  | cons v r =>
    cases v with
    | int i =>
      cases r with
      | nil => cases h
      | cons w r =>
        cases w with
        | ref a =>
          unfold mxalA at h
          dsimp only at h
          split at h
          · rename_i ha
            cases hσ : σ.1 a with
            | inr e => rw [hσ] at h; cases h
            | inl e =>
              obtain ⟨t, n, cc⟩ := e
              rw [hσ] at h
              rcases cc with cc | cc | cc | cc | f
              · cases h
              · cases h
              · cases h
              · cases h
              · unfold mxalA2 at h
                dsimp only at h
                split at h
                · rename_i ht
                  cases hj : mxidx i n with
                  | none => rw [hj] at h; cases h
                  | some j =>
                    rw [hj] at h
                    cases h
                    obtain ⟨hin, rfl⟩ := mxidx_some hj
                    intro H locs ls hr hs hl
                    show W _ _ _ _ _ _ _ _ _ _ _ _ _ _ _ (F0 m pc ls (.int i :: mxtr G (.ref a) :: r.map (mxtr G)))
                    by_cases h1 : a < 1000
                    · have hk := hr.2.1 a h1
                      rw [show ((pc, loc, Value.int i :: Value.ref a :: r, σ) : mxN).2.2.2 = σ from rfl, hσ] at hk
                      have hK := X.kon h1
                      rw [← hk] at hK
                      rw [mxtr_998 G (fun z => by rw [z, mxkon_998] at hk; cases hk), mxad, if_pos h1]
                      have hlt : i.toNatClampNeg < n := Nat.not_le.mp fun z => hin (Or.inr z)
                      rcases mxkon_ar hk.symm with (z | ⟨z, g, hg⟩) | ⟨ht2, g, hg, h98⟩
                      · omega
                      · cases hg
                      · cases hg
                        have hrf := mxtr_rf G (h98 _ hlt)
                        have key := kk H locs ls hr hs hl
                        simp only [List.map_cons, hrf] at key
                        rcases ht2 with rfl | rfl
                        · exact vb_tq X.1 X.2.1 (C := "RoofPigeons$Kind") hK hs hin rfl hd key
                        · exact vb_tq X.1 X.2.1 (C := "java/lang/String") hK hs hin rfl hd key
                    · have hcell := hr.cell (Nat.not_lt.mp h1) ha
                      rw [show ((pc, loc, Value.int i :: Value.ref a :: r, σ) : mxN).2.2.2 = σ from rfl, hσ] at hcell
                      obtain ⟨hlt, hat, hno⟩ := hcell
                      rw [mxtr_998 G (mxn998 (Nat.not_lt.mp h1))]
                      have hrf := mxtr_rf G (hno i.toNatClampNeg)
                      have key := kk H locs ls hr hs hl
                      simp only [List.map_cons, hrf] at key
                      have h45 : t = 4 ∨ t = 5 := by omega
                      rcases h45 with rfl | rfl
                      · exact va_aldq X.1 X.2.1 X.K (mxP1 hat) 0 4 (C := "RoofPigeons$Kind") rfl (mxtys_at G hlt) hin hd key
                      · exact va_aldq X.1 X.2.1 X.K (mxP1 hat) 0 5 (C := "RoofPigeons$Order") rfl (mxtys_at G hlt) hin hd key
                · cases h
          · cases h
        | _ => cases h
    | _ => cases h
theorem mxX.arr {p : Program} {R : Room} {s : State} {m : MethodId} {args : Array Value} {meth : Method} {c : Code} {G : mxG} {y : Nat} (X : mxX p R s m args meth c G y) {t : Nat} (h : t < 6) (n : Nat) (z : Nat → Value) : s.isArrayOf (arrV (gC G t) n z) (mxtyp t) := (X.K.2 t _ (mxtys_at G h)).1 n z
theorem mxarr_in {i : Int32} {n : Nat} {cA : ClassId} {f : Nat → Value} (h : vp_in i n) : ¬ (i < 0 ∨ (arrV cA n f).slots.size ≤ i.toNatClampNeg) := by rw [arrV_size]; exact h
theorem mxupI {cA : ClassId} {n j : Nat} {f : Nat → Int32} {x : Int32} : (vp_cell cA (n, .inl f)).setSlot j (.int x) = vp_cell cA (n, .inl (va_up f j x)) := by
  rw [vp_cell_i, vp_cell_i, arrV_store]
  congr 1
  funext z
  by_cases hz : z = j
  · subst hz; simp [updV, va_up]
  · simp [updV, va_up, hz]
theorem mxupL {cA : ClassId} {n j : Nat} {f : Nat → Int64} {x : Int64} : (vp_cell cA (n, .inr (.inl f))).setSlot j (.long x) = vp_cell cA (n, .inr (.inl (va_up f j x))) := by
  rw [vp_cell_l, vp_cell_l, arrV_store]
  congr 1
  funext z
  by_cases hz : z = j
  · subst hz; simp [updV, va_up]
  · simp [updV, va_up, hz]
theorem mxupQ {cA : ClassId} {n j v : Nat} {f : Nat → Option Nat} : (vp_cell cA (n, .inr (.inr (.inr (.inr f))))).setSlot j (.ref v) = vp_cell cA (n, .inr (.inr (.inr (.inr (va_up f j (some v)))))) := by
  rw [vp_cell_q, vp_cell_q, arrV_store]
  congr 1
  funext z
  by_cases hz : z = j
  · subst hz; simp [updV, va_up, va_rf]
  · simp [updV, va_up, hz]
theorem mxk_iastore {p : Program} {l : Launch} {e : Env} {R : Room} {s : State} {m : MethodId} {args : Array Value} {below : List Frame} {meth : Method} {c : Code} {Q : State → Prop} {G : mxG} {y n0 k0 pc : Nat} {loc : mxL} {st : List Value} {σ : mxS} {q : mxN} (X : mxX p R s m args meth c G y) (hd : decode (mxb y) pc = .ok (.iastore, 1)) (h : mxas (fun t => t == 0) (fun x => x) (pc + 1) loc st σ = some (.inl q)) (kk : mxWs p l e R s m args below meth c Q G y n0 k0 q) : mxWs p l e R s m args below meth c Q G y n0 k0 (pc, loc, st, σ) := by
  rcases st with _ | ⟨v, _ | ⟨w, _ | ⟨u, r⟩⟩⟩
  · cases h
  · cases v <;> cases h
  · cases v <;> cases w <;> cases h
  · cases v with
    | int x =>
      cases w with
      | int i =>
        cases u with
        | ref a =>
          unfold mxas at h
          dsimp only at h
          split at h
          · rename_i ha
            cases hσ : σ.1 a with
            | inr e => rw [hσ] at h; cases h
            | inl e =>
              obtain ⟨t, n, cc⟩ := e
              rw [hσ] at h
              cases cc with
              | inr cc => cases h
              | inl f =>
                unfold mxas2 at h
                dsimp only at h
                split at h
                · rename_i ht
                  have ht := beq_iff_eq.mp ht
                  subst ht
                  cases hj : mxidx i n with
                  | none => rw [hj] at h; cases h
                  | some j =>
                    rw [hj] at h
                    cases h
                    obtain ⟨hin, rfl⟩ := mxidx_some hj
                    intro H locs ls hr hs hl
                    have hcell := hr.cell ha.1 ha.2
                    rw [show ((pc, loc, Value.int x :: Value.int i :: Value.ref a :: r, σ) : mxN).2.2.2 = σ from rfl, hσ] at hcell
                    obtain ⟨hlt, hat, -⟩ := hcell
                    show W _ _ _ _ _ _ _ _ _ _ _ _ _ _ _ (F0 m pc ls (.int x :: .int i :: mxtr G (.ref a) :: r.map (mxtr G)))
                    rw [mxtr_998 G (mxn998 ha.1)]
                    refine W.iast X.1 X.2.1 hat (X.arr hlt n (fun j => .int (f j))) (fun z => by cases z) (mxarr_in hin) rfl rfl hd fun H1 e1 e2 e3 => ?_
                    exact kk H1 _ ls (hr.wr ha.1 ha.2 e2 e3 ⟨hlt, e1.trans (congrArg some mxupI), trivial⟩) (hs.put e2 e3 (mxad_free G ha.1)) hl
                · cases h
          · cases h
        | _ => cases h
      | _ => cases h
    | _ => cases h
theorem mxk_lastore {p : Program} {l : Launch} {e : Env} {R : Room} {s : State} {m : MethodId} {args : Array Value} {below : List Frame} {meth : Method} {c : Code} {Q : State → Prop} {G : mxG} {y n0 k0 pc : Nat} {loc : mxL} {st : List Value} {σ : mxS} {q : mxN} (X : mxX p R s m args meth c G y) (hd : decode (mxb y) pc = .ok (.lastore, 1)) (h : mxasJ (pc + 1) loc st σ = some (.inl q)) (kk : mxWs p l e R s m args below meth c Q G y n0 k0 q) : mxWs p l e R s m args below meth c Q G y n0 k0 (pc, loc, st, σ) := by
  rcases st with _ | ⟨v, _ | ⟨w, _ | ⟨u, r⟩⟩⟩
  · cases h
  · cases v <;> cases h
  · cases v <;> cases w <;> cases h
  · cases v with
    | long x =>
      cases w with
      | int i =>
        cases u with
        | ref a =>
          unfold mxasJ at h
          dsimp only at h
          split at h
          · rename_i ha
            cases hσ : σ.1 a with
            | inr e => rw [hσ] at h; cases h
            | inl e =>
              obtain ⟨t, n, cc⟩ := e
              rw [hσ] at h
              rcases cc with cc | f | cc
              · cases h
              · unfold mxasJ2 at h
                dsimp only at h
                split at h
                · rename_i ht
                  subst ht
                  cases hj : mxidx i n with
                  | none => rw [hj] at h; cases h
                  | some j =>
                    rw [hj] at h
                    cases h
                    obtain ⟨hin, rfl⟩ := mxidx_some hj
                    intro H locs ls hr hs hl
                    have hcell := hr.cell ha.1 ha.2
                    rw [show ((pc, loc, Value.long x :: Value.int i :: Value.ref a :: r, σ) : mxN).2.2.2 = σ from rfl, hσ] at hcell
                    obtain ⟨hlt, hat, -⟩ := hcell
                    show W _ _ _ _ _ _ _ _ _ _ _ _ _ _ _ (F0 m pc ls (.long x :: .int i :: mxtr G (.ref a) :: r.map (mxtr G)))
                    rw [mxtr_998 G (mxn998 ha.1)]
                    refine W.last X.1 X.2.1 hat (X.arr hlt n (fun j => .long (f j))) (fun z => by cases z) (mxarr_in hin) rfl rfl hd fun H1 e1 e2 e3 => ?_
                    exact kk H1 _ ls (hr.wr ha.1 ha.2 e2 e3 ⟨hlt, e1.trans (congrArg some mxupL), trivial⟩) (hs.put e2 e3 (mxad_free G ha.1)) hl
                · cases h
              · cases h
          · cases h
        | _ => cases h
      | _ => cases h
    | _ => cases h
theorem mxk_bastore {p : Program} {l : Launch} {e : Env} {R : Room} {s : State} {m : MethodId} {args : Array Value} {below : List Frame} {meth : Method} {c : Code} {Q : State → Prop} {G : mxG} {y n0 k0 pc : Nat} {loc : mxL} {st : List Value} {σ : mxS} {q : mxN} (X : mxX p R s m args meth c G y) (hd : decode (mxb y) pc = .ok (.bastore, 1)) (h : mxasB (pc + 1) loc st σ = some (.inl q)) (kk : mxWs p l e R s m args below meth c Q G y n0 k0 q) : mxWs p l e R s m args below meth c Q G y n0 k0 (pc, loc, st, σ) := by
  rcases st with _ | ⟨v, _ | ⟨w, _ | ⟨u, r⟩⟩⟩
  · cases h
  · cases v <;> cases h
  · cases v <;> cases w <;> cases h
  · cases v with
    | int x =>
      cases w with
      | int i =>
        cases u with
        | ref a =>
          unfold mxasB at h
          dsimp only at h
          split at h
          · rename_i ha
            cases hσ : σ.1 a with
            | inr e => rw [hσ] at h; cases h
            | inl e =>
              obtain ⟨t, n, cc⟩ := e
              rw [hσ] at h
              cases cc with
              | inr cc => cases h
              | inl f =>
                unfold mxasB2 at h
                dsimp only at h
                split at h
                · rename_i ht
                  cases hj : mxidx i n with
                  | none => rw [hj] at h; cases h
                  | some j =>
                    rw [hj] at h
                    cases h
                    obtain ⟨hin, rfl⟩ := mxidx_some hj
                    intro H locs ls hr hs hl
                    have hcell := hr.cell ha.1 ha.2
                    rw [show ((pc, loc, Value.int x :: Value.int i :: Value.ref a :: r, σ) : mxN).2.2.2 = σ from rfl, hσ] at hcell
                    obtain ⟨hlt, hat, -⟩ := hcell
                    show W _ _ _ _ _ _ _ _ _ _ _ _ _ _ _ (F0 m pc ls (.int x :: .int i :: mxtr G (.ref a) :: r.map (mxtr G)))
                    rw [mxtr_998 G (mxn998 ha.1)]
                    rcases ht with rfl | ⟨rfl, hx⟩
                    · refine W.bast X.1 X.2.1 hat (X.arr hlt n (fun j => .int (f j))) (fun z => by cases z) (mxarr_in hin) rfl rfl hd fun H1 e1 e2 e3 => ?_
                      exact kk H1 _ ls (hr.wr ha.1 ha.2 e2 e3 ⟨hlt, e1.trans (congrArg some mxupI), trivial⟩) (hs.put e2 e3 (mxad_free G ha.1)) hl
                    · refine W.zast X.1 X.2.1 hat (X.arr hlt n (fun j => .int (f j))) (fun z => by cases z) (mxarr_in hin) rfl rfl hd fun H1 e1 e2 e3 => ?_
                      have hnx : narrow .boolean (.int x) = .int x := by rcases hx with rfl | rfl <;> rfl
                      rw [hnx] at e1
                      exact kk H1 _ ls (hr.wr ha.1 ha.2 e2 e3 ⟨hlt, e1.trans (congrArg some mxupI), trivial⟩) (hs.put e2 e3 (mxad_free G ha.1)) hl
                · cases h
          · cases h
        | _ => cases h
      | _ => cases h
    | _ => cases h
/-! a reference is put -/
theorem mxelt_ok {p : Program} {R : Room} {s : State} {m : MethodId} {args : Array Value} {meth : Method} {c : Code} {G : mxG} {y : Nat} (X : mxX p R s m args meth c G y) {σ : mxS} {H : Heap} {locs : List Loc} (hr : mxRel G σ H) (hs : va_S (mxfree G) s.heap H locs) {t v : Nat} (h : mxelt σ t v = true) : (t = 4 ∨ t = 5) ∧ v ≠ 998 ∧
    ∃ cell : Cell, H[mxad G v]? = some cell ∧ cell.vm.isStatics = false ∧ s.vm.findClass (mxref t) = some cell.cls := by
  unfold mxelt at h
  simp only [Bool.or_eq_true, Bool.and_eq_true, beq_iff_eq, decide_eq_true_eq] at h
  rcases h with ⟨rfl, hv⟩ | ⟨⟨rfl, hv⟩, hci⟩
  · refine ⟨Or.inl rfl, by omega, ?_⟩
    have hK := X.kon (a := v) (by omega)
    rw [show mxkon (gL G) (gX G) v = .inr (20, [.ref (50 + v), .int (nI (mxtakes.getD v 0)), .int (nI v)]) from if_pos hv] at hK
    obtain ⟨⟨cell, g1, g2, g3, g4⟩, -⟩ := hK.resolve_left (by decide)
    rw [mxad, if_pos (by omega)]
    exact ⟨cell, (hs.2.1 _ (Array.getElem?_eq_some_iff.mp g1).1 g4).trans g1, g2, g3⟩
  · refine ⟨Or.inr rfl, by omega, ?_⟩
    cases hσ : σ.1 v with
    | inl e => rw [hσ] at hci; cases hci
    | inr e =>
      obtain ⟨ci, fs⟩ := e
      rw [hσ] at hci
      have hci : ci = 1 := by simpa using hci
      subst hci
      have hcell := hr.cell hv.1 hv.2
      rw [hσ] at hcell
      obtain ⟨-, rr, hrr, cell, q1, q2, q3, q4⟩ := hcell.resolve_left (by decide)
      obtain ⟨-, hfc, -⟩ := X.K.1 1 _ hrr
      refine ⟨cell, q1, by rw [q3]; rfl, ?_⟩
      rw [q2]
      cases hrr
      exact hfc
theorem mxk_aastore {p : Program} {l : Launch} {e : Env} {R : Room} {s : State} {m : MethodId} {args : Array Value} {below : List Frame} {meth : Method} {c : Code} {Q : State → Prop} {G : mxG} {y n0 k0 pc : Nat} {loc : mxL} {st : List Value} {σ : mxS} {q : mxN} (X : mxX p R s m args meth c G y) (hd : decode (mxb y) pc = .ok (.aastore, 1)) (h : mxasA (pc + 1) loc st σ = some (.inl q)) (kk : mxWs p l e R s m args below meth c Q G y n0 k0 q) : mxWs p l e R s m args below meth c Q G y n0 k0 (pc, loc, st, σ) := by
  rcases st with _ | ⟨v, _ | ⟨w, _ | ⟨u, r⟩⟩⟩
  · cases h
  · cases v <;> cases h
  · cases v <;> cases w <;> cases h
  · cases v with
    | ref x =>
      cases w with
      | int i =>
        cases u with
        | ref a =>
          unfold mxasA at h
          dsimp only at h
          split at h
          · rename_i ha
            cases hσ : σ.1 a with
            | inr e => rw [hσ] at h; cases h
            | inl e =>
              obtain ⟨t, n, cc⟩ := e
              rw [hσ] at h
              rcases cc with cc | cc | cc | cc | f
              · cases h
              · cases h
              · cases h
              · cases h
              · unfold mxasA2 at h
                dsimp only at h
                split at h
                · rename_i ht
                  cases hj : mxidx i n with
                  | none => rw [hj] at h; cases h
                  | some j =>
                    rw [hj] at h
                    cases h
                    obtain ⟨hin, rfl⟩ := mxidx_some hj
                    intro H locs ls hr hs hl
                    have hcell := hr.cell ha.1 ha.2
                    rw [show ((pc, loc, Value.ref x :: Value.int i :: Value.ref a :: r, σ) : mxN).2.2.2 = σ from rfl, hσ] at hcell
                    obtain ⟨hlt, hat, hno⟩ := hcell
                    obtain ⟨h45, hx98, cellV, g1, g3, g2⟩ := mxelt_ok X hr hs ht
                    show W _ _ _ _ _ _ _ _ _ _ _ _ _ _ _ (F0 m pc ls (mxtr G (.ref x) :: .int i :: mxtr G (.ref a) :: r.map (mxtr G)))
                    rw [mxtr_998 G (mxn998 ha.1), mxtr_998 G hx98]
                    have hRA := (X.K.2 t _ (mxtys_at G hlt)).2
                    have hC : ∃ (kA : Class) (comp : ClassId), s.vm.classes[gC G t]? = some kA ∧ kA.kind = .array comp (.object (mxref t)) ∧ s.vm.findClass (mxref t) = some comp := by
                      rcases h45 with rfl | rfl
                      · obtain ⟨kA, comp, k1, k2, k3, -⟩ := hRA; exact ⟨kA, comp, k1, k2, k3⟩
                      · obtain ⟨kA, comp, k1, k2, k3, -⟩ := hRA; exact ⟨kA, comp, k1, k2, k3⟩
                    obtain ⟨kA, comp, k1, k2, k3⟩ := hC
                    obtain ⟨kE, hkE, -⟩ := Vm.findClass_spec k3
                    obtain ⟨kC, hkC, -⟩ := Vm.findClass_spec g2
                    have hlt2 : i.toNatClampNeg < n := Nat.not_le.mp fun z => hin (Or.inr z)
                    refine W.aast X.1 X.2.1 hat (fun z hz => by cases hz) (fun z => by cases z) k1 k2 rfl hkE ⟨fun z => hin (Or.inl z), by show _ < (arrV _ _ _).slots.size; rw [arrV_size]; exact hlt2⟩ g1 (fun z hz => by rw [hz] at g3; cases g3) hkC (vb_asgS _ _ k3 g2) rfl rfl hd fun H1 e1 e2 e3 => ?_
                    refine kk H1 _ ls (hr.wr ha.1 ha.2 e2 e3 ⟨hlt, ?_, fun j hz => ?_⟩) (hs.put e2 e3 (mxad_free G ha.1)) hl
                    · refine e1.trans (congrArg some ?_)
                      refine mxupQ.trans ?_
                      show vp_cell _ (n, _) = vp_cell _ (n, .inr (.inr (.inr (.inr (fun j => (va_up f i.toNatClampNeg (some x) j).map (mxad G))))))
                      congr 6
                      funext z
                      by_cases hz : z = i.toNatClampNeg
                      · subst hz; simp [va_up]
                      · simp [va_up, hz]
                    · by_cases hz2 : j = i.toNatClampNeg
                      · subst hz2
                        simp only [va_up, if_true] at hz
                        exact hx98 (Option.some.inj hz)
                      · simp only [va_up, if_neg hz2] at hz
                        exact hno j hz
                · cases h
          · cases h
        | _ => cases h
      | _ => cases h
    | _ => cases h
