/-! ===== objects and rows ===== -/
theorem mxn998 {a : Nat} (h : 1000 ≤ a) : a ≠ 998 := by omega
theorem mxP1 {D : va_G} {e : Nat × va_E} {H : Heap} (h : va_at D mxcl e H) : va_P D mxcl [e] H := by
  intro k q hk
  cases k with
  | zero => cases hk; exact h
  | succ k => cases hk
theorem mxidx_some {i : Int32} {n j : Nat} (h : mxidx i n = some j) : vp_in i n ∧ j = i.toNatClampNeg := by
  unfold mxidx at h
  split at h
  · cases h
  · rename_i hn
    cases h
    exact ⟨hn, rfl⟩
theorem mxtr_998 (G : mxG) {a : Nat} (h : a ≠ 998) : mxtr G (.ref a) = .ref (mxad G a) := if_neg h
theorem mxtr_rf (G : mxG) {r : Option Nat} (h : r ≠ some 998) : mxtr G (va_rf r) = va_rf (r.map (mxad G)) := by
  cases r with
  | none => rfl
  | some a => exact mxtr_998 G (fun z => h (by rw [z]))
theorem mxkon_998 (L : Nat) (xs : Nat → Int32) : mxkon L xs 998 = .inr (98, []) := rfl
theorem mxkon_ci {L : Nat} {xs : Nat → Int32} {a ci : Nat} {fs : List Value} (h : mxkon L xs a = .inr (ci, fs)) : (ci = 20 ∧ a < 47 ∧ fs.length = 3) ∨ (ci = 21 ∧ fs.length = 2) ∨ (ci = 98 ∧ fs = []) := by
  unfold mxkon at h
  by_cases h1 : a < 47
  · rw [if_pos h1] at h; cases h; exact Or.inl ⟨rfl, h1, rfl⟩
  · rw [if_neg h1] at h
    by_cases h2 : 50 ≤ a ∧ a < 97
    · rw [if_pos h2] at h; cases h; exact Or.inr (Or.inl ⟨rfl, rfl⟩)
    · rw [if_neg h2] at h
      by_cases h3 : 100 ≤ a ∧ a < 127
      · rw [if_pos h3] at h; cases h; exact Or.inr (Or.inl ⟨rfl, rfl⟩)
      · rw [if_neg h3] at h
        by_cases h4 : a = 130
        · rw [if_pos h4] at h; cases h; exact Or.inr (Or.inl ⟨rfl, rfl⟩)
        · rw [if_neg h4] at h
          by_cases h5 : 200 ≤ a ∧ a < 247
          · rw [if_pos h5] at h; cases h
          · rw [if_neg h5] at h
            by_cases h6 : 250 ≤ a ∧ a < 277
            · rw [if_pos h6] at h; cases h
            · rw [if_neg h6] at h
              by_cases h7 : a = 280
              · rw [if_pos h7] at h; cases h
              · rw [if_neg h7] at h
                by_cases h8 : a = 300
                · rw [if_pos h8] at h; cases h
                · rw [if_neg h8] at h
                  by_cases h9 : a = 301
                  · rw [if_pos h9] at h; cases h
                  · rw [if_neg h9] at h
                    by_cases h10 : a = 302
                    · rw [if_pos h10] at h; cases h
                    · rw [if_neg h10] at h
                      by_cases h11 : a = 303
                      · rw [if_pos h11] at h; cases h
                      · rw [if_neg h11] at h; cases h; exact Or.inr (Or.inr ⟨rfl, rfl⟩)
theorem mxkon_ar {L : Nat} {xs : Nat → Int32} {a t n : Nat} {c : mxCt} (h : mxkon L xs a = .inl (t, n, c)) : (t = 2 ∨ t = 0 ∧ (∃ f, c = .inl f)) ∨ ((t = 4 ∨ t = 6) ∧ ∃ f : Nat → Option Nat, c = .inr (.inr (.inr (.inr f))) ∧ ∀ j, j < n → f j ≠ some 998) := by
  unfold mxkon at h
  by_cases h1 : a < 47
  · rw [if_pos h1] at h; cases h
  · rw [if_neg h1] at h
    by_cases h2 : 50 ≤ a ∧ a < 97
    · rw [if_pos h2] at h; cases h
    · rw [if_neg h2] at h
      by_cases h3 : 100 ≤ a ∧ a < 127
      · rw [if_pos h3] at h; cases h
      · rw [if_neg h3] at h
        by_cases h4 : a = 130
        · rw [if_pos h4] at h; cases h
        · rw [if_neg h4] at h
          by_cases h5 : 200 ≤ a ∧ a < 247
          · rw [if_pos h5] at h; exact Or.inl (Or.inl (congrArg Prod.fst (Sum.inl.inj h)).symm)
          · rw [if_neg h5] at h
            by_cases h6 : 250 ≤ a ∧ a < 277
            · rw [if_pos h6] at h; exact Or.inl (Or.inl (congrArg Prod.fst (Sum.inl.inj h)).symm)
            · rw [if_neg h6] at h
              by_cases h7 : a = 280
              · rw [if_pos h7] at h; exact Or.inl (Or.inl (congrArg Prod.fst (Sum.inl.inj h)).symm)
              · rw [if_neg h7] at h
                by_cases h8 : a = 300
                · rw [if_pos h8] at h; cases h; exact Or.inl (Or.inr ⟨rfl, _, rfl⟩)
                · rw [if_neg h8] at h
                  by_cases h9 : a = 301
                  · rw [if_pos h9] at h; cases h
                    exact Or.inr ⟨Or.inl rfl, _, rfl, fun j hj z => by have := Option.some.inj z; omega⟩
                  · rw [if_neg h9] at h
                    by_cases h10 : a = 302
                    · rw [if_pos h10] at h; cases h
                      exact Or.inr ⟨Or.inr rfl, _, rfl, fun j hj z => by have := Option.some.inj z; omega⟩
                    · rw [if_neg h10] at h
                      by_cases h11 : a = 303
                      · rw [if_pos h11] at h; cases h; exact Or.inl (Or.inr ⟨rfl, _, rfl⟩)
                      · rw [if_neg h11] at h; cases h
theorem mxcl_20 : mxcl[20]? = none := rfl
theorem mxcl_21 : mxcl[21]? = none := rfl
theorem mxfd_obj {ci k : Nat} {f : String × String × String} {r : vw_C} (h : mxfd ci k = some f) (hr : mxcl[ci]? = some r) : k < r.2.2 ∧ f = ((r.2.1 k).1, (r.2.1 k).2.1, (r.2.1 k).2.2.1) := by
  unfold mxfd at h
  rw [hr] at h
  dsimp only at h
  split at h
  · rename_i hk
    cases h
    exact ⟨hk, rfl⟩
  · cases h
theorem mxfd_99 {k : Nat} {f : String × String × String} (h : mxfd 99 k = some f) : False := by
  unfold mxfd at h
  rw [show mxcl[99]? = none from rfl] at h
  dsimp only at h
  rw [if_neg (by omega)] at h
  cases h
theorem mxfd_kon {ci k : Nat} {f : String × String × String} (h : mxfd ci k = some f) (hci : ci = 20 ∨ ci = 21) : f = mxkf ci k := by
  unfold mxfd at h
  rcases hci with rfl | rfl
  · rw [mxcl_20] at h
    dsimp only at h
    split at h
    · cases h; rfl
    · cases h
  · rw [mxcl_21] at h
    dsimp only at h
    split at h
    · cases h; rfl
    · cases h
theorem mxX.K {p : Program} {R : Room} {s : State} {m : MethodId} {args : Array Value} {meth : Method} {c : Code} {G : mxG} {y : Nat} (X : mxX p R s m args meth c G y) : va_K (gD G) mxcl (mxtys G) s := X.2.2.2.2.2.1.1
theorem mxX.good {p : Program} {R : Room} {s : State} {m : MethodId} {args : Array Value} {meth : Method} {c : Code} {G : mxG} {y : Nat} (X : mxX p R s m args meth c G y) {w : Cond} (hw : w ∈ lw_good) : w.before args s = true := X.2.2.2.2.1 w hw
theorem mxX.nf {p : Program} {R : Room} {s : State} {m : MethodId} {args : Array Value} {meth : Method} {c : Code} {G : mxG} {y : Nat} (X : mxX p R s m args meth c G y) {o i : Nat} {a b d host : String} (hw : Cond.fieldLinkNest (mxcn o) i a b d host ∈ mxNF) : (Cond.fieldLinkNest (mxcn o) i a b d host).before args s = true := va_Nw.use rfl (X.2.2.2.2.2.1.2.1 _ hw)
theorem mxX.nm {p : Program} {R : Room} {s : State} {m : MethodId} {args : Array Value} {meth : Method} {c : Code} {G : mxG} {y : Nat} (X : mxX p R s m args meth c G y) {o i : Nat} {z : MethodName} {host : String} (hw : Cond.methodLinkNest (mxcn o) i z host ∈ mxNM) : (Cond.methodLinkNest (mxcn o) i z host).before args s = true := va_Nw.use rfl (X.2.2.2.2.2.1.2.2.1 _ hw)
theorem mxX.kon {p : Program} {R : Room} {s : State} {m : MethodId} {args : Array Value} {meth : Method} {c : Code} {G : mxG} {y : Nat} (X : mxX p R s m args meth c G y) {a : Nat} (h : a < 1000) : mxKon G a (mxkon (gL G) (gX G) a) s s.heap := X.2.2.2.2.2.1.2.2.2.2.2.2.2.2.1 a h
theorem mxk_getfield {p : Program} {l : Launch} {e : Env} {R : Room} {s : State} {m : MethodId} {args : Array Value} {below : List Frame} {meth : Method} {c : Code} {Q : State → Prop} {G : mxG} {y n0 k0 pc : Nat} {loc : mxL} {st : List Value} {σ : mxS} {q : mxN} {i ci k t : Nat} (X : mxX p R s m args meth c G y) (hd : decode (mxb y) pc = .ok (.getfield i, 3)) (hf : mxFl (y / 128) i = some (ci, k, t)) (h : mxgf ci k (pc + 3) loc st σ = some (.inl q)) (kk : mxWs p l e R s m args below meth c Q G y n0 k0 q) : mxWs p l e R s m args below meth c Q G y n0 k0 (pc, loc, st, σ) := by
  cases st with
  | nil => cases h
  | cons v r =>
    cases v with
    | ref a =>
      unfold mxgf at h
      dsimp only at h
      split at h
      · rename_i ha
        cases hσ : σ.1 a with
        | inl e => rw [hσ] at h; cases h
        | inr e =>
          obtain ⟨cj, fs⟩ := e
          rw [hσ] at h
          unfold mxgf2 at h
          dsimp only at h
          split at h
          · rename_i hcj
            subst hcj
            cases hv : fs[k]? with
            | none => rw [hv] at h; cases h
            | some v =>
              rw [hv] at h
              cases h
              obtain ⟨f, hfd, -, hlink⟩ := mxF_ok hf
              intro H locs ls hr hs hl
              by_cases h1 : a < 1000
              · have hk := hr.2.1 a h1
                rw [show ((pc, loc, Value.ref a :: r, σ) : mxN).2.2.2 = σ from rfl, hσ] at hk
                have hK := X.kon h1
                rw [← hk] at hK
                have hci := mxkon_ci hk.symm
                have h98 : cj ≠ 98 := by
                  rintro rfl
                  rcases hci with z | z | z
                  · omega
                  · omega
                  · rw [z.2] at hv; cases hv
                have h9 : a ≠ 998 := by
                  rintro rfl
                  rw [mxkon_998] at hk
                  cases hk
                  exact h98 rfl
                obtain ⟨-, hOF⟩ := hK.resolve_left h98
                have hOF := hOF k v hv
                have hfe : f = mxkf cj k := mxfd_kon hfd (by omega)
                subst hfe
                show W _ _ _ _ _ _ _ _ _ _ _ _ _ _ _ (F0 m pc ls (mxtr G (.ref a) :: r.map (mxtr G)))
                rw [mxtr_998 G h9, mxad, if_pos h1]
                rcases hlink with hlink | ⟨host, hlink⟩
                · exact vk_getf X.1 X.2.1 hOF hs X.2.2.2.1 (X.good hlink) (fun x hx => hx) hd (kk H locs ls hr hs hl)
                · obtain ⟨cf, kc, fi, f, cell, g1, g2, g3, g4, g5, g6⟩ := hOF
                  exact va_Wgetf X.1 X.2.1 X.2.2.2.1 (X.nf hlink) g1 g2 (by rw [hs.2.1 _ (Array.getElem?_eq_some_iff.mp g3).1 g6]; exact g3) g4 g5 rfl rfl hd (kk H locs ls hr hs hl)
              · have hcell := hr.cell (Nat.not_lt.mp h1) ha
                rw [show ((pc, loc, Value.ref a :: r, σ) : mxN).2.2.2 = σ from rfl, hσ] at hcell
                rcases hcell with rfl | ⟨hlt, hat⟩
                · exact (mxfd_99 hfd).elim
                · have hat0 := hat
                  obtain ⟨rr, hrr, -⟩ := hat
                  dsimp only at hrr
                  obtain ⟨hk, rfl⟩ := mxfd_obj hfd hrr
                  have hL := mxL_ok hrr
                  show W _ _ _ _ _ _ _ _ _ _ _ _ _ _ _ (F0 m pc ls (mxtr G (.ref a) :: r.map (mxtr G)))
                  rw [mxtr_998 G (mxn998 (Nat.not_lt.mp h1))]
                  have hv' : (fs.map (mxtr G))[k]? = some (mxtr G v) := by rw [List.getElem?_map, hv]; rfl
                  rcases hlink with hlink | ⟨host, hlink⟩
                  · exact va_get X.1 X.2.1 (fun w hw => X.good hw) hL.1 X.2.2.2.1 X.K (mxP1 hat0) 0 rfl hrr k hk (X.good hlink) (fun x hx => hx) hv' hd (kk H locs ls hr hs hl)
                  · exact va_getN X.1 X.2.1 (fun w hw => X.good hw) hL.1 X.2.2.2.1 X.K (mxP1 hat0) 0 rfl hrr k hk (X.nf hlink) (fun x hx => hx) hv' hd (kk H locs ls hr hs hl)
          · cases h
      · cases h
    | _ => cases h
theorem mxnoB_ck : (List.range 11).all (fun ci => match mxcl[ci]? with | some q => (List.range q.2.2).all (fun k => decide ((q.2.1 k).2.2.1 ≠ "B")) | none => false) = true := by decide +kernel
theorem mxnoB {ci k : Nat} {r : vw_C} (h : mxcl[ci]? = some r) (hk : k < r.2.2) : (r.2.1 k).2.2.1 ≠ "B" := by
  have hc : ci < 11 := (List.getElem?_eq_some_iff.mp h).1
  have h1 := List.all_eq_true.mp mxnoB_ck ci (List.mem_range.mpr hc)
  rw [h] at h1
  have h2 := List.all_eq_true.mp h1 k (List.mem_range.mpr hk)
  simpa using h2
theorem mxfit_ok {G : mxG} (hF : gF G = .null ∨ ∃ a, gF G = .ref a) {t : Nat} {d : String} {v : Value} {ty : FieldType} (h1 : mxtok t d = true) (hB : d ≠ "B") (h2 : mxfit t v = true) (hp : parseFieldDescriptor d = some ty) : narrow ty (mxtr G v) = mxtr G v ∧ fits ty (mxtr G v) = true := by
  match t, h1, h2 with
  | 0, h1, h2 =>
    cases v with
    | int x =>
      simp only [mxtok, Bool.or_eq_true, beq_iff_eq] at h1
      have hd := h1.resolve_right hB
      subst hd
      cases (show parseFieldDescriptor "I" = some .int from by decide +kernel).symm.trans hp
      exact ⟨rfl, rfl⟩
    | _ => cases h2
  | 1, h1, h2 =>
    cases v with
    | int x =>
      simp only [mxtok, beq_iff_eq] at h1
      subst h1
      cases (show parseFieldDescriptor "Z" = some .boolean from by decide +kernel).symm.trans hp
      simp only [mxfit, Bool.or_eq_true, beq_iff_eq] at h2
      rcases h2 with rfl | rfl <;> exact ⟨rfl, rfl⟩
    | _ => cases h2
  | 2, h1, h2 =>
    simp only [mxtok, hp] at h1
    have hv : mxtr G v = .null ∨ ∃ a, mxtr G v = .ref a := by
      cases v with
      | ref a => rcases mxtr_ref G hF a with h | h
                 · exact Or.inr h
                 · exact Or.inl h
      | null => exact Or.inl rfl
      | _ => cases h2
    cases ty with
    | object n => rcases hv with h | ⟨a, h⟩ <;> rw [h] <;> exact ⟨rfl, rfl⟩
    | array n => rcases hv with h | ⟨a, h⟩ <;> rw [h] <;> exact ⟨rfl, rfl⟩
    | _ => cases h1
  | _ + 3, h1, _ => cases h1
def mxFpc (o : Nat) (r : Nat × Nat × Nat × Nat) : Bool := match mxcl[r.2.1]? with
  | some q => !decide ((q.2.1 r.2.2.1).1 = mxcn o) || (match mxFE.lookup (o, r.1) with
    | some p => mxG1 (.fieldLink (mxcn o) r.1 (q.2.1 r.2.2.1).1 (q.2.1 r.2.2.1).2.1 (q.2.1 r.2.2.1).2.2.1) p
    | none => false)
  | none => true
theorem mxFp_ck : (List.range mxFT.length).all (fun o => (mxFT.getD o []).all (mxFpc o)) = true := by decide +kernel
theorem mxFp_ok {o i ci k t : Nat} {r : vw_C} (h : mxFl o i = some (ci, k, t)) (hr : mxcl[ci]? = some r) (hd : (r.2.1 k).1 = mxcn o) : Cond.fieldLink (mxcn o) i (r.2.1 k).1 (r.2.1 k).2.1 (r.2.1 k).2.2.1 ∈ lw_good := by
  have h1 := mx_all (ck := mxFpc) mxFp_ck h
  unfold mxFpc at h1
  dsimp only at h1
  rw [hr] at h1
  dsimp only at h1
  rw [decide_eq_true hd] at h1
  cases hp : mxFE.lookup (o, i) with
  | none => rw [hp] at h1; cases h1
  | some p => rw [hp] at h1; exact mxG1_ok (by simpa using h1)
theorem mxk_putfield {p : Program} {l : Launch} {e : Env} {R : Room} {s : State} {m : MethodId} {args : Array Value} {below : List Frame} {meth : Method} {c : Code} {Q : State → Prop} {G : mxG} {y n0 k0 pc : Nat} {loc : mxL} {st : List Value} {σ : mxS} {q : mxN} {i ci k t : Nat} (X : mxX p R s m args meth c G y) (hd : decode (mxb y) pc = .ok (.putfield i, 3)) (hf : mxFl (y / 128) i = some (ci, k, t)) (hfo : mxfok y ci k = true) (h : mxpf ci k t (pc + 3) loc st σ = some (.inl q)) (kk : mxWs p l e R s m args below meth c Q G y n0 k0 q) : mxWs p l e R s m args below meth c Q G y n0 k0 (pc, loc, st, σ) := by
  cases st with
  | nil => cases h
  | cons v r =>
    cases r with
    | nil => cases h
    | cons w r =>
      cases w with
      | ref a =>
        unfold mxpf at h
        dsimp only at h
        split at h
        · rename_i ha
          obtain ⟨ha1, ha2, hfit⟩ := ha
          cases hσ : σ.1 a with
          | inl e => rw [hσ] at h; cases h
          | inr e =>
            obtain ⟨cj, fs⟩ := e
            rw [hσ] at h
            unfold mxpf2 at h
            dsimp only at h
            split at h
            · rename_i hcj
              obtain ⟨hcj, hkl⟩ := hcj
              subst hcj
              cases h
              obtain ⟨f, hfd, htok, hlink⟩ := mxF_ok hf
              intro H locs ls hr hs hl
              have hcell := hr.cell ha1 ha2
              rw [show ((pc, loc, v :: Value.ref a :: r, σ) : mxN).2.2.2 = σ from rfl, hσ] at hcell
              rcases hcell with rfl | ⟨hlt, rr, hrr, cell, q1, q2, q3, q4⟩
              · exact (mxfd_99 hfd).elim
              dsimp only at hrr q1 q2 q4
              obtain ⟨hk, rfl⟩ := mxfd_obj hfd hrr
              obtain ⟨hin, hty, hnm⟩ := mxL_ok hrr
              have hts : ∀ w ∈ lw_good, w.before args s = true := fun w hw => X.good hw
              have hap := va_apart (own := mxcn (y / 128)) hts hin (mxtyc cj) hty hnm X.K hrr
              obtain ⟨hS, hfc, kC, hkC, hkind⟩ := X.K.1 cj _ hrr
              obtain ⟨cf, kf, fi, fd, hi, hsl⟩ := hS k hk
              have hst := (u_facts hfc hkC (u_lays hts hin hk) hi).1
              obtain ⟨hn, hfi⟩ := mxfit_ok X.F htok (mxnoB hrr hk) hfit (hty k hk)
              have hlay := hts _ (hin _ (u_in_lay hk))
              have hgo : ∀ H' : Heap, H'[mxad G a]? = some (cell.setSlot fd.slot (mxtr G v)) → H'.size = H.size → (∀ q : Nat, q ≠ mxad G a → H'[q]? = H[q]?) → W p l e R s m args below meth c H' (locs ++ [⟨mxad G a, fd.slot⟩]) (σ.2.1 - n0) (σ.2.2 - k0) Q (F0 m (pc + 3) ls (r.map (mxtr G))) := by
                intro H' e1 e2 e3
                refine kk H' _ ls (hr.wr ha1 ha2 e2 e3 (Or.inr ⟨hlt, rr, hrr, ?_⟩)) (hs.put e2 e3 (mxad_free G ha1)) hl
                rw [hsl] at e1
                rw [List.map_set]
                exact t_OB.to (V := updV (vp_V (fs.map (mxtr G))) k (mxtr G v)) ⟨_, e1, q2, q3, t_set q4 hap hk _⟩ (fun j _ => vp_updV_set (by rw [List.length_map]; exact hkl) _ j)
              show W _ _ _ _ _ _ _ _ _ _ _ _ _ _ _ (F0 m pc ls (mxtr G v :: mxtr G (.ref a) :: r.map (mxtr G)))
              rw [mxtr_998 G (fun z => by rw [z] at ha1; exact absurd ha1 (by decide))]
              unfold mxfok at hfo
              rw [hrr] at hfo
              simp only [Bool.or_eq_true, Bool.and_eq_true, Bool.not_eq_true', decide_eq_true_eq] at hfo
              have hb : fd.slot < cell.slots.size := by rw [hsl]; exact k2_hasslot (q4 k hk)
              cases hfin : (rr.2.1 k).2.2.2 with
              | false =>
                unfold u_lay at hlay
                rw [if_neg (by rw [hfin]; decide)] at hlay
                have h6 := u_store hfc hkC hkind hlay hi (hty k hk) hn hfi
                rcases hlink with hlink | ⟨host, hlink⟩
                · exact W.putK X.1 X.2.1 (f := fd) ⟨X.2.2.2.1, X.good hlink, ⟨_, _, _, hi⟩, hst⟩ (by rw [q2]; exact h6) q1 q3 hb rfl rfl hd hgo
                · exact va_WputK X.1 X.2.1 (f := fd) X.2.2.2.1 (X.nf hlink) hi hst (by rw [q2]; exact h6) q1 q3 hb rfl rfl hd hgo
              | true =>
                unfold u_lay at hlay
                rw [if_pos hfin] at hlay
                obtain ⟨hnme, hdecl⟩ := hfo.resolve_left (by rw [hfin]; decide)
                have hcf : m.cls = cf := by
                  obtain ⟨_, _, c', _, _, _, -, -, hf', -, -, -, hown2, -⟩ := Cond.laysFinal_spec hlay
                  have e1 : c' = cf := by have := hi.symm.trans hf'; simp at this; exact this.1.symm
                  rw [hdecl] at hown2
                  rw [← e1]
                  exact Option.some.inj (X.2.2.2.1.symm.trans hown2)
                have h6 := u_fits hfc hkC hkind (Or.inr hlay) hi (hty k hk) hn hfi
                exact W.putFinK X.1 X.2.1 X.2.2.2.1 (X.good (mxFp_ok hf hrr hdecl)) hi hst hcf (X.2.2.2.2.2.2.2.1 hnme) (by rw [q2]; exact h6) q1 q3 hb rfl rfl hd hgo
            · cases h
        · cases h
      | _ => cases h
