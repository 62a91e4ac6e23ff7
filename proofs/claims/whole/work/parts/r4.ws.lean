/-! ===== the law runs on the true machine ===== -/
theorem no_flag {l : Launch} (h : l.flags = flags0) : l.stackTraces = false := by
  unfold Launch.stackTraces
  rw [h]
  decide +kernel
theorem law_right {L : Nat} {xs : Nat → Int32} (hL : L ≤ 3072) : ∃ n r, mxrun n 200 2582 0 [some (.ref 303), none, none, none, none, none, none, none, none] [] (mxkon L xs, 0, 0) = some r ∧ r.1 = .inl (some (.int (nI 1))) ∧ r.2.2.1 ≤ 20000 ∧ r.2.2.2 ≤ 800000 := by
  obtain ⟨τ, h1, h2, e⟩ := law_run (xs := xs) hL (Q := fun r σ => r = .inl (some (.int (nI 1))) ∧ σ.2.1 ≤ 20000 ∧ σ.2.2 ≤ 800000)
  obtain ⟨n, r, h3, h4⟩ : WP 200 2582 0 [some (.ref 303), none, none, none, none, none, none, none, none] [] (mxkon L xs, 0, 0) (fun r σ => r = .inl (some (.int (nI 1))) ∧ σ.2.1 ≤ 20000 ∧ σ.2.2 ≤ 800000) := by
    rw [e]
    exact ⟨rfl, by omega, by omega⟩
  exact ⟨n, r, h3, h4⟩
theorem law_b : mxb 2582 = code := rfl
theorem law_ml : mxml 2582 = 9 := by decide +kernel
theorem law_rt : mxrt 2582 = ret := by decide +kernel
theorem law_nm : ¬ (mxy 2582).name = "<init>" := by decide +kernel
theorem whole_start {p : Program} {e : Env} {s : State} {m : MethodId} {below : List Frame} {meth : Method} {c : Code} (l : Launch) (hflags : l.flags = flags0) {b L : Nat} {xs : Nat → Int32} (hL : L ≤ 3072) (C0 : lw_At p s m meth c b L xs) : W p l e room_1 s m #[Value.ref b] below meth c s.heap [] 0 0 (lw_Z below #[Value.ref b] s) (entryFrame m ([Value.ref b] : List Value).toArray 9) := by
  obtain ⟨hx, hb, hr, hml, hown, hts, hX, hbl, hlocks, hgv⟩ := id C0
  obtain ⟨G, g1, g2, g3, g4, hK⟩ := kx_of hts hgv hX hbl hL
  obtain ⟨n, r, hrun, hr1, hr2, hr3⟩ := law_right (xs := xs) hL
  have X : mxX p room_1 s m #[Value.ref b] meth c G 2582 := ⟨hx, by rw [law_b]; exact hb, by rw [law_ml]; exact hml, hown, fun w hw => hts w (List.mem_filter.mp hw).1, hK, ⟨Nat.le_of_ble_eq_true (show Nat.ble 14 2048 = true from rfl), Nat.le_of_ble_eq_true (show Nat.ble 200 84000 = true from rfl)⟩, fun h => absurd h law_nm, hlocks, .inl rfl⟩
  have hY : mxY room_1 200 2582 meth c := ⟨⟨Nat.le_of_ble_eq_true (show Nat.ble 214 2048 = true from rfl), Nat.le_of_ble_eq_true (show Nat.ble 20200 84000 = true from rfl)⟩, by rw [law_rt]; exact hr, fun h => absurd rfl h⟩
  have key := mx_sound (no_flag hflags) n 200 2582 0 _ [] (mxkon L xs, 0, 0) r hrun (.inl ⟨_, hr1⟩) (e := e) (below := below) X hY (Nat.le_refl _) (Nat.le_refl _) (show r.2.2.1 ≤ 0 + 601024 by omega) (show r.2.2.2 ≤ 0 + 7293034 by omega)
  have hrel : mxRel G (mxkon L xs, 0, 0) s.heap := ⟨by rw [g1]; rfl, fun a ha => by rw [g2, g3], fun k hk => absurd hk (Nat.not_lt_zero _)⟩
  have hent : mxent 2582 [.ref 303] = some [some (.ref 303), none, none, none, none, none, none, none, none] := by decide +kernel
  have hlr := mxent_LR G hK.F hent
  rw [show ([.ref 303] : List Value).map (mxtr G) = [.ref b] from congrArg (fun z => [z]) g4, law_ml] at hlr
  have key2 := key s.heap [] _ hrel va_S.rf (by rw [law_ml]; exact hlr)
  rw [lg_entry_eq]
  intro T hT Y
  obtain ⟨t, a1, o, b1, b2, b3⟩ := key2 T hT Y
  refine ⟨t, a1, o, b1, b2, ?_⟩
  rcases b3 with ⟨⟨v, h1, h2, h3, h4⟩, J, ⟨f1, f2, f3⟩, f4⟩ | ⟨q, h1, h2⟩
  · rw [hr1] at h1
    cases h1
    refine ⟨h2, lw_closed (d0 := s.drawn) (Drawn.sameBut.refl s.drawn lw_cs) f1 f2 ?_⟩
    have h5 : s.sameButNew ({ t with vm := s.vm } : State) ([] ++ J) (r.2.2.1 - 0) (r.2.2.2 - 0) := f3
    have h6 := State.sameButNew.drop_fresh h5 (fun x hx => by
      have := f4 x hx
      have h7 : gB G ≤ x.base := this
      rw [g1] at h7
      exact h7)
    exact h6.mono (show r.2.2.1 - 0 ≤ 601024 by omega) (show r.2.2.2 - 0 ≤ 7293034 by omega)
  · obtain ⟨E, ce, J, ⟨q', h3, _⟩, _⟩ := h2
    rw [hr1] at h3
    cases h3
