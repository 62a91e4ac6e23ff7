/-! ===== what a constructor makes ===== -/
def fzJ : Nat → Int64 := fun _ => 0
theorem gl_gr (σ : mxS) (k : Nat) (l : List mxC) : grF σ (mxgl σ k l) l.length k := ⟨rfl, fun a ha => gl_o σ k l ha⟩
theorem on_gl {σ : mxS} {k n N : Nat} {l : List mxC} {f : Nat → mxC} (hN : σ.2.1 = N) (hn : l.length = n) (h : ∀ j, j < n → l[j]?.getD (.inr (98, [])) = f j) : onB (mxgl σ k l) (1000 + N) n f := fun j hj => by
  subst hN
  subst hn
  exact (gl_g σ k l j hj).trans (h j hj)
theorem lt2 {i : Nat} (h : i < 2) : i = 0 ∨ i = 1 := by omega
theorem lt4 {i : Nat} (h : i < 4) : i = 0 ∨ i = 1 ∨ i = 2 ∨ i = 3 := by omega
theorem lt3 {i : Nat} (h : i < 3) : i = 0 ∨ i = 1 ∨ i = 2 := by omega
theorem lt8 {i : Nat} (h : i < 8) : i = 0 ∨ i = 1 ∨ i = 2 ∨ i = 3 ∨ i = 4 ∨ i = 5 ∨ i = 6 ∨ i = 7 := by omega
theorem mk_tape {d N : Nat} {σ : mxS} (hN : σ.2.1 = N) : ∃ σ', grF σ σ' 2 2002 ∧ onB σ' (1000 + N) 2 (tpG (1000 + N) fz (nI 0)) ∧ ∀ {Q : Option Value ⊕ Nat → mxS → Prop}, WP d 896 0 [some (.ref (1000 + N))] [] (mxAl σ (.inr (5, [.null, .int 0])) 2) Q = Q (.inl none) σ' := by
  subst hN
  refine ⟨_, gl_gr σ (2 + 2000) [_, _], on_gl rfl rfl (fun j hj => ?_), fun {Q} => by rw [gl_1]; exact i_tape⟩
  rcases lt2 hj with rfl | rfl <;> rfl
theorem mk_keep {d N : Nat} {σ : mxS} (hN : σ.2.1 = N) : ∃ σ', grF σ σ' 2 402 ∧ onB σ' (1000 + N) 2 (kpG (1000 + N) fz (nI 0)) ∧ ∀ {Q : Option Value ⊕ Nat → mxS → Prop}, WP d 128 0 [some (.ref (1000 + N))] [] (mxAl σ (.inr (0, [.null, .int 0])) 2) Q = Q (.inl none) σ' := by
  subst hN
  refine ⟨_, gl_gr σ (2 + 400) [_, _], on_gl rfl rfl (fun j hj => ?_), fun {Q} => by rw [gl_1]; exact i_keep⟩
  rcases lt2 hj with rfl | rfl <;> rfl
theorem mk_sky {d N : Nat} {σ : mxS} (hN : σ.2.1 = N) : ∃ σ', grF σ σ' 8 111 ∧ onB σ' (1000 + N) 8 (skG (1000 + N) fz fz fz fz fz fz fz (nI 0) (nI 0) (nI 0) (nI 0) (nI 0) (nI 0) (nI 0) (nI 0)) ∧ ∀ {Q : Option Value ⊕ Nat → mxS → Prop}, WP d 640 0 [some (.ref (1000 + N))] [] (mxAl σ (.inr (3, [.null, .null, .null, .null, .null, .null, .null, .int 0, .int 0, .int 0, .int 0, .int 0, .int 0, .int 0, .int 0])) 15) Q = Q (.inl none) σ' := by
  subst hN
  refine ⟨_, gl_gr σ (15 + 96) [_, _, _, _, _, _, _, _], on_gl rfl rfl (fun j hj => ?_), fun {Q} => by rw [gl_1]; exact i_sky⟩
  rcases lt8 hj with rfl | rfl | rfl | rfl | rfl | rfl | rfl | rfl <;> rfl
theorem mk_tok {d N tp : Nat} {σ : mxS} (hN : σ.2.1 = N) (hT : ∃ z, σ.1 tp = .inr (5, z)) (uT : tp < (1000 + N)) : ∃ σ', grF σ σ' 4 1207 ∧ (∃ f : Nat → Option Nat, onB σ' (1000 + N) 4 (tkG (1000 + N) f fz fzJ (.ref tp))) ∧ ∀ {Q : Option Value ⊕ Nat → mxS → Prop}, WP d 1024 0 [some (.ref (1000 + N)), some (.ref tp), none] [] (mxAl σ (.inr (6, [.null, .null, .null, .null])) 4) Q = Q (.inl none) σ' := by
  subst hN
  obtain ⟨f, hf⟩ := i_tok (d := d) (s := 4) hT uT
  refine ⟨_, gl_gr σ (4 + 1203) [_, _, _, _], ⟨f, on_gl rfl rfl (fun j hj => ?_)⟩, fun {Q} => by rw [gl_1]; exact hf⟩
  rcases lt4 hj with rfl | rfl | rfl | rfl <;> rfl
theorem mk_st {d N M : Nat} {σ : mxS} (hN : σ.2.1 = N) (hM : ∃ z, σ.1 M = .inr (10, z)) (uM : M < (1000 + N)) : ∃ σ', grF σ σ' 3 29 ∧ onB σ' (1000 + N) 3 (stG (1000 + N) fz fz (nI 0) (nI 0) (.ref M)) ∧ ∀ {Q : Option Value ⊕ Nat → mxS → Prop}, WP d 1408 0 [some (.ref (1000 + N)), some (.ref M)] [] (mxAl σ (.inr (9, [.int 0, .int 0, .null, .null, .null])) 5) Q = Q (.inl none) σ' := by
  subst hN
  refine ⟨_, gl_gr σ (5 + 24) [_, _, _], on_gl rfl rfl (fun j hj => ?_), fun {Q} => by rw [gl_1]; exact i_st hM uM⟩
  rcases lt3 hj with rfl | rfl | rfl <;> rfl
def od0 : Nat → Nat × Int32 × Int32 × Int32 × Int32 × Int32 := fun _ => (46, 0, 0, 0, 0, 0)
theorem lt24 {i : Nat} (h : i < 24) : i = 0 ∨ i = 1 ∨ i = 2 ∨ i = 3 ∨ i = 4 ∨ i = 5 ∨ i = 6 ∨ i = 7 ∨ i = 8 ∨ i = 9 ∨ i = 10 ∨ i = 11 ∨ i = 12 ∨ i = 13 ∨ i = 14 ∨ i = 15 ∨ i = 16 ∨ i = 17 ∨ i = 18 ∨ i = 19 ∨ i = 20 ∨ i = 21 ∨ i = 22 ∨ i = 23 := by omega
theorem mk_plan {d N : Nat} {σ : mxS} (hN : σ.2.1 = N) (hd : 1 ≤ d) : ∃ σ', grF σ σ' 24 1355 ∧ (∃ f f' : Nat → Option Nat, onB σ' (1000 + N) 24 (pnG (1000 + N) fz fz fz f od0 f' fz fz (nI 0) (nI 0) (nI 0) (nI 0)) ∧ ∀ j, j < 16 → f j = some ((1000 + N) + 5 + j)) ∧ ∀ {Q : Option Value ⊕ Nat → mxS → Prop}, WP d 512 0 [some (.ref (1000 + N)), none] [] (mxAl σ (.inr (2, [.null, .null, .null, .null, .null, .null, .null, .int 0, .int 0, .int 0, .int 0])) 11) Q = Q (.inl none) σ' := by
  subst hN
  obtain ⟨f, f', hf, h⟩ := i_plan (s := 11) (σ := σ) hd
  refine ⟨_, gl_gr σ (11 + 1344) (p24L (1000 + σ.2.1) f f'), ⟨f, f', on_gl rfl rfl (fun j hj => ?_), hf⟩, fun {Q} => by rw [gl_1]; exact h⟩
  rcases lt24 hj with rfl | rfl | rfl | rfl | rfl | rfl | rfl | rfl | rfl | rfl | rfl | rfl | rfl | rfl | rfl | rfl | rfl | rfl | rfl | rfl | rfl | rfl | rfl | rfl <;> rfl
theorem mk_mp {d N : Nat} {σ : mxS} (hN : σ.2.1 = N) : ∃ σ', grF σ σ' 12 1349 ∧ onB σ' (1000 + N) 12 (rpG (1000 + N) (nI 0) (nI 0) (nI 0) (nI 0) (nI 0) (nI 0) fz fz fz fz fz fz fz fz fz fz fz) ∧ ∀ {Q : Option Value ⊕ Nat → mxS → Prop}, WP d 1280 0 [some (.ref (1000 + N))] [] (mxAl σ (.inr (8, [.int 0, .int 0, .null, .null, .null, .int 0, .int 0, .null, .null, .null, .null, .null, .null, .null, .int 0, .null, .int 0])) 17) Q = Q (.inl none) σ' := by
  subst hN
  refine ⟨rpW (grW σ 12 (17 + 1332)) (1000 + σ.2.1) (nI 0) (nI 0) (nI 0) (nI 0) (nI 0) (nI 0) fz fz fz fz fz fz fz fz fz fz fz, ⟨rfl, fun a ha => mxov_out _ _ _ _ (by omega)⟩, onB_new _ _ _ _, fun {Q} => by rw [gl_1]; exact mp_init⟩
