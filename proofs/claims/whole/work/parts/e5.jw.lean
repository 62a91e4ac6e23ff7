/-! ===== both worlds together ===== -/
def WJ (τ : mxS) (L : Nat) (bs tb : Nat → Int32) (ep : Int32) (g pb g2 n P O T : Nat) (K A B : Nat → Nat) (od : ODT) (hs : Nat → Int32) (pl : Nat → Nat) (ls : Nat → Int32) (dy co : Int32) (h' ls' : Nat → Int32) : Prop :=
  cwJ τ L bs ep g pb n P O T K A B od hs pl ls dy co ∧ rwJ τ L tb ep g2 n P O T K A B od h' pl ls' dy co ∧ plOK n P O T K A B od hs pl ∧ agN n hs h' ∧ agN P ls ls' ∧ (∀ k, k < L → tb k = bs k &&& nI 255) ∧ ∃ o : Nat → Int64, τ.1 1101 = .inl (1, 1, .inr (.inl o))
def WW (τ : mxS) : Prop := ∃ L bs tb ep g pb g2 n P O T K A B od hs pl ls dy co h' ls', WJ τ L bs tb ep g pb g2 n P O T K A B od hs pl ls dy co h' ls'
def cn (τ τ' : mxS) : Prop := τ.2.1 ≤ τ'.2.1 ∧ τ'.2.1 ≤ τ.2.1 + 26 ∧ τ'.2.2 ≤ τ.2.2 + 1400 ∧ ∀ a, a < 1000 → τ'.1 a = τ.1 a
/-- a step of the class -/
def frC (τ τ1 : mxS) : Prop := (∀ a, a < 1000 ∨ 1075 ≤ a → a < 1000 + τ.2.1 → τ1.1 a = τ.1 a) ∧ τ.2.1 ≤ τ1.2.1 ∧ τ1.2.1 ≤ τ.2.1 + 1 ∧ τ1.2.2 ≤ τ.2.2 + 6
/-- a step of the reference -/
def frR (τ τ1 : mxS) : Prop := (∀ a, a < 1075 ∨ a = 1101 → a < 1000 + τ.2.1 → τ1.1 a = τ.1 a) ∧ τ.2.1 ≤ τ1.2.1 ∧ τ1.2.1 ≤ τ.2.1 + 25 ∧ τ1.2.2 ≤ τ.2.2 + 1394
/-- a note in the law's array -/
def frO (τ τ1 : mxS) : Prop := (∀ a, a ≠ 1101 → τ1.1 a = τ.1 a) ∧ τ1.2 = τ.2
theorem frC_id (τ : mxS) : frC τ τ := ⟨fun a h1 h2 => rfl, Nat.le_refl _, by omega, by omega⟩
theorem frC_th (τ : mxS) : frC τ (thT τ) := ⟨fun a h1 h2 => va_up_ne _ _ (by omega), Nat.le_add_right _ _, Nat.le_refl _, Nat.le_refl _⟩
theorem frC_of {τ τ1 : mxS} (h1 : ∀ a, a < 1000 ∨ 1075 ≤ a → τ1.1 a = τ.1 a) (h2 : τ1.2 = τ.2) : frC τ τ1 := ⟨fun a x y => h1 a x, by rw [h2]; exact Nat.le_refl _, by rw [h2]; omega, by rw [h2]; omega⟩
theorem frR_of {τ τ1 : mxS} (h1 : ∀ a, a < 1075 ∨ a = 1101 → τ1.1 a = τ.1 a) (h2 : τ1.2 = τ.2) : frR τ τ1 := ⟨fun a x y => h1 a x, by rw [h2]; exact Nat.le_refl _, by rw [h2]; omega, by rw [h2]; omega⟩
theorem frR_M (τ : mxS) (e : mxC) : frR τ (mxWr τ 1075 e) := frR_of (fun a x => wr_o _ _ (by omega)) rfl
theorem frR_id (τ : mxS) : frR τ τ := frR_of (fun a x => rfl) rfl
theorem frO_id (τ : mxS) : frO τ τ := ⟨fun a h => rfl, rfl⟩
theorem frO_w (τ : mxS) (x : Int64) (o : Nat → Int64) : frO τ (outW τ x o) := ⟨fun a h => va_up_ne _ _ h, rfl⟩
theorem frC_sk {τ τ' : mxS} {p n P : Nat} {hs : Nat → Int32} {pl : Nat → Nat} {ls : Nat → Int32} {dy co : Int32} (hp : p = 1035 ∨ p = 1043) (h : skS τ p 1033 n P hs pl ls dy co τ') : frC τ τ' := frC_of (fun a x => sS_o h (by omega) (by omega)) (sS_n h)
theorem frR_fS {τ τ0 τ' : mxS} {s n P : Nat} {hs : Nat → Int32} {pl : Nat → Nat} {dy co : Int32} (hp : s = 1095 ∨ s = 1098) (h : rfS τ s 1094 1075 n P hs pl dy co τ') (h0 : (∀ a, a < 1075 ∨ a = 1101 → τ.1 a = τ0.1 a) ∧ τ.2 = τ0.2) : frR τ0 τ' := frR_of (fun a x => (fS_o h (by omega) (by omega)).trans (h0.1 a x)) ((fS_n h).trans h0.2)
theorem wj_th {τ : mxS} {L : Nat} {bs tb : Nat → Int32} {ep : Int32} {g pb g2 : Nat} {n P O T : Nat} {K A B : Nat → Nat} {od : ODT} {hs : Nat → Int32} {pl : Nat → Nat} {ls : Nat → Int32} {dy co : Int32} {h' ls' : Nat → Int32} (H : WJ τ L bs tb ep g pb g2 n P O T K A B od hs pl ls dy co h' ls') : WJ (thT τ) L bs tb ep g pb g2 n P O T K A B od hs pl ls dy co h' ls' := by
  obtain ⟨HC, HR, h1, h2, h3, h4, o, h5⟩ := H
  obtain ⟨⟨cg, cN, _⟩, _⟩ := id HC
  have hf := frC_th τ
  exact ⟨cw_fr HC (fun a ha => va_up_ne _ _ (by omega)) hf.2.1, rw_fr HR (fun a x => hf.1 a (by omega) (by omega)) (fun a x y z => hf.1 a (.inr x) y) hf.2.1, h1, h2, h3, h4, o, (hf.1 1101 (by decide) (by omega)).trans h5⟩
/-- a class step whose world is known: the reference's world stays, and a note may follow -/
theorem w_mid {τ1 τo : mxS} {g' pb' L' : Nat} {bs' : Nat → Int32} {n' P' O' T' : Nat} {K' A' B' : Nat → Nat} {od' : ODT} {hs' : Nat → Int32} {pl' : Nat → Nat} {l' : Nat → Int32} {dy' co' ep' : Int32} {τ : mxS} {L : Nat} {bs tb : Nat → Int32} {ep : Int32} {g pb g2 : Nat} {n P O T : Nat} {K A B : Nat → Nat} {od : ODT} {hs : Nat → Int32} {pl : Nat → Nat} {ls : Nat → Int32} {dy co : Int32} {h' ls' : Nat → Int32} (H : WJ τ L bs tb ep g pb g2 n P O T K A B od hs pl ls dy co h' ls') (hf : frC τ τ1) (HC : cwJ τ1 L' bs' ep' g' pb' n' P' O' T' K' A' B' od' hs' pl' l' dy' co') (ho : frO τ1 τo) : cwJ τo L' bs' ep' g' pb' n' P' O' T' K' A' B' od' hs' pl' l' dy' co' ∧ rwJ τo L tb ep g2 n P O T K A B od h' pl ls' dy co := by
  obtain ⟨HC0, HR, h1, h2, h3, h4, o, h5⟩ := H
  obtain ⟨⟨cg, cN, _⟩, _⟩ := id HC0
  refine ⟨cw_fr HC (fun a ha => ho.1 a (by omega)) (by rw [ho.2]; exact Nat.le_refl _), rw_fr HR (fun a x => (ho.1 a (by omega)).trans (hf.1 a (by omega) (by omega))) (fun a x y z => (ho.1 a z).trans (hf.1 a (.inr x) y)) (by rw [ho.2]; exact hf.2.1)⟩
theorem w_out {τ : mxS} {L : Nat} {bs tb : Nat → Int32} {ep : Int32} {g pb g2 : Nat} {n P O T : Nat} {K A B : Nat → Nat} {od : ODT} {hs : Nat → Int32} {pl : Nat → Nat} {ls : Nat → Int32} {dy co : Int32} {h' ls' : Nat → Int32} (H : WJ τ L bs tb ep g pb g2 n P O T K A B od hs pl ls dy co h' ls') {τ1 : mxS} (hf : frC τ τ1) : ∃ o : Nat → Int64, τ1.1 1101 = .inl (1, 1, .inr (.inl o)) := by
  obtain ⟨⟨⟨cg, cN, _⟩, _⟩, HR, h1, h2, h3, h4, o, h5⟩ := H
  exact ⟨o, (hf.1 1101 (by decide) (by omega)).trans h5⟩
theorem w_N {τ : mxS} {L : Nat} {bs tb : Nat → Int32} {ep : Int32} {g pb g2 : Nat} {n P O T : Nat} {K A B : Nat → Nat} {od : ODT} {hs : Nat → Int32} {pl : Nat → Nat} {ls : Nat → Int32} {dy co : Int32} {h' ls' : Nat → Int32} (H : WJ τ L bs tb ep g pb g2 n P O T K A B od hs pl ls dy co h' ls') : 102 ≤ τ.2.1 := by
  obtain ⟨⟨⟨cg, cN, _⟩, _⟩, _⟩ := H
  exact cN
theorem w_X {τ : mxS} {L : Nat} {bs tb : Nat → Int32} {ep : Int32} {g pb g2 : Nat} {n P O T : Nat} {K A B : Nat → Nat} {od : ODT} {hs : Nat → Int32} {pl : Nat → Nat} {ls : Nat → Int32} {dy co : Int32} {h' ls' : Nat → Int32} (H : WJ τ L bs tb ep g pb g2 n P O T K A B od hs pl ls dy co h' ls') : ∃ z, τ.1 1000 = .inr (7, z) := by
  obtain ⟨⟨_, cX, _⟩, _⟩ := H
  exact ⟨_, cX⟩
theorem rw_M {τ : mxS} {L : Nat} {tb : Nat → Int32} {ep : Int32} {g : Nat} {n P O T : Nat} {K A B : Nat → Nat} {od : ODT} {h : Nat → Int32} {pl : Nat → Nat} {ls : Nat → Int32} {dy dn : Int32} (H : rwJ τ L tb ep g n P O T K A B od h pl ls dy dn) : ∃ z, τ.1 1075 = .inr (10, z) := by
  obtain ⟨_, ⟨_, _, _, _, cM⟩, _⟩ := H
  exact ⟨_, cM⟩
theorem w_R {τ : mxS} {L : Nat} {bs tb : Nat → Int32} {ep : Int32} {g pb g2 : Nat} {n P O T : Nat} {K A B : Nat → Nat} {od : ODT} {hs : Nat → Int32} {pl : Nat → Nat} {ls : Nat → Int32} {dy co : Int32} {h' ls' : Nat → Int32} (H : WJ τ L bs tb ep g pb g2 n P O T K A B od hs pl ls dy co h' ls') : plOK n P O T K A B od h' pl ∧ hR n hs ∧ 0 < n ∧ n ≤ 16 ∧ P ≤ 8 ∧ (∀ q, q < P → pl q < n) ∧ O ≤ 16 ∧ (∀ z, z < O → ordW1 P K A B (od z)) := by
  obtain ⟨_, _, ⟨o1, o2, o3, o4, o5, o6, o7⟩, h2, _⟩ := H
  exact ⟨⟨o1, o2, o3, o4, o5, hR_cg h2 o6, o7⟩, o6, o1.1, o1.2, o2, o7, o3, o5⟩
/-- after both steps -/
theorem w_end {τ τ1 τo τ2 : mxS} {L : Nat} {bs tb : Nat → Int32} {ep : Int32} {g pb g2 : Nat} {n P O T : Nat} {K A B : Nat → Nat} {od : ODT} {hs : Nat → Int32} {pl : Nat → Nat} {ls : Nat → Int32} {dy co : Int32} {h' ls' : Nat → Int32} (hf : frC τ τ1) (ho : frO τ1 τo) (hr : frR τo τ2) (h102 : 102 ≤ τ.2.1) {o : Nat → Int64} (hoo : τo.1 1101 = .inl (1, 1, .inr (.inl o))) (HC : cwJ τo L bs ep g pb n P O T K A B od hs pl ls dy co) (HR : rwJ τ2 L tb ep g2 n P O T K A B od h' pl ls' dy co) (hok : plOK n P O T K A B od hs pl) (ea : agN n hs h') (el : agN P ls ls') (hb : ∀ k, k < L → tb k = bs k &&& nI 255) : WW τ2 ∧ cn τ τ2 ∧ τ2.1 1101 = .inl (1, 1, .inr (.inl o)) := by
  obtain ⟨f1, f2, f3, f4⟩ := hf
  obtain ⟨r1, r2, r3, r4⟩ := hr
  obtain ⟨o1, o2⟩ := ho
  rw [o2] at r1 r2 r3 r4
  have e := (r1 1101 (by decide) (by omega)).trans hoo
  exact ⟨⟨L, bs, tb, ep, g, pb, g2, n, P, O, T, K, A, B, od, hs, pl, ls, dy, co, h', ls', cw_fr HC (fun a x => r1 a (.inl x) (by omega)) (by rw [o2]; exact r2), HR, hok, ea, el, hb, o, e⟩, ⟨by omega, by omega, by omega, fun a ha => (r1 a (.inl (by omega)) (by omega)).trans ((o1 a (by omega)).trans (f1 a (.inl ha) (by omega)))⟩, e⟩
/-- places that agree -/
theorem rw_pl {τ : mxS} {L : Nat} {tb : Nat → Int32} {ep : Int32} {g : Nat} {n P O T : Nat} {K A B : Nat → Nat} {od : ODT} {h : Nat → Int32} {pl pl2 : Nat → Nat} {ls : Nat → Int32} {dy dn : Int32} (H : rwJ τ L tb ep g n P O T K A B od h pl ls dy dn) (e : agN P pl2 pl) : rwJ τ L tb ep g n P O T K A B od h pl2 ls dy dn := by
  obtain ⟨x1, x2, x3, x4, x5, x6, ⟨ps, x7, x8⟩, x9⟩ := H
  exact ⟨x1, x2, x3, x4, x5, x6, ⟨ps, x7, fun q hq => (x8 q hq).trans (congrArg nI (e q hq).symm)⟩, x9⟩
theorem kq {τ τ1 τo : mxS} (hf : frC τ τ1) (ho : frO τ1 τo) : ∀ a, a < 1000 → τo.1 a = τ.1 a := fun a ha => (ho.1 a (by omega)).trans (hf.1 a (.inl ha) (by omega))
def ctxB (τ τ1 : mxS) : Prop := (∃ z, τ.1 1000 = .inr (7, z)) ∧ 102 ≤ τ.2.1 ∧ (∃ z, τ1.1 1075 = .inr (10, z)) ∧ 102 ≤ τ1.2.1 ∧ ∀ a, a < 1000 → τ1.1 a = τ.1 a
def ctx (τ τ1 : mxS) : Prop := (∃ z, τ.1 1000 = .inr (7, z)) ∧ 102 ≤ τ.2.1 ∧ (∃ z, τ1.1 1075 = .inr (10, z)) ∧ 102 ≤ τ1.2.1
/-- a call without arguments, on both sides -/
def PAr {α : Type} (f : α → Value) (p : α → Prop) (yc : Nat) (lc : List (Option Value)) (yr : Nat) (lr : List (Option Value)) (τ : mxS) : Prop := ∃ (v : α) (τ1 τ2 : mxS), p v ∧ (∀ {Q : Option Value ⊕ Nat → mxS → Prop}, WP 199 yc 0 lc [] τ Q = Q (.inl (some (f v))) τ1) ∧ (∀ {Q : Option Value ⊕ Nat → mxS → Prop}, WP 199 yr 0 lr [] τ1 Q = Q (.inl (some (f v))) τ2) ∧ ctx τ τ1 ∧ WW τ2 ∧ cn τ τ2
/-- a call that the law's method makes, and the reference's -/
def PBr (b : Bool) (yc : Nat) (lc : List (Option Value)) (yr : Nat) (lr : List (Option Value)) (τ : mxS) : Prop := ∃ (k : Nat) (w : Int32) (τ1 τ2 : mxS), (∀ {Q : Option Value ⊕ Nat → mxS → Prop}, WP 199 yc 0 lc [] τ Q = Q (.inl (some (.int (nI k)))) τ1) ∧ (∀ {Q : Option Value ⊕ Nat → mxS → Prop}, WP 199 yr 0 lr [] τ1 Q = Q (.inl (some (.int w))) τ2) ∧ ctxB τ τ1 ∧ WW τ2 ∧ cn τ τ2 ∧ (∃ z, τ2.1 1075 = .inr (10, .int (nI k) :: z)) ∧ k ≤ 2 ∧ ∃ o : Nat → Int64, τ2.1 1101 = .inl (1, 1, .inr (.inl o)) ∧ (k = 0 → o 0 = if b then (if w = nI 0 then 0 else 1) else w.toInt64)
