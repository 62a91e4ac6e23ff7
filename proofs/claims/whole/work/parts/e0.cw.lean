/-! ===== the class's world ===== -/
def onB (τ : mxS) (p n : Nat) (f : Nat → mxC) : Prop := ∀ j, j < n → τ.1 (p + j) = f j
theorem onB_ov {τ : mxS} {p n : Nat} {f : Nat → mxC} (h : onB τ p n f) : mxov τ p n f = τ := mxov_of τ p n f h
theorem onB_new (τ : mxS) (p n : Nat) (f : Nat → mxC) : onB (mxov τ p n f) p n f := fun j hj => mxov_in τ p n f j hj
theorem onB_fr {τ τ' : mxS} {p n : Nat} {f : Nat → mxC} (h : onB τ p n f) (h2 : ∀ a, p ≤ a → a < p + n → τ'.1 a = τ.1 a) : onB τ' p n f := fun j hj => (h2 _ (by omega) (by omega)).trans (h j hj)
abbrev ODT : Type := Nat → Nat × Nat × Int32 × Nat × Nat × Nat
def cwP (τ : mxS) (g : Nat) : Prop := ∃ (hs ps ls : Nat → Int32) (oaf : Nat → Option Nat) (od : Nat → Nat × Int32 × Int32 × Int32 × Int32 × Int32) (kf : Nat → Option Nat) (fa sx : Nat → Int32) (tc pc oc sc : Nat), onB τ g 24 (pnG g hs ps ls oaf od kf fa sx (nI tc) (nI pc) (nI oc) (nI sc)) ∧ ∀ j, j < 16 → oaf j = some (g + 5 + j)
def odE (od : ODT) (k : Nat) : Nat × Int32 × Int32 × Int32 × Int32 × Int32 := ((od k).1, nI (od k).2.1, (od k).2.2.1, nI (od k).2.2.2.1, nI (od k).2.2.2.2.1, nI (od k).2.2.2.2.2)
def cwG (τ : mxS) (g n P O T : Nat) (K A B : Nat → Nat) (od : ODT) : Prop := ∃ (hs ps ls : Nat → Int32) (oaf : Nat → Option Nat) (od' : Nat → Nat × Int32 × Int32 × Int32 × Int32 × Int32) (kf : Nat → Option Nat) (fa sx : Nat → Int32), onB τ g 24 (pnG g hs ps ls oaf od' kf fa sx (nI n) (nI P) (nI O) (nI T)) ∧ (∀ j, j < 16 → oaf j = some (g + 5 + j)) ∧ (∀ i, i < T → kf i = some (K i) ∧ fa i = nI (A i) ∧ sx i = nI (B i)) ∧ ∀ k, k < O → od' k = odE od k ∧ (od k).2.2.2.2.2 ≤ T
theorem cwG_P {τ : mxS} {g n P O T : Nat} {K A B : Nat → Nat} {od : ODT} (h : cwG τ g n P O T K A B od) : cwP τ g := by
  obtain ⟨hs, ps, ls, oaf, od', kf, fa, sx, h1, h2, _⟩ := h
  exact ⟨hs, ps, ls, oaf, od', kf, fa, sx, n, P, O, T, h1, h2⟩
def plOK (n P O T : Nat) (K A B : Nat → Nat) (od : ODT) (hs : Nat → Int32) (pl : Nat → Nat) : Prop := (1 ≤ n ∧ n ≤ 16) ∧ P ≤ 8 ∧ O ≤ 16 ∧ T ≤ 400 ∧ (∀ z, z < O → ordW1 P K A B (od z)) ∧ hR n hs ∧ ∀ q, q < P → pl q < n
def cwJ (τ : mxS) (L : Nat) (bs : Nat → Int32) (ep : Int32) (g pb n P O T : Nat) (K A B : Nat → Nat) (od : ODT) (hs : Nat → Int32) (pl : Nat → Nat) (ls : Nat → Int32) (dy co : Int32) : Prop :=
  ((g = 1008 ∧ pb = 1051 ∨ g = 1051 ∧ pb = 1008) ∧ 102 ≤ τ.2.1 ∧ L ≤ 2000 ∧ ∃ L0 xs, ∀ a, a < 1000 → τ.1 a = mxkon L0 xs a) ∧
  τ.1 1000 = .inr (7, [.ref 1001, .ref 1003, .ref 1033, .ref 1035, .ref 1043, .ref g]) ∧
  onB τ 1001 2 (tpG 1001 bs (nI L)) ∧
  (∃ (a0 e0 : Int32) (h0 t0 : Nat), t0 ≤ 400 ∧ τ.1 1003 = .inr (4, [.ref 1004, .ref 1032, .ref pb, .int a0, .ref h0, .int e0, .int (nI t0), .int ep])) ∧
  (∃ ns : Nat → Int64, τ.1 1032 = .inl (1, 8, .inr (.inl ns))) ∧
  (∃ (kk : Nat → Option Nat) (sa : Nat → Int32) (vs : Nat → Int64), onB τ 1004 4 (tkG 1004 kk sa vs (.ref 1001))) ∧
  cwG τ g n P O T K A B od ∧ cwP τ pb ∧
  (∃ (ks : Nat → Int32) (z : Nat), onB τ 1033 2 (kpG 1033 ks (nI z))) ∧
  (∃ (tl tr ws sn ps : Nat → Int32) (rn wc sl sr : Int32), onB τ 1035 8 (skG 1035 hs tl tr ws sn ps ls (nI n) (nI P) dy co rn wc sl sr) ∧ seS n hs tl tr ws sn rn wc sl sr ∧ ∀ q, q < P → ps q = nI (pl q)) ∧
  (∃ (hT tl tr ws sn ps lT : Nat → Int32) (tc pc dn cT rn wc sl sr : Int32), onB τ 1043 8 (skG 1043 hT tl tr ws sn ps lT tc pc dn cT rn wc sl sr))
theorem cw_fr {τ' : mxS} {τ : mxS} {L : Nat} {bs : Nat → Int32} {ep : Int32} {g pb : Nat} {n P O T : Nat} {K A B : Nat → Nat} {od : ODT} {hs : Nat → Int32} {pl : Nat → Nat} {ls : Nat → Int32} {dy co : Int32} (H : cwJ τ L bs ep g pb n P O T K A B od hs pl ls dy co) (h1 : ∀ a, a < 1075 → τ'.1 a = τ.1 a) (h2 : τ.2.1 ≤ τ'.2.1) : cwJ τ' L bs ep g pb n P O T K A B od hs pl ls dy co := by
  obtain ⟨⟨cg, cN, cL', L0, xs, cK⟩, cX, cT, ⟨a0, e0, h0, t0, cr0, cr⟩, ⟨ns, cn⟩, ⟨kk, sa, vs, ck⟩, cGG, cPP, ⟨ks, kz, ckp⟩, ⟨tl, tr, ws, sn, ps, rn, wc, sl, sr, csk, cse, cps⟩, ⟨hT, tlT, trT, wsT, snT, psT, lT, tcT, pcT, dnT, cT', rnT', wcT, slT, srT, ctr⟩⟩ := id H
  have f : ∀ p m, p + m ≤ 1075 → ∀ a, p ≤ a → a < p + m → τ'.1 a = τ.1 a := fun p m hp a x y => h1 a (by omega)
  have hg : g + 24 ≤ 1075 ∧ pb + 24 ≤ 1075 := by omega
  obtain ⟨x1, x2, x3, x4, x5, x6, x7, x8, y1, y2⟩ := cGG
  obtain ⟨z1, z2, z3, z4, z5, z6, z7, z8, z9, z10, z11, z12, w1, w2⟩ := cPP
  exact ⟨⟨cg, by omega, cL', L0, xs, fun a ha => (h1 a (by omega)).trans (cK a ha)⟩, (h1 _ (by decide)).trans cX, onB_fr cT (f _ _ (by decide)), ⟨a0, e0, h0, t0, cr0, (h1 _ (by decide)).trans cr⟩, ⟨ns, (h1 _ (by decide)).trans cn⟩, ⟨kk, sa, vs, onB_fr ck (f _ _ (by decide))⟩, ⟨x1, x2, x3, x4, x5, x6, x7, x8, onB_fr y1 (f _ _ hg.1), y2⟩, ⟨z1, z2, z3, z4, z5, z6, z7, z8, z9, z10, z11, z12, onB_fr w1 (f _ _ hg.2), w2⟩, ⟨ks, kz, onB_fr ckp (f _ _ (by decide))⟩, ⟨tl, tr, ws, sn, ps, rn, wc, sl, sr, onB_fr csk (f _ _ (by decide)), cse, cps⟩, ⟨hT, tlT, trT, wsT, snT, psT, lT, tcT, pcT, dnT, cT', rnT', wcT, slT, srT, onB_fr ctr (f _ _ (by decide))⟩⟩
theorem cw_csB {τ : mxS} {L : Nat} {bs : Nat → Int32} {ep : Int32} {g pb : Nat} {n P O T : Nat} {K A B : Nat → Nat} {od : ODT} {hs : Nat → Int32} {pl : Nat → Nat} {ls : Nat → Int32} {dy co : Int32} (H : cwJ τ L bs ep g pb n P O T K A B od hs pl ls dy co) (hok : plOK n P O T K A B od hs pl) : ∃ tl tr ws sn ps rn wc sl sr, csB τ 1000 1001 1003 1033 1035 1043 g n P hs tl tr ws sn ps ls pl dy co rn wc sl sr := by
  obtain ⟨⟨cg, cN, cL', L0, xs, cK⟩, cX, cT, ⟨a0, e0, h0, t0, cr0, cr⟩, ⟨ns, cn⟩, ⟨kk, sa, vs, ck⟩, cGG, cPP, ⟨ks, kz, ckp⟩, ⟨tl, tr, ws, sn, ps, rn, wc, sl, sr, csk, cse, cps⟩, ⟨hT, tlT, trT, wsT, snT, psT, lT, tcT, pcT, dnT, cT', rnT', wcT, slT, srT, ctr⟩⟩ := id H
  obtain ⟨⟨o1, o2⟩, o3, o4, o5, o6, o7, o8⟩ := hok
  exact ⟨tl, tr, ws, sn, ps, rn, wc, sl, sr, ⟨cX, by decide, by omega⟩, ⟨by decide, by omega⟩, onB_ov csk, cse, cps, o8, o2, o1, o3⟩
theorem cw_csT {τ : mxS} {L : Nat} {bs : Nat → Int32} {ep : Int32} {g pb : Nat} {n P O T : Nat} {K A B : Nat → Nat} {od : ODT} {hs : Nat → Int32} {pl : Nat → Nat} {ls : Nat → Int32} {dy co : Int32} (H : cwJ τ L bs ep g pb n P O T K A B od hs pl ls dy co) : csT τ 1000 1033 1035 1043 := by
  obtain ⟨⟨cg, cN, cL', L0, xs, cK⟩, cX, cT, ⟨a0, e0, h0, t0, cr0, cr⟩, ⟨ns, cn⟩, ⟨kk, sa, vs, ck⟩, cGG, cPP, ⟨ks, kz, ckp⟩, ⟨tl, tr, ws, sn, ps, rn, wc, sl, sr, csk, cse, cps⟩, ⟨hT, tlT, trT, wsT, snT, psT, lT, tcT, pcT, dnT, cT', rnT', wcT, slT, srT, ctr⟩⟩ := id H
  exact ⟨⟨hT, tlT, trT, wsT, snT, psT, lT, tcT, pcT, dnT, cT', rnT', wcT, slT, srT, onB_ov ctr⟩, ⟨ks, kz, onB_ov ckp⟩, ⟨by decide, by omega⟩, by decide, ⟨by decide, by omega⟩, by decide, by decide, by decide, by decide, by decide⟩
theorem cw_plC {p : Nat} {τ : mxS} {L : Nat} {bs : Nat → Int32} {ep : Int32} {g pb : Nat} {n P O T : Nat} {K A B : Nat → Nat} {od : ODT} {hs : Nat → Int32} {pl : Nat → Nat} {ls : Nat → Int32} {dy co : Int32} (H : cwJ τ L bs ep g pb n P O T K A B od hs pl ls dy co) (hO : O ≤ 16) (hp : p = 1035 ∨ p = 1043) : plC τ p 1033 g O T K A B od ∧ 1000 ≤ g ∧ g < 1000 + τ.2.1 := by
  obtain ⟨⟨cg, cN, cL', L0, xs, cK⟩, cX, cT, ⟨a0, e0, h0, t0, cr0, cr⟩, ⟨ns, cn⟩, ⟨kk, sa, vs, ck⟩, cGG, cPP, ⟨ks, kz, ckp⟩, ⟨tl, tr, ws, sn, ps, rn, wc, sl, sr, csk, cse, cps⟩, ⟨hT, tlT, trT, wsT, snT, psT, lT, tcT, pcT, dnT, cT', rnT', wcT, slT, srT, ctr⟩⟩ := id H
  obtain ⟨x1, x2, x3, oaf, od', kf, fa, sx, y1, y2, y3, y4⟩ := cGG
  have hg : 1000 ≤ g ∧ g + 24 ≤ 1000 + τ.2.1 ∧ (g + 24 ≤ 1033 ∨ 1051 ≤ g) := by omega
  have b0 : τ.1 g = _ := y1 0 (by decide)
  have e : ∀ j, j < 24 → τ.1 (g + j) = _ := fun j hj => y1 j hj
  refine ⟨⟨g + 4, g + 21, g + 22, g + 23, kf, oaf, fa, sx, fun i => g + 5 + i, .ref (g + 1), .ref (g + 2), .ref (g + 3), .int (nI n), .int (nI P), [.int (nI T)], b0, e 21 (by decide), e 22 (by decide), e 23 (by decide), e 4 (by decide), fun i hi => ?_, y3, ?_, ?_⟩, hg.1, by omega⟩
  · obtain ⟨z1, z2⟩ := y4 i hi
    have z3 := (congrArg (fun z => z.1 (g + 5 + i)) (onB_ov y1)).symm.trans (pn_gO τ g x1 x2 x3 oaf od' kf fa sx (nI n) (nI P) (nI O) (nI T) (show i < 16 by omega))
    rw [z1] at z3
    exact ⟨y2 i (by omega), z3, ⟨by dsimp only; omega, by dsimp only; omega, by dsimp only; omega⟩, z2⟩
  · refine ⟨⟨by omega, by omega, by omega, by omega⟩, ⟨by omega, by omega⟩, ⟨by omega, by omega⟩, ⟨by omega, by omega⟩, by omega, by omega⟩
  · exact ⟨by omega, by omega, by omega⟩
theorem cw_upd {τ' : mxS} {τ : mxS} {L : Nat} {bs : Nat → Int32} {ep : Int32} {g pb : Nat} {n P O T : Nat} {K A B : Nat → Nat} {od : ODT} {hs : Nat → Int32} {pl : Nat → Nat} {ls : Nat → Int32} {dy co : Int32} (H : cwJ τ L bs ep g pb n P O T K A B od hs pl ls dy co) {hs' : Nat → Int32} {pl' : Nat → Nat} {ls' : Nat → Int32} {dy' co' : Int32} (h1 : ∀ a, a < 1075 → ¬ (1033 ≤ a ∧ a < 1051) → τ'.1 a = τ.1 a) (h2 : τ.2.1 ≤ τ'.2.1) (hk : ∃ (ks : Nat → Int32) (z : Nat), onB τ' 1033 2 (kpG 1033 ks (nI z))) (hs1 : ∃ (tl tr ws sn ps : Nat → Int32) (rn wc sl sr : Int32), onB τ' 1035 8 (skG 1035 hs' tl tr ws sn ps ls' (nI n) (nI P) dy' co' rn wc sl sr) ∧ seS n hs' tl tr ws sn rn wc sl sr ∧ ∀ q, q < P → ps q = nI (pl' q)) (ht1 : ∃ (hT tl tr ws sn ps lT : Nat → Int32) (tc pc dn cT rn wc sl sr : Int32), onB τ' 1043 8 (skG 1043 hT tl tr ws sn ps lT tc pc dn cT rn wc sl sr)) : cwJ τ' L bs ep g pb n P O T K A B od hs' pl' ls' dy' co' := by
  obtain ⟨⟨cg, cN, cL', L0, xs, cK⟩, cX, cT, ⟨a0, e0, h0, t0, cr0, cr⟩, ⟨ns, cn⟩, ⟨kk, sa, vs, ck⟩, cGG, cPP, ⟨ks, kz, ckp⟩, ⟨tl, tr, ws, sn, ps, rn, wc, sl, sr, csk, cse, cps⟩, ⟨hT, tlT, trT, wsT, snT, psT, lT, tcT, pcT, dnT, cT', rnT', wcT, slT, srT, ctr⟩⟩ := id H
  have f : ∀ p m, p + m ≤ 1033 ∨ 1051 ≤ p ∧ p + m ≤ 1075 → ∀ a, p ≤ a → a < p + m → τ'.1 a = τ.1 a := fun p m hp a x y => h1 a (by omega) (by omega)
  have hg : (g + 24 ≤ 1033 ∨ 1051 ≤ g ∧ g + 24 ≤ 1075) ∧ (pb + 24 ≤ 1033 ∨ 1051 ≤ pb ∧ pb + 24 ≤ 1075) := by omega
  obtain ⟨x1, x2, x3, x4, x5, x6, x7, x8, y1, y2⟩ := cGG
  obtain ⟨z1, z2, z3, z4, z5, z6, z7, z8, z9, z10, z11, z12, w1, w2⟩ := cPP
  exact ⟨⟨cg, by omega, cL', L0, xs, fun a ha => (h1 a (by omega) (by omega)).trans (cK a ha)⟩, (h1 _ (by decide) (by decide)).trans cX, onB_fr cT (f _ _ (by decide)), ⟨a0, e0, h0, t0, cr0, (h1 _ (by decide) (by decide)).trans cr⟩, ⟨ns, (h1 _ (by decide) (by decide)).trans cn⟩, ⟨kk, sa, vs, onB_fr ck (f _ _ (by decide))⟩, ⟨x1, x2, x3, x4, x5, x6, x7, x8, onB_fr y1 (f _ _ hg.1), y2⟩, ⟨z1, z2, z3, z4, z5, z6, z7, z8, z9, z10, z11, z12, onB_fr w1 (f _ _ hg.2), w2⟩, hk, hs1, ht1⟩
theorem cw_skS {τ' : mxS} {τ : mxS} {L : Nat} {bs : Nat → Int32} {ep : Int32} {g pb : Nat} {n P O T : Nat} {K A B : Nat → Nat} {od : ODT} {hs : Nat → Int32} {pl : Nat → Nat} {ls : Nat → Int32} {dy co : Int32} (H : cwJ τ L bs ep g pb n P O T K A B od hs pl ls dy co) {hs' : Nat → Int32} {pl' : Nat → Nat} {ls' : Nat → Int32} {dy' co' : Int32} (h : skS τ 1035 1033 n P hs' pl' ls' dy' co' τ') : cwJ τ' L bs ep g pb n P O T K A B od hs' pl' ls' dy' co' := by
  have hn := sS_n h
  refine cw_upd H (fun a h1 h2 => sS_o h (by omega) (by omega)) (by rw [hn]; exact Nat.le_refl _) ?_ ?_ ?_
  · obtain ⟨ks, z, tl, tr, ws, sn, ps, rn, wc, sl, sr, rfl, _, _⟩ := h
    exact ⟨ks, z, onB_fr (onB_new τ 1033 2 _) (fun a h1 h2 => sk_o _ _ _ _ _ _ _ _ _ _ _ _ _ _ _ _ _ (by omega))⟩
  · obtain ⟨ks, z, tl, tr, ws, sn, ps, rn, wc, sl, sr, rfl, h2, h3⟩ := h
    exact ⟨tl, tr, ws, sn, ps, rn, wc, sl, sr, onB_new _ _ _ _, h2, h3⟩
  · obtain ⟨⟨cg, cN, cL', L0, xs, cK⟩, cX, cT, ⟨a0, e0, h0, t0, cr0, cr⟩, ⟨ns, cn⟩, ⟨kk, sa, vs, ck⟩, cGG, cPP, ⟨ks, kz, ckp⟩, ⟨tl, tr, ws, sn, ps, rn, wc, sl, sr, csk, cse, cps⟩, ⟨hT, tlT, trT, wsT, snT, psT, lT, tcT, pcT, dnT, cT', rnT', wcT, slT, srT, ctr⟩⟩ := id H
    exact ⟨hT, tlT, trT, wsT, snT, psT, lT, tcT, pcT, dnT, cT', rnT', wcT, slT, srT, onB_fr ctr (fun a h1 h2 => sS_o h (by omega) (by omega))⟩
theorem cw_tri {τ' : mxS} {τ : mxS} {L : Nat} {bs : Nat → Int32} {ep : Int32} {g pb : Nat} {n P O T : Nat} {K A B : Nat → Nat} {od : ODT} {hs : Nat → Int32} {pl : Nat → Nat} {ls : Nat → Int32} {dy co : Int32} (H : cwJ τ L bs ep g pb n P O T K A B od hs pl ls dy co) {hs' : Nat → Int32} {pl' : Nat → Nat} {ls' : Nat → Int32} {dy' co' : Int32} (h : skS τ 1043 1033 n P hs' pl' ls' dy' co' τ') : cwJ τ' L bs ep g pb n P O T K A B od hs pl ls dy co := by
  have hn := sS_n h
  refine cw_upd H (fun a h1 h2 => sS_o h (by omega) (by omega)) (by rw [hn]; exact Nat.le_refl _) ?_ ?_ ?_
  · obtain ⟨ks, z, tl, tr, ws, sn, ps, rn, wc, sl, sr, rfl, _, _⟩ := h
    exact ⟨ks, z, onB_fr (onB_new τ 1033 2 _) (fun a h1 h2 => sk_o _ _ _ _ _ _ _ _ _ _ _ _ _ _ _ _ _ (by omega))⟩
  · obtain ⟨⟨cg, cN, cL', L0, xs, cK⟩, cX, cT, ⟨a0, e0, h0, t0, cr0, cr⟩, ⟨ns, cn⟩, ⟨kk, sa, vs, ck⟩, cGG, cPP, ⟨ks, kz, ckp⟩, ⟨tl, tr, ws, sn, ps, rn, wc, sl, sr, csk, cse, cps⟩, ⟨hT, tlT, trT, wsT, snT, psT, lT, tcT, pcT, dnT, cT', rnT', wcT, slT, srT, ctr⟩⟩ := id H
    exact ⟨tl, tr, ws, sn, ps, rn, wc, sl, sr, onB_fr csk (fun a h1 h2 => sS_o h (by omega) (by omega)), cse, cps⟩
  · obtain ⟨ks, z, tl, tr, ws, sn, ps, rn, wc, sl, sr, rfl, h2, h3⟩ := h
    exact ⟨_, tl, tr, ws, sn, ps, _, _, _, _, _, rn, wc, sl, sr, onB_new _ _ _ _⟩
theorem cw_sky {τ : mxS} {L : Nat} {bs : Nat → Int32} {ep : Int32} {g pb : Nat} {n P O T : Nat} {K A B : Nat → Nat} {od : ODT} {hs : Nat → Int32} {pl : Nat → Nat} {ls : Nat → Int32} {dy co : Int32} (H : cwJ τ L bs ep g pb n P O T K A B od hs pl ls dy co) {hs' tl' tr' ws' sn' ps' ls' : Nat → Int32} {pl' : Nat → Nat} {dy' co' rn' wc' sl' sr' : Int32} (hse : seS n hs' tl' tr' ws' sn' rn' wc' sl' sr') (hps : ∀ q, q < P → ps' q = nI (pl' q)) : cwJ (skW τ 1035 hs' tl' tr' ws' sn' ps' ls' (nI n) (nI P) dy' co' rn' wc' sl' sr') L bs ep g pb n P O T K A B od hs' pl' ls' dy' co' := by
  obtain ⟨⟨cg, cN, cL', L0, xs, cK⟩, cX, cT, ⟨a0, e0, h0, t0, cr0, cr⟩, ⟨ns, cn⟩, ⟨kk, sa, vs, ck⟩, cGG, cPP, ⟨ks, kz, ckp⟩, ⟨tl, tr, ws, sn, ps, rn, wc, sl, sr, csk, cse, cps⟩, ⟨hT, tlT, trT, wsT, snT, psT, lT, tcT, pcT, dnT, cT', rnT', wcT, slT, srT, ctr⟩⟩ := id H
  exact cw_upd H (fun a h1 h2 => sk_o _ _ _ _ _ _ _ _ _ _ _ _ _ _ _ _ _ (by omega)) (Nat.le_refl _) ⟨ks, kz, onB_fr ckp (fun a h1 h2 => sk_o _ _ _ _ _ _ _ _ _ _ _ _ _ _ _ _ _ (by omega))⟩ ⟨tl', tr', ws', sn', ps', rn', wc', sl', sr', onB_new _ _ _ _, hse, hps⟩ ⟨hT, tlT, trT, wsT, snT, psT, lT, tcT, pcT, dnT, cT', rnT', wcT, slT, srT, onB_fr ctr (fun a h1 h2 => sk_o _ _ _ _ _ _ _ _ _ _ _ _ _ _ _ _ _ (by omega))⟩
/-- the tape has other bytes -/
theorem cw_tape {τ : mxS} {L : Nat} {bs : Nat → Int32} {ep : Int32} {g pb : Nat} {n P O T : Nat} {K A B : Nat → Nat} {od : ODT} {hs : Nat → Int32} {pl : Nat → Nat} {ls : Nat → Int32} {dy co : Int32} (H : cwJ τ L bs ep g pb n P O T K A B od hs pl ls dy co) {L' : Nat} {bs' : Nat → Int32} (hL' : L' ≤ 2000) : cwJ (tpW τ 1001 bs' (nI L')) L' bs' ep g pb n P O T K A B od hs pl ls dy co := by
  obtain ⟨⟨cg, cN, cL', L0, xs, cK⟩, cX, cT, ⟨a0, e0, h0, t0, cr0, cr⟩, ⟨ns, cn⟩, ⟨kk, sa, vs, ck⟩, cGG, cPP, ⟨ks, kz, ckp⟩, ⟨tl, tr, ws, sn, ps, rn, wc, sl, sr, csk, cse, cps⟩, ⟨hT, tlT, trT, wsT, snT, psT, lT, tcT, pcT, dnT, cT', rnT', wcT, slT, srT, ctr⟩⟩ := id H
  have h1 : ∀ a, ¬ (1001 ≤ a ∧ a < 1003) → (tpW τ 1001 bs' (nI L')).1 a = τ.1 a := fun a ha => tp_o τ 1001 bs' (nI L') ha
  have f : ∀ p m, p + m ≤ 1001 ∨ 1003 ≤ p → ∀ a, p ≤ a → a < p + m → (tpW τ 1001 bs' (nI L')).1 a = τ.1 a := fun p m hp a x y => h1 a (by omega)
  obtain ⟨x1, x2, x3, x4, x5, x6, x7, x8, y1, y2⟩ := cGG
  obtain ⟨z1, z2, z3, z4, z5, z6, z7, z8, z9, z10, z11, z12, w1, w2⟩ := cPP
  exact ⟨⟨cg, cN, hL', L0, xs, fun a ha => (h1 a (by omega)).trans (cK a ha)⟩, (h1 _ (by decide)).trans cX, onB_new τ 1001 2 _, ⟨a0, e0, h0, t0, cr0, (h1 _ (by decide)).trans cr⟩, ⟨ns, (h1 _ (by decide)).trans cn⟩, ⟨kk, sa, vs, onB_fr ck (f _ _ (by decide))⟩, ⟨x1, x2, x3, x4, x5, x6, x7, x8, onB_fr y1 (f _ _ (by omega)), y2⟩, ⟨z1, z2, z3, z4, z5, z6, z7, z8, z9, z10, z11, z12, onB_fr w1 (f _ _ (by omega)), w2⟩, ⟨ks, kz, onB_fr ckp (f _ _ (by decide))⟩, ⟨tl, tr, ws, sn, ps, rn, wc, sl, sr, onB_fr csk (f _ _ (by decide)), cse, cps⟩, ⟨hT, tlT, trT, wsT, snT, psT, lT, tcT, pcT, dnT, cT', rnT', wcT, slT, srT, onB_fr ctr (f _ _ (by decide))⟩⟩
