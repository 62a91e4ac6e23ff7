/-! ===== calls through the law's methods: commands ===== -/

theorem cb6 {v : Nat} (hv : v ≤ 20) : (ccS (nI 6) (nI v) = nI 0 ↔ ((nI 1 : Int32) = 0 ∨ nI v + nI 1 < 0 ∨ nI 20 < nI v + nI 1)) ∧ chS (nI 6) (nI v) = nI v + nI 1 ∧ (¬ ccS (nI 6) (nI v) = nI 0 → ∃ w, w ≤ 20 ∧ chS (nI 6) (nI v) = nI w) := cc_ch hv (.inl rfl)
theorem cb7 {v : Nat} (hv : v ≤ 20) : (ccS (nI 7) (nI v) = nI 0 ↔ ((-1 : Int32) = 0 ∨ nI v + -1 < 0 ∨ nI 20 < nI v + -1)) ∧ chS (nI 7) (nI v) = nI v + -1 ∧ (¬ ccS (nI 7) (nI v) = nI 0 → ∃ w, w ≤ 20 ∧ chS (nI 7) (nI v) = nI w) := cc_ch hv (.inr rfl)
theorem hR_up {n t w : Nat} {hs : Nat → Int32} (hr : hR n hs) (hw : w ≤ 20) : hR n (va_up hs t (nI w)) := fun i hi => by
  by_cases q : i = t
  · rw [q, va_up_self]
    exact ⟨w, hw, rfl⟩
  · rw [va_up_ne _ _ q]
    exact hr i hi
theorem in_dy (y : Int32) : (y < nI 1 ∨ nI 30 < y) ∨ ∃ D, 1 ≤ D ∧ D ≤ 30 ∧ y = nI D := by
  by_cases q : y < nI 1
  · exact .inl (.inl q)
  · by_cases q2 : nI 30 < y
    · exact .inl (.inr q2)
    · have q0 : ¬ y < 0 := fun z => q (Int32.lt_trans z (by decide))
      obtain ⟨j, hj, rfl⟩ := nI_of q0
      refine .inr ⟨j, ?_, ?_, rfl⟩
      · by_cases k : 1 ≤ j
        · exact k
        · exact absurd (nI_lt (show j < 1 by omega) (by decide)) q
      · by_cases k : j ≤ 30
        · exact k
        · exact absurd (nI_lt (show 30 < j by omega) hj) q2
theorem in_20 (y : Int32) : (y < 0 ∨ nI 20 < y) ∨ ∃ v, v ≤ 20 ∧ y = nI v := by
  by_cases q : y < 0
  · exact .inl (.inl q)
  · obtain ⟨j, hj, rfl⟩ := nI_of q
    by_cases k : j ≤ 20
    · exact .inr ⟨j, k, rfl⟩
    · exact .inl (.inr (nI_lt (show 20 < j by omega) hj))
theorem goH_cg {n j : Nat} {b : Int32} {hs h' : Nat → Int32} (ea : agN n hs h') (hj : j < n) : goH hs n b j = goH h' n b j := goG_cg (k := 4) ea hj
theorem frC_skW {τ : mxS} {hs tl tr ws sn ps ls : Nat → Int32} {tc pc dn co rn wc sl sr : Int32} : frC τ (skW τ 1035 hs tl tr ws sn ps ls tc pc dn co rn wc sl sr) := frC_of (fun a x => sk_o _ _ _ _ _ _ _ _ _ _ _ _ _ _ _ _ _ (by omega)) rfl
theorem frR_st {τ : mxS} {e : mxC} {h ps : Nat → Int32} {dy dn : Int32} : frR τ (stW (mxWr τ 1075 e) 1095 h ps dy dn (.ref 1075)) := frR_of (fun a x => (st_o _ _ _ _ _ _ _ (by omega)).trans (wr_o _ _ (by omega))) rfl
theorem pb_hop (y b : Int32) {τ : mxS} {L : Nat} {bs tb : Nat → Int32} {ep : Int32} {g pb g2 : Nat} {n P O T : Nat} {K A B : Nat → Nat} {od : ODT} {hs : Nat → Int32} {pl : Nat → Nat} {ls : Nat → Int32} {dy co : Int32} {h' ls' : Nat → Int32} (H : WJ τ L bs tb ep g pb g2 n P O T K A B od hs pl ls dy co h' ls') : PBr false 2573 [some (.ref 1000), some (.int y), some (.int b), some (.ref 1101), none] 1610 [some (.ref 1075), some (.int y), some (.int b)] τ := by
  obtain ⟨HC, HR, hok, ea, el, hb, o, ho⟩ := id H; obtain ⟨hok', hr, h0, hn, hP, hpl, hO, hw⟩ := w_R H; obtain ⟨tl, tr, ws, sn, ps, rn, wc, sl, sr, HB⟩ := cw_csB HC hok; obtain ⟨z, hX⟩ := w_X H; have hN := w_N H
  rcases in_or P y (by omega) with hy | ⟨q, hq, rfl⟩
  · obtain ⟨HC1, HR1, _⟩ := wj_th H; obtain ⟨o1, ho1⟩ := w_out H (frC_th τ); obtain ⟨th, m9, m10, m12, gr, ps2, HS⟩ := rw_rsB HR1 hok'
    obtain ⟨W2, c2, e2⟩ := w_end (τ2 := (mxWr (thT τ) 1075 (.inr (10, [.int (nI 1), .ref 1076, .int (nI L), .int ep, .ref 1077, .ref 1078, .ref 1079, .ref 1080, .ref 1081, .int m9, .int m10, .ref g2, .ref m12, .ref 1094, .ref 1095, .ref 1098])))) (frC_th τ) (frO_id _) (frR_M _ _) hN ho1 HC1 (rw_th HR1) hok ea el hb
    exact ⟨1, nI 0, thT τ, _, lx_hop2 hX hN (by decide) (fun {Q} => n_hop HB (by decide) hy), u_hop HS (by decide) hy, ⟨⟨z, hX⟩, hN, rw_M HR1, Nat.le_trans hN (frC_th τ).2.1, kq (frC_th τ) (frO_id _)⟩, W2, c2, ⟨_, wr_s _ _ _⟩, by decide, o1, e2, fun h => absurd h (by decide)⟩
  have ec : goH hs n b (pl q) = goH h' n b (pl q) := goH_cg ea (hpl q hq)
  rcases hg : goH hs n b (pl q) with _ | g0
  · obtain ⟨HC1, HR1, _⟩ := wj_th H; obtain ⟨o1, ho1⟩ := w_out H (frC_th τ); obtain ⟨th, m9, m10, m12, gr, ps2, HS⟩ := rw_rsB HR1 hok'
    obtain ⟨W2, c2, e2⟩ := w_end (τ2 := (mxWr (thT τ) 1075 (.inr (10, [.int (nI 2), .ref 1076, .int (nI L), .int ep, .ref 1077, .ref 1078, .ref 1079, .ref 1080, .ref 1081, .int m9, .int m10, .ref g2, .ref m12, .ref 1094, .ref 1095, .ref 1098])))) (frC_th τ) (frO_id _) (frR_M _ _) hN ho1 HC1 (rw_th HR1) hok ea el hb
    exact ⟨2, nI 0, thT τ, _, lx_hop0 hX hN (by decide) (fun {Q} => q_hop0 HB (by decide) hq hg), r_hop0 (d := 199) (g0 := 0) HS (by decide) hq (ec.symm.trans hg), ⟨⟨z, hX⟩, hN, rw_M HR1, Nat.le_trans hN (frC_th τ).2.1, kq (frC_th τ) (frO_id _)⟩, W2, c2, ⟨_, wr_s _ _ _⟩, by decide, o1, e2, fun h => absurd h (by decide)⟩
  · have hlt : g0 < n := goH_lt (hpl q hq) hg
    have hps : ∀ z, z < P → va_up ps q (nI g0) z = nI (va_up pl q g0 z) := fun z hz => by
      by_cases k : z = q
      · rw [k, va_up_self, va_up_self]
      · rw [va_up_ne _ _ k, va_up_ne _ _ k]
        exact HB.2.2.2.2.1 z hz
    have HC0 := cw_sky (ls' := ls) (dy' := dy) (co' := co) (pl' := va_up pl q g0) HC HB.2.2.2.1 hps
    have hf := frC_skW (τ := τ) (hs := hs) (tl := tl) (tr := tr) (ws := ws) (sn := sn) (ps := va_up ps q (nI g0)) (ls := ls) (tc := nI n) (pc := nI P) (dn := dy) (co := co) (rn := rn) (wc := wc) (sl := sl) (sr := sr)
    have eq := fun (Q : Option Value ⊕ Nat → mxS → Prop) => q_hop1 (d := 199 - 1) (b := b) HB (by decide) (by decide) hq hg (Q := Q)
    generalize hS1 : skW τ 1035 hs tl tr ws sn (va_up ps q (nI g0)) ls (nI n) (nI P) dy co rn wc sl sr = τ1 at *
    obtain ⟨o1, ho1⟩ := w_out H hf
    have hN1 : 102 ≤ τ1.2.1 := Nat.le_trans hN hf.2.1
    obtain ⟨HC1, HR1⟩ := w_mid H hf HC0 (frO_w τ1 (nI g0).toInt64 o1)
    obtain ⟨th, m9, m10, m12, gr, ps2, HS⟩ := rw_rsB HR1 hok'
    have hps2 : ∀ z, z < P → va_up ps2 q (nI g0) z = nI (va_up pl q g0 z) := fun z hz => by
      by_cases k : z = q
      · rw [k, va_up_self, va_up_self]
      · rw [va_up_ne _ _ k, va_up_ne _ _ k]
        exact HS.2.2.2.2.2.1 z hz
    have HR2 := rw_st (dy' := dy) (dn' := co) (h' := h') (rw_th (th := nI 0) (m9 := m9) (m10 := m10) (m12 := m12) HR1) hps2
    obtain ⟨k1, k2, k3, k4, k5, k6, k7⟩ := id hok
    obtain ⟨W2, c2, e2⟩ := w_end hf (frO_w τ1 (nI g0).toInt64 o1) frR_st hN (wr_s _ _ _) HC1 HR2 ⟨k1, k2, k3, k4, k5, k6, pl_up k7 hlt⟩ ea el hb
    exact ⟨0, nI g0, outW τ1 (nI g0).toInt64 o1, _, lw_hop hX hN ho1 hN1 (by decide) (fun {Q} => eq Q), r_hop1 (d := 199) HS (by decide) hq hlt (ec.symm.trans hg), ⟨⟨z, hX⟩, hN, rw_M HR1, hN1, kq hf (frO_w τ1 _ _)⟩, W2, c2, ⟨_, (st_o _ _ _ _ _ _ _ (by decide)).trans (wr_s _ _ _)⟩, by decide, _, e2, fun _ => va_up_self _ _ _⟩
theorem pb_glide (y b : Int32) {τ : mxS} {L : Nat} {bs tb : Nat → Int32} {ep : Int32} {g pb g2 : Nat} {n P O T : Nat} {K A B : Nat → Nat} {od : ODT} {hs : Nat → Int32} {pl : Nat → Nat} {ls : Nat → Int32} {dy co : Int32} {h' ls' : Nat → Int32} (H : WJ τ L bs tb ep g pb g2 n P O T K A B od hs pl ls dy co h' ls') : PBr false 2574 [some (.ref 1000), some (.int y), some (.int b), some (.ref 1101), none] 1611 [some (.ref 1075), some (.int y), some (.int b)] τ := by
  obtain ⟨HC, HR, hok, ea, el, hb, o, ho⟩ := id H; obtain ⟨hok', hr, h0, hn, hP, hpl, hO, hw⟩ := w_R H; obtain ⟨tl, tr, ws, sn, ps, rn, wc, sl, sr, HB⟩ := cw_csB HC hok; obtain ⟨z, hX⟩ := w_X H; have hN := w_N H
  rcases in_or P y (by omega) with hy | ⟨q, hq, rfl⟩
  · obtain ⟨HC1, HR1, _⟩ := wj_th H; obtain ⟨o1, ho1⟩ := w_out H (frC_th τ); obtain ⟨th, m9, m10, m12, gr, ps2, HS⟩ := rw_rsB HR1 hok'
    obtain ⟨W2, c2, e2⟩ := w_end (τ2 := (mxWr (thT τ) 1075 (.inr (10, [.int (nI 1), .ref 1076, .int (nI L), .int ep, .ref 1077, .ref 1078, .ref 1079, .ref 1080, .ref 1081, .int m9, .int m10, .ref g2, .ref m12, .ref 1094, .ref 1095, .ref 1098])))) (frC_th τ) (frO_id _) (frR_M _ _) hN ho1 HC1 (rw_th HR1) hok ea el hb
    exact ⟨1, nI 0, thT τ, _, lx_glide2 hX hN (by decide) (fun {Q} => n_glide HB (by decide) hy), u_glide HS (by decide) hy, ⟨⟨z, hX⟩, hN, rw_M HR1, Nat.le_trans hN (frC_th τ).2.1, kq (frC_th τ) (frO_id _)⟩, W2, c2, ⟨_, wr_s _ _ _⟩, by decide, o1, e2, fun h => absurd h (by decide)⟩
  have ec : glS hs n b (pl q) = glS h' n b (pl q) := glS_cg ea (hpl q hq)
  rcases hg : glS hs n b (pl q) with _ | g0
  · obtain ⟨HC1, HR1, _⟩ := wj_th H; obtain ⟨o1, ho1⟩ := w_out H (frC_th τ); obtain ⟨th, m9, m10, m12, gr, ps2, HS⟩ := rw_rsB HR1 hok'
    obtain ⟨W2, c2, e2⟩ := w_end (τ2 := (mxWr (thT τ) 1075 (.inr (10, [.int (nI 2), .ref 1076, .int (nI L), .int ep, .ref 1077, .ref 1078, .ref 1079, .ref 1080, .ref 1081, .int m9, .int m10, .ref g2, .ref m12, .ref 1094, .ref 1095, .ref 1098])))) (frC_th τ) (frO_id _) (frR_M _ _) hN ho1 HC1 (rw_th HR1) hok ea el hb
    exact ⟨2, nI 0, thT τ, _, lx_glide0 hX hN (by decide) (fun {Q} => q_glide0 HB (by decide) hq hg), r_glide0 (d := 199) (g0 := 0) HS (by decide) hq (ec.symm.trans hg), ⟨⟨z, hX⟩, hN, rw_M HR1, Nat.le_trans hN (frC_th τ).2.1, kq (frC_th τ) (frO_id _)⟩, W2, c2, ⟨_, wr_s _ _ _⟩, by decide, o1, e2, fun h => absurd h (by decide)⟩
  · have hlt : g0 < n := glS_lt (hpl q hq) hg
    have hps : ∀ z, z < P → va_up ps q (nI g0) z = nI (va_up pl q g0 z) := fun z hz => by
      by_cases k : z = q
      · rw [k, va_up_self, va_up_self]
      · rw [va_up_ne _ _ k, va_up_ne _ _ k]
        exact HB.2.2.2.2.1 z hz
    have HC0 := cw_sky (ls' := ls) (dy' := dy) (co' := co) (pl' := va_up pl q g0) HC HB.2.2.2.1 hps
    have hf := frC_skW (τ := τ) (hs := hs) (tl := tl) (tr := tr) (ws := ws) (sn := sn) (ps := va_up ps q (nI g0)) (ls := ls) (tc := nI n) (pc := nI P) (dn := dy) (co := co) (rn := rn) (wc := wc) (sl := sl) (sr := sr)
    have eq := fun (Q : Option Value ⊕ Nat → mxS → Prop) => q_glide1 (d := 199 - 1) (b := b) HB (by decide) (by decide) hq hg (Q := Q)
    generalize hS1 : skW τ 1035 hs tl tr ws sn (va_up ps q (nI g0)) ls (nI n) (nI P) dy co rn wc sl sr = τ1 at *
    obtain ⟨o1, ho1⟩ := w_out H hf
    have hN1 : 102 ≤ τ1.2.1 := Nat.le_trans hN hf.2.1
    obtain ⟨HC1, HR1⟩ := w_mid H hf HC0 (frO_w τ1 (nI g0).toInt64 o1)
    obtain ⟨th, m9, m10, m12, gr, ps2, HS⟩ := rw_rsB HR1 hok'
    have hps2 : ∀ z, z < P → va_up ps2 q (nI g0) z = nI (va_up pl q g0 z) := fun z hz => by
      by_cases k : z = q
      · rw [k, va_up_self, va_up_self]
      · rw [va_up_ne _ _ k, va_up_ne _ _ k]
        exact HS.2.2.2.2.2.1 z hz
    have HR2 := rw_st (dy' := dy) (dn' := co) (h' := h') (rw_th (th := nI 0) (m9 := m9) (m10 := m10) (m12 := m12) HR1) hps2
    obtain ⟨k1, k2, k3, k4, k5, k6, k7⟩ := id hok
    obtain ⟨W2, c2, e2⟩ := w_end hf (frO_w τ1 (nI g0).toInt64 o1) frR_st hN (wr_s _ _ _) HC1 HR2 ⟨k1, k2, k3, k4, k5, k6, pl_up k7 hlt⟩ ea el hb
    exact ⟨0, nI g0, outW τ1 (nI g0).toInt64 o1, _, lw_glide hX hN ho1 hN1 (by decide) (fun {Q} => eq Q), r_glide1 (d := 199) HS (by decide) hq hlt (ec.symm.trans hg), ⟨⟨z, hX⟩, hN, rw_M HR1, hN1, kq hf (frO_w τ1 _ _)⟩, W2, c2, ⟨_, (st_o _ _ _ _ _ _ _ (by decide)).trans (wr_s _ _ _)⟩, by decide, _, e2, fun _ => va_up_self _ _ _⟩
theorem pb_build (y : Int32) {τ : mxS} {L : Nat} {bs tb : Nat → Int32} {ep : Int32} {g pb g2 : Nat} {n P O T : Nat} {K A B : Nat → Nat} {od : ODT} {hs : Nat → Int32} {pl : Nat → Nat} {ls : Nat → Int32} {dy co : Int32} {h' ls' : Nat → Int32} (H : WJ τ L bs tb ep g pb g2 n P O T K A B od hs pl ls dy co h' ls') : PBr false 2575 [some (.ref 1000), some (.int y), some (.ref 1101), none] 1613 [some (.ref 1075), some (.int y)] τ := by
  obtain ⟨HC, HR, hok, ea, el, hb, o, ho⟩ := id H; obtain ⟨hok', hr, h0, hn, hP, hpl, hO, hw⟩ := w_R H; obtain ⟨tl, tr, ws, sn, ps, rn, wc, sl, sr, HB⟩ := cw_csB HC hok; obtain ⟨z, hX⟩ := w_X H; have hN := w_N H
  rcases in_or n y (by omega) with hy | ⟨t0, ht, rfl⟩
  · obtain ⟨HC1, HR1, _⟩ := wj_th H; obtain ⟨o1, ho1⟩ := w_out H (frC_th τ); obtain ⟨th, m9, m10, m12, gr, ps2, HS⟩ := rw_rsB HR1 hok'
    obtain ⟨W2, c2, e2⟩ := w_end (τ2 := (mxWr (thT τ) 1075 (.inr (10, [.int (nI 1), .ref 1076, .int (nI L), .int ep, .ref 1077, .ref 1078, .ref 1079, .ref 1080, .ref 1081, .int m9, .int m10, .ref g2, .ref m12, .ref 1094, .ref 1095, .ref 1098])))) (frC_th τ) (frO_id _) (frR_M _ _) hN ho1 HC1 (rw_th HR1) hok ea el hb
    exact ⟨1, nI 0, thT τ, _, lx_build2 hX hN (by decide) (fun {Q} => n_build HB (by decide) hy), u_build HS (by decide) hy, ⟨⟨z, hX⟩, hN, rw_M HR1, Nat.le_trans hN (frC_th τ).2.1, kq (frC_th τ) (frO_id _)⟩, W2, c2, ⟨_, wr_s _ _ _⟩, by decide, o1, e2, fun h => absurd h (by decide)⟩
  obtain ⟨v, hv, ev⟩ := hr t0 ht
  have ev' : h' t0 = nI v := (ea t0 ht).symm.trans ev
  obtain ⟨c1, c2', c3⟩ := cb6 hv
  by_cases hg : ccS (nI 6) (nI v) = nI 0
  · obtain ⟨HC1, HR1, _⟩ := wj_th H; obtain ⟨o1, ho1⟩ := w_out H (frC_th τ); obtain ⟨th, m9, m10, m12, gr, ps2, HS⟩ := rw_rsB HR1 hok'
    obtain ⟨W2, c2, e2⟩ := w_end (τ2 := (mxWr (thT τ) 1075 (.inr (10, [.int (nI 2), .ref 1076, .int (nI L), .int ep, .ref 1077, .ref 1078, .ref 1079, .ref 1080, .ref 1081, .int m9, .int m10, .ref g2, .ref m12, .ref 1094, .ref 1095, .ref 1098])))) (frC_th τ) (frO_id _) (frR_M _ _) hN ho1 HC1 (rw_th HR1) hok ea el hb
    exact ⟨2, nI 0, thT τ, _, lx_build0 hX hN (by decide) (fun {Q} => q_build0 HB (by decide) ht (by rw [ev]; exact c1.mp hg)), r_build0 (d := 199) HS (by decide) ht (by rw [ev']; exact hg), ⟨⟨z, hX⟩, hN, rw_M HR1, Nat.le_trans hN (frC_th τ).2.1, kq (frC_th τ) (frO_id _)⟩, W2, c2, ⟨_, wr_s _ _ _⟩, by decide, o1, e2, fun h => absurd h (by decide)⟩
  · obtain ⟨w, hw20, ew⟩ := c3 hg
    have ew' : hs t0 + nI 1 = nI w := by rw [ev, ← c2', ew]
    have ew2 : chS (nI 6) (h' t0) = nI w := by rw [ev', ew]
    have eq := fun (Q : Option Value ⊕ Nat → mxS → Prop) => q_build1 (d := 199 - 1) HB (by decide) (by decide) ht (by rw [ev]; exact fun z => hg (c1.mpr z)) (Q := Q)
    rw [ew'] at eq
    have HC0 := cw_sky (hs' := va_up hs t0 (nI w)) (tl' := (upto n (tlS (va_up hs t0 (nI w))) tl)) (tr' := (upto n (trS (va_up hs t0 (nI w)) n) tr)) (ws' := (upto n (waS (va_up hs t0 (nI w)) n) (upto n (mL (va_up hs t0 (nI w))) ws))) (sn' := (upto n (snS (va_up hs t0 (nI w))) sn)) (ls' := ls) (dy' := dy) (co' := co) (pl' := pl) HC ⟨fun t ht => ⟨upto_lt _ _ ht, upto_lt _ _ ht, upto_lt _ _ ht, upto_lt _ _ ht⟩, raS_all _ _, rfl, rfl, rfl⟩ HB.2.2.2.2.1
    have hf := frC_skW (τ := τ) (hs := va_up hs t0 (nI w)) (tl := (upto n (tlS (va_up hs t0 (nI w))) tl)) (tr := (upto n (trS (va_up hs t0 (nI w)) n) tr)) (ws := (upto n (waS (va_up hs t0 (nI w)) n) (upto n (mL (va_up hs t0 (nI w))) ws))) (sn := (upto n (snS (va_up hs t0 (nI w))) sn)) (ps := ps) (ls := ls) (tc := nI n) (pc := nI P) (dn := dy) (co := co) (rn := raS (va_up hs t0 (nI w)) n n) (wc := wcS (va_up hs t0 (nI w)) n n) (sl := cL (va_up hs t0 (nI w)) n) (sr := cR (va_up hs t0 (nI w)) n n)
    generalize hS1 : skW τ 1035 (va_up hs t0 (nI w)) (upto n (tlS (va_up hs t0 (nI w))) tl) (upto n (trS (va_up hs t0 (nI w)) n) tr) (upto n (waS (va_up hs t0 (nI w)) n) (upto n (mL (va_up hs t0 (nI w))) ws)) (upto n (snS (va_up hs t0 (nI w))) sn) ps ls (nI n) (nI P) dy co (raS (va_up hs t0 (nI w)) n n) (wcS (va_up hs t0 (nI w)) n n) (cL (va_up hs t0 (nI w)) n) (cR (va_up hs t0 (nI w)) n n) = τ1 at *
    obtain ⟨o1, ho1⟩ := w_out H hf
    have hN1 : 102 ≤ τ1.2.1 := Nat.le_trans hN hf.2.1
    obtain ⟨HC1, HR1⟩ := w_mid H hf HC0 (frO_w τ1 (suS (waS (va_up hs t0 (nI w)) n) n).toInt64 o1)
    obtain ⟨th, m9, m10, m12, gr, ps2, HS⟩ := rw_rsB HR1 hok'
    have HR2 := rw_st (dy' := dy) (dn' := co) (h' := va_up h' t0 (nI w)) (rw_th (th := nI 0) (m9 := m9) (m10 := m10) (m12 := m12) HR1) HS.2.2.2.2.2.1
    obtain ⟨k1, k2, k3, k4, k5, k6, k7⟩ := id hok
    obtain ⟨W2, c2, e2⟩ := w_end hf (frO_w τ1 (suS (waS (va_up hs t0 (nI w)) n) n).toInt64 o1) frR_st hN (wr_s _ _ _) HC1 HR2 ⟨k1, k2, k3, k4, k5, hR_up k6 hw20, k7⟩ (ag_up ea) el hb
    have er := fun (Q : Option Value ⊕ Nat → mxS → Prop) => r_build1 (d := 199) HS (by decide) ht (by rw [ev']; exact hg) (Q := Q)
    rw [ew2] at er
    have evv : suS (waS (va_up hs t0 (nI w)) n) n = suS (waS (va_up h' t0 (nI w)) n) n := suS_cg (waS_cg (ag_up ea))
    exact ⟨0, suS (waS (va_up hs t0 (nI w)) n) n, outW τ1 (suS (waS (va_up hs t0 (nI w)) n) n).toInt64 o1, _, lw_build hX hN ho1 hN1 (by decide) (fun {Q} => eq Q), fun {Q} => (er Q).trans (congrArg (fun (x : Int32) => Q (.inl (some (.int x))) _) evv.symm), ⟨⟨z, hX⟩, hN, rw_M HR1, hN1, kq hf (frO_w τ1 _ _)⟩, W2, c2, ⟨_, (st_o _ _ _ _ _ _ _ (by decide)).trans (wr_s _ _ _)⟩, by decide, _, e2, fun _ => va_up_self _ _ _⟩
theorem pb_wear (y : Int32) {τ : mxS} {L : Nat} {bs tb : Nat → Int32} {ep : Int32} {g pb g2 : Nat} {n P O T : Nat} {K A B : Nat → Nat} {od : ODT} {hs : Nat → Int32} {pl : Nat → Nat} {ls : Nat → Int32} {dy co : Int32} {h' ls' : Nat → Int32} (H : WJ τ L bs tb ep g pb g2 n P O T K A B od hs pl ls dy co h' ls') : PBr false 2576 [some (.ref 1000), some (.int y), some (.ref 1101), none] 1614 [some (.ref 1075), some (.int y)] τ := by
  obtain ⟨HC, HR, hok, ea, el, hb, o, ho⟩ := id H; obtain ⟨hok', hr, h0, hn, hP, hpl, hO, hw⟩ := w_R H; obtain ⟨tl, tr, ws, sn, ps, rn, wc, sl, sr, HB⟩ := cw_csB HC hok; obtain ⟨z, hX⟩ := w_X H; have hN := w_N H
  rcases in_or n y (by omega) with hy | ⟨t0, ht, rfl⟩
  · obtain ⟨HC1, HR1, _⟩ := wj_th H; obtain ⟨o1, ho1⟩ := w_out H (frC_th τ); obtain ⟨th, m9, m10, m12, gr, ps2, HS⟩ := rw_rsB HR1 hok'
    obtain ⟨W2, c2, e2⟩ := w_end (τ2 := (mxWr (thT τ) 1075 (.inr (10, [.int (nI 1), .ref 1076, .int (nI L), .int ep, .ref 1077, .ref 1078, .ref 1079, .ref 1080, .ref 1081, .int m9, .int m10, .ref g2, .ref m12, .ref 1094, .ref 1095, .ref 1098])))) (frC_th τ) (frO_id _) (frR_M _ _) hN ho1 HC1 (rw_th HR1) hok ea el hb
    exact ⟨1, nI 0, thT τ, _, lx_wear2 hX hN (by decide) (fun {Q} => n_wear HB (by decide) hy), u_wear HS (by decide) hy, ⟨⟨z, hX⟩, hN, rw_M HR1, Nat.le_trans hN (frC_th τ).2.1, kq (frC_th τ) (frO_id _)⟩, W2, c2, ⟨_, wr_s _ _ _⟩, by decide, o1, e2, fun h => absurd h (by decide)⟩
  obtain ⟨v, hv, ev⟩ := hr t0 ht
  have ev' : h' t0 = nI v := (ea t0 ht).symm.trans ev
  obtain ⟨c1, c2', c3⟩ := cb7 hv
  by_cases hg : ccS (nI 7) (nI v) = nI 0
  · obtain ⟨HC1, HR1, _⟩ := wj_th H; obtain ⟨o1, ho1⟩ := w_out H (frC_th τ); obtain ⟨th, m9, m10, m12, gr, ps2, HS⟩ := rw_rsB HR1 hok'
    obtain ⟨W2, c2, e2⟩ := w_end (τ2 := (mxWr (thT τ) 1075 (.inr (10, [.int (nI 2), .ref 1076, .int (nI L), .int ep, .ref 1077, .ref 1078, .ref 1079, .ref 1080, .ref 1081, .int m9, .int m10, .ref g2, .ref m12, .ref 1094, .ref 1095, .ref 1098])))) (frC_th τ) (frO_id _) (frR_M _ _) hN ho1 HC1 (rw_th HR1) hok ea el hb
    exact ⟨2, nI 0, thT τ, _, lx_wear0 hX hN (by decide) (fun {Q} => q_wear0 HB (by decide) ht (by rw [ev]; exact c1.mp hg)), r_wear0 (d := 199) HS (by decide) ht (by rw [ev']; exact hg), ⟨⟨z, hX⟩, hN, rw_M HR1, Nat.le_trans hN (frC_th τ).2.1, kq (frC_th τ) (frO_id _)⟩, W2, c2, ⟨_, wr_s _ _ _⟩, by decide, o1, e2, fun h => absurd h (by decide)⟩
  · obtain ⟨w, hw20, ew⟩ := c3 hg
    have ew' : hs t0 + -1 = nI w := by rw [ev, ← c2', ew]
    have ew2 : chS (nI 7) (h' t0) = nI w := by rw [ev', ew]
    have eq := fun (Q : Option Value ⊕ Nat → mxS → Prop) => q_wear1 (d := 199 - 1) HB (by decide) (by decide) ht (by rw [ev]; exact fun z => hg (c1.mpr z)) (Q := Q)
    rw [ew'] at eq
    have HC0 := cw_sky (hs' := va_up hs t0 (nI w)) (tl' := (upto n (tlS (va_up hs t0 (nI w))) tl)) (tr' := (upto n (trS (va_up hs t0 (nI w)) n) tr)) (ws' := (upto n (waS (va_up hs t0 (nI w)) n) (upto n (mL (va_up hs t0 (nI w))) ws))) (sn' := (upto n (snS (va_up hs t0 (nI w))) sn)) (ls' := ls) (dy' := dy) (co' := co) (pl' := pl) HC ⟨fun t ht => ⟨upto_lt _ _ ht, upto_lt _ _ ht, upto_lt _ _ ht, upto_lt _ _ ht⟩, raS_all _ _, rfl, rfl, rfl⟩ HB.2.2.2.2.1
    have hf := frC_skW (τ := τ) (hs := va_up hs t0 (nI w)) (tl := (upto n (tlS (va_up hs t0 (nI w))) tl)) (tr := (upto n (trS (va_up hs t0 (nI w)) n) tr)) (ws := (upto n (waS (va_up hs t0 (nI w)) n) (upto n (mL (va_up hs t0 (nI w))) ws))) (sn := (upto n (snS (va_up hs t0 (nI w))) sn)) (ps := ps) (ls := ls) (tc := nI n) (pc := nI P) (dn := dy) (co := co) (rn := raS (va_up hs t0 (nI w)) n n) (wc := wcS (va_up hs t0 (nI w)) n n) (sl := cL (va_up hs t0 (nI w)) n) (sr := cR (va_up hs t0 (nI w)) n n)
    generalize hS1 : skW τ 1035 (va_up hs t0 (nI w)) (upto n (tlS (va_up hs t0 (nI w))) tl) (upto n (trS (va_up hs t0 (nI w)) n) tr) (upto n (waS (va_up hs t0 (nI w)) n) (upto n (mL (va_up hs t0 (nI w))) ws)) (upto n (snS (va_up hs t0 (nI w))) sn) ps ls (nI n) (nI P) dy co (raS (va_up hs t0 (nI w)) n n) (wcS (va_up hs t0 (nI w)) n n) (cL (va_up hs t0 (nI w)) n) (cR (va_up hs t0 (nI w)) n n) = τ1 at *
    obtain ⟨o1, ho1⟩ := w_out H hf
    have hN1 : 102 ≤ τ1.2.1 := Nat.le_trans hN hf.2.1
    obtain ⟨HC1, HR1⟩ := w_mid H hf HC0 (frO_w τ1 (suS (waS (va_up hs t0 (nI w)) n) n).toInt64 o1)
    obtain ⟨th, m9, m10, m12, gr, ps2, HS⟩ := rw_rsB HR1 hok'
    have HR2 := rw_st (dy' := dy) (dn' := co) (h' := va_up h' t0 (nI w)) (rw_th (th := nI 0) (m9 := m9) (m10 := m10) (m12 := m12) HR1) HS.2.2.2.2.2.1
    obtain ⟨k1, k2, k3, k4, k5, k6, k7⟩ := id hok
    obtain ⟨W2, c2, e2⟩ := w_end hf (frO_w τ1 (suS (waS (va_up hs t0 (nI w)) n) n).toInt64 o1) frR_st hN (wr_s _ _ _) HC1 HR2 ⟨k1, k2, k3, k4, k5, hR_up k6 hw20, k7⟩ (ag_up ea) el hb
    have er := fun (Q : Option Value ⊕ Nat → mxS → Prop) => r_wear1 (d := 199) HS (by decide) ht (by rw [ev']; exact hg) (Q := Q)
    rw [ew2] at er
    have evv : suS (waS (va_up hs t0 (nI w)) n) n = suS (waS (va_up h' t0 (nI w)) n) n := suS_cg (waS_cg (ag_up ea))
    exact ⟨0, suS (waS (va_up hs t0 (nI w)) n) n, outW τ1 (suS (waS (va_up hs t0 (nI w)) n) n).toInt64 o1, _, lw_wear hX hN ho1 hN1 (by decide) (fun {Q} => eq Q), fun {Q} => (er Q).trans (congrArg (fun (x : Int32) => Q (.inl (some (.int x))) _) evv.symm), ⟨⟨z, hX⟩, hN, rw_M HR1, hN1, kq hf (frO_w τ1 _ _)⟩, W2, c2, ⟨_, (st_o _ _ _ _ _ _ _ (by decide)).trans (wr_s _ _ _)⟩, by decide, _, e2, fun _ => va_up_self _ _ _⟩
