/-! ===== calls through the law's methods: days ===== -/

theorem frR_day {τ τ' : mxS} {e : mxC} {s n P : Nat} {h : Nat → Int32} {pl : Nat → Nat} {dy dn : Int32} (hs : s = 1095 ∨ s = 1098) (hf : rfS (mxWr τ 1075 e) s 1094 1075 n P h pl dy dn τ') : frR τ τ' := frR_fS hs hf ⟨fun a x => wr_o _ _ (by omega), rfl⟩
theorem rf_M {τ τ' : mxS} {e : mxC} {s n P : Nat} {h : Nat → Int32} {pl : Nat → Nat} {dy dn : Int32} (hs : s = 1095 ∨ s = 1098) (hf : rfS (mxWr τ 1075 e) s 1094 1075 n P h pl dy dn τ') : τ'.1 1075 = e := (fS_o hf (by omega) (by decide)).trans (wr_s _ _ _)
theorem pb_passDays (y : Int32) {τ : mxS} {L : Nat} {bs tb : Nat → Int32} {ep : Int32} {g pb g2 : Nat} {n P O T : Nat} {K A B : Nat → Nat} {od : ODT} {hs : Nat → Int32} {pl : Nat → Nat} {ls : Nat → Int32} {dy co : Int32} {h' ls' : Nat → Int32} (H : WJ τ L bs tb ep g pb g2 n P O T K A B od hs pl ls dy co h' ls') : PBr false 2577 [some (.ref 1000), some (.int y), some (.ref 1101), none] 1615 [some (.ref 1075), some (.int y), none] τ := by
  obtain ⟨HC, HR, hok, ea, el, hb, o, ho⟩ := id H; obtain ⟨hok', hr, h0, hn, hP, hpl, hO, hw⟩ := w_R H; obtain ⟨tl, tr, ws, sn, ps, rn, wc, sl, sr, HB⟩ := cw_csB HC hok; obtain ⟨z, hX⟩ := w_X H; have hN := w_N H
  have u0 : 1000 ≤ 1000 ∧ 1000 < 1000 + τ.2.1 := by omega
  rcases in_dy y with hy | ⟨D, hD1, hD, rfl⟩
  · obtain ⟨HC1, HR1, _⟩ := wj_th H; obtain ⟨o1, ho1⟩ := w_out H (frC_th τ); obtain ⟨th, m9, m10, m12, gr, ps2, HS⟩ := rw_rsB HR1 hok'
    obtain ⟨W2, c2, e2⟩ := w_end (τ2 := (mxWr (thT τ) 1075 (.inr (10, [.int (nI 1), .ref 1076, .int (nI L), .int ep, .ref 1077, .ref 1078, .ref 1079, .ref 1080, .ref 1081, .int m9, .int m10, .ref g2, .ref m12, .ref 1094, .ref 1095, .ref 1098])))) (frC_th τ) (frO_id _) (frR_M _ _) hN ho1 HC1 (rw_th HR1) hok ea el hb
    exact ⟨1, nI 0, thT τ, _, lx_passDays1 hX hN (by decide) (fun {Q} => n_passDays u0 ⟨_, hX⟩ (by decide) hy), u_passDays HS (by decide) hy, ⟨⟨z, hX⟩, hN, rw_M HR1, Nat.le_trans hN (frC_th τ).2.1, kq (frC_th τ) (frO_id _)⟩, W2, c2, ⟨_, wr_s _ _ _⟩, by decide, o1, e2, fun h => absurd h (by decide)⟩
  obtain ⟨L0, xs, cK⟩ : ∃ L0 xs, ∀ a, a < 1000 → τ.1 a = mxkon L0 xs a := by
    obtain ⟨⟨_, _, _, L0, xs, cK⟩, _⟩ := id HC
    exact ⟨L0, xs, cK⟩
  obtain ⟨hplc, ug⟩ := cw_plC HC hO (.inl rfl)
  obtain ⟨τ1, hS, hq⟩ := q_passDays (d := 199 - 1) HB (cw_csT HC) hO hw hr cK ug hplc (by decide) hD1 hD
  have hf := frC_sk (.inl rfl) hS
  have HC0 := cw_skS HC hS
  obtain ⟨o1, ho1⟩ := w_out H hf
  have hN1 : 102 ≤ τ1.2.1 := Nat.le_trans hN hf.2.1
  obtain ⟨a1, a2, a3⟩ := itD_cg (P := P) (od := od) (K := K) (A := A) (B := B) el h0 hn hw D hs h' pl pl dy co ea (fun _ _ => rfl) hpl hr
  obtain ⟨b1, b2⟩ := itD_ok (P := P) (ls := ls) (od := od) (K := K) (A := A) (B := B) h0 hw D hs pl dy co hpl hr
  generalize itD n P O ls K A B od D hs pl dy co = R at *
  obtain ⟨HC1, HR1⟩ := w_mid H hf HC0 (frO_w τ1 (R.2.2.2 - co).toInt64 o1)
  obtain ⟨th, m9, m10, m12, gr, ps2, HS⟩ := rw_rsB HR1 hok'
  obtain ⟨_, _, _, _, _, ⟨ks, cks⟩, _⟩ := id HR1
  obtain ⟨pos, hpr⟩ := rw_plR (s := 1095) HR1 (.inl rfl)
  obtain ⟨τ2, hF, he⟩ := r_passDays (d := 199) HS hO hw hok'.2.2.2.2.2.1 (by decide) (show 1094 < 1000 + τ1.2.1 by omega) cks (by decide) hpr (by decide) (by decide) hD1 hD
  have HR2 := rw_fS (rw_th (th := nI 0) (m9 := m9) (m10 := m10) (m12 := m12) HR1) hF
  have hM2 := rf_M (.inl rfl) hF
  have hfr := frR_day (.inl rfl) hF
  rw [← a3] at he HR2
  have HR3 := rw_pl HR2 a2
  obtain ⟨k1, k2, k3, k4, k5, k6, k7⟩ := id hok
  obtain ⟨W2, c2, e2⟩ := w_end hf (frO_w τ1 (R.2.2.2 - co).toInt64 o1) hfr hN (wr_s _ _ _) HC1 HR3 ⟨k1, k2, k3, k4, k5, b1, b2⟩ a1 el hb
  exact ⟨0, R.2.2.2 - co, outW τ1 (R.2.2.2 - co).toInt64 o1, τ2, lw_passDays hX hN ho1 hN1 (by decide) (fun {Q} => hq), he, ⟨⟨z, hX⟩, hN, rw_M HR1, hN1, kq hf (frO_w τ1 _ _)⟩, W2, c2, ⟨_, hM2⟩, by decide, _, e2, fun _ => va_up_self _ _ _⟩
theorem pb_trappedAfter (y : Int32) {τ : mxS} {L : Nat} {bs tb : Nat → Int32} {ep : Int32} {g pb g2 : Nat} {n P O T : Nat} {K A B : Nat → Nat} {od : ODT} {hs : Nat → Int32} {pl : Nat → Nat} {ls : Nat → Int32} {dy co : Int32} {h' ls' : Nat → Int32} (H : WJ τ L bs tb ep g pb g2 n P O T K A B od hs pl ls dy co h' ls') : PBr false 2578 [some (.ref 1000), some (.int y), some (.ref 1101), none] 1616 [some (.ref 1075), some (.int y)] τ := by
  obtain ⟨HC, HR, hok, ea, el, hb, o, ho⟩ := id H; obtain ⟨hok', hr, h0, hn, hP, hpl, hO, hw⟩ := w_R H; obtain ⟨tl, tr, ws, sn, ps, rn, wc, sl, sr, HB⟩ := cw_csB HC hok; obtain ⟨z, hX⟩ := w_X H; have hN := w_N H
  have u0 : 1000 ≤ 1000 ∧ 1000 < 1000 + τ.2.1 := by omega
  rcases in_dy y with hy | ⟨D, hD1, hD, rfl⟩
  · obtain ⟨HC1, HR1, _⟩ := wj_th H; obtain ⟨o1, ho1⟩ := w_out H (frC_th τ); obtain ⟨th, m9, m10, m12, gr, ps2, HS⟩ := rw_rsB HR1 hok'
    obtain ⟨W2, c2, e2⟩ := w_end (τ2 := (mxWr (thT τ) 1075 (.inr (10, [.int (nI 1), .ref 1076, .int (nI L), .int ep, .ref 1077, .ref 1078, .ref 1079, .ref 1080, .ref 1081, .int m9, .int m10, .ref g2, .ref m12, .ref 1094, .ref 1095, .ref 1098])))) (frC_th τ) (frO_id _) (frR_M _ _) hN ho1 HC1 (rw_th HR1) hok ea el hb
    exact ⟨1, nI 0, thT τ, _, lx_trappedAfter1 hX hN (by decide) (fun {Q} => n_trappedAfter u0 ⟨_, hX⟩ (by decide) hy), u_trappedAfter HS (by decide) hy, ⟨⟨z, hX⟩, hN, rw_M HR1, Nat.le_trans hN (frC_th τ).2.1, kq (frC_th τ) (frO_id _)⟩, W2, c2, ⟨_, wr_s _ _ _⟩, by decide, o1, e2, fun h => absurd h (by decide)⟩
  obtain ⟨L0, xs, cK⟩ : ∃ L0 xs, ∀ a, a < 1000 → τ.1 a = mxkon L0 xs a := by
    obtain ⟨⟨_, _, _, L0, xs, cK⟩, _⟩ := id HC
    exact ⟨L0, xs, cK⟩
  obtain ⟨hplc, ug⟩ := cw_plC HC hO (.inr rfl)
  have ev : suS (waS (itD n P O ls K A B od D hs pl dy co).1 n) n = suS (waS (itD n P O ls' K A B od D h' pl dy co).1 n) n := suS_cg (waS_cg (itD_cg el h0 hn hw D hs h' pl pl dy co ea (fun _ _ => rfl) hpl hr).1)
  obtain ⟨_, _, _, _, _, τ1, hS, hq⟩ := q_trappedAfter (d := 199 - 1) HB (cw_csT HC) hO hw hr cK ug hplc (by decide) hD1 hD
  have hf := frC_sk (.inr rfl) hS
  have HC0 := cw_tri HC hS
  obtain ⟨o1, ho1⟩ := w_out H hf
  have hN1 : 102 ≤ τ1.2.1 := Nat.le_trans hN hf.2.1
  obtain ⟨HC1, HR1⟩ := w_mid H hf HC0 (frO_w τ1 (suS (waS (itD n P O ls K A B od D hs pl dy co).1 n) n).toInt64 o1)
  obtain ⟨th, m9, m10, m12, gr, ps2, HS⟩ := rw_rsB HR1 hok'
  obtain ⟨_, _, _, _, _, ⟨ks, cks⟩, _, ⟨hO', pO, dO, eO, cOt⟩⟩ := id HR1
  obtain ⟨pos, hpr⟩ := rw_plR (s := 1098) HR1 (.inr rfl)
  obtain ⟨⟨_, _, cg1, cg2, _⟩, _⟩ := id HR1
  obtain ⟨_, _, _, _, τ2, hF, he⟩ := r_trappedAfter (d := 199) HS hO hw hok'.2.2.2.2.2.1 (by decide) (show 1094 < 1000 + τ1.2.1 by omega) cks (by decide) (by decide) (show 1098 + 3 ≤ 1000 + τ1.2.1 by omega) (.inl (by decide)) (by decide) (onB_ov cOt) (by decide) hpr (by omega) (by omega) (by decide) hD1 hD
  have hM2 := rf_M (.inr rfl) hF
  have HR2 := rw_fO (rw_th (th := nI 0) (m9 := m9) (m10 := m10) (m12 := m12) HR1) hF
  obtain ⟨W2, c2, e2⟩ := w_end hf (frO_w τ1 (suS (waS (itD n P O ls K A B od D hs pl dy co).1 n) n).toInt64 o1) (frR_day (.inr rfl) hF) hN (wr_s _ _ _) HC1 HR2 hok ea el hb
  exact ⟨0, suS (waS (itD n P O ls K A B od D hs pl dy co).1 n) n, outW τ1 (suS (waS (itD n P O ls K A B od D hs pl dy co).1 n) n).toInt64 o1, τ2, lw_trappedAfter hX hN ho1 hN1 (by decide) (fun {Q} => hq), fun {Q} => he.trans (congrArg (fun (x : Int32) => Q (.inl (some (.int x))) _) ev.symm), ⟨⟨z, hX⟩, hN, rw_M HR1, hN1, kq hf (frO_w τ1 _ _)⟩, W2, c2, ⟨_, hM2⟩, by decide, _, e2, fun _ => va_up_self _ _ _⟩
theorem pb_daysUntilHeard (y w : Int32) {τ : mxS} {L : Nat} {bs tb : Nat → Int32} {ep : Int32} {g pb g2 : Nat} {n P O T : Nat} {K A B : Nat → Nat} {od : ODT} {hs : Nat → Int32} {pl : Nat → Nat} {ls : Nat → Int32} {dy co : Int32} {h' ls' : Nat → Int32} (H : WJ τ L bs tb ep g pb g2 n P O T K A B od hs pl ls dy co h' ls') : PBr false 2579 [some (.ref 1000), some (.int y), some (.int w), some (.ref 1101), none] 1617 [some (.ref 1075), some (.int y), some (.int w)] τ := by
  obtain ⟨HC, HR, hok, ea, el, hb, o, ho⟩ := id H; obtain ⟨hok', hr, h0, hn, hP, hpl, hO, hw⟩ := w_R H; obtain ⟨tl, tr, ws, sn, ps, rn, wc, sl, sr, HB⟩ := cw_csB HC hok; obtain ⟨z, hX⟩ := w_X H; have hN := w_N H
  have u0 : 1000 ≤ 1000 ∧ 1000 < 1000 + τ.2.1 := by omega
  rcases in_or P y (by omega) with hy | ⟨t0, ht, rfl⟩
  · obtain ⟨HC1, HR1, _⟩ := wj_th H; obtain ⟨o1, ho1⟩ := w_out H (frC_th τ); obtain ⟨th, m9, m10, m12, gr, ps2, HS⟩ := rw_rsB HR1 hok'
    obtain ⟨W2, c2, e2⟩ := w_end (τ2 := (mxWr (thT τ) 1075 (.inr (10, [.int (nI 1), .ref 1076, .int (nI L), .int ep, .ref 1077, .ref 1078, .ref 1079, .ref 1080, .ref 1081, .int m9, .int m10, .ref g2, .ref m12, .ref 1094, .ref 1095, .ref 1098])))) (frC_th τ) (frO_id _) (frR_M _ _) hN ho1 HC1 (rw_th HR1) hok ea el hb
    exact ⟨1, nI 0, thT τ, _, lx_daysUntilHeard2 hX hN (by decide) (fun {Q} => n_daysUntilHeard HB (by decide) hy), u_daysUntilHeard HS (by decide) hy, ⟨⟨z, hX⟩, hN, rw_M HR1, Nat.le_trans hN (frC_th τ).2.1, kq (frC_th τ) (frO_id _)⟩, W2, c2, ⟨_, wr_s _ _ _⟩, by decide, o1, e2, fun h => absurd h (by decide)⟩
  rcases in_or P w (by omega) with hy | ⟨t1, ht1, rfl⟩
  · obtain ⟨HC1, HR1, _⟩ := wj_th H; obtain ⟨o1, ho1⟩ := w_out H (frC_th τ); obtain ⟨th, m9, m10, m12, gr, ps2, HS⟩ := rw_rsB HR1 hok'
    obtain ⟨W2, c2, e2⟩ := w_end (τ2 := (mxWr (thT τ) 1075 (.inr (10, [.int (nI 1), .ref 1076, .int (nI L), .int ep, .ref 1077, .ref 1078, .ref 1079, .ref 1080, .ref 1081, .int m9, .int m10, .ref g2, .ref m12, .ref 1094, .ref 1095, .ref 1098])))) (frC_th τ) (frO_id _) (frR_M _ _) hN ho1 HC1 (rw_th HR1) hok ea el hb
    exact ⟨1, nI 0, thT τ, _, lx_daysUntilHeard2 hX hN (by decide) (fun {Q} => n_daysUntilHeard2 HB (by decide) ht hy), u_daysUntilHeard2 HS (by decide) ht hy, ⟨⟨z, hX⟩, hN, rw_M HR1, Nat.le_trans hN (frC_th τ).2.1, kq (frC_th τ) (frO_id _)⟩, W2, c2, ⟨_, wr_s _ _ _⟩, by decide, o1, e2, fun h => absurd h (by decide)⟩
  obtain ⟨L0, xs, cK⟩ : ∃ L0 xs, ∀ a, a < 1000 → τ.1 a = mxkon L0 xs a := by
    obtain ⟨⟨_, _, _, L0, xs, cK⟩, _⟩ := id HC
    exact ⟨L0, xs, cK⟩
  obtain ⟨hplc, ug⟩ := cw_plC HC hO (.inr rfl)
  have ev : untF n P O ls K A B od t0 t1 41 0 hs pl dy co = untF n P O ls' K A B od t0 t1 41 0 h' pl dy co := untF_cg el h0 hn ht ht1 hw 41 0 hs h' pl pl dy co ea (fun _ _ => rfl) hpl hr
  obtain ⟨_, _, _, _, _, τ1, hS, hq⟩ := q_daysUntilHeard (d := 199 - 1) HB (cw_csT HC) hO hw hr cK ug hplc (by decide) ht ht1
  have hf := frC_sk (.inr rfl) hS
  have HC0 := cw_tri HC hS
  obtain ⟨o1, ho1⟩ := w_out H hf
  have hN1 : 102 ≤ τ1.2.1 := Nat.le_trans hN hf.2.1
  obtain ⟨HC1, HR1⟩ := w_mid H hf HC0 (frO_w τ1 (untF n P O ls K A B od t0 t1 41 0 hs pl dy co).toInt64 o1)
  obtain ⟨th, m9, m10, m12, gr, ps2, HS⟩ := rw_rsB HR1 hok'
  obtain ⟨_, _, _, _, _, ⟨ks, cks⟩, _, ⟨hO', pO, dO, eO, cOt⟩⟩ := id HR1
  obtain ⟨pos, hpr⟩ := rw_plR (s := 1098) HR1 (.inr rfl)
  obtain ⟨⟨_, _, cg1, cg2, _⟩, _⟩ := id HR1
  obtain ⟨_, _, _, _, τ2, hF, he⟩ := r_daysUntilHeard (d := 199) HS hO hw hok'.2.2.2.2.2.1 (by decide) (show 1094 < 1000 + τ1.2.1 by omega) cks (by decide) (by decide) (show 1098 + 3 ≤ 1000 + τ1.2.1 by omega) (.inl (by decide)) (by decide) (onB_ov cOt) (by decide) hpr (by decide) ht ht1
  have hM2 := rf_M (.inr rfl) hF
  have HR2 := rw_fO (rw_th (th := nI 0) (m9 := m9) (m10 := m10) (m12 := m12) HR1) hF
  obtain ⟨W2, c2, e2⟩ := w_end hf (frO_w τ1 (untF n P O ls K A B od t0 t1 41 0 hs pl dy co).toInt64 o1) (frR_day (.inr rfl) hF) hN (wr_s _ _ _) HC1 HR2 hok ea el hb
  exact ⟨0, untF n P O ls K A B od t0 t1 41 0 hs pl dy co, outW τ1 (untF n P O ls K A B od t0 t1 41 0 hs pl dy co).toInt64 o1, τ2, lw_daysUntilHeard hX hN ho1 hN1 (by decide) (fun {Q} => hq), fun {Q} => he.trans (congrArg (fun (x : Int32) => Q (.inl (some (.int x))) _) ev.symm), ⟨⟨z, hX⟩, hN, rw_M HR1, hN1, kq hf (frO_w τ1 _ _)⟩, W2, c2, ⟨_, hM2⟩, by decide, _, e2, fun _ => va_up_self _ _ _⟩
theorem pb_trappedWith (y w : Int32) {τ : mxS} {L : Nat} {bs tb : Nat → Int32} {ep : Int32} {g pb g2 : Nat} {n P O T : Nat} {K A B : Nat → Nat} {od : ODT} {hs : Nat → Int32} {pl : Nat → Nat} {ls : Nat → Int32} {dy co : Int32} {h' ls' : Nat → Int32} (H : WJ τ L bs tb ep g pb g2 n P O T K A B od hs pl ls dy co h' ls') : PBr false 2580 [some (.ref 1000), some (.int y), some (.int w), some (.ref 1101), none] 1618 [some (.ref 1075), some (.int y), some (.int w)] τ := by
  obtain ⟨HC, HR, hok, ea, el, hb, o, ho⟩ := id H; obtain ⟨hok', hr, h0, hn, hP, hpl, hO, hw⟩ := w_R H; obtain ⟨tl, tr, ws, sn, ps, rn, wc, sl, sr, HB⟩ := cw_csB HC hok; obtain ⟨z, hX⟩ := w_X H; have hN := w_N H
  have u0 : 1000 ≤ 1000 ∧ 1000 < 1000 + τ.2.1 := by omega
  rcases in_or n y (by omega) with hy | ⟨t0, ht, rfl⟩
  · obtain ⟨HC1, HR1, _⟩ := wj_th H; obtain ⟨o1, ho1⟩ := w_out H (frC_th τ); obtain ⟨th, m9, m10, m12, gr, ps2, HS⟩ := rw_rsB HR1 hok'
    obtain ⟨W2, c2, e2⟩ := w_end (τ2 := (mxWr (thT τ) 1075 (.inr (10, [.int (nI 1), .ref 1076, .int (nI L), .int ep, .ref 1077, .ref 1078, .ref 1079, .ref 1080, .ref 1081, .int m9, .int m10, .ref g2, .ref m12, .ref 1094, .ref 1095, .ref 1098])))) (frC_th τ) (frO_id _) (frR_M _ _) hN ho1 HC1 (rw_th HR1) hok ea el hb
    exact ⟨1, nI 0, thT τ, _, lx_trappedWith2 hX hN (by decide) (fun {Q} => n_trappedWith HB (by decide) hy), u_trappedWith HS (by decide) hy, ⟨⟨z, hX⟩, hN, rw_M HR1, Nat.le_trans hN (frC_th τ).2.1, kq (frC_th τ) (frO_id _)⟩, W2, c2, ⟨_, wr_s _ _ _⟩, by decide, o1, e2, fun h => absurd h (by decide)⟩
  rcases in_20 w with hy | ⟨v, hv, rfl⟩
  · obtain ⟨HC1, HR1, _⟩ := wj_th H; obtain ⟨o1, ho1⟩ := w_out H (frC_th τ); obtain ⟨th, m9, m10, m12, gr, ps2, HS⟩ := rw_rsB HR1 hok'
    obtain ⟨W2, c2, e2⟩ := w_end (τ2 := (mxWr (thT τ) 1075 (.inr (10, [.int (nI 2), .ref 1076, .int (nI L), .int ep, .ref 1077, .ref 1078, .ref 1079, .ref 1080, .ref 1081, .int m9, .int m10, .ref g2, .ref m12, .ref 1094, .ref 1095, .ref 1098])))) (frC_th τ) (frO_id _) (frR_M _ _) hN ho1 HC1 (rw_th HR1) hok ea el hb
    exact ⟨2, nI 0, thT τ, _, lx_trappedWith1 hX hN (by decide) (fun {Q} => n_trappedWith2 HB (by decide) ht hy), u_trappedWith2 HS (by decide) ht hy, ⟨⟨z, hX⟩, hN, rw_M HR1, Nat.le_trans hN (frC_th τ).2.1, kq (frC_th τ) (frO_id _)⟩, W2, c2, ⟨_, wr_s _ _ _⟩, by decide, o1, e2, fun h => absurd h (by decide)⟩
  obtain ⟨L0, xs, cK⟩ : ∃ L0 xs, ∀ a, a < 1000 → τ.1 a = mxkon L0 xs a := by
    obtain ⟨⟨_, _, _, L0, xs, cK⟩, _⟩ := id HC
    exact ⟨L0, xs, cK⟩
  obtain ⟨hplc, ug⟩ := cw_plC HC hO (.inr rfl)
  have ev : suS (waS (va_up hs t0 (nI v)) n) n = suS (waS (va_up h' t0 (nI v)) n) n := suS_cg (waS_cg (ag_up ea))
  obtain ⟨_, _, _, _, _, τ1, hS, hq⟩ := q_trappedWith (d := 199 - 1) HB (cw_csT HC) hr (by decide) ht hv
  have hf := frC_sk (.inr rfl) hS
  have HC0 := cw_tri HC hS
  obtain ⟨o1, ho1⟩ := w_out H hf
  have hN1 : 102 ≤ τ1.2.1 := Nat.le_trans hN hf.2.1
  obtain ⟨HC1, HR1⟩ := w_mid H hf HC0 (frO_w τ1 (suS (waS (va_up hs t0 (nI v)) n) n).toInt64 o1)
  obtain ⟨th, m9, m10, m12, gr, ps2, HS⟩ := rw_rsB HR1 hok'
  obtain ⟨_, _, _, _, _, ⟨ks, cks⟩, _, ⟨hO', pO, dO, eO, cOt⟩⟩ := id HR1
  obtain ⟨pos, hpr⟩ := rw_plR (s := 1098) HR1 (.inr rfl)
  obtain ⟨⟨_, _, cg1, cg2, _⟩, _⟩ := id HR1
  have he := fun (Q : Option Value ⊕ Nat → mxS → Prop) => r_trappedWith (d := 199) HS (by decide) ht hv (Q := Q)
  have HR2 := rw_th (th := nI 0) (m9 := m9) (m10 := m10) (m12 := m12) HR1
  obtain ⟨W2, c2, e2⟩ := w_end hf (frO_w τ1 (suS (waS (va_up hs t0 (nI v)) n) n).toInt64 o1) (frR_M _ _) hN (wr_s _ _ _) HC1 HR2 hok ea el hb
  exact ⟨0, suS (waS (va_up hs t0 (nI v)) n) n, outW τ1 (suS (waS (va_up hs t0 (nI v)) n) n).toInt64 o1, _, lw_trappedWith hX hN ho1 hN1 (by decide) (fun {Q} => hq), fun {Q} => (he Q).trans (congrArg (fun (x : Int32) => Q (.inl (some (.int x))) _) ev.symm), ⟨⟨z, hX⟩, hN, rw_M HR1, hN1, kq hf (frO_w τ1 _ _)⟩, W2, c2, ⟨_, wr_s _ _ _⟩, by decide, _, e2, fun _ => va_up_self _ _ _⟩
