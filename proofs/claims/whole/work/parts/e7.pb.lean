/-! ===== calls through the law's methods ===== -/

theorem in_or (n : Nat) (y : Int32) (hn : n ≤ 400) : (y < 0 ∨ ¬ y < nI n) ∨ ∃ t0, t0 < n ∧ y = nI t0 := by
  by_cases q : y < 0
  · exact .inl (.inl q)
  · obtain ⟨j, hj, rfl⟩ := nI_of q
    by_cases q2 : j < n
    · exact .inr ⟨j, q2, rfl⟩
    · exact .inl (.inr (nI_nlt (by omega) hj))
theorem sn01 (hs : Nat → Int32) (t : Nat) : snS hs t = nI 0 ∨ snS hs t = nI 1 := by
  unfold snS
  split
  · exact .inl rfl
  · exact .inr rfl
theorem pb_heightOf (y : Int32) {τ : mxS} {L : Nat} {bs tb : Nat → Int32} {ep : Int32} {g pb g2 : Nat} {n P O T : Nat} {K A B : Nat → Nat} {od : ODT} {hs : Nat → Int32} {pl : Nat → Nat} {ls : Nat → Int32} {dy co : Int32} {h' ls' : Nat → Int32} (H : WJ τ L bs tb ep g pb g2 n P O T K A B od hs pl ls dy co h' ls') : PBr false 2562 [some (.ref 1000), some (.int y), some (.ref 1101), none] 1597 [some (.ref 1075), some (.int y)] τ := by
  obtain ⟨HC, HR, hok, ea, el, hb, o, ho⟩ := id H; obtain ⟨hok', hr, h0, hn, hP, hpl, hO, hw⟩ := w_R H; obtain ⟨tl, tr, ws, sn, ps, rn, wc, sl, sr, HB⟩ := cw_csB HC hok; obtain ⟨z, hX⟩ := w_X H; have hN := w_N H
  rcases in_or n y (by omega) with hy | ⟨t0, ht, rfl⟩
  · obtain ⟨HC1, HR1, _⟩ := wj_th H; obtain ⟨o1, ho1⟩ := w_out H (frC_th τ); obtain ⟨th, m9, m10, m12, gr, ps2, HS⟩ := rw_rsB HR1 hok'
    obtain ⟨W2, c2, e2⟩ := w_end (τ2 := (mxWr (thT τ) 1075 (.inr (10, [.int (nI 1), .ref 1076, .int (nI L), .int ep, .ref 1077, .ref 1078, .ref 1079, .ref 1080, .ref 1081, .int m9, .int m10, .ref g2, .ref m12, .ref 1094, .ref 1095, .ref 1098])))) (frC_th τ) (frO_id _) (frR_M _ _) hN ho1 HC1 (rw_th HR1) hok ea el hb
    exact ⟨1, nI 0, thT τ, _, lx_heightOf2 hX hN (by decide) (fun {Q} => n_heightOf HB (by decide) hy), u_heightOf HS (by decide) hy, ⟨⟨z, hX⟩, hN, rw_M HR1, Nat.le_trans hN (frC_th τ).2.1, kq (frC_th τ) (frO_id _)⟩, W2, c2, ⟨_, wr_s _ _ _⟩, by decide, o1, e2, fun h => absurd h (by decide)⟩
  · have ev : hs t0 = h' t0 := ea t0 ht
    obtain ⟨HC1, HR1⟩ := w_mid H (frC_id τ) HC (frO_w τ (hs t0).toInt64 o)
    obtain ⟨th, m9, m10, m12, gr, ps2, HS⟩ := rw_rsB HR1 hok'
    obtain ⟨W2, c2, e2⟩ := w_end (τ2 := (mxWr (outW τ (hs t0).toInt64 o) 1075 (.inr (10, [.int (nI 0), .ref 1076, .int (nI L), .int ep, .ref 1077, .ref 1078, .ref 1079, .ref 1080, .ref 1081, .int m9, .int m10, .ref g2, .ref m12, .ref 1094, .ref 1095, .ref 1098])))) (frC_id τ) (frO_w τ (hs t0).toInt64 o) (frR_M _ _) hN (wr_s _ _ _) HC1 (rw_th HR1) hok ea el hb
    refine ⟨0, hs t0, outW τ (hs t0).toInt64 o, _, lw_heightOf hX hN ho hN (by decide) (fun {Q} => q_heightOf HB (by decide) ht), ?_, ⟨⟨z, hX⟩, hN, rw_M HR1, hN, kq (frC_id τ) (frO_w τ _ o)⟩, W2, c2, ⟨_, wr_s _ _ _⟩, by decide, _, e2, fun _ => va_up_self _ _ _⟩
    exact fun {Q} => (r_heightOf (d := 199) HS (by decide) ht).trans (congrArg (fun (x : Int32) => Q (.inl (some (.int x))) _) ev.symm)
theorem pb_nextTallerLeft (y : Int32) {τ : mxS} {L : Nat} {bs tb : Nat → Int32} {ep : Int32} {g pb g2 : Nat} {n P O T : Nat} {K A B : Nat → Nat} {od : ODT} {hs : Nat → Int32} {pl : Nat → Nat} {ls : Nat → Int32} {dy co : Int32} {h' ls' : Nat → Int32} (H : WJ τ L bs tb ep g pb g2 n P O T K A B od hs pl ls dy co h' ls') : PBr false 2564 [some (.ref 1000), some (.int y), some (.ref 1101), none] 1599 [some (.ref 1075), some (.int y)] τ := by
  obtain ⟨HC, HR, hok, ea, el, hb, o, ho⟩ := id H; obtain ⟨hok', hr, h0, hn, hP, hpl, hO, hw⟩ := w_R H; obtain ⟨tl, tr, ws, sn, ps, rn, wc, sl, sr, HB⟩ := cw_csB HC hok; obtain ⟨z, hX⟩ := w_X H; have hN := w_N H
  rcases in_or n y (by omega) with hy | ⟨t0, ht, rfl⟩
  · obtain ⟨HC1, HR1, _⟩ := wj_th H; obtain ⟨o1, ho1⟩ := w_out H (frC_th τ); obtain ⟨th, m9, m10, m12, gr, ps2, HS⟩ := rw_rsB HR1 hok'
    obtain ⟨W2, c2, e2⟩ := w_end (τ2 := (mxWr (thT τ) 1075 (.inr (10, [.int (nI 1), .ref 1076, .int (nI L), .int ep, .ref 1077, .ref 1078, .ref 1079, .ref 1080, .ref 1081, .int m9, .int m10, .ref g2, .ref m12, .ref 1094, .ref 1095, .ref 1098])))) (frC_th τ) (frO_id _) (frR_M _ _) hN ho1 HC1 (rw_th HR1) hok ea el hb
    exact ⟨1, nI 0, thT τ, _, lx_nextTallerLeft2 hX hN (by decide) (fun {Q} => n_nextTallerLeft HB (by decide) hy), u_nextTallerLeft HS (by decide) hy, ⟨⟨z, hX⟩, hN, rw_M HR1, Nat.le_trans hN (frC_th τ).2.1, kq (frC_th τ) (frO_id _)⟩, W2, c2, ⟨_, wr_s _ _ _⟩, by decide, o1, e2, fun h => absurd h (by decide)⟩
  · have ev : tlS hs t0 = tlS h' t0 := tlS_cg ea t0 ht
    obtain ⟨HC1, HR1⟩ := w_mid H (frC_id τ) HC (frO_w τ (tlS hs t0).toInt64 o)
    obtain ⟨th, m9, m10, m12, gr, ps2, HS⟩ := rw_rsB HR1 hok'
    obtain ⟨W2, c2, e2⟩ := w_end (τ2 := (mxWr (outW τ (tlS hs t0).toInt64 o) 1075 (.inr (10, [.int (nI 0), .ref 1076, .int (nI L), .int ep, .ref 1077, .ref 1078, .ref 1079, .ref 1080, .ref 1081, .int m9, .int m10, .ref g2, .ref m12, .ref 1094, .ref 1095, .ref 1098])))) (frC_id τ) (frO_w τ (tlS hs t0).toInt64 o) (frR_M _ _) hN (wr_s _ _ _) HC1 (rw_th HR1) hok ea el hb
    refine ⟨0, tlS hs t0, outW τ (tlS hs t0).toInt64 o, _, lw_nextTallerLeft hX hN ho hN (by decide) (fun {Q} => q_nextTallerLeft HB (by decide) ht), ?_, ⟨⟨z, hX⟩, hN, rw_M HR1, hN, kq (frC_id τ) (frO_w τ _ o)⟩, W2, c2, ⟨_, wr_s _ _ _⟩, by decide, _, e2, fun _ => va_up_self _ _ _⟩
    exact fun {Q} => (r_nextTallerLeft (d := 199) HS (by decide) ht).trans (congrArg (fun (x : Int32) => Q (.inl (some (.int x))) _) ev.symm)
theorem pb_nextTallerRight (y : Int32) {τ : mxS} {L : Nat} {bs tb : Nat → Int32} {ep : Int32} {g pb g2 : Nat} {n P O T : Nat} {K A B : Nat → Nat} {od : ODT} {hs : Nat → Int32} {pl : Nat → Nat} {ls : Nat → Int32} {dy co : Int32} {h' ls' : Nat → Int32} (H : WJ τ L bs tb ep g pb g2 n P O T K A B od hs pl ls dy co h' ls') : PBr false 2565 [some (.ref 1000), some (.int y), some (.ref 1101), none] 1600 [some (.ref 1075), some (.int y)] τ := by
  obtain ⟨HC, HR, hok, ea, el, hb, o, ho⟩ := id H; obtain ⟨hok', hr, h0, hn, hP, hpl, hO, hw⟩ := w_R H; obtain ⟨tl, tr, ws, sn, ps, rn, wc, sl, sr, HB⟩ := cw_csB HC hok; obtain ⟨z, hX⟩ := w_X H; have hN := w_N H
  rcases in_or n y (by omega) with hy | ⟨t0, ht, rfl⟩
  · obtain ⟨HC1, HR1, _⟩ := wj_th H; obtain ⟨o1, ho1⟩ := w_out H (frC_th τ); obtain ⟨th, m9, m10, m12, gr, ps2, HS⟩ := rw_rsB HR1 hok'
    obtain ⟨W2, c2, e2⟩ := w_end (τ2 := (mxWr (thT τ) 1075 (.inr (10, [.int (nI 1), .ref 1076, .int (nI L), .int ep, .ref 1077, .ref 1078, .ref 1079, .ref 1080, .ref 1081, .int m9, .int m10, .ref g2, .ref m12, .ref 1094, .ref 1095, .ref 1098])))) (frC_th τ) (frO_id _) (frR_M _ _) hN ho1 HC1 (rw_th HR1) hok ea el hb
    exact ⟨1, nI 0, thT τ, _, lx_nextTallerRight2 hX hN (by decide) (fun {Q} => n_nextTallerRight HB (by decide) hy), u_nextTallerRight HS (by decide) hy, ⟨⟨z, hX⟩, hN, rw_M HR1, Nat.le_trans hN (frC_th τ).2.1, kq (frC_th τ) (frO_id _)⟩, W2, c2, ⟨_, wr_s _ _ _⟩, by decide, o1, e2, fun h => absurd h (by decide)⟩
  · have ev : trS hs n t0 = trS h' n t0 := trS_cg ea t0 ht
    obtain ⟨HC1, HR1⟩ := w_mid H (frC_id τ) HC (frO_w τ (trS hs n t0).toInt64 o)
    obtain ⟨th, m9, m10, m12, gr, ps2, HS⟩ := rw_rsB HR1 hok'
    obtain ⟨W2, c2, e2⟩ := w_end (τ2 := (mxWr (outW τ (trS hs n t0).toInt64 o) 1075 (.inr (10, [.int (nI 0), .ref 1076, .int (nI L), .int ep, .ref 1077, .ref 1078, .ref 1079, .ref 1080, .ref 1081, .int m9, .int m10, .ref g2, .ref m12, .ref 1094, .ref 1095, .ref 1098])))) (frC_id τ) (frO_w τ (trS hs n t0).toInt64 o) (frR_M _ _) hN (wr_s _ _ _) HC1 (rw_th HR1) hok ea el hb
    refine ⟨0, trS hs n t0, outW τ (trS hs n t0).toInt64 o, _, lw_nextTallerRight hX hN ho hN (by decide) (fun {Q} => q_nextTallerRight HB (by decide) ht), ?_, ⟨⟨z, hX⟩, hN, rw_M HR1, hN, kq (frC_id τ) (frO_w τ _ o)⟩, W2, c2, ⟨_, wr_s _ _ _⟩, by decide, _, e2, fun _ => va_up_self _ _ _⟩
    exact fun {Q} => (r_nextTallerRight (d := 199) HS (by decide) ht).trans (congrArg (fun (x : Int32) => Q (.inl (some (.int x))) _) ev.symm)
theorem pb_waterOn (y : Int32) {τ : mxS} {L : Nat} {bs tb : Nat → Int32} {ep : Int32} {g pb g2 : Nat} {n P O T : Nat} {K A B : Nat → Nat} {od : ODT} {hs : Nat → Int32} {pl : Nat → Nat} {ls : Nat → Int32} {dy co : Int32} {h' ls' : Nat → Int32} (H : WJ τ L bs tb ep g pb g2 n P O T K A B od hs pl ls dy co h' ls') : PBr false 2566 [some (.ref 1000), some (.int y), some (.ref 1101), none] 1601 [some (.ref 1075), some (.int y)] τ := by
  obtain ⟨HC, HR, hok, ea, el, hb, o, ho⟩ := id H; obtain ⟨hok', hr, h0, hn, hP, hpl, hO, hw⟩ := w_R H; obtain ⟨tl, tr, ws, sn, ps, rn, wc, sl, sr, HB⟩ := cw_csB HC hok; obtain ⟨z, hX⟩ := w_X H; have hN := w_N H
  rcases in_or n y (by omega) with hy | ⟨t0, ht, rfl⟩
  · obtain ⟨HC1, HR1, _⟩ := wj_th H; obtain ⟨o1, ho1⟩ := w_out H (frC_th τ); obtain ⟨th, m9, m10, m12, gr, ps2, HS⟩ := rw_rsB HR1 hok'
    obtain ⟨W2, c2, e2⟩ := w_end (τ2 := (mxWr (thT τ) 1075 (.inr (10, [.int (nI 1), .ref 1076, .int (nI L), .int ep, .ref 1077, .ref 1078, .ref 1079, .ref 1080, .ref 1081, .int m9, .int m10, .ref g2, .ref m12, .ref 1094, .ref 1095, .ref 1098])))) (frC_th τ) (frO_id _) (frR_M _ _) hN ho1 HC1 (rw_th HR1) hok ea el hb
    exact ⟨1, nI 0, thT τ, _, lx_waterOn2 hX hN (by decide) (fun {Q} => n_waterOn HB (by decide) hy), u_waterOn HS (by decide) hy, ⟨⟨z, hX⟩, hN, rw_M HR1, Nat.le_trans hN (frC_th τ).2.1, kq (frC_th τ) (frO_id _)⟩, W2, c2, ⟨_, wr_s _ _ _⟩, by decide, o1, e2, fun h => absurd h (by decide)⟩
  · have ev : waS hs n t0 = waS h' n t0 := waS_cg ea t0 ht
    obtain ⟨HC1, HR1⟩ := w_mid H (frC_id τ) HC (frO_w τ (waS hs n t0).toInt64 o)
    obtain ⟨th, m9, m10, m12, gr, ps2, HS⟩ := rw_rsB HR1 hok'
    obtain ⟨W2, c2, e2⟩ := w_end (τ2 := (mxWr (outW τ (waS hs n t0).toInt64 o) 1075 (.inr (10, [.int (nI 0), .ref 1076, .int (nI L), .int ep, .ref 1077, .ref 1078, .ref 1079, .ref 1080, .ref 1081, .int m9, .int m10, .ref g2, .ref m12, .ref 1094, .ref 1095, .ref 1098])))) (frC_id τ) (frO_w τ (waS hs n t0).toInt64 o) (frR_M _ _) hN (wr_s _ _ _) HC1 (rw_th HR1) hok ea el hb
    refine ⟨0, waS hs n t0, outW τ (waS hs n t0).toInt64 o, _, lw_waterOn hX hN ho hN (by decide) (fun {Q} => q_waterOn HB (by decide) ht), ?_, ⟨⟨z, hX⟩, hN, rw_M HR1, hN, kq (frC_id τ) (frO_w τ _ o)⟩, W2, c2, ⟨_, wr_s _ _ _⟩, by decide, _, e2, fun _ => va_up_self _ _ _⟩
    exact fun {Q} => (r_waterOn (d := 199) HS (by decide) ht).trans (congrArg (fun (x : Int32) => Q (.inl (some (.int x))) _) ev.symm)
theorem pb_placeOf (y : Int32) {τ : mxS} {L : Nat} {bs tb : Nat → Int32} {ep : Int32} {g pb g2 : Nat} {n P O T : Nat} {K A B : Nat → Nat} {od : ODT} {hs : Nat → Int32} {pl : Nat → Nat} {ls : Nat → Int32} {dy co : Int32} {h' ls' : Nat → Int32} (H : WJ τ L bs tb ep g pb g2 n P O T K A B od hs pl ls dy co h' ls') : PBr false 2569 [some (.ref 1000), some (.int y), some (.ref 1101), none] 1604 [some (.ref 1075), some (.int y)] τ := by
  obtain ⟨HC, HR, hok, ea, el, hb, o, ho⟩ := id H; obtain ⟨hok', hr, h0, hn, hP, hpl, hO, hw⟩ := w_R H; obtain ⟨tl, tr, ws, sn, ps, rn, wc, sl, sr, HB⟩ := cw_csB HC hok; obtain ⟨z, hX⟩ := w_X H; have hN := w_N H
  rcases in_or P y (by omega) with hy | ⟨t0, ht, rfl⟩
  · obtain ⟨HC1, HR1, _⟩ := wj_th H; obtain ⟨o1, ho1⟩ := w_out H (frC_th τ); obtain ⟨th, m9, m10, m12, gr, ps2, HS⟩ := rw_rsB HR1 hok'
    obtain ⟨W2, c2, e2⟩ := w_end (τ2 := (mxWr (thT τ) 1075 (.inr (10, [.int (nI 1), .ref 1076, .int (nI L), .int ep, .ref 1077, .ref 1078, .ref 1079, .ref 1080, .ref 1081, .int m9, .int m10, .ref g2, .ref m12, .ref 1094, .ref 1095, .ref 1098])))) (frC_th τ) (frO_id _) (frR_M _ _) hN ho1 HC1 (rw_th HR1) hok ea el hb
    exact ⟨1, nI 0, thT τ, _, lx_placeOf2 hX hN (by decide) (fun {Q} => n_placeOf HB (by decide) hy), u_placeOf HS (by decide) hy, ⟨⟨z, hX⟩, hN, rw_M HR1, Nat.le_trans hN (frC_th τ).2.1, kq (frC_th τ) (frO_id _)⟩, W2, c2, ⟨_, wr_s _ _ _⟩, by decide, o1, e2, fun h => absurd h (by decide)⟩
  · have ev : nI (pl t0) = nI (pl t0) := rfl
    obtain ⟨HC1, HR1⟩ := w_mid H (frC_id τ) HC (frO_w τ (nI (pl t0)).toInt64 o)
    obtain ⟨th, m9, m10, m12, gr, ps2, HS⟩ := rw_rsB HR1 hok'
    obtain ⟨W2, c2, e2⟩ := w_end (τ2 := (mxWr (outW τ (nI (pl t0)).toInt64 o) 1075 (.inr (10, [.int (nI 0), .ref 1076, .int (nI L), .int ep, .ref 1077, .ref 1078, .ref 1079, .ref 1080, .ref 1081, .int m9, .int m10, .ref g2, .ref m12, .ref 1094, .ref 1095, .ref 1098])))) (frC_id τ) (frO_w τ (nI (pl t0)).toInt64 o) (frR_M _ _) hN (wr_s _ _ _) HC1 (rw_th HR1) hok ea el hb
    refine ⟨0, nI (pl t0), outW τ (nI (pl t0)).toInt64 o, _, lw_placeOf hX hN ho hN (by decide) (fun {Q} => q_placeOf HB (by decide) ht), ?_, ⟨⟨z, hX⟩, hN, rw_M HR1, hN, kq (frC_id τ) (frO_w τ _ o)⟩, W2, c2, ⟨_, wr_s _ _ _⟩, by decide, _, e2, fun _ => va_up_self _ _ _⟩
    exact fun {Q} => (r_placeOf (d := 199) HS (by decide) ht).trans (congrArg (fun (x : Int32) => Q (.inl (some (.int x))) _) ev.symm)
theorem pb_loudnessOf (y : Int32) {τ : mxS} {L : Nat} {bs tb : Nat → Int32} {ep : Int32} {g pb g2 : Nat} {n P O T : Nat} {K A B : Nat → Nat} {od : ODT} {hs : Nat → Int32} {pl : Nat → Nat} {ls : Nat → Int32} {dy co : Int32} {h' ls' : Nat → Int32} (H : WJ τ L bs tb ep g pb g2 n P O T K A B od hs pl ls dy co h' ls') : PBr false 2570 [some (.ref 1000), some (.int y), some (.ref 1101), none] 1605 [some (.ref 1075), some (.int y)] τ := by
  obtain ⟨HC, HR, hok, ea, el, hb, o, ho⟩ := id H; obtain ⟨hok', hr, h0, hn, hP, hpl, hO, hw⟩ := w_R H; obtain ⟨tl, tr, ws, sn, ps, rn, wc, sl, sr, HB⟩ := cw_csB HC hok; obtain ⟨z, hX⟩ := w_X H; have hN := w_N H
  rcases in_or P y (by omega) with hy | ⟨t0, ht, rfl⟩
  · obtain ⟨HC1, HR1, _⟩ := wj_th H; obtain ⟨o1, ho1⟩ := w_out H (frC_th τ); obtain ⟨th, m9, m10, m12, gr, ps2, HS⟩ := rw_rsB HR1 hok'
    obtain ⟨W2, c2, e2⟩ := w_end (τ2 := (mxWr (thT τ) 1075 (.inr (10, [.int (nI 1), .ref 1076, .int (nI L), .int ep, .ref 1077, .ref 1078, .ref 1079, .ref 1080, .ref 1081, .int m9, .int m10, .ref g2, .ref m12, .ref 1094, .ref 1095, .ref 1098])))) (frC_th τ) (frO_id _) (frR_M _ _) hN ho1 HC1 (rw_th HR1) hok ea el hb
    exact ⟨1, nI 0, thT τ, _, lx_loudnessOf2 hX hN (by decide) (fun {Q} => n_loudnessOf HB (by decide) hy), u_loudnessOf HS (by decide) hy, ⟨⟨z, hX⟩, hN, rw_M HR1, Nat.le_trans hN (frC_th τ).2.1, kq (frC_th τ) (frO_id _)⟩, W2, c2, ⟨_, wr_s _ _ _⟩, by decide, o1, e2, fun h => absurd h (by decide)⟩
  · have ev : ls t0 = ls' t0 := el t0 ht
    obtain ⟨HC1, HR1⟩ := w_mid H (frC_id τ) HC (frO_w τ (ls t0).toInt64 o)
    obtain ⟨th, m9, m10, m12, gr, ps2, HS⟩ := rw_rsB HR1 hok'
    obtain ⟨W2, c2, e2⟩ := w_end (τ2 := (mxWr (outW τ (ls t0).toInt64 o) 1075 (.inr (10, [.int (nI 0), .ref 1076, .int (nI L), .int ep, .ref 1077, .ref 1078, .ref 1079, .ref 1080, .ref 1081, .int m9, .int m10, .ref g2, .ref m12, .ref 1094, .ref 1095, .ref 1098])))) (frC_id τ) (frO_w τ (ls t0).toInt64 o) (frR_M _ _) hN (wr_s _ _ _) HC1 (rw_th HR1) hok ea el hb
    refine ⟨0, ls t0, outW τ (ls t0).toInt64 o, _, lw_loudnessOf hX hN ho hN (by decide) (fun {Q} => q_loudnessOf HB (by decide) ht), ?_, ⟨⟨z, hX⟩, hN, rw_M HR1, hN, kq (frC_id τ) (frO_w τ _ o)⟩, W2, c2, ⟨_, wr_s _ _ _⟩, by decide, _, e2, fun _ => va_up_self _ _ _⟩
    exact fun {Q} => (r_loudnessOf (d := 199) HS (by decide) ht).trans (congrArg (fun (x : Int32) => Q (.inl (some (.int x))) _) ev.symm)
theorem pb_noiseAt (y : Int32) {τ : mxS} {L : Nat} {bs tb : Nat → Int32} {ep : Int32} {g pb g2 : Nat} {n P O T : Nat} {K A B : Nat → Nat} {od : ODT} {hs : Nat → Int32} {pl : Nat → Nat} {ls : Nat → Int32} {dy co : Int32} {h' ls' : Nat → Int32} (H : WJ τ L bs tb ep g pb g2 n P O T K A B od hs pl ls dy co h' ls') : PBr false 2572 [some (.ref 1000), some (.int y), some (.ref 1101), none] 1607 [some (.ref 1075), some (.int y)] τ := by
  obtain ⟨HC, HR, hok, ea, el, hb, o, ho⟩ := id H; obtain ⟨hok', hr, h0, hn, hP, hpl, hO, hw⟩ := w_R H; obtain ⟨tl, tr, ws, sn, ps, rn, wc, sl, sr, HB⟩ := cw_csB HC hok; obtain ⟨z, hX⟩ := w_X H; have hN := w_N H
  rcases in_or P y (by omega) with hy | ⟨t0, ht, rfl⟩
  · obtain ⟨HC1, HR1, _⟩ := wj_th H; obtain ⟨o1, ho1⟩ := w_out H (frC_th τ); obtain ⟨th, m9, m10, m12, gr, ps2, HS⟩ := rw_rsB HR1 hok'
    obtain ⟨W2, c2, e2⟩ := w_end (τ2 := (mxWr (thT τ) 1075 (.inr (10, [.int (nI 1), .ref 1076, .int (nI L), .int ep, .ref 1077, .ref 1078, .ref 1079, .ref 1080, .ref 1081, .int m9, .int m10, .ref g2, .ref m12, .ref 1094, .ref 1095, .ref 1098])))) (frC_th τ) (frO_id _) (frR_M _ _) hN ho1 HC1 (rw_th HR1) hok ea el hb
    exact ⟨1, nI 0, thT τ, _, lx_noiseAt2 hX hN (by decide) (fun {Q} => n_noiseAt HB (by decide) hy), u_noiseAt HS (by decide) hy, ⟨⟨z, hX⟩, hN, rw_M HR1, Nat.le_trans hN (frC_th τ).2.1, kq (frC_th τ) (frO_id _)⟩, W2, c2, ⟨_, wr_s _ _ _⟩, by decide, o1, e2, fun h => absurd h (by decide)⟩
  · have ev : suS (nzF hs n pl ls t0 (pl t0)) P = suS (nzF h' n pl ls' t0 (pl t0)) P := no_c H hpl ea el ht
    obtain ⟨HC1, HR1⟩ := w_mid H (frC_id τ) HC (frO_w τ (suS (nzF hs n pl ls t0 (pl t0)) P).toInt64 o)
    obtain ⟨th, m9, m10, m12, gr, ps2, HS⟩ := rw_rsB HR1 hok'
    obtain ⟨W2, c2, e2⟩ := w_end (τ2 := (mxWr (outW τ (suS (nzF hs n pl ls t0 (pl t0)) P).toInt64 o) 1075 (.inr (10, [.int (nI 0), .ref 1076, .int (nI L), .int ep, .ref 1077, .ref 1078, .ref 1079, .ref 1080, .ref 1081, .int m9, .int m10, .ref g2, .ref m12, .ref 1094, .ref 1095, .ref 1098])))) (frC_id τ) (frO_w τ (suS (nzF hs n pl ls t0 (pl t0)) P).toInt64 o) (frR_M _ _) hN (wr_s _ _ _) HC1 (rw_th HR1) hok ea el hb
    refine ⟨0, suS (nzF hs n pl ls t0 (pl t0)) P, outW τ (suS (nzF hs n pl ls t0 (pl t0)) P).toInt64 o, _, lw_noiseAt hX hN ho hN (by decide) (fun {Q} => q_noiseAt HB (by decide) ht), ?_, ⟨⟨z, hX⟩, hN, rw_M HR1, hN, kq (frC_id τ) (frO_w τ _ o)⟩, W2, c2, ⟨_, wr_s _ _ _⟩, by decide, _, e2, fun _ => va_up_self _ _ _⟩
    exact fun {Q} => (r_noiseAt (d := 199) HS (by decide) ht).trans (congrArg (fun (x : Int32) => Q (.inl (some (.int x))) _) ev.symm)
theorem pb_quietestTower (y : Int32) {τ : mxS} {L : Nat} {bs tb : Nat → Int32} {ep : Int32} {g pb g2 : Nat} {n P O T : Nat} {K A B : Nat → Nat} {od : ODT} {hs : Nat → Int32} {pl : Nat → Nat} {ls : Nat → Int32} {dy co : Int32} {h' ls' : Nat → Int32} (H : WJ τ L bs tb ep g pb g2 n P O T K A B od hs pl ls dy co h' ls') : PBr false 2581 [some (.ref 1000), some (.int y), some (.ref 1101), none] 1620 [some (.ref 1075), some (.int y)] τ := by
  obtain ⟨HC, HR, hok, ea, el, hb, o, ho⟩ := id H; obtain ⟨hok', hr, h0, hn, hP, hpl, hO, hw⟩ := w_R H; obtain ⟨tl, tr, ws, sn, ps, rn, wc, sl, sr, HB⟩ := cw_csB HC hok; obtain ⟨z, hX⟩ := w_X H; have hN := w_N H
  rcases in_or P y (by omega) with hy | ⟨t0, ht, rfl⟩
  · obtain ⟨HC1, HR1, _⟩ := wj_th H; obtain ⟨o1, ho1⟩ := w_out H (frC_th τ); obtain ⟨th, m9, m10, m12, gr, ps2, HS⟩ := rw_rsB HR1 hok'
    obtain ⟨W2, c2, e2⟩ := w_end (τ2 := (mxWr (thT τ) 1075 (.inr (10, [.int (nI 1), .ref 1076, .int (nI L), .int ep, .ref 1077, .ref 1078, .ref 1079, .ref 1080, .ref 1081, .int m9, .int m10, .ref g2, .ref m12, .ref 1094, .ref 1095, .ref 1098])))) (frC_th τ) (frO_id _) (frR_M _ _) hN ho1 HC1 (rw_th HR1) hok ea el hb
    exact ⟨1, nI 0, thT τ, _, lx_quietestTower2 hX hN (by decide) (fun {Q} => n_quietestTower HB (by decide) hy), u_quietestTower HS (by decide) hy, ⟨⟨z, hX⟩, hN, rw_M HR1, Nat.le_trans hN (frC_th τ).2.1, kq (frC_th τ) (frO_id _)⟩, W2, c2, ⟨_, wr_s _ _ _⟩, by decide, o1, e2, fun h => absurd h (by decide)⟩
  · have ev : nI (tqS (fun t => suS (nzF hs n pl ls t0 t) P) (n - 1)) = nI (tqS (fun t => suS (nzF h' n pl ls' t0 t) P) (n - 1)) := tq_c H hpl h0 ea el
    obtain ⟨HC1, HR1⟩ := w_mid H (frC_id τ) HC (frO_w τ (nI (tqS (fun t => suS (nzF hs n pl ls t0 t) P) (n - 1))).toInt64 o)
    obtain ⟨th, m9, m10, m12, gr, ps2, HS⟩ := rw_rsB HR1 hok'
    obtain ⟨W2, c2, e2⟩ := w_end (τ2 := (mxWr (outW τ (nI (tqS (fun t => suS (nzF hs n pl ls t0 t) P) (n - 1))).toInt64 o) 1075 (.inr (10, [.int (nI 0), .ref 1076, .int (nI L), .int ep, .ref 1077, .ref 1078, .ref 1079, .ref 1080, .ref 1081, .int m9, .int m10, .ref g2, .ref m12, .ref 1094, .ref 1095, .ref 1098])))) (frC_id τ) (frO_w τ (nI (tqS (fun t => suS (nzF hs n pl ls t0 t) P) (n - 1))).toInt64 o) (frR_M _ _) hN (wr_s _ _ _) HC1 (rw_th HR1) hok ea el hb
    refine ⟨0, nI (tqS (fun t => suS (nzF hs n pl ls t0 t) P) (n - 1)), outW τ (nI (tqS (fun t => suS (nzF hs n pl ls t0 t) P) (n - 1))).toInt64 o, _, lw_quietestTower hX hN ho hN (by decide) (fun {Q} => q_quietestTower HB (by decide) ht), ?_, ⟨⟨z, hX⟩, hN, rw_M HR1, hN, kq (frC_id τ) (frO_w τ _ o)⟩, W2, c2, ⟨_, wr_s _ _ _⟩, by decide, _, e2, fun _ => va_up_self _ _ _⟩
    exact fun {Q} => (r_quietestTower (d := 199) HS (by decide) ht).trans (congrArg (fun (x : Int32) => Q (.inl (some (.int x))) _) ev.symm)
theorem pb_pigeonsOn (y : Int32) {τ : mxS} {L : Nat} {bs tb : Nat → Int32} {ep : Int32} {g pb g2 : Nat} {n P O T : Nat} {K A B : Nat → Nat} {od : ODT} {hs : Nat → Int32} {pl : Nat → Nat} {ls : Nat → Int32} {dy co : Int32} {h' ls' : Nat → Int32} (H : WJ τ L bs tb ep g pb g2 n P O T K A B od hs pl ls dy co h' ls') : PBr false 2567 [some (.ref 1000), some (.int y), some (.ref 1101), none] 1602 [some (.ref 1075), some (.int y)] τ := by
  obtain ⟨HC, HR, hok, ea, el, hb, o, ho⟩ := id H; obtain ⟨hok', hr, h0, hn, hP, hpl, hO, hw⟩ := w_R H; obtain ⟨tl, tr, ws, sn, ps, rn, wc, sl, sr, HB⟩ := cw_csB HC hok; obtain ⟨z, hX⟩ := w_X H; have hN := w_N H
  rcases in_or n y (by omega) with hy | ⟨t0, ht, rfl⟩
  · obtain ⟨HC1, HR1, _⟩ := wj_th H; obtain ⟨o1, ho1⟩ := w_out H (frC_th τ); obtain ⟨th, m9, m10, m12, gr, ps2, HS⟩ := rw_rsB HR1 hok'
    obtain ⟨W2, c2, e2⟩ := w_end (τ2 := (mxWr (thT τ) 1075 (.inr (10, [.int (nI 1), .ref 1076, .int (nI L), .int ep, .ref 1077, .ref 1078, .ref 1079, .ref 1080, .ref 1081, .int m9, .int m10, .ref g2, .ref m12, .ref 1094, .ref 1095, .ref 1098])))) (frC_th τ) (frO_id _) (frR_M _ _) hN ho1 HC1 (rw_th HR1) hok ea el hb
    exact ⟨1, nI 0, thT τ, _, lx_pigeonsOn2 hX hN (by decide) (fun {Q} => n_pigeonsOn HB (by decide) hy), u_pigeonsOn HS (by decide) hy, ⟨⟨z, hX⟩, hN, rw_M HR1, Nat.le_trans hN (frC_th τ).2.1, kq (frC_th τ) (frO_id _)⟩, W2, c2, ⟨_, wr_s _ _ _⟩, by decide, o1, e2, fun h => absurd h (by decide)⟩
  · have cps := HB.2.2.2.2.1
    have ev : onS ps (nI t0) P = onF P pl (nI t0) := on_su cps P (Nat.le_refl _)
    obtain ⟨HC1, HR1⟩ := w_mid H (frC_id τ) HC (frO_w τ (onS ps (nI t0) P).toInt64 o)
    obtain ⟨th, m9, m10, m12, gr, ps2, HS⟩ := rw_rsB HR1 hok'
    obtain ⟨W2, c2, e2⟩ := w_end (τ2 := (mxWr (outW τ (onS ps (nI t0) P).toInt64 o) 1075 (.inr (10, [.int (nI 0), .ref 1076, .int (nI L), .int ep, .ref 1077, .ref 1078, .ref 1079, .ref 1080, .ref 1081, .int m9, .int m10, .ref g2, .ref m12, .ref 1094, .ref 1095, .ref 1098])))) (frC_id τ) (frO_w τ (onS ps (nI t0) P).toInt64 o) (frR_M _ _) hN (wr_s _ _ _) HC1 (rw_th HR1) hok ea el hb
    refine ⟨0, onS ps (nI t0) P, outW τ (onS ps (nI t0) P).toInt64 o, _, lw_pigeonsOn hX hN ho hN (by decide) (fun {Q} => q_pigeonsOn HB (by decide) ht), ?_, ⟨⟨z, hX⟩, hN, rw_M HR1, hN, kq (frC_id τ) (frO_w τ _ o)⟩, W2, c2, ⟨_, wr_s _ _ _⟩, by decide, _, e2, fun _ => va_up_self _ _ _⟩
    exact fun {Q} => (r_pigeonsOn (d := 199) HS (by decide) ht).trans (congrArg (fun (x : Int32) => Q (.inl (some (.int x))) _) ev.symm)
theorem pb_heardOn (y : Int32) {τ : mxS} {L : Nat} {bs tb : Nat → Int32} {ep : Int32} {g pb g2 : Nat} {n P O T : Nat} {K A B : Nat → Nat} {od : ODT} {hs : Nat → Int32} {pl : Nat → Nat} {ls : Nat → Int32} {dy co : Int32} {h' ls' : Nat → Int32} (H : WJ τ L bs tb ep g pb g2 n P O T K A B od hs pl ls dy co h' ls') : PBr false 2568 [some (.ref 1000), some (.int y), some (.ref 1101), none] 1603 [some (.ref 1075), some (.int y)] τ := by
  obtain ⟨HC, HR, hok, ea, el, hb, o, ho⟩ := id H; obtain ⟨hok', hr, h0, hn, hP, hpl, hO, hw⟩ := w_R H; obtain ⟨tl, tr, ws, sn, ps, rn, wc, sl, sr, HB⟩ := cw_csB HC hok; obtain ⟨z, hX⟩ := w_X H; have hN := w_N H
  rcases in_or n y (by omega) with hy | ⟨t0, ht, rfl⟩
  · obtain ⟨HC1, HR1, _⟩ := wj_th H; obtain ⟨o1, ho1⟩ := w_out H (frC_th τ); obtain ⟨th, m9, m10, m12, gr, ps2, HS⟩ := rw_rsB HR1 hok'
    obtain ⟨W2, c2, e2⟩ := w_end (τ2 := (mxWr (thT τ) 1075 (.inr (10, [.int (nI 1), .ref 1076, .int (nI L), .int ep, .ref 1077, .ref 1078, .ref 1079, .ref 1080, .ref 1081, .int m9, .int m10, .ref g2, .ref m12, .ref 1094, .ref 1095, .ref 1098])))) (frC_th τ) (frO_id _) (frR_M _ _) hN ho1 HC1 (rw_th HR1) hok ea el hb
    exact ⟨1, nI 0, thT τ, _, lx_heardOn2 hX hN (by decide) (fun {Q} => n_heardOn HB (by decide) hy), u_heardOn HS (by decide) hy, ⟨⟨z, hX⟩, hN, rw_M HR1, Nat.le_trans hN (frC_th τ).2.1, kq (frC_th τ) (frO_id _)⟩, W2, c2, ⟨_, wr_s _ _ _⟩, by decide, o1, e2, fun h => absurd h (by decide)⟩
  · have cse := HB.2.2.2.1
    have ev : hdS tl tr pl (nI t0) P = hdF h' n P pl t0 := (hd_su hn ht hpl (fun t ht => ⟨(cse.1 t ht).1, (cse.1 t ht).2.1⟩) P (Nat.le_refl _)).trans (hdF_cg hpl ea ht)
    obtain ⟨HC1, HR1⟩ := w_mid H (frC_id τ) HC (frO_w τ (hdS tl tr pl (nI t0) P).toInt64 o)
    obtain ⟨th, m9, m10, m12, gr, ps2, HS⟩ := rw_rsB HR1 hok'
    obtain ⟨W2, c2, e2⟩ := w_end (τ2 := (mxWr (outW τ (hdS tl tr pl (nI t0) P).toInt64 o) 1075 (.inr (10, [.int (nI 0), .ref 1076, .int (nI L), .int ep, .ref 1077, .ref 1078, .ref 1079, .ref 1080, .ref 1081, .int m9, .int m10, .ref g2, .ref m12, .ref 1094, .ref 1095, .ref 1098])))) (frC_id τ) (frO_w τ (hdS tl tr pl (nI t0) P).toInt64 o) (frR_M _ _) hN (wr_s _ _ _) HC1 (rw_th HR1) hok ea el hb
    refine ⟨0, hdS tl tr pl (nI t0) P, outW τ (hdS tl tr pl (nI t0) P).toInt64 o, _, lw_heardOn hX hN ho hN (by decide) (fun {Q} => q_heardOn HB (by decide) ht), ?_, ⟨⟨z, hX⟩, hN, rw_M HR1, hN, kq (frC_id τ) (frO_w τ _ o)⟩, W2, c2, ⟨_, wr_s _ _ _⟩, by decide, _, e2, fun _ => va_up_self _ _ _⟩
    exact fun {Q} => (r_heardOn (d := 199) HS (by decide) ht).trans (congrArg (fun (x : Int32) => Q (.inl (some (.int x))) _) ev.symm)
theorem pb_isSeenFromLeft (y : Int32) {τ : mxS} {L : Nat} {bs tb : Nat → Int32} {ep : Int32} {g pb g2 : Nat} {n P O T : Nat} {K A B : Nat → Nat} {od : ODT} {hs : Nat → Int32} {pl : Nat → Nat} {ls : Nat → Int32} {dy co : Int32} {h' ls' : Nat → Int32} (H : WJ τ L bs tb ep g pb g2 n P O T K A B od hs pl ls dy co h' ls') : PBr true 2563 [some (.ref 1000), some (.int y), some (.ref 1101), none] 1598 [some (.ref 1075), some (.int y)] τ := by
  obtain ⟨HC, HR, hok, ea, el, hb, o, ho⟩ := id H; obtain ⟨hok', hr, h0, hn, hP, hpl, hO, hw⟩ := w_R H; obtain ⟨tl, tr, ws, sn, ps, rn, wc, sl, sr, HB⟩ := cw_csB HC hok; obtain ⟨z, hX⟩ := w_X H; have hN := w_N H
  rcases in_or n y (by omega) with hy | ⟨t0, ht, rfl⟩
  · obtain ⟨HC1, HR1, _⟩ := wj_th H; obtain ⟨o1, ho1⟩ := w_out H (frC_th τ); obtain ⟨th, m9, m10, m12, gr, ps2, HS⟩ := rw_rsB HR1 hok'
    obtain ⟨W2, c2, e2⟩ := w_end (τ2 := (mxWr (thT τ) 1075 (.inr (10, [.int (nI 1), .ref 1076, .int (nI L), .int ep, .ref 1077, .ref 1078, .ref 1079, .ref 1080, .ref 1081, .int m9, .int m10, .ref g2, .ref m12, .ref 1094, .ref 1095, .ref 1098])))) (frC_th τ) (frO_id _) (frR_M _ _) hN ho1 HC1 (rw_th HR1) hok ea el hb
    exact ⟨1, nI 0, thT τ, _, lx_isSeenFromLeft2 hX hN (by decide) (fun {Q} => n_isSeenFromLeft HB (by decide) hy), u_isSeenFromLeft HS (by decide) hy, ⟨⟨z, hX⟩, hN, rw_M HR1, Nat.le_trans hN (frC_th τ).2.1, kq (frC_th τ) (frO_id _)⟩, W2, c2, ⟨_, wr_s _ _ _⟩, by decide, o1, e2, fun h => absurd h (by decide)⟩
  · have ev : snS hs t0 = snS h' t0 := snS_cg ea t0 ht
    obtain ⟨HC1, HR1⟩ := w_mid H (frC_id τ) HC (frO_w τ (if (snS hs t0) = nI 0 then 0 else 1) o)
    obtain ⟨th, m9, m10, m12, gr, ps2, HS⟩ := rw_rsB HR1 hok'
    obtain ⟨W2, c2, e2⟩ := w_end (τ2 := (mxWr (outW τ (if (snS hs t0) = nI 0 then 0 else 1) o) 1075 (.inr (10, [.int (nI 0), .ref 1076, .int (nI L), .int ep, .ref 1077, .ref 1078, .ref 1079, .ref 1080, .ref 1081, .int m9, .int m10, .ref g2, .ref m12, .ref 1094, .ref 1095, .ref 1098])))) (frC_id τ) (frO_w τ (if (snS hs t0) = nI 0 then 0 else 1) o) (frR_M _ _) hN (wr_s _ _ _) HC1 (rw_th HR1) hok ea el hb
    refine ⟨0, snS hs t0, outW τ (if (snS hs t0) = nI 0 then 0 else 1) o, _, lw_isSeenFromLeft hX hN ho hN (by decide) (sn01 hs t0) (fun {Q} => q_isSeenFromLeft HB (by decide) ht), ?_, ⟨⟨z, hX⟩, hN, rw_M HR1, hN, kq (frC_id τ) (frO_w τ _ o)⟩, W2, c2, ⟨_, wr_s _ _ _⟩, by decide, _, e2, fun _ => va_up_self _ _ _⟩
    exact fun {Q} => (r_isSeenFromLeft (d := 199) HS (by decide) ht).trans (congrArg (fun (x : Int32) => Q (.inl (some (.int x))) _) ev.symm)
theorem hv01 {a b : Nat} {c : Bool} : (if a = b then nI 0 else if c = true then nI 1 else nI 0) = nI 0 ∨ (if a = b then nI 0 else if c = true then nI 1 else nI 0) = nI 1 := by
  by_cases q : a = b
  · exact .inl (if_pos q)
  · rw [if_neg q]
    by_cases q2 : c = true
    · exact .inr (if_pos q2)
    · exact .inl (if_neg q2)
theorem pb_hears (y w : Int32) {τ : mxS} {L : Nat} {bs tb : Nat → Int32} {ep : Int32} {g pb g2 : Nat} {n P O T : Nat} {K A B : Nat → Nat} {od : ODT} {hs : Nat → Int32} {pl : Nat → Nat} {ls : Nat → Int32} {dy co : Int32} {h' ls' : Nat → Int32} (H : WJ τ L bs tb ep g pb g2 n P O T K A B od hs pl ls dy co h' ls') : PBr true 2571 [some (.ref 1000), some (.int y), some (.int w), some (.ref 1101), none] 1606 [some (.ref 1075), some (.int y), some (.int w)] τ := by
  obtain ⟨HC, HR, hok, ea, el, hb, o, ho⟩ := id H; obtain ⟨hok', hr, h0, hn, hP, hpl, hO, hw⟩ := w_R H; obtain ⟨tl, tr, ws, sn, ps, rn, wc, sl, sr, HB⟩ := cw_csB HC hok; obtain ⟨z, hX⟩ := w_X H; have hN := w_N H
  rcases in_or P y (by omega) with hy | ⟨t0, ht, rfl⟩
  · obtain ⟨HC1, HR1, _⟩ := wj_th H; obtain ⟨o1, ho1⟩ := w_out H (frC_th τ); obtain ⟨th, m9, m10, m12, gr, ps2, HS⟩ := rw_rsB HR1 hok'
    obtain ⟨W2, c2, e2⟩ := w_end (τ2 := (mxWr (thT τ) 1075 (.inr (10, [.int (nI 1), .ref 1076, .int (nI L), .int ep, .ref 1077, .ref 1078, .ref 1079, .ref 1080, .ref 1081, .int m9, .int m10, .ref g2, .ref m12, .ref 1094, .ref 1095, .ref 1098])))) (frC_th τ) (frO_id _) (frR_M _ _) hN ho1 HC1 (rw_th HR1) hok ea el hb
    exact ⟨1, nI 0, thT τ, _, lx_hears2 hX hN (by decide) (fun {Q} => n_hears HB (by decide) hy), u_hears HS (by decide) hy, ⟨⟨z, hX⟩, hN, rw_M HR1, Nat.le_trans hN (frC_th τ).2.1, kq (frC_th τ) (frO_id _)⟩, W2, c2, ⟨_, wr_s _ _ _⟩, by decide, o1, e2, fun h => absurd h (by decide)⟩
  rcases in_or P w (by omega) with hy | ⟨t1, ht1, rfl⟩
  · obtain ⟨HC1, HR1, _⟩ := wj_th H; obtain ⟨o1, ho1⟩ := w_out H (frC_th τ); obtain ⟨th, m9, m10, m12, gr, ps2, HS⟩ := rw_rsB HR1 hok'
    obtain ⟨W2, c2, e2⟩ := w_end (τ2 := (mxWr (thT τ) 1075 (.inr (10, [.int (nI 1), .ref 1076, .int (nI L), .int ep, .ref 1077, .ref 1078, .ref 1079, .ref 1080, .ref 1081, .int m9, .int m10, .ref g2, .ref m12, .ref 1094, .ref 1095, .ref 1098])))) (frC_th τ) (frO_id _) (frR_M _ _) hN ho1 HC1 (rw_th HR1) hok ea el hb
    exact ⟨1, nI 0, thT τ, _, lx_hears2 hX hN (by decide) (fun {Q} => n_hears2 HB (by decide) ht hy), u_hears2 HS (by decide) ht hy, ⟨⟨z, hX⟩, hN, rw_M HR1, Nat.le_trans hN (frC_th τ).2.1, kq (frC_th τ) (frO_id _)⟩, W2, c2, ⟨_, wr_s _ _ _⟩, by decide, o1, e2, fun h => absurd h (by decide)⟩
  · have ev : (if t0 = t1 then nI 0 else if hmS hs n (pl t1) (pl t0) = true then nI 1 else nI 0) = (if t0 = t1 then nI 0 else if hmS h' n (pl t1) (pl t0) = true then nI 1 else nI 0) := by rw [hmS_cg ea (hpl t1 ht1) (hpl t0 ht)]
    obtain ⟨HC1, HR1⟩ := w_mid H (frC_id τ) HC (frO_w τ (if ((if t0 = t1 then nI 0 else if hmS hs n (pl t1) (pl t0) = true then nI 1 else nI 0)) = nI 0 then 0 else 1) o)
    obtain ⟨th, m9, m10, m12, gr, ps2, HS⟩ := rw_rsB HR1 hok'
    obtain ⟨W2, c2, e2⟩ := w_end (τ2 := (mxWr (outW τ (if ((if t0 = t1 then nI 0 else if hmS hs n (pl t1) (pl t0) = true then nI 1 else nI 0)) = nI 0 then 0 else 1) o) 1075 (.inr (10, [.int (nI 0), .ref 1076, .int (nI L), .int ep, .ref 1077, .ref 1078, .ref 1079, .ref 1080, .ref 1081, .int m9, .int m10, .ref g2, .ref m12, .ref 1094, .ref 1095, .ref 1098])))) (frC_id τ) (frO_w τ (if ((if t0 = t1 then nI 0 else if hmS hs n (pl t1) (pl t0) = true then nI 1 else nI 0)) = nI 0 then 0 else 1) o) (frR_M _ _) hN (wr_s _ _ _) HC1 (rw_th HR1) hok ea el hb
    refine ⟨0, (if t0 = t1 then nI 0 else if hmS hs n (pl t1) (pl t0) = true then nI 1 else nI 0), outW τ (if ((if t0 = t1 then nI 0 else if hmS hs n (pl t1) (pl t0) = true then nI 1 else nI 0)) = nI 0 then 0 else 1) o, _, lw_hears hX hN ho hN (by decide) hv01 (fun {Q} => q_hears HB (by decide) ht ht1), ?_, ⟨⟨z, hX⟩, hN, rw_M HR1, hN, kq (frC_id τ) (frO_w τ _ o)⟩, W2, c2, ⟨_, wr_s _ _ _⟩, by decide, _, e2, fun _ => va_up_self _ _ _⟩
    exact fun {Q} => (r_hears (d := 199) HS (by decide) ht ht1).trans (congrArg (fun (x : Int32) => Q (.inl (some (.int x))) _) ev.symm)
