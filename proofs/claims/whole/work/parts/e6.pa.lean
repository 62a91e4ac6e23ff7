/-! ===== calls without arguments, on both sides ===== -/
theorem no_c {τ : mxS} {L : Nat} {bs tb : Nat → Int32} {ep : Int32} {g pb g2 : Nat} {n P O T : Nat} {K A B : Nat → Nat} {od : ODT} {hs : Nat → Int32} {pl : Nat → Nat} {ls : Nat → Int32} {dy co : Int32} {h' ls' : Nat → Int32} (H : WJ τ L bs tb ep g pb g2 n P O T K A B od hs pl ls dy co h' ls') (hpl : ∀ q, q < P → pl q < n) (ea : agN n hs h') (el : agN P ls ls') {q : Nat} (hq : q < P) : suS (nzF hs n pl ls q (pl q)) P = suS (nzF h' n pl ls' q (pl q)) P := no_cg ea (fun t ht => rfl) el hpl (hpl q hq)
theorem tq_c {τ : mxS} {L : Nat} {bs tb : Nat → Int32} {ep : Int32} {g pb g2 : Nat} {n P O T : Nat} {K A B : Nat → Nat} {od : ODT} {hs : Nat → Int32} {pl : Nat → Nat} {ls : Nat → Int32} {dy co : Int32} {h' ls' : Nat → Int32} (H : WJ τ L bs tb ep g pb g2 n P O T K A B od hs pl ls dy co h' ls') (hpl : ∀ q, q < P → pl q < n) (h0 : 0 < n) (ea : agN n hs h') (el : agN P ls ls') {q : Nat} : nI (tqS (fun t => suS (nzF hs n pl ls q t) P) (n - 1)) = nI (tqS (fun t => suS (nzF h' n pl ls' q t) P) (n - 1)) := congrArg nI (tqS_cg (n - 1) (fun t ht => no_cg ea (fun t ht => rfl) el hpl (by omega)))
theorem hdF_cg {n P t : Nat} {hs h' : Nat → Int32} {pl : Nat → Nat} (hpl : ∀ q, q < P → pl q < n) (ea : agN n hs h') (ht : t < n) : hdF hs n P pl t = hdF h' n P pl t := suS_cg (fun q hq => by rw [hmS_cg ea (hpl q hq) ht])
theorem shS_cg {hs h' : Nat → Int32} : ∀ n, agN n hs h' → shS hs n = shS h' n
  | 0, _ => rfl
  | n + 1, e => by rw [shS, shS, shS_cg n (fun t ht => e t (by omega)), e n (by omega)]
theorem dgF_cg {f f' : Nat → List Int32} {d : Int64} : ∀ n, (∀ t, t < n → f t = f' t) → dgF f d n = dgF f' d n
  | 0, _ => rfl
  | n + 1, e => by rw [dgF, dgF, dgF_cg n (fun t ht => e t (by omega)), e n (by omega)]
theorem qt_c {τ : mxS} {L : Nat} {bs tb : Nat → Int32} {ep : Int32} {g pb g2 : Nat} {n P O T : Nat} {K A B : Nat → Nat} {od : ODT} {hs : Nat → Int32} {pl : Nat → Nat} {ls : Nat → Int32} {dy co : Int32} {h' ls' : Nat → Int32} (H : WJ τ L bs tb ep g pb g2 n P O T K A B od hs pl ls dy co h' ls') (hpl : ∀ q, q < P → pl q < n) (ea : agN n hs h') (el : agN P ls ls') : encO (qpS (fun q => suS (nzF hs n pl ls q (pl q)) P) P) = encO (qpS (fun q => suS (nzF h' n pl ls' q (pl q)) P) P) := congrArg encO (qpS_cg P (fun q hq => no_c H hpl ea el hq))

theorem pa_towers {τ : mxS} {L : Nat} {bs tb : Nat → Int32} {ep : Int32} {g pb g2 : Nat} {n P O T : Nat} {K A B : Nat → Nat} {od : ODT} {hs : Nat → Int32} {pl : Nat → Nat} {ls : Nat → Int32} {dy co : Int32} {h' ls' : Nat → Int32} (H : WJ τ L bs tb ep g pb g2 n P O T K A B od hs pl ls dy co h' ls') : PAr Value.int (fun _ => True) 1157 [some (.ref 1000)] 1586 [some (.ref 1075)] τ := by
  obtain ⟨HC, HR, hok, ea, el, hb, o, ho⟩ := id H; obtain ⟨hok', hr, h0, hn, hP, hpl, hO, hw⟩ := w_R H; obtain ⟨tl, tr, ws, sn, ps, rn, wc, sl, sr, HB⟩ := cw_csB HC hok; obtain ⟨th, m9, m10, m12, gr, ps2, HS⟩ := rw_rsB HR hok'
  have ev : nI n = nI n := rfl
  obtain ⟨W2, c2, _⟩ := w_end (τ2 := (mxWr τ 1075 (.inr (10, [.int (nI 0), .ref 1076, .int (nI L), .int ep, .ref 1077, .ref 1078, .ref 1079, .ref 1080, .ref 1081, .int m9, .int m10, .ref g2, .ref m12, .ref 1094, .ref 1095, .ref 1098])))) (frC_id τ) (frO_id τ) (frR_M τ _) (w_N H) ho HC (rw_th HR) hok ea el hb
  refine ⟨nI n, τ, (mxWr τ 1075 (.inr (10, [.int (nI 0), .ref 1076, .int (nI L), .int ep, .ref 1077, .ref 1078, .ref 1079, .ref 1080, .ref 1081, .int m9, .int m10, .ref g2, .ref m12, .ref 1094, .ref 1095, .ref 1098]))), trivial, fun {Q} => q_towers HB , fun {Q} => ?_, ⟨w_X H, w_N H, rw_M HR, w_N H⟩, W2, c2⟩
  rw [ev]
  exact r_towers HS (by omega)
theorem pa_pigeons {τ : mxS} {L : Nat} {bs tb : Nat → Int32} {ep : Int32} {g pb g2 : Nat} {n P O T : Nat} {K A B : Nat → Nat} {od : ODT} {hs : Nat → Int32} {pl : Nat → Nat} {ls : Nat → Int32} {dy co : Int32} {h' ls' : Nat → Int32} (H : WJ τ L bs tb ep g pb g2 n P O T K A B od hs pl ls dy co h' ls') : PAr Value.int (fun _ => True) 1158 [some (.ref 1000)] 1587 [some (.ref 1075)] τ := by
  obtain ⟨HC, HR, hok, ea, el, hb, o, ho⟩ := id H; obtain ⟨hok', hr, h0, hn, hP, hpl, hO, hw⟩ := w_R H; obtain ⟨tl, tr, ws, sn, ps, rn, wc, sl, sr, HB⟩ := cw_csB HC hok; obtain ⟨th, m9, m10, m12, gr, ps2, HS⟩ := rw_rsB HR hok'
  have ev : nI P = nI P := rfl
  obtain ⟨W2, c2, _⟩ := w_end (τ2 := (mxWr τ 1075 (.inr (10, [.int (nI 0), .ref 1076, .int (nI L), .int ep, .ref 1077, .ref 1078, .ref 1079, .ref 1080, .ref 1081, .int m9, .int m10, .ref g2, .ref m12, .ref 1094, .ref 1095, .ref 1098])))) (frC_id τ) (frO_id τ) (frR_M τ _) (w_N H) ho HC (rw_th HR) hok ea el hb
  refine ⟨nI P, τ, (mxWr τ 1075 (.inr (10, [.int (nI 0), .ref 1076, .int (nI L), .int ep, .ref 1077, .ref 1078, .ref 1079, .ref 1080, .ref 1081, .int m9, .int m10, .ref g2, .ref m12, .ref 1094, .ref 1095, .ref 1098]))), trivial, fun {Q} => q_pigeons HB , fun {Q} => ?_, ⟨w_X H, w_N H, rw_M HR, w_N H⟩, W2, c2⟩
  rw [ev]
  exact r_pigeons HS (by omega)
theorem pa_day {τ : mxS} {L : Nat} {bs tb : Nat → Int32} {ep : Int32} {g pb g2 : Nat} {n P O T : Nat} {K A B : Nat → Nat} {od : ODT} {hs : Nat → Int32} {pl : Nat → Nat} {ls : Nat → Int32} {dy co : Int32} {h' ls' : Nat → Int32} (H : WJ τ L bs tb ep g pb g2 n P O T K A B od hs pl ls dy co h' ls') : PAr Value.int (fun _ => True) 1159 [some (.ref 1000)] 1588 [some (.ref 1075)] τ := by
  obtain ⟨HC, HR, hok, ea, el, hb, o, ho⟩ := id H; obtain ⟨hok', hr, h0, hn, hP, hpl, hO, hw⟩ := w_R H; obtain ⟨tl, tr, ws, sn, ps, rn, wc, sl, sr, HB⟩ := cw_csB HC hok; obtain ⟨th, m9, m10, m12, gr, ps2, HS⟩ := rw_rsB HR hok'
  have ev : dy = dy := rfl
  obtain ⟨W2, c2, _⟩ := w_end (τ2 := (mxWr τ 1075 (.inr (10, [.int (nI 0), .ref 1076, .int (nI L), .int ep, .ref 1077, .ref 1078, .ref 1079, .ref 1080, .ref 1081, .int m9, .int m10, .ref g2, .ref m12, .ref 1094, .ref 1095, .ref 1098])))) (frC_id τ) (frO_id τ) (frR_M τ _) (w_N H) ho HC (rw_th HR) hok ea el hb
  refine ⟨dy, τ, (mxWr τ 1075 (.inr (10, [.int (nI 0), .ref 1076, .int (nI L), .int ep, .ref 1077, .ref 1078, .ref 1079, .ref 1080, .ref 1081, .int m9, .int m10, .ref g2, .ref m12, .ref 1094, .ref 1095, .ref 1098]))), trivial, fun {Q} => q_day HB , fun {Q} => ?_, ⟨w_X H, w_N H, rw_M HR, w_N H⟩, W2, c2⟩
  rw [ev]
  exact r_day HS (by omega)
theorem pa_ordersCarriedOut {τ : mxS} {L : Nat} {bs tb : Nat → Int32} {ep : Int32} {g pb g2 : Nat} {n P O T : Nat} {K A B : Nat → Nat} {od : ODT} {hs : Nat → Int32} {pl : Nat → Nat} {ls : Nat → Int32} {dy co : Int32} {h' ls' : Nat → Int32} (H : WJ τ L bs tb ep g pb g2 n P O T K A B od hs pl ls dy co h' ls') : PAr Value.int (fun _ => True) 1160 [some (.ref 1000)] 1589 [some (.ref 1075)] τ := by
  obtain ⟨HC, HR, hok, ea, el, hb, o, ho⟩ := id H; obtain ⟨hok', hr, h0, hn, hP, hpl, hO, hw⟩ := w_R H; obtain ⟨tl, tr, ws, sn, ps, rn, wc, sl, sr, HB⟩ := cw_csB HC hok; obtain ⟨th, m9, m10, m12, gr, ps2, HS⟩ := rw_rsB HR hok'
  have ev : co = co := rfl
  obtain ⟨W2, c2, _⟩ := w_end (τ2 := (mxWr τ 1075 (.inr (10, [.int (nI 0), .ref 1076, .int (nI L), .int ep, .ref 1077, .ref 1078, .ref 1079, .ref 1080, .ref 1081, .int m9, .int m10, .ref g2, .ref m12, .ref 1094, .ref 1095, .ref 1098])))) (frC_id τ) (frO_id τ) (frR_M τ _) (w_N H) ho HC (rw_th HR) hok ea el hb
  refine ⟨co, τ, (mxWr τ 1075 (.inr (10, [.int (nI 0), .ref 1076, .int (nI L), .int ep, .ref 1077, .ref 1078, .ref 1079, .ref 1080, .ref 1081, .int m9, .int m10, .ref g2, .ref m12, .ref 1094, .ref 1095, .ref 1098]))), trivial, fun {Q} => q_ordersCarriedOut HB , fun {Q} => ?_, ⟨w_X H, w_N H, rw_M HR, w_N H⟩, W2, c2⟩
  rw [ev]
  exact r_ordersCarriedOut HS (by omega)
theorem pa_trapped {τ : mxS} {L : Nat} {bs tb : Nat → Int32} {ep : Int32} {g pb g2 : Nat} {n P O T : Nat} {K A B : Nat → Nat} {od : ODT} {hs : Nat → Int32} {pl : Nat → Nat} {ls : Nat → Int32} {dy co : Int32} {h' ls' : Nat → Int32} (H : WJ τ L bs tb ep g pb g2 n P O T K A B od hs pl ls dy co h' ls') : PAr Value.int (fun _ => True) 1161 [some (.ref 1000)] 1590 [some (.ref 1075)] τ := by
  obtain ⟨HC, HR, hok, ea, el, hb, o, ho⟩ := id H; obtain ⟨hok', hr, h0, hn, hP, hpl, hO, hw⟩ := w_R H; obtain ⟨tl, tr, ws, sn, ps, rn, wc, sl, sr, HB⟩ := cw_csB HC hok; obtain ⟨th, m9, m10, m12, gr, ps2, HS⟩ := rw_rsB HR hok'
  have ev : suS (waS hs n) n = suS (waS h' n) n := suS_cg (waS_cg ea)
  obtain ⟨W2, c2, _⟩ := w_end (τ2 := (mxWr τ 1075 (.inr (10, [.int (nI 0), .ref 1076, .int (nI L), .int ep, .ref 1077, .ref 1078, .ref 1079, .ref 1080, .ref 1081, .int m9, .int m10, .ref g2, .ref m12, .ref 1094, .ref 1095, .ref 1098])))) (frC_id τ) (frO_id τ) (frR_M τ _) (w_N H) ho HC (rw_th HR) hok ea el hb
  refine ⟨suS (waS hs n) n, τ, (mxWr τ 1075 (.inr (10, [.int (nI 0), .ref 1076, .int (nI L), .int ep, .ref 1077, .ref 1078, .ref 1079, .ref 1080, .ref 1081, .int m9, .int m10, .ref g2, .ref m12, .ref 1094, .ref 1095, .ref 1098]))), trivial, fun {Q} => q_trapped HB , fun {Q} => ?_, ⟨w_X H, w_N H, rw_M HR, w_N H⟩, W2, c2⟩
  rw [ev]
  exact r_trapped HS (by omega)
theorem pa_wetTowers {τ : mxS} {L : Nat} {bs tb : Nat → Int32} {ep : Int32} {g pb g2 : Nat} {n P O T : Nat} {K A B : Nat → Nat} {od : ODT} {hs : Nat → Int32} {pl : Nat → Nat} {ls : Nat → Int32} {dy co : Int32} {h' ls' : Nat → Int32} (H : WJ τ L bs tb ep g pb g2 n P O T K A B od hs pl ls dy co h' ls') : PAr Value.int (fun _ => True) 1162 [some (.ref 1000)] 1591 [some (.ref 1075)] τ := by
  obtain ⟨HC, HR, hok, ea, el, hb, o, ho⟩ := id H; obtain ⟨hok', hr, h0, hn, hP, hpl, hO, hw⟩ := w_R H; obtain ⟨tl, tr, ws, sn, ps, rn, wc, sl, sr, HB⟩ := cw_csB HC hok; obtain ⟨th, m9, m10, m12, gr, ps2, HS⟩ := rw_rsB HR hok'
  have ev : wcS hs n n = wcS h' n n := wcS_cg ea n (Nat.le_refl _)
  obtain ⟨W2, c2, _⟩ := w_end (τ2 := (mxWr τ 1075 (.inr (10, [.int (nI 0), .ref 1076, .int (nI L), .int ep, .ref 1077, .ref 1078, .ref 1079, .ref 1080, .ref 1081, .int m9, .int m10, .ref g2, .ref m12, .ref 1094, .ref 1095, .ref 1098])))) (frC_id τ) (frO_id τ) (frR_M τ _) (w_N H) ho HC (rw_th HR) hok ea el hb
  refine ⟨wcS hs n n, τ, (mxWr τ 1075 (.inr (10, [.int (nI 0), .ref 1076, .int (nI L), .int ep, .ref 1077, .ref 1078, .ref 1079, .ref 1080, .ref 1081, .int m9, .int m10, .ref g2, .ref m12, .ref 1094, .ref 1095, .ref 1098]))), trivial, fun {Q} => q_wetTowers HB , fun {Q} => ?_, ⟨w_X H, w_N H, rw_M HR, w_N H⟩, W2, c2⟩
  rw [ev]
  exact r_wetTowers HS (by omega)
theorem pa_widestPool {τ : mxS} {L : Nat} {bs tb : Nat → Int32} {ep : Int32} {g pb g2 : Nat} {n P O T : Nat} {K A B : Nat → Nat} {od : ODT} {hs : Nat → Int32} {pl : Nat → Nat} {ls : Nat → Int32} {dy co : Int32} {h' ls' : Nat → Int32} (H : WJ τ L bs tb ep g pb g2 n P O T K A B od hs pl ls dy co h' ls') : PAr Value.int (fun _ => True) 1163 [some (.ref 1000)] 1592 [some (.ref 1075)] τ := by
  obtain ⟨HC, HR, hok, ea, el, hb, o, ho⟩ := id H; obtain ⟨hok', hr, h0, hn, hP, hpl, hO, hw⟩ := w_R H; obtain ⟨tl, tr, ws, sn, ps, rn, wc, sl, sr, HB⟩ := cw_csB HC hok; obtain ⟨th, m9, m10, m12, gr, ps2, HS⟩ := rw_rsB HR hok'
  have ev : wtS (waS hs n) n = wtS (waS h' n) n := wtS_cg (waS_cg ea)
  obtain ⟨W2, c2, _⟩ := w_end (τ2 := (mxWr τ 1075 (.inr (10, [.int (nI 0), .ref 1076, .int (nI L), .int ep, .ref 1077, .ref 1078, .ref 1079, .ref 1080, .ref 1081, .int m9, .int m10, .ref g2, .ref m12, .ref 1094, .ref 1095, .ref 1098])))) (frC_id τ) (frO_id τ) (frR_M τ _) (w_N H) ho HC (rw_th HR) hok ea el hb
  refine ⟨wtS (waS hs n) n, τ, (mxWr τ 1075 (.inr (10, [.int (nI 0), .ref 1076, .int (nI L), .int ep, .ref 1077, .ref 1078, .ref 1079, .ref 1080, .ref 1081, .int m9, .int m10, .ref g2, .ref m12, .ref 1094, .ref 1095, .ref 1098]))), trivial, fun {Q} => q_widestPool HB (by omega), fun {Q} => ?_, ⟨w_X H, w_N H, rw_M HR, w_N H⟩, W2, c2⟩
  rw [ev]
  exact r_widestPool HS (by omega)
theorem pa_highest {τ : mxS} {L : Nat} {bs tb : Nat → Int32} {ep : Int32} {g pb g2 : Nat} {n P O T : Nat} {K A B : Nat → Nat} {od : ODT} {hs : Nat → Int32} {pl : Nat → Nat} {ls : Nat → Int32} {dy co : Int32} {h' ls' : Nat → Int32} (H : WJ τ L bs tb ep g pb g2 n P O T K A B od hs pl ls dy co h' ls') : PAr Value.int (fun _ => True) 1164 [some (.ref 1000)] 1593 [some (.ref 1075)] τ := by
  obtain ⟨HC, HR, hok, ea, el, hb, o, ho⟩ := id H; obtain ⟨hok', hr, h0, hn, hP, hpl, hO, hw⟩ := w_R H; obtain ⟨tl, tr, ws, sn, ps, rn, wc, sl, sr, HB⟩ := cw_csB HC hok; obtain ⟨th, m9, m10, m12, gr, ps2, HS⟩ := rw_rsB HR hok'
  have ev : nI (hiS hs (n - 1)) = nI (hiS h' (n - 1)) := congrArg nI (hiS_cg ea (n - 1) (by omega))
  obtain ⟨W2, c2, _⟩ := w_end (τ2 := (mxWr τ 1075 (.inr (10, [.int (nI 0), .ref 1076, .int (nI L), .int ep, .ref 1077, .ref 1078, .ref 1079, .ref 1080, .ref 1081, .int m9, .int m10, .ref g2, .ref m12, .ref 1094, .ref 1095, .ref 1098])))) (frC_id τ) (frO_id τ) (frR_M τ _) (w_N H) ho HC (rw_th HR) hok ea el hb
  refine ⟨nI (hiS hs (n - 1)), τ, (mxWr τ 1075 (.inr (10, [.int (nI 0), .ref 1076, .int (nI L), .int ep, .ref 1077, .ref 1078, .ref 1079, .ref 1080, .ref 1081, .int m9, .int m10, .ref g2, .ref m12, .ref 1094, .ref 1095, .ref 1098]))), trivial, fun {Q} => q_highest HB (by omega), fun {Q} => ?_, ⟨w_X H, w_N H, rw_M HR, w_N H⟩, W2, c2⟩
  rw [ev]
  exact r_highest HS (by omega)
theorem pa_seenFromLeft {τ : mxS} {L : Nat} {bs tb : Nat → Int32} {ep : Int32} {g pb g2 : Nat} {n P O T : Nat} {K A B : Nat → Nat} {od : ODT} {hs : Nat → Int32} {pl : Nat → Nat} {ls : Nat → Int32} {dy co : Int32} {h' ls' : Nat → Int32} (H : WJ τ L bs tb ep g pb g2 n P O T K A B od hs pl ls dy co h' ls') : PAr Value.int (fun _ => True) 1165 [some (.ref 1000)] 1594 [some (.ref 1075)] τ := by
  obtain ⟨HC, HR, hok, ea, el, hb, o, ho⟩ := id H; obtain ⟨hok', hr, h0, hn, hP, hpl, hO, hw⟩ := w_R H; obtain ⟨tl, tr, ws, sn, ps, rn, wc, sl, sr, HB⟩ := cw_csB HC hok; obtain ⟨th, m9, m10, m12, gr, ps2, HS⟩ := rw_rsB HR hok'
  have ev : cL hs n = cL h' n := cL_cg ea n (Nat.le_refl _)
  obtain ⟨W2, c2, _⟩ := w_end (τ2 := (mxWr τ 1075 (.inr (10, [.int (nI 0), .ref 1076, .int (nI L), .int ep, .ref 1077, .ref 1078, .ref 1079, .ref 1080, .ref 1081, .int m9, .int m10, .ref g2, .ref m12, .ref 1094, .ref 1095, .ref 1098])))) (frC_id τ) (frO_id τ) (frR_M τ _) (w_N H) ho HC (rw_th HR) hok ea el hb
  refine ⟨cL hs n, τ, (mxWr τ 1075 (.inr (10, [.int (nI 0), .ref 1076, .int (nI L), .int ep, .ref 1077, .ref 1078, .ref 1079, .ref 1080, .ref 1081, .int m9, .int m10, .ref g2, .ref m12, .ref 1094, .ref 1095, .ref 1098]))), trivial, fun {Q} => q_seenFromLeft HB , fun {Q} => ?_, ⟨w_X H, w_N H, rw_M HR, w_N H⟩, W2, c2⟩
  rw [ev]
  exact r_seenFromLeft HS (by omega)
theorem pa_seenFromRight {τ : mxS} {L : Nat} {bs tb : Nat → Int32} {ep : Int32} {g pb g2 : Nat} {n P O T : Nat} {K A B : Nat → Nat} {od : ODT} {hs : Nat → Int32} {pl : Nat → Nat} {ls : Nat → Int32} {dy co : Int32} {h' ls' : Nat → Int32} (H : WJ τ L bs tb ep g pb g2 n P O T K A B od hs pl ls dy co h' ls') : PAr Value.int (fun _ => True) 1166 [some (.ref 1000)] 1595 [some (.ref 1075)] τ := by
  obtain ⟨HC, HR, hok, ea, el, hb, o, ho⟩ := id H; obtain ⟨hok', hr, h0, hn, hP, hpl, hO, hw⟩ := w_R H; obtain ⟨tl, tr, ws, sn, ps, rn, wc, sl, sr, HB⟩ := cw_csB HC hok; obtain ⟨th, m9, m10, m12, gr, ps2, HS⟩ := rw_rsB HR hok'
  have ev : cR hs n n = cR h' n n := cR_cg ea n (Nat.le_refl _)
  obtain ⟨W2, c2, _⟩ := w_end (τ2 := (mxWr τ 1075 (.inr (10, [.int (nI 0), .ref 1076, .int (nI L), .int ep, .ref 1077, .ref 1078, .ref 1079, .ref 1080, .ref 1081, .int m9, .int m10, .ref g2, .ref m12, .ref 1094, .ref 1095, .ref 1098])))) (frC_id τ) (frO_id τ) (frR_M τ _) (w_N H) ho HC (rw_th HR) hok ea el hb
  refine ⟨cR hs n n, τ, (mxWr τ 1075 (.inr (10, [.int (nI 0), .ref 1076, .int (nI L), .int ep, .ref 1077, .ref 1078, .ref 1079, .ref 1080, .ref 1081, .int m9, .int m10, .ref g2, .ref m12, .ref 1094, .ref 1095, .ref 1098]))), trivial, fun {Q} => q_seenFromRight HB , fun {Q} => ?_, ⟨w_X H, w_N H, rw_M HR, w_N H⟩, W2, c2⟩
  rw [ev]
  exact r_seenFromRight HS (by omega)
theorem pa_quietest {τ : mxS} {L : Nat} {bs tb : Nat → Int32} {ep : Int32} {g pb g2 : Nat} {n P O T : Nat} {K A B : Nat → Nat} {od : ODT} {hs : Nat → Int32} {pl : Nat → Nat} {ls : Nat → Int32} {dy co : Int32} {h' ls' : Nat → Int32} (H : WJ τ L bs tb ep g pb g2 n P O T K A B od hs pl ls dy co h' ls') : PAr Value.int (fun _ => True) 1178 [some (.ref 1000)] 1608 [some (.ref 1075)] τ := by
  obtain ⟨HC, HR, hok, ea, el, hb, o, ho⟩ := id H; obtain ⟨hok', hr, h0, hn, hP, hpl, hO, hw⟩ := w_R H; obtain ⟨tl, tr, ws, sn, ps, rn, wc, sl, sr, HB⟩ := cw_csB HC hok; obtain ⟨th, m9, m10, m12, gr, ps2, HS⟩ := rw_rsB HR hok'
  have ev : encO (qpS (fun q => suS (nzF hs n pl ls q (pl q)) P) P) = encO (qpS (fun q => suS (nzF h' n pl ls' q (pl q)) P) P) := qt_c H hpl ea el
  obtain ⟨W2, c2, _⟩ := w_end (τ2 := (mxWr τ 1075 (.inr (10, [.int (nI 0), .ref 1076, .int (nI L), .int ep, .ref 1077, .ref 1078, .ref 1079, .ref 1080, .ref 1081, .int m9, .int m10, .ref g2, .ref m12, .ref 1094, .ref 1095, .ref 1098])))) (frC_id τ) (frO_id τ) (frR_M τ _) (w_N H) ho HC (rw_th HR) hok ea el hb
  refine ⟨encO (qpS (fun q => suS (nzF hs n pl ls q (pl q)) P) P), τ, (mxWr τ 1075 (.inr (10, [.int (nI 0), .ref 1076, .int (nI L), .int ep, .ref 1077, .ref 1078, .ref 1079, .ref 1080, .ref 1081, .int m9, .int m10, .ref g2, .ref m12, .ref 1094, .ref 1095, .ref 1098]))), trivial, fun {Q} => q_quietest HB (by omega), fun {Q} => ?_, ⟨w_X H, w_N H, rw_M HR, w_N H⟩, W2, c2⟩
  rw [ev]
  exact r_quietest HS (by omega)
theorem r_errorAt {d M : Nat} {th ep : Int32} {a1 a2 : Value} {fs : List Value} {τ : mxS} (hM : τ.1 M = .inr (10, .int th :: a1 :: a2 :: .int ep :: fs)) (uM : 1000 ≤ M ∧ M < 1000 + τ.2.1) (hd1 : 1 ≤ d) {Q : Option Value ⊕ Nat → mxS → Prop} : WP d 1585 0 [some (.ref M)] [] τ Q = Q (.inl (some (.int ep))) (mxWr τ M (.inr (10, .int (nI 0) :: a1 :: a2 :: .int ep :: fs))) := by
  have e := fun (Q : Option Value ⊕ Nat → mxS → Prop) => m_ok (d := d - 1) (x := ep) hM uM (Q := Q)
  simp only [WP_eq, e_go, e_none, e_ite, e_thr0, e_ret, e_thr, e_call, e_Kv, e_Kn, e_Kx, e_K2, e_K20, e_at0, e_s1_0, e_s2_0, e_at1, e_s1_1, e_s2_1, e_at2, e_s1_2, e_s2_2, e_at3, e_s1_3, e_s2_3, e_at4, e_s1_4, e_s2_4, e_at5, e_s1_5, e_s2_5, e_at6, e_s1_6, e_s2_6, e_at7, e_s1_7, e_s2_7, e_at8, e_s1_8, e_s2_8, e_at9, e_s1_9, e_s2_9, e_at10, e_s1_10, e_s2_10, e_at11, e_s1_11, e_s2_11, e_at12, e_s1_12, e_s2_12, e_at13, e_s1_13, e_s2_13, e_kn, e_ki, e_kj, e_kd, e_kr, e_k0, e_lI, e_lJ, e_lD, e_lA, e_lA0, e_sI, e_sJ, e_sD, e_sA, e_sA0, e_inc, e_I2, e_I2z, e_I1, e_I2J, e_J2I, e_I2D, e_J2, e_lcmp, e_dcmp, e_ddiv, e_ifeq, e_iceq, e_ifne, e_icne, e_iflt, e_iclt, e_ifge, e_icge, e_ifgt, e_icgt, e_ifle, e_icle, e_ca, e_ca2, e_en, e_en0, e_sw, e_lk0, e_lk, e_dup, e_dup2, e_pop, e_ci, e_cj, e_cd, e_cr, e_c0, e_gf, e_gf2, e_gf3, e_pf, e_pf2, e_f0, e_f1, e_f2, e_f20, e_len, e_len2, e_al, e_al2, e_al3, e_alJ, e_alJ2, e_alJ3, e_alA, e_alA2, e_alA3, e_as, e_as2, e_as3, e_asB, e_asB2, e_asJ, e_asJ2, e_asJ3, e_asA, e_asA2, e_asA3, e_new, e_na, e_na2, e_cat0, e_cat1, e_tk0, e_tk1, e_tk2, e_tk3, e_tk4, e_tk5, e_tk6, e_tk7, e_tk8, e_cS, e_cS2, e_cI_0, e_cI_1, e_cI_2, e_cI_3, e_cI_4, e_cI_5, e_cI2, e_cV_0, e_cV_1, e_cV_2, e_cV_3, e_cV_4, e_cV_5, e_cV_6, e_cV_7, e_cV2, e_cV3, e_oi, e_cp, e_r0, e_r1, e_r2, e_r3, e_r4, e_r5, e_r6, e_r60, e_r7, e_W1, e_W2, e_A1, e_A2, e_Wg, e_Ag, e_rf0, e_rf1, e_len0, e_len1, e_vl0, e_vl1, z00, z10, z11, ↓reduceIte, List.getElem?_cons_zero, List.getElem?_cons_succ, List.set_cons_zero, List.set_cons_succ, and_true, true_and, and_self, or_true, true_or, or_false, false_or, Nat.reduceAdd, Nat.reduceSub, Nat.reduceLT, Nat.reduceLeDiff, Nat.reduceEqDiff, Nat.reduceBEq, beq_self_eq_true, Bool.or_false, Bool.false_or, Bool.or_true, Bool.true_or, not_true, not_false_eq_true, reduceCtorEq, s1585_0, s1585_1, s1585_2, s1585_5, s1585_8, hM, uM, hd1, cal (n1539 _ _) (e _)]
theorem pa_errorAt {τ : mxS} {L : Nat} {bs tb : Nat → Int32} {ep : Int32} {g pb g2 : Nat} {n P O T : Nat} {K A B : Nat → Nat} {od : ODT} {hs : Nat → Int32} {pl : Nat → Nat} {ls : Nat → Int32} {dy co : Int32} {h' ls' : Nat → Int32} (H : WJ τ L bs tb ep g pb g2 n P O T K A B od hs pl ls dy co h' ls') : PAr Value.int (fun _ => True) 1156 [some (.ref 1000)] 1585 [some (.ref 1075)] τ := by
  obtain ⟨HC, HR, hok, ea, el, hb, o, ho⟩ := id H; obtain ⟨hok', hr, h0, hn, hP, hpl, hO, hw⟩ := w_R H; obtain ⟨tl, tr, ws, sn, ps, rn, wc, sl, sr, HB⟩ := cw_csB HC hok; obtain ⟨th, m9, m10, m12, gr, ps2, HS⟩ := rw_rsB HR hok'
  obtain ⟨⟨cg, cN, _⟩, cX, _, ⟨a0, e0, h0', t0, _, cr⟩, _⟩ := id HC
  obtain ⟨⟨hM, uM⟩, _⟩ := id HS
  have u0 : 1000 ≤ 1000 ∧ 1000 < 1000 + τ.2.1 := by omega
  have u3 : 1000 ≤ 1003 ∧ 1003 < 1000 + τ.2.1 := by omega
  obtain ⟨W2, c2, _⟩ := w_end (τ2 := (mxWr τ 1075 (.inr (10, [.int (nI 0), .ref 1076, .int (nI L), .int ep, .ref 1077, .ref 1078, .ref 1079, .ref 1080, .ref 1081, .int m9, .int m10, .ref g2, .ref m12, .ref 1094, .ref 1095, .ref 1098])))) (frC_id τ) (frO_id τ) (frR_M τ _) (w_N H) ho HC (rw_th HR) hok ea el hb
  refine ⟨ep, τ, (mxWr τ 1075 (.inr (10, [.int (nI 0), .ref 1076, .int (nI L), .int ep, .ref 1077, .ref 1078, .ref 1079, .ref 1080, .ref 1081, .int m9, .int m10, .ref g2, .ref m12, .ref 1094, .ref 1095, .ref 1098]))), trivial, fun {Q} => q_errorAt cX u0 cr u3, fun {Q} => ?_, ⟨w_X H, w_N H, rw_M HR, w_N H⟩, W2, c2⟩
  exact r_errorAt hM uM (by decide)
theorem pa_bestToBuild {τ : mxS} {L : Nat} {bs tb : Nat → Int32} {ep : Int32} {g pb g2 : Nat} {n P O T : Nat} {K A B : Nat → Nat} {od : ODT} {hs : Nat → Int32} {pl : Nat → Nat} {ls : Nat → Int32} {dy co : Int32} {h' ls' : Nat → Int32} (H : WJ τ L bs tb ep g pb g2 n P O T K A B od hs pl ls dy co h' ls') : PAr Value.int (fun _ => True) 1187 [some (.ref 1000), none, none, none] 1619 [some (.ref 1075)] τ := by
  obtain ⟨HC, HR, hok, ea, el, hb, o, ho⟩ := id H; obtain ⟨hok', hr, h0, hn, hP, hpl, hO, hw⟩ := w_R H; obtain ⟨tl, tr, ws, sn, ps, rn, wc, sl, sr, HB⟩ := cw_csB HC hok; obtain ⟨th, m9, m10, m12, gr, ps2, HS⟩ := rw_rsB HR hok'
  have ev : (tbS (rwF hs n) n).1 = (tbS (rwF h' n) n).1 := congrArg Prod.fst (tbS_cg n (rwF_cg ea))
  obtain ⟨h1, pl1, ls1, dy1, co1, τ1, hS, hq⟩ : ∃ h1 pl1 ls1 dy1 co1 τ1, skS τ 1043 1033 n P h1 pl1 ls1 dy1 co1 τ1 ∧ ∀ {Q : Option Value ⊕ Nat → mxS → Prop}, WP 199 1187 0 [some (.ref 1000), none, none, none] [] τ Q = Q (.inl (some (.int (tbS (rwF hs n) n).1))) τ1 := by
    obtain ⟨h1, pl1, ls1, dy1, co1, τ1, x, y⟩ := q_bestToBuild (d := 199) HB (cw_csT HC) hr (by decide)
    exact ⟨h1, pl1, ls1, dy1, co1, τ1, x, y⟩
  have hf := frC_sk (.inr rfl) hS
  obtain ⟨HC1, HR1⟩ := w_mid H hf (cw_tri HC hS) (frO_id τ1)
  obtain ⟨o1, ho1⟩ := w_out H hf
  obtain ⟨th, m9, m10, m12, gr, ps2, HS⟩ := rw_rsB HR1 hok'
  obtain ⟨W2, c2, _⟩ := w_end (τ2 := (mxWr τ1 1075 (.inr (10, [.int (nI 0), .ref 1076, .int (nI L), .int ep, .ref 1077, .ref 1078, .ref 1079, .ref 1080, .ref 1081, .int m9, .int m10, .ref g2, .ref m12, .ref 1094, .ref 1095, .ref 1098])))) hf (frO_id τ1) (frR_M τ1 _) (w_N H) ho1 HC1 (rw_th HR1) hok ea el hb
  refine ⟨_, τ1, (mxWr τ1 1075 (.inr (10, [.int (nI 0), .ref 1076, .int (nI L), .int ep, .ref 1077, .ref 1078, .ref 1079, .ref 1080, .ref 1081, .int m9, .int m10, .ref g2, .ref m12, .ref 1094, .ref 1095, .ref 1098]))), trivial, hq, fun {Q} => ?_, ⟨w_X H, w_N H, rw_M HR1, Nat.le_trans (w_N H) hf.2.1⟩, W2, c2⟩
  rw [ev]
  exact r_bestToBuild HS (by omega)
theorem pa_meanHeight {τ : mxS} {L : Nat} {bs tb : Nat → Int32} {ep : Int32} {g pb g2 : Nat} {n P O T : Nat} {K A B : Nat → Nat} {od : ODT} {hs : Nat → Int32} {pl : Nat → Nat} {ls : Nat → Int32} {dy co : Int32} {h' ls' : Nat → Int32} (H : WJ τ L bs tb ep g pb g2 n P O T K A B od hs pl ls dy co h' ls') : PAr Value.double (fun _ => True) 1189 [some (.ref 1000)] 1621 [some (.ref 1075), none, none] τ := by
  obtain ⟨HC, HR, hok, ea, el, hb, o, ho⟩ := id H; obtain ⟨hok', hr, h0, hn, hP, hpl, hO, hw⟩ := w_R H; obtain ⟨tl, tr, ws, sn, ps, rn, wc, sl, sr, HB⟩ := cw_csB HC hok; obtain ⟨th, m9, m10, m12, gr, ps2, HS⟩ := rw_rsB HR hok'
  have ev : shS hs n = shS h' n := shS_cg n ea
  obtain ⟨W2, c2, _⟩ := w_end (τ2 := (mxWr τ 1075 (.inr (10, [.int (nI 0), .ref 1076, .int (nI L), .int ep, .ref 1077, .ref 1078, .ref 1079, .ref 1080, .ref 1081, .int m9, .int m10, .ref g2, .ref m12, .ref 1094, .ref 1095, .ref 1098])))) (frC_id τ) (frO_id τ) (frR_M τ _) (w_N H) ho HC (rw_th HR) hok ea el hb
  refine ⟨_, τ, (mxWr τ 1075 (.inr (10, [.int (nI 0), .ref 1076, .int (nI L), .int ep, .ref 1077, .ref 1078, .ref 1079, .ref 1080, .ref 1081, .int m9, .int m10, .ref g2, .ref m12, .ref 1094, .ref 1095, .ref 1098]))), trivial, fun {Q} => q_meanHeight HB hr (by omega), fun {Q} => ?_, ⟨w_X H, w_N H, rw_M HR, w_N H⟩, W2, c2⟩
  rw [ev]
  exact r_meanHeight HS (hR_cg ea hr)
theorem digF_cg {n P : Nat} {hs h' : Nat → Int32} {pl : Nat → Nat} {ls ls' : Nat → Int32} {dy co : Int32} (hpl : ∀ q, q < P → pl q < n) (h0 : 0 < n) (ea : agN n hs h') (el : agN P ls ls') : digF hs n P pl ls dy co = digF h' n P pl ls' dy co := by
  have x1 : hd12 hs n P pl ls dy co = hd12 h' n P pl ls' dy co := by
    unfold hd12
    rw [suS_cg (waS_cg ea), wcS_cg ea n (Nat.le_refl _), wtS_cg (waS_cg ea), hiS_cg ea (n - 1) (by omega), cL_cg ea n (Nat.le_refl _), cR_cg ea n (Nat.le_refl _), qpS_cg P (fun q hq => no_cg (p := q) ea (fun t ht => rfl) el hpl (hpl q hq)), tbS_cg n (rwF_cg ea)]
  have x2 : ∀ t, t < n → tl6 hs n P pl t = tl6 h' n P pl t := fun t ht => by
    unfold tl6
    rw [ea t ht, tlS_cg ea t ht, trS_cg ea t ht, waS_cg ea t ht, hdF_cg hpl ea ht]
  have x3 : ∀ q, q < P → pl4 hs n P pl ls q = pl4 h' n P pl ls' q := fun q hq => by
    unfold pl4
    rw [el q hq, no_cg (p := q) ea (fun t ht => rfl) el hpl (hpl q hq), tqS_cg (n - 1) (fun t ht => no_cg (p := q) ea (fun t ht => rfl) el hpl (by omega))]
  unfold digF
  rw [x1, dgF_cg n x2, dgF_cg P x3]
theorem pa_digest {τ : mxS} {L : Nat} {bs tb : Nat → Int32} {ep : Int32} {g pb g2 : Nat} {n P O T : Nat} {K A B : Nat → Nat} {od : ODT} {hs : Nat → Int32} {pl : Nat → Nat} {ls : Nat → Int32} {dy co : Int32} {h' ls' : Nat → Int32} (H : WJ τ L bs tb ep g pb g2 n P O T K A B od hs pl ls dy co h' ls') (K : Int64 → Option Value ⊕ Nat → mxS → Prop) : ∃ (v : Int64) (τ1 τ2 : mxS), (∀ {Q : Option Value ⊕ Nat → mxS → Prop}, WP 199 1190 0 [some (.ref 1000), none, none] [] τ Q = Q (.inl (some (.long v))) τ1) ∧ (WP 199 1622 0 [some (.ref 1075), none, none, none, none, none, none, none, none, none] [] τ1 (K v) = (K v) (.inl (some (.long v))) τ2) ∧ ctx τ τ1 ∧ WW τ2 ∧ cn τ τ2 := by
  obtain ⟨HC, HR, hok, ea, el, hb, o, ho⟩ := id H; obtain ⟨hok', hr, h0, hn, hP, hpl, hO, hw⟩ := w_R H; obtain ⟨tl, tr, ws, sn, ps, rn, wc, sl, sr, HB⟩ := cw_csB HC hok; obtain ⟨th, m9, m10, m12, gr, ps2, HS⟩ := rw_rsB HR hok'
  have ev : digF hs n P pl ls dy co = digF h' n P pl ls' dy co := digF_cg hpl h0 ea el
  obtain ⟨h1, pl1, ls1, dy1, co1, τ1, hS, hq⟩ := q_digest (d := 199) HB (cw_csT HC) hr (by decide)
  have hf := frC_sk (.inr rfl) hS
  obtain ⟨HC1, HR1⟩ := w_mid H hf (cw_tri HC hS) (frO_id τ1)
  obtain ⟨o1, ho1⟩ := w_out H hf
  obtain ⟨th, m9, m10, m12, gr, ps2, HS⟩ := rw_rsB HR1 hok'
  obtain ⟨τ2, hg, he⟩ := r_digest (d := 199) HS (by decide) (Q := K (digF hs n P pl ls dy co))
  have hN1 : 102 ≤ τ1.2.1 := Nat.le_trans (w_N H) hf.2.1
  have HR2 := rw_gr (rw_th (th := nI 0) (m9 := m9) (m10 := m10) (m12 := m12) HR1) hg
  have hr2 : frR τ1 τ2 := by
    obtain ⟨g1, g2⟩ := hg
    refine ⟨fun a x y => (g2 a y).trans (wr_o _ _ (by omega)), ?_, ?_, ?_⟩
    · rw [g1]
      exact Nat.le_add_right _ _
    · rw [g1]
      show τ1.2.1 + (1 + n + P) ≤ _
      omega
    · rw [g1]
      show τ1.2.2 + (12 + 6 * n + 4 * P) ≤ _
      omega
  obtain ⟨W2, c2, _⟩ := w_end hf (frO_id τ1) hr2 (w_N H) ho1 HC1 HR2 hok ea el hb
  refine ⟨_, τ1, τ2, hq, ?_, ⟨w_X H, w_N H, rw_M HR1, hN1⟩, W2, c2⟩
  rw [he, ev]
