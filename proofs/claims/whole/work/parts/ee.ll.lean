/-! ===== the law's loop ===== -/
theorem b63 (x : Int32) : ∃ n, n < 64 ∧ x &&& nI 63 = nI n := by
  refine ⟨(x &&& nI 63).toBitVec.toNat, ?_, ?_⟩
  · have h : (x &&& nI 63).toBitVec = x.toBitVec &&& (nI 63).toBitVec := rfl
    rw [h, BitVec.toNat_and]
    have h2 : (nI 63).toBitVec.toNat = 63 := by decide
    rw [h2]
    have := @Nat.and_le_right x.toBitVec.toNat 63
    omega
  · apply Int32.toBitVec_inj.mp
    simp [nI]
def swT : List (Int × Nat) := [(0, 208), (1, 312), (2, 368), (3, 381), (4, 394), (5, 407), (6, 420), (7, 433), (8, 446), (9, 459), (10, 472), (11, 485), (12, 498), (13, 511), (14, 524), (15, 580), (16, 643), (17, 699), (18, 755), (19, 811), (20, 867), (21, 923), (22, 979), (23, 1035), (24, 1110), (25, 1166), (26, 1179), (27, 1263), (28, 1347), (29, 1403), (30, 1459), (31, 1515), (32, 1571), (33, 1639), (34, 1707), (35, 1720), (36, 1776), (37, 1817)]
theorem sw_0 (loc : mxL) (q : Nat) (τ : mxS) {Q : Option Value ⊕ Nat → mxS → Prop} : WP 200 2582 40 loc [.int (nI q)] τ Q = WP 200 2582 (mxlk swT 1831 (nI q).toInt) loc [] τ Q := by
  rw [WP_eq, s2582_40]
  rfl
theorem sw_d : ∀ q, q < 64 → 38 ≤ q → mxlk swT 1831 (nI q).toInt = 1831 := by decide +kernel
theorem cn_id (τ : mxS) : cn τ τ := ⟨Nat.le_refl _, by omega, by omega, fun a ha => rfl⟩
theorem sw_all {q : Nat} {j L0 : Nat} {xs : Nat → Int32} {x5 x6 x7 x8 : Option Value} {τ : mxS} (H : WW τ) (hk : τ.1 303 = .inl (0, L0, .inl xs)) (hj : j + 6 ≤ L0) (hL : L0 ≤ 4096) (hq : q < 64) {Q : Option Value ⊕ Nat → mxS → Prop} : ∃ τ2 y5 y6 y7 y8, WW τ2 ∧ cn τ τ2 ∧ WP 200 2582 40 [some (.ref 303), some (.ref 1000), some (.ref 1075), some (.ref 1101), some (.int (nI j)), x5, x6, x7, x8] [.int (nI q)] τ Q = WP 200 2582 1831 [some (.ref 303), some (.ref 1000), some (.ref 1075), some (.ref 1101), some (.int (nI j)), y5, y6, y7, y8] [] τ2 Q := by
  rw [sw_0]
  rcases (show q = 0 ∨ q = 1 ∨ q = 2 ∨ q = 3 ∨ q = 4 ∨ q = 5 ∨ q = 6 ∨ q = 7 ∨ q = 8 ∨ q = 9 ∨ q = 10 ∨ q = 11 ∨ q = 12 ∨ q = 13 ∨ q = 14 ∨ q = 15 ∨ q = 16 ∨ q = 17 ∨ q = 18 ∨ q = 19 ∨ q = 20 ∨ q = 21 ∨ q = 22 ∨ q = 23 ∨ q = 24 ∨ q = 25 ∨ q = 26 ∨ q = 27 ∨ q = 28 ∨ q = 29 ∨ q = 30 ∨ q = 31 ∨ q = 32 ∨ q = 33 ∨ q = 34 ∨ q = 35 ∨ q = 36 ∨ q = 37 ∨ 38 ≤ q by omega) with rfl | rfl | rfl | rfl | rfl | rfl | rfl | rfl | rfl | rfl | rfl | rfl | rfl | rfl | rfl | rfl | rfl | rfl | rfl | rfl | rfl | rfl | rfl | rfl | rfl | rfl | rfl | rfl | rfl | rfl | rfl | rfl | rfl | rfl | rfl | rfl | rfl | rfl | h38

  · obtain ⟨τ2, y5, y6, y7, y8, W2, c2, e⟩ := lb_feed (j := j) (x5 := x5) (x6 := x6) (x7 := x7) (x8 := x8) H hk hj hL (Q := Q)
    rw [show mxlk swT 1831 (nI 0).toInt = 208 by decide]
    exact ⟨τ2, y5, y6, y7, y8, W2, c2, e⟩
  · obtain ⟨τ2, y5, y6, y7, y8, W2, c2, e⟩ := lb_trim (j := j) (x5 := x5) (x6 := x6) (x7 := x7) (x8 := x8) H hk hj hL (Q := Q)
    rw [show mxlk swT 1831 (nI 1).toInt = 312 by decide]
    exact ⟨τ2, y5, y6, y7, y8, W2, c2, e⟩
  · obtain ⟨τ2, W2, c2, e⟩ := la_teach (j := j) (x5 := x5) (x6 := x6) (x7 := x7) (x8 := x8) H (Q := Q)
    rw [show mxlk swT 1831 (nI 2).toInt = 368 by decide]
    exact ⟨τ2, x5, x6, x7, x8, W2, c2, e⟩
  · obtain ⟨τ2, W2, c2, e⟩ := la_errorAt (j := j) (x5 := x5) (x6 := x6) (x7 := x7) (x8 := x8) H (Q := Q)
    rw [show mxlk swT 1831 (nI 3).toInt = 381 by decide]
    exact ⟨τ2, x5, x6, x7, x8, W2, c2, e⟩
  · obtain ⟨τ2, W2, c2, e⟩ := la_towers (j := j) (x5 := x5) (x6 := x6) (x7 := x7) (x8 := x8) H (Q := Q)
    rw [show mxlk swT 1831 (nI 4).toInt = 394 by decide]
    exact ⟨τ2, x5, x6, x7, x8, W2, c2, e⟩
  · obtain ⟨τ2, W2, c2, e⟩ := la_pigeons (j := j) (x5 := x5) (x6 := x6) (x7 := x7) (x8 := x8) H (Q := Q)
    rw [show mxlk swT 1831 (nI 5).toInt = 407 by decide]
    exact ⟨τ2, x5, x6, x7, x8, W2, c2, e⟩
  · obtain ⟨τ2, W2, c2, e⟩ := la_day (j := j) (x5 := x5) (x6 := x6) (x7 := x7) (x8 := x8) H (Q := Q)
    rw [show mxlk swT 1831 (nI 6).toInt = 420 by decide]
    exact ⟨τ2, x5, x6, x7, x8, W2, c2, e⟩
  · obtain ⟨τ2, W2, c2, e⟩ := la_ordersCarriedOut (j := j) (x5 := x5) (x6 := x6) (x7 := x7) (x8 := x8) H (Q := Q)
    rw [show mxlk swT 1831 (nI 7).toInt = 433 by decide]
    exact ⟨τ2, x5, x6, x7, x8, W2, c2, e⟩
  · obtain ⟨τ2, W2, c2, e⟩ := la_trapped (j := j) (x5 := x5) (x6 := x6) (x7 := x7) (x8 := x8) H (Q := Q)
    rw [show mxlk swT 1831 (nI 8).toInt = 446 by decide]
    exact ⟨τ2, x5, x6, x7, x8, W2, c2, e⟩
  · obtain ⟨τ2, W2, c2, e⟩ := la_wetTowers (j := j) (x5 := x5) (x6 := x6) (x7 := x7) (x8 := x8) H (Q := Q)
    rw [show mxlk swT 1831 (nI 9).toInt = 459 by decide]
    exact ⟨τ2, x5, x6, x7, x8, W2, c2, e⟩
  · obtain ⟨τ2, W2, c2, e⟩ := la_widestPool (j := j) (x5 := x5) (x6 := x6) (x7 := x7) (x8 := x8) H (Q := Q)
    rw [show mxlk swT 1831 (nI 10).toInt = 472 by decide]
    exact ⟨τ2, x5, x6, x7, x8, W2, c2, e⟩
  · obtain ⟨τ2, W2, c2, e⟩ := la_highest (j := j) (x5 := x5) (x6 := x6) (x7 := x7) (x8 := x8) H (Q := Q)
    rw [show mxlk swT 1831 (nI 11).toInt = 485 by decide]
    exact ⟨τ2, x5, x6, x7, x8, W2, c2, e⟩
  · obtain ⟨τ2, W2, c2, e⟩ := la_seenFromLeft (j := j) (x5 := x5) (x6 := x6) (x7 := x7) (x8 := x8) H (Q := Q)
    rw [show mxlk swT 1831 (nI 12).toInt = 498 by decide]
    exact ⟨τ2, x5, x6, x7, x8, W2, c2, e⟩
  · obtain ⟨τ2, W2, c2, e⟩ := la_seenFromRight (j := j) (x5 := x5) (x6 := x6) (x7 := x7) (x8 := x8) H (Q := Q)
    rw [show mxlk swT 1831 (nI 13).toInt = 511 by decide]
    exact ⟨τ2, x5, x6, x7, x8, W2, c2, e⟩
  · obtain ⟨τ2, y5, y6, y7, y8, W2, c2, e⟩ := lb_heightOf (j := j) (x5 := x5) (x6 := x6) (x7 := x7) (x8 := x8) H hk hj hL (Q := Q)
    rw [show mxlk swT 1831 (nI 14).toInt = 524 by decide]
    exact ⟨τ2, y5, y6, y7, y8, W2, c2, e⟩
  · obtain ⟨τ2, y5, y6, y7, y8, W2, c2, e⟩ := lb_isSeenFromLeft (j := j) (x5 := x5) (x6 := x6) (x7 := x7) (x8 := x8) H hk hj hL (Q := Q)
    rw [show mxlk swT 1831 (nI 15).toInt = 580 by decide]
    exact ⟨τ2, y5, y6, y7, y8, W2, c2, e⟩
  · obtain ⟨τ2, y5, y6, y7, y8, W2, c2, e⟩ := lb_nextTallerLeft (j := j) (x5 := x5) (x6 := x6) (x7 := x7) (x8 := x8) H hk hj hL (Q := Q)
    rw [show mxlk swT 1831 (nI 16).toInt = 643 by decide]
    exact ⟨τ2, y5, y6, y7, y8, W2, c2, e⟩
  · obtain ⟨τ2, y5, y6, y7, y8, W2, c2, e⟩ := lb_nextTallerRight (j := j) (x5 := x5) (x6 := x6) (x7 := x7) (x8 := x8) H hk hj hL (Q := Q)
    rw [show mxlk swT 1831 (nI 17).toInt = 699 by decide]
    exact ⟨τ2, y5, y6, y7, y8, W2, c2, e⟩
  · obtain ⟨τ2, y5, y6, y7, y8, W2, c2, e⟩ := lb_waterOn (j := j) (x5 := x5) (x6 := x6) (x7 := x7) (x8 := x8) H hk hj hL (Q := Q)
    rw [show mxlk swT 1831 (nI 18).toInt = 755 by decide]
    exact ⟨τ2, y5, y6, y7, y8, W2, c2, e⟩
  · obtain ⟨τ2, y5, y6, y7, y8, W2, c2, e⟩ := lb_pigeonsOn (j := j) (x5 := x5) (x6 := x6) (x7 := x7) (x8 := x8) H hk hj hL (Q := Q)
    rw [show mxlk swT 1831 (nI 19).toInt = 811 by decide]
    exact ⟨τ2, y5, y6, y7, y8, W2, c2, e⟩
  · obtain ⟨τ2, y5, y6, y7, y8, W2, c2, e⟩ := lb_heardOn (j := j) (x5 := x5) (x6 := x6) (x7 := x7) (x8 := x8) H hk hj hL (Q := Q)
    rw [show mxlk swT 1831 (nI 20).toInt = 867 by decide]
    exact ⟨τ2, y5, y6, y7, y8, W2, c2, e⟩
  · obtain ⟨τ2, y5, y6, y7, y8, W2, c2, e⟩ := lb_placeOf (j := j) (x5 := x5) (x6 := x6) (x7 := x7) (x8 := x8) H hk hj hL (Q := Q)
    rw [show mxlk swT 1831 (nI 21).toInt = 923 by decide]
    exact ⟨τ2, y5, y6, y7, y8, W2, c2, e⟩
  · obtain ⟨τ2, y5, y6, y7, y8, W2, c2, e⟩ := lb_loudnessOf (j := j) (x5 := x5) (x6 := x6) (x7 := x7) (x8 := x8) H hk hj hL (Q := Q)
    rw [show mxlk swT 1831 (nI 22).toInt = 979 by decide]
    exact ⟨τ2, y5, y6, y7, y8, W2, c2, e⟩
  · obtain ⟨τ2, y5, y6, y7, y8, W2, c2, e⟩ := lb_hears (j := j) (x5 := x5) (x6 := x6) (x7 := x7) (x8 := x8) H hk hj hL (Q := Q)
    rw [show mxlk swT 1831 (nI 23).toInt = 1035 by decide]
    exact ⟨τ2, y5, y6, y7, y8, W2, c2, e⟩
  · obtain ⟨τ2, y5, y6, y7, y8, W2, c2, e⟩ := lb_noiseAt (j := j) (x5 := x5) (x6 := x6) (x7 := x7) (x8 := x8) H hk hj hL (Q := Q)
    rw [show mxlk swT 1831 (nI 24).toInt = 1110 by decide]
    exact ⟨τ2, y5, y6, y7, y8, W2, c2, e⟩
  · obtain ⟨τ2, W2, c2, e⟩ := la_quietest (j := j) (x5 := x5) (x6 := x6) (x7 := x7) (x8 := x8) H (Q := Q)
    rw [show mxlk swT 1831 (nI 25).toInt = 1166 by decide]
    exact ⟨τ2, x5, x6, x7, x8, W2, c2, e⟩
  · obtain ⟨τ2, y5, y6, y7, y8, W2, c2, e⟩ := lb_hop (j := j) (x5 := x5) (x6 := x6) (x7 := x7) (x8 := x8) H hk hj hL (Q := Q)
    rw [show mxlk swT 1831 (nI 26).toInt = 1179 by decide]
    exact ⟨τ2, y5, y6, y7, y8, W2, c2, e⟩
  · obtain ⟨τ2, y5, y6, y7, y8, W2, c2, e⟩ := lb_glide (j := j) (x5 := x5) (x6 := x6) (x7 := x7) (x8 := x8) H hk hj hL (Q := Q)
    rw [show mxlk swT 1831 (nI 27).toInt = 1263 by decide]
    exact ⟨τ2, y5, y6, y7, y8, W2, c2, e⟩
  · obtain ⟨τ2, y5, y6, y7, y8, W2, c2, e⟩ := lb_build (j := j) (x5 := x5) (x6 := x6) (x7 := x7) (x8 := x8) H hk hj hL (Q := Q)
    rw [show mxlk swT 1831 (nI 28).toInt = 1347 by decide]
    exact ⟨τ2, y5, y6, y7, y8, W2, c2, e⟩
  · obtain ⟨τ2, y5, y6, y7, y8, W2, c2, e⟩ := lb_wear (j := j) (x5 := x5) (x6 := x6) (x7 := x7) (x8 := x8) H hk hj hL (Q := Q)
    rw [show mxlk swT 1831 (nI 29).toInt = 1403 by decide]
    exact ⟨τ2, y5, y6, y7, y8, W2, c2, e⟩
  · obtain ⟨τ2, y5, y6, y7, y8, W2, c2, e⟩ := lb_passDays (j := j) (x5 := x5) (x6 := x6) (x7 := x7) (x8 := x8) H hk hj hL (Q := Q)
    rw [show mxlk swT 1831 (nI 30).toInt = 1459 by decide]
    exact ⟨τ2, y5, y6, y7, y8, W2, c2, e⟩
  · obtain ⟨τ2, y5, y6, y7, y8, W2, c2, e⟩ := lb_trappedAfter (j := j) (x5 := x5) (x6 := x6) (x7 := x7) (x8 := x8) H hk hj hL (Q := Q)
    rw [show mxlk swT 1831 (nI 31).toInt = 1515 by decide]
    exact ⟨τ2, y5, y6, y7, y8, W2, c2, e⟩
  · obtain ⟨τ2, y5, y6, y7, y8, W2, c2, e⟩ := lb_daysUntilHeard (j := j) (x5 := x5) (x6 := x6) (x7 := x7) (x8 := x8) H hk hj hL (Q := Q)
    rw [show mxlk swT 1831 (nI 32).toInt = 1571 by decide]
    exact ⟨τ2, y5, y6, y7, y8, W2, c2, e⟩
  · obtain ⟨τ2, y5, y6, y7, y8, W2, c2, e⟩ := lb_trappedWith (j := j) (x5 := x5) (x6 := x6) (x7 := x7) (x8 := x8) H hk hj hL (Q := Q)
    rw [show mxlk swT 1831 (nI 33).toInt = 1639 by decide]
    exact ⟨τ2, y5, y6, y7, y8, W2, c2, e⟩
  · obtain ⟨τ2, W2, c2, e⟩ := la_bestToBuild (j := j) (x5 := x5) (x6 := x6) (x7 := x7) (x8 := x8) H (Q := Q)
    rw [show mxlk swT 1831 (nI 34).toInt = 1707 by decide]
    exact ⟨τ2, x5, x6, x7, x8, W2, c2, e⟩
  · obtain ⟨τ2, y5, y6, y7, y8, W2, c2, e⟩ := lb_quietestTower (j := j) (x5 := x5) (x6 := x6) (x7 := x7) (x8 := x8) H hk hj hL (Q := Q)
    rw [show mxlk swT 1831 (nI 35).toInt = 1720 by decide]
    exact ⟨τ2, y5, y6, y7, y8, W2, c2, e⟩
  · obtain ⟨τ2, y5, y6, y7, y8, W2, c2, e⟩ := la_meanHeight (j := j) (x5 := x5) (x6 := x6) (x7 := x7) (x8 := x8) H (Q := Q)
    rw [show mxlk swT 1831 (nI 36).toInt = 1776 by decide]
    exact ⟨τ2, y5, y6, y7, y8, W2, c2, e⟩
  · obtain ⟨τ2, W2, c2, e⟩ := la_digest (j := j) (x5 := x5) (x6 := x6) (x7 := x7) (x8 := x8) H (Q := Q)
    rw [show mxlk swT 1831 (nI 37).toInt = 1817 by decide]
    exact ⟨τ2, x5, x6, x7, x8, W2, c2, e⟩
  · rw [sw_d q hq h38]
    exact ⟨τ, x5, x6, x7, x8, H, cn_id τ, rfl⟩
theorem sub6 : ∀ L0, L0 < 6 → nI L0 - nI 6 < nI 0 := by decide +kernel
theorem ll_end {L0 j : Nat} {xs : Nat → Int32} {x5 x6 x7 x8 : Option Value} {τ : mxS} (hN : 303 < 1000 + τ.2.1) (hk : τ.1 303 = .inl (0, L0, .inl xs)) (hj : L0 < j + 6) (hL : L0 ≤ 4096) (hj2 : j ≤ 8192) {Q : Option Value ⊕ Nat → mxS → Prop} : WP 200 2582 23 [some (.ref 303), some (.ref 1000), some (.ref 1075), some (.ref 1101), some (.int (nI j)), x5, x6, x7, x8] [] τ Q = Q (.inl (some (.int (nI 1)))) τ := by
  have hc : nI L0 - nI 6 < nI j := by
    rcases Nat.lt_or_ge L0 6 with h | h
    · exact Int32.lt_of_lt_of_le (sub6 L0 h) (nI_pos' (by omega))
    · rw [nIs h]
      exact nI_lt (by omega) (by omega)
  have hc' : ¬ nI j ≤ nI L0 - nI 6 := Int32.not_le.mpr hc
  simp only [WP_eq, e_go, e_none, e_ite, e_thr0, e_ret, e_thr, e_call, e_Kv, e_Kn, e_Kx, e_K2, e_K20, e_at0, e_s1_0, e_s2_0, e_at1, e_s1_1, e_s2_1, e_at2, e_s1_2, e_s2_2, e_at3, e_s1_3, e_s2_3, e_at4, e_s1_4, e_s2_4, e_at5, e_s1_5, e_s2_5, e_at6, e_s1_6, e_s2_6, e_at7, e_s1_7, e_s2_7, e_at8, e_s1_8, e_s2_8, e_at9, e_s1_9, e_s2_9, e_at10, e_s1_10, e_s2_10, e_at11, e_s1_11, e_s2_11, e_at12, e_s1_12, e_s2_12, e_at13, e_s1_13, e_s2_13, e_kn, e_ki, e_kj, e_kd, e_kr, e_k0, e_lI, e_lJ, e_lD, e_lA, e_lA0, e_sI, e_sJ, e_sD, e_sA, e_sA0, e_inc, e_I2, e_I2z, e_I1, e_I2J, e_J2I, e_I2D, e_J2, e_lcmp, e_dcmp, e_ddiv, e_ifeq, e_iceq, e_ifne, e_icne, e_iflt, e_iclt, e_ifge, e_icge, e_ifgt, e_icgt, e_ifle, e_icle, e_ca, e_ca2, e_en, e_en0, e_sw, e_lk0, e_lk, e_dup, e_dup2, e_pop, e_ci, e_cj, e_cd, e_cr, e_c0, e_gf, e_gf2, e_gf3, e_pf, e_pf2, e_f0, e_f1, e_f2, e_f20, e_len, e_len2, e_al, e_al2, e_al3, e_alJ, e_alJ2, e_alJ3, e_alA, e_alA2, e_alA3, e_as, e_as2, e_as3, e_asB, e_asB2, e_asJ, e_asJ2, e_asJ3, e_asA, e_asA2, e_asA3, e_new, e_na, e_na2, e_cat0, e_cat1, e_tk0, e_tk1, e_tk2, e_tk3, e_tk4, e_tk5, e_tk6, e_tk7, e_tk8, e_cS, e_cS2, e_cI_0, e_cI_1, e_cI_2, e_cI_3, e_cI_4, e_cI_5, e_cI2, e_cV_0, e_cV_1, e_cV_2, e_cV_3, e_cV_4, e_cV_5, e_cV_6, e_cV_7, e_cV2, e_cV3, e_oi, e_cp, e_r0, e_r1, e_r2, e_r3, e_r4, e_r5, e_r6, e_r60, e_r7, e_W1, e_W2, e_A1, e_A2, e_Wg, e_Ag, e_rf0, e_rf1, e_len0, e_len1, e_vl0, e_vl1, z00, z10, z11, ↓reduceIte, List.getElem?_cons_zero, List.getElem?_cons_succ, List.set_cons_zero, List.set_cons_succ, and_true, true_and, and_self, or_true, true_or, or_false, false_or, Nat.reduceAdd, Nat.reduceSub, Nat.reduceLT, Nat.reduceLeDiff, Nat.reduceEqDiff, Nat.reduceBEq, beq_self_eq_true, Bool.or_false, Bool.false_or, Bool.or_true, Bool.true_or, not_true, not_false_eq_true, reduceCtorEq, s2582_23, s2582_25, s2582_26, s2582_27, s2582_29, s2582_30, s2582_33, s2582_34, s2582_36, s2582_1837, s2582_1838, hN, hk, hc, hc']
theorem ll_step {j L0 : Nat} {xs : Nat → Int32} {x5 x6 x7 x8 : Option Value} {τ : mxS} (H : WW τ) (hk : τ.1 303 = .inl (0, L0, .inl xs)) (hj : j + 6 ≤ L0) (hL : L0 ≤ 4096) (hN : 102 ≤ τ.2.1) {Q : Option Value ⊕ Nat → mxS → Prop} : ∃ q, q < 64 ∧ WP 200 2582 23 [some (.ref 303), some (.ref 1000), some (.ref 1075), some (.ref 1101), some (.int (nI j)), x5, x6, x7, x8] [] τ Q = WP 200 2582 40 [some (.ref 303), some (.ref 1000), some (.ref 1075), some (.ref 1101), some (.int (nI j)), x5, x6, x7, x8] [.int (nI q)] τ Q := by
  obtain ⟨q, hq, e⟩ := b63 (xs j)
  refine ⟨q, hq, ?_⟩
  have hn : 303 < 1000 + τ.2.1 := by omega
  have hc : ¬ nI L0 - nI 6 < nI j := by
    rw [nIs (by omega)]
    exact nI_nlt (by omega) (by omega)
  have hc' : nI j ≤ nI L0 - nI 6 := Int32.not_lt.mp hc
  have q0 : mxidx (nI j) L0 = some j := mxidx_nI (by omega) (by omega)
  simp only [WP_eq, e_go, e_none, e_ite, e_thr0, e_ret, e_thr, e_call, e_Kv, e_Kn, e_Kx, e_K2, e_K20, e_at0, e_s1_0, e_s2_0, e_at1, e_s1_1, e_s2_1, e_at2, e_s1_2, e_s2_2, e_at3, e_s1_3, e_s2_3, e_at4, e_s1_4, e_s2_4, e_at5, e_s1_5, e_s2_5, e_at6, e_s1_6, e_s2_6, e_at7, e_s1_7, e_s2_7, e_at8, e_s1_8, e_s2_8, e_at9, e_s1_9, e_s2_9, e_at10, e_s1_10, e_s2_10, e_at11, e_s1_11, e_s2_11, e_at12, e_s1_12, e_s2_12, e_at13, e_s1_13, e_s2_13, e_kn, e_ki, e_kj, e_kd, e_kr, e_k0, e_lI, e_lJ, e_lD, e_lA, e_lA0, e_sI, e_sJ, e_sD, e_sA, e_sA0, e_inc, e_I2, e_I2z, e_I1, e_I2J, e_J2I, e_I2D, e_J2, e_lcmp, e_dcmp, e_ddiv, e_ifeq, e_iceq, e_ifne, e_icne, e_iflt, e_iclt, e_ifge, e_icge, e_ifgt, e_icgt, e_ifle, e_icle, e_ca, e_ca2, e_en, e_en0, e_sw, e_lk0, e_lk, e_dup, e_dup2, e_pop, e_ci, e_cj, e_cd, e_cr, e_c0, e_gf, e_gf2, e_gf3, e_pf, e_pf2, e_f0, e_f1, e_f2, e_f20, e_len, e_len2, e_al, e_al2, e_al3, e_alJ, e_alJ2, e_alJ3, e_alA, e_alA2, e_alA3, e_as, e_as2, e_as3, e_asB, e_asB2, e_asJ, e_asJ2, e_asJ3, e_asA, e_asA2, e_asA3, e_new, e_na, e_na2, e_cat0, e_cat1, e_tk0, e_tk1, e_tk2, e_tk3, e_tk4, e_tk5, e_tk6, e_tk7, e_tk8, e_cS, e_cS2, e_cI_0, e_cI_1, e_cI_2, e_cI_3, e_cI_4, e_cI_5, e_cI2, e_cV_0, e_cV_1, e_cV_2, e_cV_3, e_cV_4, e_cV_5, e_cV_6, e_cV_7, e_cV2, e_cV3, e_oi, e_cp, e_r0, e_r1, e_r2, e_r3, e_r4, e_r5, e_r6, e_r60, e_r7, e_W1, e_W2, e_A1, e_A2, e_Wg, e_Ag, e_rf0, e_rf1, e_len0, e_len1, e_vl0, e_vl1, z00, z10, z11, ↓reduceIte, List.getElem?_cons_zero, List.getElem?_cons_succ, List.set_cons_zero, List.set_cons_succ, and_true, true_and, and_self, or_true, true_or, or_false, false_or, Nat.reduceAdd, Nat.reduceSub, Nat.reduceLT, Nat.reduceLeDiff, Nat.reduceEqDiff, Nat.reduceBEq, beq_self_eq_true, Bool.or_false, Bool.false_or, Bool.or_true, Bool.true_or, not_true, not_false_eq_true, reduceCtorEq, s2582_23, s2582_25, s2582_26, s2582_27, s2582_29, s2582_30, s2582_33, s2582_34, s2582_36, s2582_37, s2582_39, hn, hk, hc, hc', q0, e]
theorem ll_next {j : Nat} {x5 x6 x7 x8 : Option Value} {τ : mxS} {Q : Option Value ⊕ Nat → mxS → Prop} : WP 200 2582 1831 [some (.ref 303), some (.ref 1000), some (.ref 1075), some (.ref 1101), some (.int (nI j)), x5, x6, x7, x8] [] τ Q = WP 200 2582 23 [some (.ref 303), some (.ref 1000), some (.ref 1075), some (.ref 1101), some (.int (nI (j + 6))), x5, x6, x7, x8] [] τ Q := by
  have e : nI j + Int32.ofInt 6 = nI (j + 6) := nI_add j 6
  simp only [WP_eq, e_go, e_none, e_ite, e_thr0, e_ret, e_thr, e_call, e_Kv, e_Kn, e_Kx, e_K2, e_K20, e_at0, e_s1_0, e_s2_0, e_at1, e_s1_1, e_s2_1, e_at2, e_s1_2, e_s2_2, e_at3, e_s1_3, e_s2_3, e_at4, e_s1_4, e_s2_4, e_at5, e_s1_5, e_s2_5, e_at6, e_s1_6, e_s2_6, e_at7, e_s1_7, e_s2_7, e_at8, e_s1_8, e_s2_8, e_at9, e_s1_9, e_s2_9, e_at10, e_s1_10, e_s2_10, e_at11, e_s1_11, e_s2_11, e_at12, e_s1_12, e_s2_12, e_at13, e_s1_13, e_s2_13, e_kn, e_ki, e_kj, e_kd, e_kr, e_k0, e_lI, e_lJ, e_lD, e_lA, e_lA0, e_sI, e_sJ, e_sD, e_sA, e_sA0, e_inc, e_I2, e_I2z, e_I1, e_I2J, e_J2I, e_I2D, e_J2, e_lcmp, e_dcmp, e_ddiv, e_ifeq, e_iceq, e_ifne, e_icne, e_iflt, e_iclt, e_ifge, e_icge, e_ifgt, e_icgt, e_ifle, e_icle, e_ca, e_ca2, e_en, e_en0, e_sw, e_lk0, e_lk, e_dup, e_dup2, e_pop, e_ci, e_cj, e_cd, e_cr, e_c0, e_gf, e_gf2, e_gf3, e_pf, e_pf2, e_f0, e_f1, e_f2, e_f20, e_len, e_len2, e_al, e_al2, e_al3, e_alJ, e_alJ2, e_alJ3, e_alA, e_alA2, e_alA3, e_as, e_as2, e_as3, e_asB, e_asB2, e_asJ, e_asJ2, e_asJ3, e_asA, e_asA2, e_asA3, e_new, e_na, e_na2, e_cat0, e_cat1, e_tk0, e_tk1, e_tk2, e_tk3, e_tk4, e_tk5, e_tk6, e_tk7, e_tk8, e_cS, e_cS2, e_cI_0, e_cI_1, e_cI_2, e_cI_3, e_cI_4, e_cI_5, e_cI2, e_cV_0, e_cV_1, e_cV_2, e_cV_3, e_cV_4, e_cV_5, e_cV_6, e_cV_7, e_cV2, e_cV3, e_oi, e_cp, e_r0, e_r1, e_r2, e_r3, e_r4, e_r5, e_r6, e_r60, e_r7, e_W1, e_W2, e_A1, e_A2, e_Wg, e_Ag, e_rf0, e_rf1, e_len0, e_len1, e_vl0, e_vl1, z00, z10, z11, ↓reduceIte, List.getElem?_cons_zero, List.getElem?_cons_succ, List.set_cons_zero, List.set_cons_succ, and_true, true_and, and_self, or_true, true_or, or_false, false_or, Nat.reduceAdd, Nat.reduceSub, Nat.reduceLT, Nat.reduceLeDiff, Nat.reduceEqDiff, Nat.reduceBEq, beq_self_eq_true, Bool.or_false, Bool.false_or, Bool.or_true, Bool.true_or, not_true, not_false_eq_true, reduceCtorEq, s2582_1831, s2582_1834, e]
theorem ll_all {L0 : Nat} {xs : Nat → Int32} (hL : L0 ≤ 4096) {Q : Option Value ⊕ Nat → mxS → Prop} : ∀ (m j : Nat) (x5 x6 x7 x8 : Option Value) (τ : mxS), WW τ → τ.1 303 = .inl (0, L0, .inl xs) → L0 < j + 6 * m + 6 → j ≤ L0 + 6 → ∃ τ', τ'.2.1 ≤ τ.2.1 + 26 * m ∧ τ'.2.2 ≤ τ.2.2 + 1400 * m ∧ WP 200 2582 23 [some (.ref 303), some (.ref 1000), some (.ref 1075), some (.ref 1101), some (.int (nI j)), x5, x6, x7, x8] [] τ Q = Q (.inl (some (.int (nI 1)))) τ'
  | 0, j, x5, x6, x7, x8, τ, H, hk, h1, h2 => by
    obtain ⟨L, bs, tb, ep, g, pb, g2, n, P, O, T, K, A, B, od, hs, pl, ls, dy, co, h', ls', H1⟩ := id H
    have hN := w_N H1
    exact ⟨τ, by omega, by omega, ll_end (by omega) hk (by omega) hL (by omega)⟩
  | m + 1, j, x5, x6, x7, x8, τ, H, hk, h1, h2 => by
    obtain ⟨L, bs, tb, ep, g, pb, g2, n, P, O, T, K, A, B, od, hs, pl, ls, dy, co, h', ls', H1⟩ := id H
    have hN := w_N H1
    by_cases hj : j + 6 ≤ L0
    · obtain ⟨q, hq, e1⟩ := ll_step (x5 := x5) (x6 := x6) (x7 := x7) (x8 := x8) H hk hj hL hN (Q := Q)
      obtain ⟨τ2, y5, y6, y7, y8, W2, c2, e2⟩ := sw_all (x5 := x5) (x6 := x6) (x7 := x7) (x8 := x8) H hk hj hL hq (Q := Q)
      obtain ⟨c3, c4, c5, c6⟩ := c2
      obtain ⟨τ', d1, d2, e3⟩ := ll_all hL m (j + 6) y5 y6 y7 y8 τ2 W2 ((c6 303 (by decide)).trans hk) (by omega) (by omega) (Q := Q)
      exact ⟨τ', by omega, by omega, e1.trans (e2.trans (ll_next.trans e3))⟩
    · exact ⟨τ, by omega, by omega, ll_end (by omega) hk (by omega) hL (by omega)⟩
