/-! ===== orders and days ===== -/
def goH (hs : Nat → Int32) (n : Nat) (b : Int32) (j : Nat) : Option Nat := if b = 0 then lfO hs (hs j) j else rtO hs (hs j) (n - (j + 1)) (j + 1)
def goG (hs : Nat → Int32) (n k : Nat) (b : Int32) (j : Nat) : Option Nat := if k = 4 then goH hs n b j else glS hs n b j
/-- an order: what it does to heights and places, and whether it could -/
def ordF (hs : Nat → Int32) (n P : Nat) (pl : Nat → Nat) (ls : Nat → Int32) (dy : Int32) (K A B : Nat → Nat) (k q : Nat) (b : Int32) (f t e : Nat) : (Nat → Int32) × (Nat → Nat) × Bool :=
  if t < e ∧ evV hs n P pl ls dy K A B t e = nI 0 then (hs, pl, false)
  else if k = 4 ∨ k = 5 then (match goG hs n k b (pl q) with
    | some g => (hs, va_up pl q g, true)
    | none => (hs, pl, false))
  else if ccS (nI k) (hs (fmN (evV hs n P pl ls dy K A B f t) n)) = nI 0 then (hs, pl, false)
  else (va_up hs (fmN (evV hs n P pl ls dy K A B f t) n) (chS (nI k) (hs (fmN (evV hs n P pl ls dy K A B f t) n))), pl, true)
/-- an order fits -/
def ordW (P : Nat) (K A B : Nat → Nat) (k q : Nat) (b : Int32) (f t e : Nat) : Prop :=
  (b = nI 0 ∨ b = nI 1) ∧ ((k = 4 ∨ k = 5) ∧ q < P ∨ (k = 6 ∨ k = 7) ∧ tyM P K A B (t - f) f [] [false]) ∧ f ≤ t ∧ t ≤ e ∧ e ≤ 400 ∧ (t < e → tyM P K A B (e - t) t [] [true])
/-- heights in their range -/
def hR (n : Nat) (hs : Nat → Int32) : Prop := ∀ t, t < n → ∃ v, v ≤ 20 ∧ hs t = nI v
theorem goH_lt {hs : Nat → Int32} {n j g : Nat} {b : Int32} (hj : j < n) (h : goH hs n b j = some g) : g < n := by
  unfold goH at h
  by_cases hb : b = 0
  · rw [if_pos hb] at h
    have := lfO_lt hs _ _ _ h
    omega
  · rw [if_neg hb] at h
    have := (rtO_in hs _ _ _ _ h).2
    omega
theorem glS_lt {hs : Nat → Int32} {n j g : Nat} {b : Int32} (hj : j < n) (h : glS hs n b j = some g) : g < n := by
  unfold glS at h
  by_cases hb : b = 0
  · rw [if_pos hb] at h
    cases j with
    | zero => cases h
    | succ i =>
      dsimp only at h
      by_cases h1 : hs i < hs (i + 1)
      · rw [if_pos h1] at h
        have := Option.some.inj h
        omega
      · rw [if_neg h1] at h
        cases h
  · rw [if_neg hb] at h
    by_cases h1 : j + 1 < n ∧ hs (j + 1) < hs j
    · rw [if_pos h1] at h
      have := Option.some.inj h
      omega
    · rw [if_neg h1] at h
      cases h
theorem goG_lt {hs : Nat → Int32} {n k j g : Nat} {b : Int32} (hj : j < n) (h : goG hs n k b j = some g) : g < n := by
  unfold goG at h
  by_cases hk : k = 4
  · rw [if_pos hk] at h; exact goH_lt hj h
  · rw [if_neg hk] at h; exact glS_lt hj h
theorem pl_up {pl : Nat → Nat} {q g n P : Nat} (hpn : ∀ z, z < P → pl z < n) (hg : g < n) : ∀ z, z < P → va_up pl q g z < n := by
  intro z hz
  by_cases h : z = q
  · subst h; rw [va_up_self]; exact hg
  · rw [va_up_ne _ _ h]; exact hpn z hz
/-- what may be: a height that can be changed, and its new one -/
theorem cc_ch {k v : Nat} (hv : v ≤ 20) (hk : k = 6 ∨ k = 7) : (ccS (nI k) (nI v) = nI 0 ↔ ((if k = 6 then nI 1 else -1) = (0 : Int32) ∨ nI v + (if k = 6 then nI 1 else -1) < 0 ∨ nI 20 < nI v + (if k = 6 then nI 1 else -1))) ∧ chS (nI k) (nI v) = nI v + (if k = 6 then nI 1 else -1) ∧ (¬ ccS (nI k) (nI v) = nI 0 → ∃ w, w ≤ 20 ∧ chS (nI k) (nI v) = nI w) := by
  have key : ∀ v, v ≤ 20 → ∀ k, k = 6 ∨ k = 7 → (ccS (nI k) (nI v) = nI 0 ↔ ((if k = 6 then nI 1 else -1) = (0 : Int32) ∨ nI v + (if k = 6 then nI 1 else -1) < 0 ∨ nI 20 < nI v + (if k = 6 then nI 1 else -1))) ∧ chS (nI k) (nI v) = nI v + (if k = 6 then nI 1 else -1) ∧ (¬ ccS (nI k) (nI v) = nI 0 → ∃ w, w ≤ 20 ∧ chS (nI k) (nI v) = nI w) := by
    intro v hv k hk
    rcases hk with rfl | rfl
    · have h1 : ∀ v, v < 21 → (ccS (nI 6) (nI v) = nI 0 ↔ (nI 1 = (0 : Int32) ∨ nI v + nI 1 < 0 ∨ nI 20 < nI v + nI 1)) ∧ chS (nI 6) (nI v) = nI v + nI 1 ∧ (¬ ccS (nI 6) (nI v) = nI 0 → v + 1 < 21 ∧ chS (nI 6) (nI v) = nI (v + 1)) := by decide +kernel
      obtain ⟨a, b, c⟩ := h1 v (by omega)
      exact ⟨a, b, fun z => ⟨v + 1, by have := (c z).1; omega, (c z).2⟩⟩
    · have h1 : ∀ v, v < 21 → (ccS (nI 7) (nI v) = nI 0 ↔ ((-1 : Int32) = (0 : Int32) ∨ nI v + -1 < 0 ∨ nI 20 < nI v + -1)) ∧ chS (nI 7) (nI v) = nI v + -1 ∧ (¬ ccS (nI 7) (nI v) = nI 0 → chS (nI 7) (nI v) = nI (v - 1)) := by decide +kernel
      obtain ⟨a, b, c⟩ := h1 v (by omega)
      exact ⟨a, b, fun z => ⟨v - 1, by omega, c z⟩⟩
  exact key v hv k hk
theorem ordF_ok {hs : Nat → Int32} {n P : Nat} {pl : Nat → Nat} {ls : Nat → Int32} {dy : Int32} {K A B : Nat → Nat} {k q : Nat} {b : Int32} {f t e : Nat} (h0 : 0 < n) (hw : ordW P K A B k q b f t e) (hpn : ∀ z, z < P → pl z < n) (hr : hR n hs) : hR n (ordF hs n P pl ls dy K A B k q b f t e).1 ∧ ∀ z, z < P → (ordF hs n P pl ls dy K A B k q b f t e).2.1 z < n := by
  unfold ordF
  split
  · exact ⟨hr, hpn⟩
  · split
    · next hk =>
      have hq : q < P := by
        rcases hw.2.1 with ⟨_, z⟩ | ⟨z, _⟩
        · exact z
        · omega
      split
      · next g hg => exact ⟨hr, pl_up hpn (goG_lt (hpn q hq) hg)⟩
      · exact ⟨hr, hpn⟩
    · next hk =>
      have hk' : k = 6 ∨ k = 7 := by
        rcases hw.2.1 with ⟨z, _⟩ | ⟨z, _⟩
        · exact absurd z hk
        · exact z
      split
      · exact ⟨hr, hpn⟩
      · next hc =>
        refine ⟨fun z hz => ?_, hpn⟩
        have hx := fmN_lt (evV hs n P pl ls dy K A B f t) h0
        obtain ⟨v, hv, ev⟩ := hr _ hx
        by_cases he : z = fmN (evV hs n P pl ls dy K A B f t) n
        · rw [he]
          dsimp only
          rw [va_up_self]
          rw [ev] at hc ⊢
          exact (cc_ch hv hk').2.2 hc
        · dsimp only
          rw [va_up_ne _ _ he]
          exact hr z hz
/-- the class's days: a state that differs from σ by the keeper and the sky -/
def skS (σ : mxS) (p k n P : Nat) (hs : Nat → Int32) (pl : Nat → Nat) (ls : Nat → Int32) (dy co : Int32) (τ : mxS) : Prop := ∃ (ks : Nat → Int32) (z : Nat) (tl tr ws sn ps : Nat → Int32) (rn wc sl sr : Int32), τ = skW (kpW σ k ks (nI z)) p hs tl tr ws sn ps ls (nI n) (nI P) dy co rn wc sl sr ∧ seS n hs tl tr ws sn rn wc sl sr ∧ ∀ q, q < P → ps q = nI (pl q)
theorem encO_ge {o : Option Nat} {n : Nat} (hn : n < 2 ^ 31) (h : ∀ g, o = some g → g < n) : (0 ≤ encO o) = (o.isSome = true) := by
  cases o with
  | none => exact propext ⟨fun z => absurd z (by decide), fun z => by cases z⟩
  | some g => exact propext ⟨fun _ => rfl, fun _ => Int32.not_lt.mp (nI_pos (show g < 2 ^ 31 by have := h g rfl; omega))⟩
theorem hop_tg {hs tl tr : Nat → Int32} {n j : Nat} {b : Int32} (hj : j < n) (h1 : tl j = tlS hs j) (h2 : tr j = trS hs n j) : (if b = 0 then tl j else tr j) = encO (goH hs n b j) := by
  unfold goH
  by_cases hb : b = 0
  · rw [if_pos hb, if_pos hb, h1]; rfl
  · rw [if_neg hb, if_neg hb, h2, trS_rtO hs n j hj]
theorem skS_set {σ : mxS} {p k n P z : Nat} {ks h tl tr ws sn ps ls : Nat → Int32} {pl : Nat → Nat} {dy co : Int32} (hps : ∀ q, q < P → ps q = nI (pl q)) : skS σ p k n P h pl ls dy co (skW (kpW σ k ks (nI z)) p h (upto n (tlS h) tl) (upto n (trS h n) tr) (upto n (waS h n) (upto n (mL h) ws)) (upto n (snS h) sn) ps ls (nI n) (nI P) dy co (raS h n n) (wcS h n n) (cL h n) (cR h n n)) :=
  ⟨ks, z, _, _, _, _, ps, _, _, _, _, rfl, ⟨fun t ht => ⟨upto_lt _ _ ht, upto_lt _ _ ht, upto_lt _ _ ht, upto_lt _ _ ht⟩, raS_all _ _, rfl, rfl, rfl⟩, hps⟩
theorem w_isCarriedOut {d : Nat} {hs : Nat → Int32} {pl : Nat → Nat} {ls : Nat → Int32} {dy co : Int32} {τ : mxS} {σ : mxS} {p k : Nat} (hp : 1000 ≤ p) (hq : p + 8 ≤ 1000 + σ.2.1) (hk : 1000 ≤ k) (hkq : k + 2 ≤ 1000 + σ.2.1) (hpk : p + 8 ≤ k ∨ k + 2 ≤ p) {L : Nat} {xs : Nat → Int32} (hK : ∀ a, a < 1000 → σ.1 a = mxkon L xs a) {n P : Nat} (hn : n ≤ 16) (h0 : 0 < n) (hP : P ≤ 8) {g gk gf gs : Nat} {K A B : Nat → Nat} {kf : Nat → Option Nat} {fa sa : Nat → Int32} {g0 g1 g2 g3 : Value} {gr : List Value} (hg : σ.1 g = .inr (2, g0 :: g1 :: g2 :: g3 :: .ref gk :: .ref gf :: .ref gs :: gr)) (hgk : σ.1 gk = .inl (4, 400, .inr (.inr (.inr (.inr kf))))) (hgf : σ.1 gf = .inl (0, 400, .inl fa)) (hgs : σ.1 gs = .inl (0, 400, .inl sa)) (og : (g < 1000 + σ.2.1 ∧ gk < 1000 + σ.2.1 ∧ gf < 1000 + σ.2.1 ∧ gs < 1000 + σ.2.1) ∧ (¬ (p ≤ g ∧ g < p + 8) ∧ ¬ (k ≤ g ∧ g < k + 2)) ∧ (¬ (p ≤ gk ∧ gk < p + 8) ∧ ¬ (k ≤ gk ∧ gk < k + 2)) ∧ (¬ (p ≤ gf ∧ gf < p + 8) ∧ ¬ (k ≤ gf ∧ gf < k + 2)) ∧ (¬ (p ≤ gs ∧ gs < p + 8) ∧ ¬ (k ≤ gs ∧ gs < k + 2))) {a kd q f t e : Nat} {b : Int32} (ha : σ.1 a = .inr (1, [.ref kd, .int (nI q), .int b, .int (nI f), .int (nI t), .int (nI e)])) (oa : a < 1000 + σ.2.1 ∧ ¬ (p ≤ a ∧ a < p + 8) ∧ ¬ (k ≤ a ∧ a < k + 2)) (hw : ordW P K A B kd q b f t e) (hit : ∀ i, i < e → kf i = some (K i) ∧ fa i = nI (A i) ∧ sa i = nI (B i)) (hd : 6 ≤ d) (hτ : skS σ p k n P hs pl ls dy co τ) (hpn : ∀ z, z < P → pl z < n) (hr : hR n hs) : ∃ τ', skS σ p k n P (ordF hs n P pl ls dy K A B kd q b f t e).1 (ordF hs n P pl ls dy K A B kd q b f t e).2.1 ls dy co τ' ∧ ∀ {Q : Option Value ⊕ Nat → mxS → Prop}, WP d 130 0 [some (.ref k), some (.ref g), some (.ref a), some (.ref p), none, none] [] τ Q = Q (.inl (some (.int (if (ordF hs n P pl ls dy K A B kd q b f t e).2.2 = true then nI 1 else nI 0)))) τ' := by
  obtain ⟨ks, z, tl, tr, ws, sn, ps, rn, wc, sl, sr, rfl, hse, hps⟩ := hτ
  obtain ⟨hb01, hwk, hft, hte, he4, hwt⟩ := hw
  obtain ⟨a0, a1⟩ := kp_b hk hkq
  obtain ⟨b0, b1, b2, b3, b4, b5, b6, b7⟩ := sk_b hp hq
  have hpl : ∀ z, z < P → pl z < 16 := fun z hz => Nat.lt_of_lt_of_le (hpn z hz) hn
  have hd1 : 1 ≤ d := by omega
  have hd3 : 3 ≤ d - 1 := by omega
  have hd5 : 5 ≤ d - 1 := by omega
  have hd2 : 1 ≤ d - 1 := by omega
  have GA := fun (z : Nat) (ks : Nat → Int32) => (sk2_o (z := z) (ks := ks) (hs := hs) (tl := tl) (tr := tr) (ws := ws) (sn := sn) (ps := ps) (ls := ls) (tc := nI n) (pc := nI P) (dn := dy) (co := co) (rn := rn) (wc := wc) (sl := sl) (sr := sr) hp hq hk hkq hpk oa.2.1 oa.2.2).trans ha
  have HK : ∀ (z : Nat) (ks : Nat → Int32) a, a < 1000 → (skW (kpW σ k ks (nI z)) p hs tl tr ws sn ps ls (nI n) (nI P) dy co rn wc sl sr).1 a = mxkon L xs a := fun z ks a ha => (sk2_o hp hq hk hkq hpk (by omega) (by omega)).trans (hK a ha)
  have hab := oa.1
  -- the test
  have key : ∀ (ks : Nat → Int32) (z : Nat) (v4 : Option Value), ¬ (t < e ∧ evV hs n P pl ls dy K A B t e = nI 0) → ∃ τ', skS σ p k n P (ordF hs n P pl ls dy K A B kd q b f t e).1 (ordF hs n P pl ls dy K A B kd q b f t e).2.1 ls dy co τ' ∧ ∀ {Q : Option Value ⊕ Nat → mxS → Prop}, WP d 130 42 [some (.ref k), some (.ref g), some (.ref a), some (.ref p), v4, none] [] (skW (kpW σ k ks (nI z)) p hs tl tr ws sn ps ls (nI n) (nI P) dy co rn wc sl sr) Q = Q (.inl (some (.int (if (ordF hs n P pl ls dy K A B kd q b f t e).2.2 = true then nI 1 else nI 0)))) τ' := by
    intro ks z v4 hnt
    have SM := kn_sm (HK z ks)
    rcases hwk with ⟨hk45, hqP⟩ | ⟨hk67, hty⟩
    · have hq8 : q < 8 := by omega
      have hjn := hpn q hqP
      have hj16 := hpl q hqP
      have ho : ordF hs n P pl ls dy K A B kd q b f t e = (match goG hs n kd b (pl q) with
        | some g => (hs, va_up pl q g, true)
        | none => (hs, pl, false)) := by unfold ordF; rw [if_neg hnt, if_pos hk45]
      rw [ho]
      rcases hk45 with rfl | rfl
      · have hkc := (HK z ks 4 (by decide)).trans (kn_tk (k := 4) (by decide) L xs)
        have c1 : 4 < 1000 + σ.2.1 := by omega
        have c0 : 300 < 1000 + σ.2.1 := by omega
        have htg := hop_tg (b := b) hjn (hse.1 _ hjn).1 (hse.1 _ hjn).2.1
        have hs0 : (nI (mxsmap.getD 4 0)).toInt = 24 := by decide
        have e0 : goG hs n 4 b (pl q) = goH hs n b (pl q) := if_pos rfl
        rw [e0]
        cases hg2 : goH hs n b (pl q) with
        | none =>
          rw [hg2] at htg
          refine ⟨_, ⟨ks, z, tl, tr, ws, sn, ps, rn, wc, sl, sr, rfl, hse, hps⟩, fun {Q} => ?_⟩
          simp only [WP_eq, e_go, e_none, e_ite, e_thr0, e_ret, e_thr, e_call, e_Kv, e_Kn, e_Kx, e_K2, e_K20, e_at0, e_s1_0, e_s2_0, e_at1, e_s1_1, e_s2_1, e_at2, e_s1_2, e_s2_2, e_at3, e_s1_3, e_s2_3, e_at4, e_s1_4, e_s2_4, e_at5, e_s1_5, e_s2_5, e_at6, e_s1_6, e_s2_6, e_at7, e_s1_7, e_s2_7, e_at8, e_s1_8, e_s2_8, e_at9, e_s1_9, e_s2_9, e_at10, e_s1_10, e_s2_10, e_at11, e_s1_11, e_s2_11, e_at12, e_s1_12, e_s2_12, e_at13, e_s1_13, e_s2_13, e_kn, e_ki, e_kj, e_kd, e_kr, e_k0, e_lI, e_lJ, e_lD, e_lA, e_lA0, e_sI, e_sJ, e_sD, e_sA, e_sA0, e_inc, e_I2, e_I2z, e_I1, e_I2J, e_J2I, e_I2D, e_J2, e_lcmp, e_dcmp, e_ddiv, e_ifeq, e_iceq, e_ifne, e_icne, e_iflt, e_iclt, e_ifge, e_icge, e_ifgt, e_icgt, e_ifle, e_icle, e_ca, e_ca2, e_en, e_en0, e_sw, e_lk0, e_lk, e_dup, e_dup2, e_pop, e_ci, e_cj, e_cd, e_cr, e_c0, e_gf, e_gf2, e_gf3, e_pf, e_pf2, e_f0, e_f1, e_f2, e_f20, e_len, e_len2, e_al, e_al2, e_al3, e_alJ, e_alJ2, e_alJ3, e_alA, e_alA2, e_alA3, e_as, e_as2, e_as3, e_asB, e_asB2, e_asJ, e_asJ2, e_asJ3, e_asA, e_asA2, e_asA3, e_new, e_na, e_na2, e_cat0, e_cat1, e_tk0, e_tk1, e_tk2, e_tk3, e_tk4, e_tk5, e_tk6, e_tk7, e_tk8, e_cS, e_cS2, e_cI_0, e_cI_1, e_cI_2, e_cI_3, e_cI_4, e_cI_5, e_cI2, e_cV_0, e_cV_1, e_cV_2, e_cV_3, e_cV_4, e_cV_5, e_cV_6, e_cV_7, e_cV2, e_cV3, e_oi, e_cp, e_r0, e_r1, e_r2, e_r3, e_r4, e_r5, e_r6, e_r60, e_r7, e_W1, e_W2, e_A1, e_A2, e_Wg, e_Ag, e_rf0, e_rf1, e_len0, e_len1, e_vl0, e_vl1, z00, z10, z11, ↓reduceIte, List.getElem?_cons_zero, List.getElem?_cons_succ, List.set_cons_zero, List.set_cons_succ, and_true, true_and, and_self, or_true, true_or, or_false, false_or, Nat.reduceAdd, Nat.reduceSub, Nat.reduceLT, Nat.reduceLeDiff, Nat.reduceEqDiff, Nat.reduceBEq, beq_self_eq_true, Bool.or_false, Bool.false_or, Bool.or_true, Bool.true_or, not_true, not_false_eq_true, reduceCtorEq, s130_42, s130_45, s130_46, s130_49, s130_52, s130_53, s130_80, s130_81, s130_82, s130_85, s130_86, s130_89, s130_92, sk_n, kp_n, GA, hab, SM, hkc, c0, c1, hs0, Int.reduceEq, b47 (show 4 < 47 by decide), hd1, cal (n1664 _) (w_ordinal (σ := skW (kpW σ k ks (nI z)) p hs tl tr ws sn ps ls (nI n) (nI P) dy co rn wc sl sr) (d := d - 1) (k := 4) c1 hkc), sk_g0, b0, cal (n648 _ _ _) (w_hop0 (σ := kpW σ k ks (nI z)) (d := d - 1) hp hq hq8 hj16 (hps q hqP) htg (by decide)), Bool.false_eq_true]
        | some g2 =>
          rw [hg2] at htg
          have hgn := goH_lt hjn hg2
          refine ⟨_, ⟨ks, z, tl, tr, ws, sn, va_up ps q (nI g2), rn, wc, sl, sr, rfl, hse, fun y hy => ?_⟩, fun {Q} => ?_⟩
          · dsimp only
            by_cases h : y = q
            · subst h; rw [va_up_self, va_up_self]
            · rw [va_up_ne _ _ h, va_up_ne _ _ h]; exact hps y hy
          simp only [WP_eq, e_go, e_none, e_ite, e_thr0, e_ret, e_thr, e_call, e_Kv, e_Kn, e_Kx, e_K2, e_K20, e_at0, e_s1_0, e_s2_0, e_at1, e_s1_1, e_s2_1, e_at2, e_s1_2, e_s2_2, e_at3, e_s1_3, e_s2_3, e_at4, e_s1_4, e_s2_4, e_at5, e_s1_5, e_s2_5, e_at6, e_s1_6, e_s2_6, e_at7, e_s1_7, e_s2_7, e_at8, e_s1_8, e_s2_8, e_at9, e_s1_9, e_s2_9, e_at10, e_s1_10, e_s2_10, e_at11, e_s1_11, e_s2_11, e_at12, e_s1_12, e_s2_12, e_at13, e_s1_13, e_s2_13, e_kn, e_ki, e_kj, e_kd, e_kr, e_k0, e_lI, e_lJ, e_lD, e_lA, e_lA0, e_sI, e_sJ, e_sD, e_sA, e_sA0, e_inc, e_I2, e_I2z, e_I1, e_I2J, e_J2I, e_I2D, e_J2, e_lcmp, e_dcmp, e_ddiv, e_ifeq, e_iceq, e_ifne, e_icne, e_iflt, e_iclt, e_ifge, e_icge, e_ifgt, e_icgt, e_ifle, e_icle, e_ca, e_ca2, e_en, e_en0, e_sw, e_lk0, e_lk, e_dup, e_dup2, e_pop, e_ci, e_cj, e_cd, e_cr, e_c0, e_gf, e_gf2, e_gf3, e_pf, e_pf2, e_f0, e_f1, e_f2, e_f20, e_len, e_len2, e_al, e_al2, e_al3, e_alJ, e_alJ2, e_alJ3, e_alA, e_alA2, e_alA3, e_as, e_as2, e_as3, e_asB, e_asB2, e_asJ, e_asJ2, e_asJ3, e_asA, e_asA2, e_asA3, e_new, e_na, e_na2, e_cat0, e_cat1, e_tk0, e_tk1, e_tk2, e_tk3, e_tk4, e_tk5, e_tk6, e_tk7, e_tk8, e_cS, e_cS2, e_cI_0, e_cI_1, e_cI_2, e_cI_3, e_cI_4, e_cI_5, e_cI2, e_cV_0, e_cV_1, e_cV_2, e_cV_3, e_cV_4, e_cV_5, e_cV_6, e_cV_7, e_cV2, e_cV3, e_oi, e_cp, e_r0, e_r1, e_r2, e_r3, e_r4, e_r5, e_r6, e_r60, e_r7, e_W1, e_W2, e_A1, e_A2, e_Wg, e_Ag, e_rf0, e_rf1, e_len0, e_len1, e_vl0, e_vl1, z00, z10, z11, ↓reduceIte, List.getElem?_cons_zero, List.getElem?_cons_succ, List.set_cons_zero, List.set_cons_succ, and_true, true_and, and_self, or_true, true_or, or_false, false_or, Nat.reduceAdd, Nat.reduceSub, Nat.reduceLT, Nat.reduceLeDiff, Nat.reduceEqDiff, Nat.reduceBEq, beq_self_eq_true, Bool.or_false, Bool.false_or, Bool.or_true, Bool.true_or, not_true, not_false_eq_true, reduceCtorEq, s130_42, s130_45, s130_46, s130_49, s130_52, s130_53, s130_80, s130_81, s130_82, s130_85, s130_86, s130_89, s130_92, sk_n, kp_n, GA, hab, SM, hkc, c0, c1, hs0, Int.reduceEq, b47 (show 4 < 47 by decide), hd1, cal (n1664 _) (w_ordinal (σ := skW (kpW σ k ks (nI z)) p hs tl tr ws sn ps ls (nI n) (nI P) dy co rn wc sl sr) (d := d - 1) (k := 4) c1 hkc), sk_g0, b0, cal (n648 _ _ _) (w_hop1 (σ := kpW σ k ks (nI z)) (d := d - 1) hp hq hq8 hj16 (hps q hqP) htg (Int32.not_lt.mp (nI_pos (show g2 < 2 ^ 31 by omega)))), encO]
      · have hkc := (HK z ks 5 (by decide)).trans (kn_tk (k := 5) (by decide) L xs)
        have c1 : 5 < 1000 + σ.2.1 := by omega
        have c0 : 300 < 1000 + σ.2.1 := by omega
        have hs0 : (nI (mxsmap.getD 5 0)).toInt = 25 := by decide
        have e0 : goG hs n 5 b (pl q) = glS hs n b (pl q) := if_neg (by decide)
        rw [e0]
        cases hg2 : glS hs n b (pl q) with
        | none =>
          refine ⟨_, ⟨ks, z, tl, tr, ws, sn, ps, rn, wc, sl, sr, rfl, hse, hps⟩, fun {Q} => ?_⟩
          simp only [WP_eq, e_go, e_none, e_ite, e_thr0, e_ret, e_thr, e_call, e_Kv, e_Kn, e_Kx, e_K2, e_K20, e_at0, e_s1_0, e_s2_0, e_at1, e_s1_1, e_s2_1, e_at2, e_s1_2, e_s2_2, e_at3, e_s1_3, e_s2_3, e_at4, e_s1_4, e_s2_4, e_at5, e_s1_5, e_s2_5, e_at6, e_s1_6, e_s2_6, e_at7, e_s1_7, e_s2_7, e_at8, e_s1_8, e_s2_8, e_at9, e_s1_9, e_s2_9, e_at10, e_s1_10, e_s2_10, e_at11, e_s1_11, e_s2_11, e_at12, e_s1_12, e_s2_12, e_at13, e_s1_13, e_s2_13, e_kn, e_ki, e_kj, e_kd, e_kr, e_k0, e_lI, e_lJ, e_lD, e_lA, e_lA0, e_sI, e_sJ, e_sD, e_sA, e_sA0, e_inc, e_I2, e_I2z, e_I1, e_I2J, e_J2I, e_I2D, e_J2, e_lcmp, e_dcmp, e_ddiv, e_ifeq, e_iceq, e_ifne, e_icne, e_iflt, e_iclt, e_ifge, e_icge, e_ifgt, e_icgt, e_ifle, e_icle, e_ca, e_ca2, e_en, e_en0, e_sw, e_lk0, e_lk, e_dup, e_dup2, e_pop, e_ci, e_cj, e_cd, e_cr, e_c0, e_gf, e_gf2, e_gf3, e_pf, e_pf2, e_f0, e_f1, e_f2, e_f20, e_len, e_len2, e_al, e_al2, e_al3, e_alJ, e_alJ2, e_alJ3, e_alA, e_alA2, e_alA3, e_as, e_as2, e_as3, e_asB, e_asB2, e_asJ, e_asJ2, e_asJ3, e_asA, e_asA2, e_asA3, e_new, e_na, e_na2, e_cat0, e_cat1, e_tk0, e_tk1, e_tk2, e_tk3, e_tk4, e_tk5, e_tk6, e_tk7, e_tk8, e_cS, e_cS2, e_cI_0, e_cI_1, e_cI_2, e_cI_3, e_cI_4, e_cI_5, e_cI2, e_cV_0, e_cV_1, e_cV_2, e_cV_3, e_cV_4, e_cV_5, e_cV_6, e_cV_7, e_cV2, e_cV3, e_oi, e_cp, e_r0, e_r1, e_r2, e_r3, e_r4, e_r5, e_r6, e_r60, e_r7, e_W1, e_W2, e_A1, e_A2, e_Wg, e_Ag, e_rf0, e_rf1, e_len0, e_len1, e_vl0, e_vl1, z00, z10, z11, ↓reduceIte, List.getElem?_cons_zero, List.getElem?_cons_succ, List.set_cons_zero, List.set_cons_succ, and_true, true_and, and_self, or_true, true_or, or_false, false_or, Nat.reduceAdd, Nat.reduceSub, Nat.reduceLT, Nat.reduceLeDiff, Nat.reduceEqDiff, Nat.reduceBEq, beq_self_eq_true, Bool.or_false, Bool.false_or, Bool.or_true, Bool.true_or, not_true, not_false_eq_true, reduceCtorEq, s130_42, s130_45, s130_46, s130_49, s130_52, s130_53, s130_80, s130_81, s130_82, s130_85, s130_86, s130_89, s130_92, s130_93, s130_94, s130_95, s130_98, s130_99, s130_102, s130_105, sk_n, kp_n, GA, hab, SM, hkc, c0, c1, hs0, Int.reduceEq, b47 (show 5 < 47 by decide), hd1, cal (n1664 _) (w_ordinal (σ := skW (kpW σ k ks (nI z)) p hs tl tr ws sn ps ls (nI n) (nI P) dy co rn wc sl sr) (d := d - 1) (k := 5) c1 hkc), sk_g0, b0, cal (n649 _ _ _) (w_glide0 (σ := kpW σ k ks (nI z)) (d := d - 1) hp hq rfl hn hq8 hjn (hps q hqP) hg2), Bool.false_eq_true]
        | some g2 =>
          refine ⟨_, ⟨ks, z, tl, tr, ws, sn, va_up ps q (nI g2), rn, wc, sl, sr, rfl, hse, fun y hy => ?_⟩, fun {Q} => ?_⟩
          · dsimp only
            by_cases h : y = q
            · subst h; rw [va_up_self, va_up_self]
            · rw [va_up_ne _ _ h, va_up_ne _ _ h]; exact hps y hy
          simp only [WP_eq, e_go, e_none, e_ite, e_thr0, e_ret, e_thr, e_call, e_Kv, e_Kn, e_Kx, e_K2, e_K20, e_at0, e_s1_0, e_s2_0, e_at1, e_s1_1, e_s2_1, e_at2, e_s1_2, e_s2_2, e_at3, e_s1_3, e_s2_3, e_at4, e_s1_4, e_s2_4, e_at5, e_s1_5, e_s2_5, e_at6, e_s1_6, e_s2_6, e_at7, e_s1_7, e_s2_7, e_at8, e_s1_8, e_s2_8, e_at9, e_s1_9, e_s2_9, e_at10, e_s1_10, e_s2_10, e_at11, e_s1_11, e_s2_11, e_at12, e_s1_12, e_s2_12, e_at13, e_s1_13, e_s2_13, e_kn, e_ki, e_kj, e_kd, e_kr, e_k0, e_lI, e_lJ, e_lD, e_lA, e_lA0, e_sI, e_sJ, e_sD, e_sA, e_sA0, e_inc, e_I2, e_I2z, e_I1, e_I2J, e_J2I, e_I2D, e_J2, e_lcmp, e_dcmp, e_ddiv, e_ifeq, e_iceq, e_ifne, e_icne, e_iflt, e_iclt, e_ifge, e_icge, e_ifgt, e_icgt, e_ifle, e_icle, e_ca, e_ca2, e_en, e_en0, e_sw, e_lk0, e_lk, e_dup, e_dup2, e_pop, e_ci, e_cj, e_cd, e_cr, e_c0, e_gf, e_gf2, e_gf3, e_pf, e_pf2, e_f0, e_f1, e_f2, e_f20, e_len, e_len2, e_al, e_al2, e_al3, e_alJ, e_alJ2, e_alJ3, e_alA, e_alA2, e_alA3, e_as, e_as2, e_as3, e_asB, e_asB2, e_asJ, e_asJ2, e_asJ3, e_asA, e_asA2, e_asA3, e_new, e_na, e_na2, e_cat0, e_cat1, e_tk0, e_tk1, e_tk2, e_tk3, e_tk4, e_tk5, e_tk6, e_tk7, e_tk8, e_cS, e_cS2, e_cI_0, e_cI_1, e_cI_2, e_cI_3, e_cI_4, e_cI_5, e_cI2, e_cV_0, e_cV_1, e_cV_2, e_cV_3, e_cV_4, e_cV_5, e_cV_6, e_cV_7, e_cV2, e_cV3, e_oi, e_cp, e_r0, e_r1, e_r2, e_r3, e_r4, e_r5, e_r6, e_r60, e_r7, e_W1, e_W2, e_A1, e_A2, e_Wg, e_Ag, e_rf0, e_rf1, e_len0, e_len1, e_vl0, e_vl1, z00, z10, z11, ↓reduceIte, List.getElem?_cons_zero, List.getElem?_cons_succ, List.set_cons_zero, List.set_cons_succ, and_true, true_and, and_self, or_true, true_or, or_false, false_or, Nat.reduceAdd, Nat.reduceSub, Nat.reduceLT, Nat.reduceLeDiff, Nat.reduceEqDiff, Nat.reduceBEq, beq_self_eq_true, Bool.or_false, Bool.false_or, Bool.or_true, Bool.true_or, not_true, not_false_eq_true, reduceCtorEq, s130_42, s130_45, s130_46, s130_49, s130_52, s130_53, s130_80, s130_81, s130_82, s130_85, s130_86, s130_89, s130_92, s130_93, s130_94, s130_95, s130_98, s130_99, s130_102, s130_105, sk_n, kp_n, GA, hab, SM, hkc, c0, c1, hs0, Int.reduceEq, b47 (show 5 < 47 by decide), hd1, cal (n1664 _) (w_ordinal (σ := skW (kpW σ k ks (nI z)) p hs tl tr ws sn ps ls (nI n) (nI P) dy co rn wc sl sr) (d := d - 1) (k := 5) c1 hkc), sk_g0, b0, cal (n649 _ _ _) (w_glide1 (σ := kpW σ k ks (nI z)) (d := d - 1) hp hq rfl hn hq8 hjn (hps q hqP) hg2)]
    · have he1 := (ev_one (hs := hs) (n := n) (pl := pl) (ls := ls) (dy := dy) hty).1
      obtain ⟨ks', hR⟩ := w_reckon (d := d - 1) (f := f) (e := t) (z := z) (ks := ks) (hs := hs) (tl := tl) (tr := tr) (ws := ws) (sn := sn) (ps := ps) (ls := ls) (co := co) (rn := rn) (wc := wc) (sl := sl) (sr := sr) hp hq hk hkq hpk hP hps hpl hK hse rfl hn h0 rfl hpn hg hgk hgf hgs og (fun i hi => hit i (by omega)) (by omega) hd5 hft he1
      have hx := fmN_lt (evV hs n P pl ls dy K A B f t) h0
      have hx16 : fmN (evV hs n P pl ls dy K A B f t) n < 16 := by omega
      obtain ⟨u, hu, eu⟩ := hr _ hx
      obtain ⟨cc1, cc2, cc3⟩ := cc_ch hu hk67
      rw [← eu] at cc1 cc2 cc3
      have ho : ordF hs n P pl ls dy K A B kd q b f t e = if ccS (nI kd) (hs (fmN (evV hs n P pl ls dy K A B f t) n)) = nI 0 then (hs, pl, false)
  else (va_up hs (fmN (evV hs n P pl ls dy K A B f t) n) (chS (nI kd) (hs (fmN (evV hs n P pl ls dy K A B f t) n))), pl, true) := by
        unfold ordF; rw [if_neg hnt, if_neg (by omega)]
      rw [ho]
      have hwbr := fun Q => w_towerByRemainder (Q := Q) (σ := kpW σ k ks' (nI 0)) (hs := hs) (tl := tl) (tr := tr) (ws := ws) (sn := sn) (ps := ps) (ls := ls) (pc := nI P) (dn := dy) (co := co) (rn := rn) (wc := wc) (sl := sl) (sr := sr) (d - 1) n (evV hs n P pl ls dy K A B f t) hp hq hd2 rfl hn h0
      have c0 : 300 < 1000 + σ.2.1 := by omega
      by_cases hcc : ccS (nI kd) (hs (fmN (evV hs n P pl ls dy K A B f t) n)) = nI 0
      · rw [if_pos hcc]
        refine ⟨_, ⟨ks', 0, tl, tr, ws, sn, ps, rn, wc, sl, sr, rfl, hse, hps⟩, fun {Q} => ?_⟩
        have hno := cc1.mp hcc
        rcases hk67 with rfl | rfl
        · have hkc := fun z ks => (HK z ks 6 (by decide)).trans (kn_tk (k := 6) (by decide) L xs)
          have c1 : 6 < 1000 + σ.2.1 := by omega
          have hs0 : (nI (mxsmap.getD 6 0)).toInt = 0 := by decide
          have hT := fun Q => w_tryToRaise0 (Q := Q) (σ := kpW σ k ks' (nI 0)) (tl := tl) (tr := tr) (ws := ws) (sn := sn) (ps := ps) (ls := ls) (tc := nI n) (pc := nI P) (dn := dy) (co := co) (rn := rn) (wc := wc) (sl := sl) (sr := sr) (d - 1) _ (nI 1) hp hq hx16 hno
          simp only [WP_eq, e_go, e_none, e_ite, e_thr0, e_ret, e_thr, e_call, e_Kv, e_Kn, e_Kx, e_K2, e_K20, e_at0, e_s1_0, e_s2_0, e_at1, e_s1_1, e_s2_1, e_at2, e_s1_2, e_s2_2, e_at3, e_s1_3, e_s2_3, e_at4, e_s1_4, e_s2_4, e_at5, e_s1_5, e_s2_5, e_at6, e_s1_6, e_s2_6, e_at7, e_s1_7, e_s2_7, e_at8, e_s1_8, e_s2_8, e_at9, e_s1_9, e_s2_9, e_at10, e_s1_10, e_s2_10, e_at11, e_s1_11, e_s2_11, e_at12, e_s1_12, e_s2_12, e_at13, e_s1_13, e_s2_13, e_kn, e_ki, e_kj, e_kd, e_kr, e_k0, e_lI, e_lJ, e_lD, e_lA, e_lA0, e_sI, e_sJ, e_sD, e_sA, e_sA0, e_inc, e_I2, e_I2z, e_I1, e_I2J, e_J2I, e_I2D, e_J2, e_lcmp, e_dcmp, e_ddiv, e_ifeq, e_iceq, e_ifne, e_icne, e_iflt, e_iclt, e_ifge, e_icge, e_ifgt, e_icgt, e_ifle, e_icle, e_ca, e_ca2, e_en, e_en0, e_sw, e_lk0, e_lk, e_dup, e_dup2, e_pop, e_ci, e_cj, e_cd, e_cr, e_c0, e_gf, e_gf2, e_gf3, e_pf, e_pf2, e_f0, e_f1, e_f2, e_f20, e_len, e_len2, e_al, e_al2, e_al3, e_alJ, e_alJ2, e_alJ3, e_alA, e_alA2, e_alA3, e_as, e_as2, e_as3, e_asB, e_asB2, e_asJ, e_asJ2, e_asJ3, e_asA, e_asA2, e_asA3, e_new, e_na, e_na2, e_cat0, e_cat1, e_tk0, e_tk1, e_tk2, e_tk3, e_tk4, e_tk5, e_tk6, e_tk7, e_tk8, e_cS, e_cS2, e_cI_0, e_cI_1, e_cI_2, e_cI_3, e_cI_4, e_cI_5, e_cI2, e_cV_0, e_cV_1, e_cV_2, e_cV_3, e_cV_4, e_cV_5, e_cV_6, e_cV_7, e_cV2, e_cV3, e_oi, e_cp, e_r0, e_r1, e_r2, e_r3, e_r4, e_r5, e_r6, e_r60, e_r7, e_W1, e_W2, e_A1, e_A2, e_Wg, e_Ag, e_rf0, e_rf1, e_len0, e_len1, e_vl0, e_vl1, z00, z10, z11, ↓reduceIte, List.getElem?_cons_zero, List.getElem?_cons_succ, List.set_cons_zero, List.set_cons_succ, and_true, true_and, and_self, or_true, true_or, or_false, false_or, Nat.reduceAdd, Nat.reduceSub, Nat.reduceLT, Nat.reduceLeDiff, Nat.reduceEqDiff, Nat.reduceBEq, beq_self_eq_true, Bool.or_false, Bool.false_or, Bool.or_true, Bool.true_or, not_true, not_false_eq_true, reduceCtorEq, s130_42, s130_45, s130_46, s130_49, s130_52, s130_53, s130_80, s130_81, s130_82, s130_85, s130_86, s130_89, s130_92, s130_93, s130_94, s130_95, s130_98, s130_99, s130_102, s130_105, s130_106, s130_107, s130_108, s130_109, s130_112, s130_113, s130_116, s130_117, s130_120, s130_122, s130_123, s130_124, s130_126, s130_129, s130_130, s130_133, s130_136, s130_139, s130_140, s130_143, s130_144, s130_147, sk_n, kp_n, GA, hab, SM, hkc, c0, c1, hs0, Int.reduceEq, b47 (show 6 < 47 by decide), hd1, cal (n1664 _) (w_ordinal (σ := skW (kpW σ k ks (nI z)) p hs tl tr ws sn ps ls (nI n) (nI P) dy co rn wc sl sr) (d := d - 1) (k := 6) c1 (hkc _ _)), sk_g0, b0, sk2_k hp hq hk hkq hpk, a0, cal (n131 _ _ _ _ _) hR, cal (n653 _ _) (hwbr _), fm_nI _ h0 hn, cal (n647 _ _ _) (hT _), Option.some.injEq, decide_true, decide_false, Bool.true_eq_false, Bool.false_eq_true]
        · have hkc := fun z ks => (HK z ks 7 (by decide)).trans (kn_tk (k := 7) (by decide) L xs)
          have c1 : 7 < 1000 + σ.2.1 := by omega
          have hs0 : (nI (mxsmap.getD 7 0)).toInt = 0 := by decide
          have hT := fun Q => w_tryToRaise0 (Q := Q) (σ := kpW σ k ks' (nI 0)) (tl := tl) (tr := tr) (ws := ws) (sn := sn) (ps := ps) (ls := ls) (tc := nI n) (pc := nI P) (dn := dy) (co := co) (rn := rn) (wc := wc) (sl := sl) (sr := sr) (d - 1) _ (-1) hp hq hx16 hno
          simp only [WP_eq, e_go, e_none, e_ite, e_thr0, e_ret, e_thr, e_call, e_Kv, e_Kn, e_Kx, e_K2, e_K20, e_at0, e_s1_0, e_s2_0, e_at1, e_s1_1, e_s2_1, e_at2, e_s1_2, e_s2_2, e_at3, e_s1_3, e_s2_3, e_at4, e_s1_4, e_s2_4, e_at5, e_s1_5, e_s2_5, e_at6, e_s1_6, e_s2_6, e_at7, e_s1_7, e_s2_7, e_at8, e_s1_8, e_s2_8, e_at9, e_s1_9, e_s2_9, e_at10, e_s1_10, e_s2_10, e_at11, e_s1_11, e_s2_11, e_at12, e_s1_12, e_s2_12, e_at13, e_s1_13, e_s2_13, e_kn, e_ki, e_kj, e_kd, e_kr, e_k0, e_lI, e_lJ, e_lD, e_lA, e_lA0, e_sI, e_sJ, e_sD, e_sA, e_sA0, e_inc, e_I2, e_I2z, e_I1, e_I2J, e_J2I, e_I2D, e_J2, e_lcmp, e_dcmp, e_ddiv, e_ifeq, e_iceq, e_ifne, e_icne, e_iflt, e_iclt, e_ifge, e_icge, e_ifgt, e_icgt, e_ifle, e_icle, e_ca, e_ca2, e_en, e_en0, e_sw, e_lk0, e_lk, e_dup, e_dup2, e_pop, e_ci, e_cj, e_cd, e_cr, e_c0, e_gf, e_gf2, e_gf3, e_pf, e_pf2, e_f0, e_f1, e_f2, e_f20, e_len, e_len2, e_al, e_al2, e_al3, e_alJ, e_alJ2, e_alJ3, e_alA, e_alA2, e_alA3, e_as, e_as2, e_as3, e_asB, e_asB2, e_asJ, e_asJ2, e_asJ3, e_asA, e_asA2, e_asA3, e_new, e_na, e_na2, e_cat0, e_cat1, e_tk0, e_tk1, e_tk2, e_tk3, e_tk4, e_tk5, e_tk6, e_tk7, e_tk8, e_cS, e_cS2, e_cI_0, e_cI_1, e_cI_2, e_cI_3, e_cI_4, e_cI_5, e_cI2, e_cV_0, e_cV_1, e_cV_2, e_cV_3, e_cV_4, e_cV_5, e_cV_6, e_cV_7, e_cV2, e_cV3, e_oi, e_cp, e_r0, e_r1, e_r2, e_r3, e_r4, e_r5, e_r6, e_r60, e_r7, e_W1, e_W2, e_A1, e_A2, e_Wg, e_Ag, e_rf0, e_rf1, e_len0, e_len1, e_vl0, e_vl1, z00, z10, z11, ↓reduceIte, List.getElem?_cons_zero, List.getElem?_cons_succ, List.set_cons_zero, List.set_cons_succ, and_true, true_and, and_self, or_true, true_or, or_false, false_or, Nat.reduceAdd, Nat.reduceSub, Nat.reduceLT, Nat.reduceLeDiff, Nat.reduceEqDiff, Nat.reduceBEq, beq_self_eq_true, Bool.or_false, Bool.false_or, Bool.or_true, Bool.true_or, not_true, not_false_eq_true, reduceCtorEq, s130_42, s130_45, s130_46, s130_49, s130_52, s130_53, s130_80, s130_81, s130_82, s130_85, s130_86, s130_89, s130_92, s130_93, s130_94, s130_95, s130_98, s130_99, s130_102, s130_105, s130_106, s130_107, s130_108, s130_109, s130_112, s130_113, s130_116, s130_117, s130_120, s130_122, s130_123, s130_124, s130_126, s130_129, s130_130, s130_133, s130_136, s130_139, s130_140, s130_143, s130_144, s130_147, sk_n, kp_n, GA, hab, SM, hkc, c0, c1, hs0, Int.reduceEq, b47 (show 7 < 47 by decide), hd1, cal (n1664 _) (w_ordinal (σ := skW (kpW σ k ks (nI z)) p hs tl tr ws sn ps ls (nI n) (nI P) dy co rn wc sl sr) (d := d - 1) (k := 7) c1 (hkc _ _)), sk_g0, b0, sk2_k hp hq hk hkq hpk, a0, cal (n131 _ _ _ _ _) hR, cal (n653 _ _) (hwbr _), fm_nI _ h0 hn, cal (n647 _ _ _) (hT _), Option.some.injEq, decide_true, decide_false, Bool.true_eq_false, Bool.false_eq_true]
      · rw [if_neg hcc]
        have hno := fun z => hcc (cc1.mpr z)
        rcases hk67 with rfl | rfl
        · have hkc := fun z ks => (HK z ks 6 (by decide)).trans (kn_tk (k := 6) (by decide) L xs)
          have c1 : 6 < 1000 + σ.2.1 := by omega
          have hs0 : (nI (mxsmap.getD 6 0)).toInt = 0 := by decide
          have hT := fun Q => w_tryToRaise1 (Q := Q) (σ := kpW σ k ks' (nI 0)) (tl := tl) (tr := tr) (ws := ws) (sn := sn) (ps := ps) (ls := ls) (tc := nI n) (pc := nI P) (dn := dy) (co := co) (rn := rn) (wc := wc) (sl := sl) (sr := sr) (d - 1) n _ (nI 1) hp hq hd3 rfl hn hx16 hno
          rw [show chS (nI 6) (hs (fmN (evV hs n P pl ls dy K A B f t) n)) = hs (fmN (evV hs n P pl ls dy K A B f t) n) + nI 1 from cc2]
          refine ⟨_, skS_set (z := 0) (ks := ks') (tl := tl) (tr := tr) (ws := ws) (sn := sn) hps, fun {Q} => ?_⟩
          simp only [WP_eq, e_go, e_none, e_ite, e_thr0, e_ret, e_thr, e_call, e_Kv, e_Kn, e_Kx, e_K2, e_K20, e_at0, e_s1_0, e_s2_0, e_at1, e_s1_1, e_s2_1, e_at2, e_s1_2, e_s2_2, e_at3, e_s1_3, e_s2_3, e_at4, e_s1_4, e_s2_4, e_at5, e_s1_5, e_s2_5, e_at6, e_s1_6, e_s2_6, e_at7, e_s1_7, e_s2_7, e_at8, e_s1_8, e_s2_8, e_at9, e_s1_9, e_s2_9, e_at10, e_s1_10, e_s2_10, e_at11, e_s1_11, e_s2_11, e_at12, e_s1_12, e_s2_12, e_at13, e_s1_13, e_s2_13, e_kn, e_ki, e_kj, e_kd, e_kr, e_k0, e_lI, e_lJ, e_lD, e_lA, e_lA0, e_sI, e_sJ, e_sD, e_sA, e_sA0, e_inc, e_I2, e_I2z, e_I1, e_I2J, e_J2I, e_I2D, e_J2, e_lcmp, e_dcmp, e_ddiv, e_ifeq, e_iceq, e_ifne, e_icne, e_iflt, e_iclt, e_ifge, e_icge, e_ifgt, e_icgt, e_ifle, e_icle, e_ca, e_ca2, e_en, e_en0, e_sw, e_lk0, e_lk, e_dup, e_dup2, e_pop, e_ci, e_cj, e_cd, e_cr, e_c0, e_gf, e_gf2, e_gf3, e_pf, e_pf2, e_f0, e_f1, e_f2, e_f20, e_len, e_len2, e_al, e_al2, e_al3, e_alJ, e_alJ2, e_alJ3, e_alA, e_alA2, e_alA3, e_as, e_as2, e_as3, e_asB, e_asB2, e_asJ, e_asJ2, e_asJ3, e_asA, e_asA2, e_asA3, e_new, e_na, e_na2, e_cat0, e_cat1, e_tk0, e_tk1, e_tk2, e_tk3, e_tk4, e_tk5, e_tk6, e_tk7, e_tk8, e_cS, e_cS2, e_cI_0, e_cI_1, e_cI_2, e_cI_3, e_cI_4, e_cI_5, e_cI2, e_cV_0, e_cV_1, e_cV_2, e_cV_3, e_cV_4, e_cV_5, e_cV_6, e_cV_7, e_cV2, e_cV3, e_oi, e_cp, e_r0, e_r1, e_r2, e_r3, e_r4, e_r5, e_r6, e_r60, e_r7, e_W1, e_W2, e_A1, e_A2, e_Wg, e_Ag, e_rf0, e_rf1, e_len0, e_len1, e_vl0, e_vl1, z00, z10, z11, ↓reduceIte, List.getElem?_cons_zero, List.getElem?_cons_succ, List.set_cons_zero, List.set_cons_succ, and_true, true_and, and_self, or_true, true_or, or_false, false_or, Nat.reduceAdd, Nat.reduceSub, Nat.reduceLT, Nat.reduceLeDiff, Nat.reduceEqDiff, Nat.reduceBEq, beq_self_eq_true, Bool.or_false, Bool.false_or, Bool.or_true, Bool.true_or, not_true, not_false_eq_true, reduceCtorEq, s130_42, s130_45, s130_46, s130_49, s130_52, s130_53, s130_80, s130_81, s130_82, s130_85, s130_86, s130_89, s130_92, s130_93, s130_94, s130_95, s130_98, s130_99, s130_102, s130_105, s130_106, s130_107, s130_108, s130_109, s130_112, s130_113, s130_116, s130_117, s130_120, s130_122, s130_123, s130_124, s130_126, s130_129, s130_130, s130_133, s130_136, s130_139, s130_140, s130_143, s130_144, s130_147, sk_n, kp_n, GA, hab, SM, hkc, c0, c1, hs0, Int.reduceEq, b47 (show 6 < 47 by decide), hd1, cal (n1664 _) (w_ordinal (σ := skW (kpW σ k ks (nI z)) p hs tl tr ws sn ps ls (nI n) (nI P) dy co rn wc sl sr) (d := d - 1) (k := 6) c1 (hkc _ _)), sk_g0, b0, sk2_k hp hq hk hkq hpk, a0, cal (n131 _ _ _ _ _) hR, cal (n653 _ _) (hwbr _), fm_nI _ h0 hn, cal (n647 _ _ _) (hT _), Option.some.injEq, decide_true, decide_false, Bool.true_eq_false]
        · have hkc := fun z ks => (HK z ks 7 (by decide)).trans (kn_tk (k := 7) (by decide) L xs)
          have c1 : 7 < 1000 + σ.2.1 := by omega
          have hs0 : (nI (mxsmap.getD 7 0)).toInt = 0 := by decide
          have hT := fun Q => w_tryToRaise1 (Q := Q) (σ := kpW σ k ks' (nI 0)) (tl := tl) (tr := tr) (ws := ws) (sn := sn) (ps := ps) (ls := ls) (tc := nI n) (pc := nI P) (dn := dy) (co := co) (rn := rn) (wc := wc) (sl := sl) (sr := sr) (d - 1) n _ (-1) hp hq hd3 rfl hn hx16 hno
          rw [show chS (nI 7) (hs (fmN (evV hs n P pl ls dy K A B f t) n)) = hs (fmN (evV hs n P pl ls dy K A B f t) n) + -1 from cc2]
          refine ⟨_, skS_set (z := 0) (ks := ks') (tl := tl) (tr := tr) (ws := ws) (sn := sn) hps, fun {Q} => ?_⟩
          simp only [WP_eq, e_go, e_none, e_ite, e_thr0, e_ret, e_thr, e_call, e_Kv, e_Kn, e_Kx, e_K2, e_K20, e_at0, e_s1_0, e_s2_0, e_at1, e_s1_1, e_s2_1, e_at2, e_s1_2, e_s2_2, e_at3, e_s1_3, e_s2_3, e_at4, e_s1_4, e_s2_4, e_at5, e_s1_5, e_s2_5, e_at6, e_s1_6, e_s2_6, e_at7, e_s1_7, e_s2_7, e_at8, e_s1_8, e_s2_8, e_at9, e_s1_9, e_s2_9, e_at10, e_s1_10, e_s2_10, e_at11, e_s1_11, e_s2_11, e_at12, e_s1_12, e_s2_12, e_at13, e_s1_13, e_s2_13, e_kn, e_ki, e_kj, e_kd, e_kr, e_k0, e_lI, e_lJ, e_lD, e_lA, e_lA0, e_sI, e_sJ, e_sD, e_sA, e_sA0, e_inc, e_I2, e_I2z, e_I1, e_I2J, e_J2I, e_I2D, e_J2, e_lcmp, e_dcmp, e_ddiv, e_ifeq, e_iceq, e_ifne, e_icne, e_iflt, e_iclt, e_ifge, e_icge, e_ifgt, e_icgt, e_ifle, e_icle, e_ca, e_ca2, e_en, e_en0, e_sw, e_lk0, e_lk, e_dup, e_dup2, e_pop, e_ci, e_cj, e_cd, e_cr, e_c0, e_gf, e_gf2, e_gf3, e_pf, e_pf2, e_f0, e_f1, e_f2, e_f20, e_len, e_len2, e_al, e_al2, e_al3, e_alJ, e_alJ2, e_alJ3, e_alA, e_alA2, e_alA3, e_as, e_as2, e_as3, e_asB, e_asB2, e_asJ, e_asJ2, e_asJ3, e_asA, e_asA2, e_asA3, e_new, e_na, e_na2, e_cat0, e_cat1, e_tk0, e_tk1, e_tk2, e_tk3, e_tk4, e_tk5, e_tk6, e_tk7, e_tk8, e_cS, e_cS2, e_cI_0, e_cI_1, e_cI_2, e_cI_3, e_cI_4, e_cI_5, e_cI2, e_cV_0, e_cV_1, e_cV_2, e_cV_3, e_cV_4, e_cV_5, e_cV_6, e_cV_7, e_cV2, e_cV3, e_oi, e_cp, e_r0, e_r1, e_r2, e_r3, e_r4, e_r5, e_r6, e_r60, e_r7, e_W1, e_W2, e_A1, e_A2, e_Wg, e_Ag, e_rf0, e_rf1, e_len0, e_len1, e_vl0, e_vl1, z00, z10, z11, ↓reduceIte, List.getElem?_cons_zero, List.getElem?_cons_succ, List.set_cons_zero, List.set_cons_succ, and_true, true_and, and_self, or_true, true_or, or_false, false_or, Nat.reduceAdd, Nat.reduceSub, Nat.reduceLT, Nat.reduceLeDiff, Nat.reduceEqDiff, Nat.reduceBEq, beq_self_eq_true, Bool.or_false, Bool.false_or, Bool.or_true, Bool.true_or, not_true, not_false_eq_true, reduceCtorEq, s130_42, s130_45, s130_46, s130_49, s130_52, s130_53, s130_80, s130_81, s130_82, s130_85, s130_86, s130_89, s130_92, s130_93, s130_94, s130_95, s130_98, s130_99, s130_102, s130_105, s130_106, s130_107, s130_108, s130_109, s130_112, s130_113, s130_116, s130_117, s130_120, s130_122, s130_123, s130_124, s130_126, s130_129, s130_130, s130_133, s130_136, s130_139, s130_140, s130_143, s130_144, s130_147, sk_n, kp_n, GA, hab, SM, hkc, c0, c1, hs0, Int.reduceEq, b47 (show 7 < 47 by decide), hd1, cal (n1664 _) (w_ordinal (σ := skW (kpW σ k ks (nI z)) p hs tl tr ws sn ps ls (nI n) (nI P) dy co rn wc sl sr) (d := d - 1) (k := 7) c1 (hkc _ _)), sk_g0, b0, sk2_k hp hq hk hkq hpk, a0, cal (n131 _ _ _ _ _) hR, cal (n653 _ _) (hwbr _), fm_nI _ h0 hn, cal (n647 _ _ _) (hT _), Option.some.injEq, decide_true, decide_false, Bool.true_eq_false]
  by_cases ht : t < e
  · obtain ⟨he1, he2⟩ := ev_one (hs := hs) (n := n) (pl := pl) (ls := ls) (dy := dy) (hwt ht)
    obtain ⟨ks', hR⟩ := w_reckon (d := d - 1) (f := t) (e := e) (z := z) (ks := ks) (hs := hs) (tl := tl) (tr := tr) (ws := ws) (sn := sn) (ps := ps) (ls := ls) (co := co) (rn := rn) (wc := wc) (sl := sl) (sr := sr) hp hq hk hkq hpk hP hps hpl hK hse rfl hn h0 rfl hpn hg hgk hgf hgs og hit he4 hd5 hte he1
    have hlt : ¬ nI e ≤ nI t := nI_ge ht (by omega)
    by_cases hv : evV hs n P pl ls dy K A B t e = nI 0
    · have ho : ordF hs n P pl ls dy K A B kd q b f t e = (hs, pl, false) := by unfold ordF; rw [if_pos ⟨ht, hv⟩]
      rw [ho]
      refine ⟨_, ⟨ks', 0, tl, tr, ws, sn, ps, rn, wc, sl, sr, rfl, hse, hps⟩, fun {Q} => ?_⟩
      simp only [WP_eq, e_go, e_none, e_ite, e_thr0, e_ret, e_thr, e_call, e_Kv, e_Kn, e_Kx, e_K2, e_K20, e_at0, e_s1_0, e_s2_0, e_at1, e_s1_1, e_s2_1, e_at2, e_s1_2, e_s2_2, e_at3, e_s1_3, e_s2_3, e_at4, e_s1_4, e_s2_4, e_at5, e_s1_5, e_s2_5, e_at6, e_s1_6, e_s2_6, e_at7, e_s1_7, e_s2_7, e_at8, e_s1_8, e_s2_8, e_at9, e_s1_9, e_s2_9, e_at10, e_s1_10, e_s2_10, e_at11, e_s1_11, e_s2_11, e_at12, e_s1_12, e_s2_12, e_at13, e_s1_13, e_s2_13, e_kn, e_ki, e_kj, e_kd, e_kr, e_k0, e_lI, e_lJ, e_lD, e_lA, e_lA0, e_sI, e_sJ, e_sD, e_sA, e_sA0, e_inc, e_I2, e_I2z, e_I1, e_I2J, e_J2I, e_I2D, e_J2, e_lcmp, e_dcmp, e_ddiv, e_ifeq, e_iceq, e_ifne, e_icne, e_iflt, e_iclt, e_ifge, e_icge, e_ifgt, e_icgt, e_ifle, e_icle, e_ca, e_ca2, e_en, e_en0, e_sw, e_lk0, e_lk, e_dup, e_dup2, e_pop, e_ci, e_cj, e_cd, e_cr, e_c0, e_gf, e_gf2, e_gf3, e_pf, e_pf2, e_f0, e_f1, e_f2, e_f20, e_len, e_len2, e_al, e_al2, e_al3, e_alJ, e_alJ2, e_alJ3, e_alA, e_alA2, e_alA3, e_as, e_as2, e_as3, e_asB, e_asB2, e_asJ, e_asJ2, e_asJ3, e_asA, e_asA2, e_asA3, e_new, e_na, e_na2, e_cat0, e_cat1, e_tk0, e_tk1, e_tk2, e_tk3, e_tk4, e_tk5, e_tk6, e_tk7, e_tk8, e_cS, e_cS2, e_cI_0, e_cI_1, e_cI_2, e_cI_3, e_cI_4, e_cI_5, e_cI2, e_cV_0, e_cV_1, e_cV_2, e_cV_3, e_cV_4, e_cV_5, e_cV_6, e_cV_7, e_cV2, e_cV3, e_oi, e_cp, e_r0, e_r1, e_r2, e_r3, e_r4, e_r5, e_r6, e_r60, e_r7, e_W1, e_W2, e_A1, e_A2, e_Wg, e_Ag, e_rf0, e_rf1, e_len0, e_len1, e_vl0, e_vl1, z00, z10, z11, ↓reduceIte, List.getElem?_cons_zero, List.getElem?_cons_succ, List.set_cons_zero, List.set_cons_succ, and_true, true_and, and_self, or_true, true_or, or_false, false_or, Nat.reduceAdd, Nat.reduceSub, Nat.reduceLT, Nat.reduceLeDiff, Nat.reduceEqDiff, Nat.reduceBEq, beq_self_eq_true, Bool.or_false, Bool.false_or, Bool.or_true, Bool.true_or, not_true, not_false_eq_true, reduceCtorEq, s130_0, s130_1, s130_4, s130_5, s130_8, s130_11, s130_12, s130_15, s130_16, s130_18, s130_20, s130_23, s130_24, s130_25, s130_26, s130_29, s130_30, s130_33, s130_34, s130_37, s130_40, s130_41, sk_n, kp_n, GA, hab, hlt, hd1, sk2_k hp hq hk hkq hpk, a0, cal (n131 _ _ _ _ _) hR, hv, Bool.false_eq_true]
    · obtain ⟨τ', hτ', hW⟩ := key ks' 0 (some (.int (nI 1))) (fun y => hv y.2)
      refine ⟨τ', hτ', fun {Q} => ?_⟩
      have hv' : ¬ evV hs n P pl ls dy K A B t e = 0 := hv
      simp only [WP_eq, e_go, e_none, e_ite, e_thr0, e_ret, e_thr, e_call, e_Kv, e_Kn, e_Kx, e_K2, e_K20, e_at0, e_s1_0, e_s2_0, e_at1, e_s1_1, e_s2_1, e_at2, e_s1_2, e_s2_2, e_at3, e_s1_3, e_s2_3, e_at4, e_s1_4, e_s2_4, e_at5, e_s1_5, e_s2_5, e_at6, e_s1_6, e_s2_6, e_at7, e_s1_7, e_s2_7, e_at8, e_s1_8, e_s2_8, e_at9, e_s1_9, e_s2_9, e_at10, e_s1_10, e_s2_10, e_at11, e_s1_11, e_s2_11, e_at12, e_s1_12, e_s2_12, e_at13, e_s1_13, e_s2_13, e_kn, e_ki, e_kj, e_kd, e_kr, e_k0, e_lI, e_lJ, e_lD, e_lA, e_lA0, e_sI, e_sJ, e_sD, e_sA, e_sA0, e_inc, e_I2, e_I2z, e_I1, e_I2J, e_J2I, e_I2D, e_J2, e_lcmp, e_dcmp, e_ddiv, e_ifeq, e_iceq, e_ifne, e_icne, e_iflt, e_iclt, e_ifge, e_icge, e_ifgt, e_icgt, e_ifle, e_icle, e_ca, e_ca2, e_en, e_en0, e_sw, e_lk0, e_lk, e_dup, e_dup2, e_pop, e_ci, e_cj, e_cd, e_cr, e_c0, e_gf, e_gf2, e_gf3, e_pf, e_pf2, e_f0, e_f1, e_f2, e_f20, e_len, e_len2, e_al, e_al2, e_al3, e_alJ, e_alJ2, e_alJ3, e_alA, e_alA2, e_alA3, e_as, e_as2, e_as3, e_asB, e_asB2, e_asJ, e_asJ2, e_asJ3, e_asA, e_asA2, e_asA3, e_new, e_na, e_na2, e_cat0, e_cat1, e_tk0, e_tk1, e_tk2, e_tk3, e_tk4, e_tk5, e_tk6, e_tk7, e_tk8, e_cS, e_cS2, e_cI_0, e_cI_1, e_cI_2, e_cI_3, e_cI_4, e_cI_5, e_cI2, e_cV_0, e_cV_1, e_cV_2, e_cV_3, e_cV_4, e_cV_5, e_cV_6, e_cV_7, e_cV2, e_cV3, e_oi, e_cp, e_r0, e_r1, e_r2, e_r3, e_r4, e_r5, e_r6, e_r60, e_r7, e_W1, e_W2, e_A1, e_A2, e_Wg, e_Ag, e_rf0, e_rf1, e_len0, e_len1, e_vl0, e_vl1, z00, z10, z11, ↓reduceIte, List.getElem?_cons_zero, List.getElem?_cons_succ, List.set_cons_zero, List.set_cons_succ, and_true, true_and, and_self, or_true, true_or, or_false, false_or, Nat.reduceAdd, Nat.reduceSub, Nat.reduceLT, Nat.reduceLeDiff, Nat.reduceEqDiff, Nat.reduceBEq, beq_self_eq_true, Bool.or_false, Bool.false_or, Bool.or_true, Bool.true_or, not_true, not_false_eq_true, reduceCtorEq, s130_0, s130_1, s130_4, s130_5, s130_8, s130_11, s130_12, s130_15, s130_16, s130_18, s130_20, s130_23, s130_24, s130_25, s130_26, s130_29, s130_30, s130_33, s130_34, s130_37, s130_40, s130_41, sk_n, kp_n, GA, hab, hlt, hd1, sk2_k hp hq hk hkq hpk, a0, cal (n131 _ _ _ _ _) hR, hv']
      exact stk hW
  · have hlt : nI e ≤ nI t := nI_le (by omega) (by omega)
    obtain ⟨τ', hτ', hW⟩ := key ks z (some (.int (nI 0))) (fun y => ht y.1)
    refine ⟨τ', hτ', fun {Q} => ?_⟩
    simp only [WP_eq, e_go, e_none, e_ite, e_thr0, e_ret, e_thr, e_call, e_Kv, e_Kn, e_Kx, e_K2, e_K20, e_at0, e_s1_0, e_s2_0, e_at1, e_s1_1, e_s2_1, e_at2, e_s1_2, e_s2_2, e_at3, e_s1_3, e_s2_3, e_at4, e_s1_4, e_s2_4, e_at5, e_s1_5, e_s2_5, e_at6, e_s1_6, e_s2_6, e_at7, e_s1_7, e_s2_7, e_at8, e_s1_8, e_s2_8, e_at9, e_s1_9, e_s2_9, e_at10, e_s1_10, e_s2_10, e_at11, e_s1_11, e_s2_11, e_at12, e_s1_12, e_s2_12, e_at13, e_s1_13, e_s2_13, e_kn, e_ki, e_kj, e_kd, e_kr, e_k0, e_lI, e_lJ, e_lD, e_lA, e_lA0, e_sI, e_sJ, e_sD, e_sA, e_sA0, e_inc, e_I2, e_I2z, e_I1, e_I2J, e_J2I, e_I2D, e_J2, e_lcmp, e_dcmp, e_ddiv, e_ifeq, e_iceq, e_ifne, e_icne, e_iflt, e_iclt, e_ifge, e_icge, e_ifgt, e_icgt, e_ifle, e_icle, e_ca, e_ca2, e_en, e_en0, e_sw, e_lk0, e_lk, e_dup, e_dup2, e_pop, e_ci, e_cj, e_cd, e_cr, e_c0, e_gf, e_gf2, e_gf3, e_pf, e_pf2, e_f0, e_f1, e_f2, e_f20, e_len, e_len2, e_al, e_al2, e_al3, e_alJ, e_alJ2, e_alJ3, e_alA, e_alA2, e_alA3, e_as, e_as2, e_as3, e_asB, e_asB2, e_asJ, e_asJ2, e_asJ3, e_asA, e_asA2, e_asA3, e_new, e_na, e_na2, e_cat0, e_cat1, e_tk0, e_tk1, e_tk2, e_tk3, e_tk4, e_tk5, e_tk6, e_tk7, e_tk8, e_cS, e_cS2, e_cI_0, e_cI_1, e_cI_2, e_cI_3, e_cI_4, e_cI_5, e_cI2, e_cV_0, e_cV_1, e_cV_2, e_cV_3, e_cV_4, e_cV_5, e_cV_6, e_cV_7, e_cV2, e_cV3, e_oi, e_cp, e_r0, e_r1, e_r2, e_r3, e_r4, e_r5, e_r6, e_r60, e_r7, e_W1, e_W2, e_A1, e_A2, e_Wg, e_Ag, e_rf0, e_rf1, e_len0, e_len1, e_vl0, e_vl1, z00, z10, z11, ↓reduceIte, List.getElem?_cons_zero, List.getElem?_cons_succ, List.set_cons_zero, List.set_cons_succ, and_true, true_and, and_self, or_true, true_or, or_false, false_or, Nat.reduceAdd, Nat.reduceSub, Nat.reduceLT, Nat.reduceLeDiff, Nat.reduceEqDiff, Nat.reduceBEq, beq_self_eq_true, Bool.or_false, Bool.false_or, Bool.or_true, Bool.true_or, not_true, not_false_eq_true, reduceCtorEq, s130_0, s130_1, s130_4, s130_5, s130_8, s130_11, s130_12, s130_15, s130_16, s130_18, s130_20, s130_23, s130_24, s130_25, s130_26, s130_29, s130_30, s130_33, s130_34, s130_37, s130_40, s130_41, sk_n, kp_n, GA, hab, hlt]
    exact stk hW
