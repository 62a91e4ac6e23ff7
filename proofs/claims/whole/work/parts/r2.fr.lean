/-! ===== what the start gives: the frame that stands fast ===== -/
theorem vT_cg {ty : FieldType} {t N : Nat} {f g : Nat → Value} {A : Nat → Prop} {U : State} {H : Heap} (h : va_T ty t N f A U H) (e : ∀ j, j < N → f j = g j) : va_T ty t N g A U H := by
  obtain ⟨cell, h1, h2, h3, h4, h5, h6, h7⟩ := h
  exact ⟨cell, h1, h2, h3, h4, h5, fun j hj => (h6 j hj).trans (congrArg some (e j hj)), h7⟩
theorem ln_T (i : Nat) : (mxtexts.getD i []).length < 2 ^ 31 := by
  by_cases hi : i < 47
  · have h := rng ckT_ok hi
    simp only [Bool.and_eq_true, decide_eq_true_eq] at h
    omega
  · rw [List.getD_eq_getElem?_getD, List.getElem?_eq_none (show mxtexts.length ≤ i from Nat.le_of_not_lt hi)]
    decide
theorem ln_W (i : Nat) : (mxwords.getD i []).length < 2 ^ 31 := by
  by_cases hi : i < 27
  · have h := rng ckW_ok hi
    simp only [Bool.and_eq_true, decide_eq_true_eq] at h
    omega
  · rw [List.getD_eq_getElem?_getD, List.getElem?_eq_none (show mxwords.length ≤ i from Nat.le_of_not_lt hi)]
    decide
def stP2 (s : State) (b : Nat) (tm : Term) (l : List Int32) (p : Nat × Nat) : Prop := (tm.eval #[Value.ref b] s none [] s = some (.ref p.1) ∧ va_O "java/lang/String" p.1 (fun q : Nat => s.heap.size ≤ q) s s.heap ∧ va_OF "java/lang/String" "value" "[B" (.ref p.2) p.1 (fun q : Nat => s.heap.size ≤ q) s s.heap ∧ va_OF "java/lang/String" "coder" "B" (.int 0) p.1 (fun q : Nat => s.heap.size ≤ q) s s.heap ∧ va_T .byte p.2 l.length (fun j => .int (l.getD j 0)) (fun q : Nat => s.heap.size ≤ q) s s.heap)
theorem kx_of {s : State} {b L : Nat} {xs : Nat → Int32} (hts : ∀ w ∈ lw_tbl, w.before #[Value.ref b] s = true) (hg : (Cond.and given_1 narrow_1).before #[Value.ref b] s = true) (hX : va_X b L xs s s.heap) (hbl : b < s.heap.size) (hL : L ≤ 3072) : ∃ G : mxG, gB G = s.heap.size ∧ gL G = L ∧ gX G = xs ∧ mxtr G (.ref 303) = .ref b ∧ mxKX G s s.heap := by
  have hA : ∀ a : Nat, a < s.heap.size → ¬ (fun q : Nat => s.heap.size ≤ q) a := fun a h => Nat.not_le.mpr h
  obtain ⟨kd, hkd⟩ := Classical.skolem.mp (kd_of hts hg hA)
  have htp0 : ∀ i, ∃ p : Nat × Nat, i < 47 → stP2 s b (tS i) (mxtexts.getD i []) p := fun i => by
    by_cases hi : i < 47
    · have h := rng ckT_ok hi
      simp only [Bool.and_eq_true, decide_eq_true_eq] at h
      obtain ⟨a, t, h2⟩ := sg_of hts hg hA h.1 (ln_T i)
      exact ⟨(a, t), fun _ => h2⟩
    · exact ⟨(0, 0), fun h => absurd h hi⟩
  obtain ⟨tp, htp⟩ := Classical.skolem.mp htp0
  have hwp0 : ∀ i, ∃ p : Nat × Nat, i < 27 → stP2 s b (wS i) (mxwords.getD i []) p := fun i => by
    by_cases hi : i < 27
    · have h := rng ckW_ok hi
      simp only [Bool.and_eq_true, decide_eq_true_eq] at h
      obtain ⟨a, t, h2⟩ := sg_of hts hg hA h.1 (ln_W i)
      exact ⟨(a, t), fun _ => h2⟩
    · exact ⟨(0, 0), fun h => absurd h hi⟩
  obtain ⟨wp, hwp⟩ := Classical.skolem.mp hwp0
  obtain ⟨sg, sv, hs1, hs2, hs3, hs4, hs5⟩ := sg_of hts hg hA ckG_ok (by decide)
  obtain ⟨za, hza, hzaT⟩ := va_Tof (tm := zA) (ty := .object "RoofPigeons$Kind") (N := 47) (f := fun j => .ref (kd j)) (A := (fun q : Nat => s.heap.size ≤ q)) (by decide) (nr_of hg (i := 16) (by decide +kernel)) (va_eqt (nr_of hg (i := 17) (by decide +kernel))) (fun j hj => va_eqv (nr_of hg (of_decide_eq_true (rng ckA_ok hj))) (hkd j hj).1) hA
  obtain ⟨zw, hzw, hzwT⟩ := va_Tof (tm := zW) (ty := .object "java/lang/String") (N := 27) (f := fun j => .ref (wp j).1) (A := (fun q : Nat => s.heap.size ≤ q)) (by decide) (nr_of hg (i := 228) (by decide +kernel)) (va_eqt (nr_of hg (i := 229) (by decide +kernel))) (fun j hj => va_eqv (nr_of hg (of_decide_eq_true (rng ckV_ok hj))) (hwp j hj).1) hA
  obtain ⟨zm, hzm, hzmT⟩ := va_Tof (tm := zM) (ty := .int) (N := 47) (f := fun j => .int (nI (mxsmap.getD j 0))) (A := (fun q : Nat => s.heap.size ≤ q)) (by decide) (nr_of hg (i := 76) (by decide +kernel)) (va_eqt (nr_of hg (i := 77) (by decide +kernel))) (fun j hj => va_eqt (nr_of hg (of_decide_eq_true (rng ckM_ok hj)))) hA
  obtain ⟨pc, hpc⟩ := Classical.skolem.mp (kn_of (b := b) hts hg)
  obtain ⟨c0, k0⟩ := ar_p (b := b) hts hg (ty := .int) (fun C h => by cases h) (mxWd_mem (i := 1080) (by decide +kernel))
  obtain ⟨c1, k1⟩ := ar_p (b := b) hts hg (ty := .long) (fun C h => by cases h) (mxWd_mem (i := 1081) (by decide +kernel))
  obtain ⟨c2, k2⟩ := ar_p (b := b) hts hg (ty := .byte) (fun C h => by cases h) (mxWd_mem (i := 1051) (by decide +kernel))
  obtain ⟨c3, k3⟩ := ar_p (b := b) hts hg (ty := .boolean) (fun C h => by cases h) (mxWd_mem (i := 2050) (by decide +kernel))
  obtain ⟨c4, k4⟩ := ar_o (b := b) hts hg (C := "RoofPigeons$Kind") (mxWd_mem (i := 1061) (by decide +kernel))
  obtain ⟨c5, k5⟩ := ar_o (b := b) hts hg (C := "RoofPigeons$Order") (mxWd_mem (i := 1089) (by decide +kernel))
  obtain ⟨F, hF1, hF2⟩ := Cond.isRef_spec (nr_of hg (i := 67) (w := .isRef (.static "jdk/internal/util/Preconditions" "SIOOBE_FORMATTER" "Ljava/util/function/BiFunction;")) (by decide +kernel))
  obtain ⟨G, hG⟩ : ∃ G : mxG, G = ((s.heap.size, adr kd (fun i => (tp i).1) (fun i => (wp i).1) (fun i => (tp i).2) (fun i => (wp i).2) sg sv zm za zw b, F, (fun k => match k with | 0 => c0 | 1 => c1 | 2 => c2 | 3 => c3 | 4 => c4 | _ => c5), ((fun k => (pc k).1), (fun k => (pc k).2)), L, xs) : mxG) := ⟨_, rfl⟩
  have hgA : mxgA G = adr kd (fun i => (tp i).1) (fun i => (wp i).1) (fun i => (tp i).2) (fun i => (wp i).2) sg sv zm za zw b := by rw [hG]
  have hfr : mxfree G = (fun q : Nat => s.heap.size ≤ q) := by rw [hG]; rfl
  have htr : ∀ a : Nat, a < 998 → mxtr G (.ref a) = .ref (mxgA G a) := fun a h => by
    show (if a = 998 then gF G else .ref (mxad G a)) = _
    rw [if_neg (show ¬ a = 998 by omega), mxad, if_pos (show a < 1000 by omega)]
  have had : ∀ a : Nat, a < 1000 → mxad G a = mxgA G a := fun a h => by rw [mxad, if_pos h]
  have hz : ∀ i : Nat, i < 47 → mxtr G (.ref i) = .ref (kd i) := fun i hi => by rw [htr i (by omega), hgA, ad_k hi]
  have hFG : gF G = F := by rw [hG]
  have hLG : gL G = L := by rw [hG]
  have hXG : gX G = xs := by rw [hG]
  refine ⟨G, by rw [hG], hLG, hXG, ?_, ⟨fun c q hq => ?_, fun k q hq => ?_⟩, fun w hw => ?_, fun w hw => ?_, fun w hw => ?_, ⟨va_AO.of (hts _ (mxWd_mem (i := 1061) (by decide +kernel))), va_AO.of (hts _ (mxWd_mem (i := 1089) (by decide +kernel)))⟩, fun q hq => ?_, ?_, ?_, fun a ha => ?_, fun i j hi hj hij => ?_, ⟨?_, ?_⟩, ⟨va_Nc.of (nr_of hg (i := 369) (by decide +kernel)), va_Nc.of (nr_of hg (i := 370) (by decide +kernel))⟩, ?_⟩
  · rw [htr 303 (by decide), hgA]
    rfl
  · rw [hG]
    exact hpc c q hq
  · rw [hG] at hq
    match k, hq with
    | 0, hq => cases hq; exact k0
    | 1, hq => cases hq; exact k1
    | 2, hq => cases hq; exact k2
    | 3, hq => cases hq; exact k3
    | 4, hq => cases hq; exact k4
    | 5, hq => cases hq; exact k5
    | k + 6, hq => cases hq
  · obtain ⟨h1, h2⟩ := List.mem_filter.mp hw
    cases w <;> first | (cases h2; done) | exact va_Nw.of rfl (hts _ h1)
  · obtain ⟨h1, h2⟩ := List.mem_filter.mp hw
    cases w <;> first | (cases h2; done) | exact va_Nw.of rfl (hts _ h1)
  · simp only [mxNC, List.mem_cons, List.not_mem_nil, or_false] at hw
    rcases hw with rfl | rfl | rfl | rfl | rfl | rfl
    · exact va_Nw.of rfl (hts _ (mxWd_mem (i := 4048) (by decide +kernel)))
    · exact va_Nw.of rfl (hts _ (mxWd_mem (i := 4127) (by decide +kernel)))
    · exact va_Nw.of rfl (hts _ (mxWd_mem (i := 4155) (by decide +kernel)))
    · exact va_Nw.of rfl (hts _ (mxWd_mem (i := 4050) (by decide +kernel)))
    · exact va_Nw.of rfl (hts _ (mxWd_mem (i := 4052) (by decide +kernel)))
    · exact va_Nw.of rfl (hts _ (mxWd_mem (i := 4054) (by decide +kernel)))
  · obtain ⟨j, hj⟩ := List.mem_iff_getElem?.mp hq
    have hl : j < 10 := (List.getElem?_eq_some_iff.mp hj).1
    have h1 := rng ckE_ok hl
    have h2 := rng ckR_ok hl
    unfold ckR at h2
    rw [hj] at h1 h2
    obtain ⟨a, c, cell, k, q1, -⟩ := Cond.exactly_spec (nr_of hg (of_decide_eq_true h1))
    exact ⟨a, vk_R.of (hts _ (mxWd_mem (of_decide_eq_true h2))) q1⟩
  · rw [hgA]
    exact vk_R.of (hts _ (mxWd_mem (i := 6129) (by decide +kernel))) hs1
  · rw [hfr]
    have hzA : mxtr G (.ref 301) = .ref za := by rw [htr 301 (by decide), hgA]; rfl
    have hzW : mxtr G (.ref 302) = .ref zw := by rw [htr 302 (by decide), hgA]; rfl
    have hzM : mxtr G (.ref 300) = .ref zm := by rw [htr 300 (by decide), hgA]; rfl
    have hzF : mxtr G (.ref 998) = F := hFG
    have hzI : mxtr G (.int 1) = .int 1 := rfl
    rw [← hzA] at hza
    rw [← hzW] at hzw
    rw [← hzM] at hzm
    rw [← hzF] at hF1
    exact List.forall_mem_cons.mpr ⟨by rw [show mxtr G (.ref 46) = .ref (kd 46) from hz 46 (by decide)]; exact va_Zof (hts _ (mxWd_mem (i := 1063) (by decide +kernel))) (hts _ (mxWd_mem (i := 1006) (by decide +kernel))) (hkd 46 (by decide)).1 hA, List.forall_mem_cons.mpr ⟨by rw [show mxtr G (.ref 45) = .ref (kd 45) from hz 45 (by decide)]; exact va_Zof (hts _ (mxWd_mem (i := 2146) (by decide +kernel))) (hts _ (mxWd_mem (i := 1006) (by decide +kernel))) (hkd 45 (by decide)).1 hA, List.forall_mem_cons.mpr ⟨by rw [show mxtr G (.ref 44) = .ref (kd 44) from hz 44 (by decide)]; exact va_Zof (hts _ (mxWd_mem (i := 2148) (by decide +kernel))) (hts _ (mxWd_mem (i := 1006) (by decide +kernel))) (hkd 44 (by decide)).1 hA, List.forall_mem_cons.mpr ⟨va_Zof (hts _ (mxWd_mem (i := 2150) (by decide +kernel))) (hts _ (mxWd_mem (i := 1006) (by decide +kernel))) hza hA, List.forall_mem_cons.mpr ⟨by rw [show mxtr G (.ref 43) = .ref (kd 43) from hz 43 (by decide)]; exact va_Zof (hts _ (mxWd_mem (i := 2204) (by decide +kernel))) (hts _ (mxWd_mem (i := 1006) (by decide +kernel))) (hkd 43 (by decide)).1 hA, List.forall_mem_cons.mpr ⟨va_Zof (hts _ (mxWd_mem (i := 2210) (by decide +kernel))) (hts _ (mxWd_mem (i := 1025) (by decide +kernel))) hzm hA, List.forall_mem_cons.mpr ⟨by rw [show mxtr G (.ref 0) = .ref (kd 0) from hz 0 (by decide)]; exact va_Zof (hts _ (mxWd_mem (i := 2235) (by decide +kernel))) (hts _ (mxWd_mem (i := 1006) (by decide +kernel))) (hkd 0 (by decide)).1 hA, List.forall_mem_cons.mpr ⟨by rw [show mxtr G (.ref 31) = .ref (kd 31) from hz 31 (by decide)]; exact va_Zof (hts _ (mxWd_mem (i := 3011) (by decide +kernel))) (hts _ (mxWd_mem (i := 1006) (by decide +kernel))) (hkd 31 (by decide)).1 hA, List.forall_mem_cons.mpr ⟨by rw [show mxtr G (.ref 1) = .ref (kd 1) from hz 1 (by decide)]; exact va_Zof (hts _ (mxWd_mem (i := 3018) (by decide +kernel))) (hts _ (mxWd_mem (i := 1006) (by decide +kernel))) (hkd 1 (by decide)).1 hA, List.forall_mem_cons.mpr ⟨by rw [show mxtr G (.ref 2) = .ref (kd 2) from hz 2 (by decide)]; exact va_Zof (hts _ (mxWd_mem (i := 3029) (by decide +kernel))) (hts _ (mxWd_mem (i := 1006) (by decide +kernel))) (hkd 2 (by decide)).1 hA, List.forall_mem_cons.mpr ⟨by rw [show mxtr G (.ref 3) = .ref (kd 3) from hz 3 (by decide)]; exact va_Zof (hts _ (mxWd_mem (i := 3035) (by decide +kernel))) (hts _ (mxWd_mem (i := 1006) (by decide +kernel))) (hkd 3 (by decide)).1 hA, List.forall_mem_cons.mpr ⟨by rw [show mxtr G (.ref 4) = .ref (kd 4) from hz 4 (by decide)]; exact va_Zof (hts _ (mxWd_mem (i := 3045) (by decide +kernel))) (hts _ (mxWd_mem (i := 1006) (by decide +kernel))) (hkd 4 (by decide)).1 hA, List.forall_mem_cons.mpr ⟨by rw [show mxtr G (.ref 5) = .ref (kd 5) from hz 5 (by decide)]; exact va_Zof (hts _ (mxWd_mem (i := 3047) (by decide +kernel))) (hts _ (mxWd_mem (i := 1006) (by decide +kernel))) (hkd 5 (by decide)).1 hA, List.forall_mem_cons.mpr ⟨by rw [show mxtr G (.ref 6) = .ref (kd 6) from hz 6 (by decide)]; exact va_Zof (hts _ (mxWd_mem (i := 3049) (by decide +kernel))) (hts _ (mxWd_mem (i := 1006) (by decide +kernel))) (hkd 6 (by decide)).1 hA, List.forall_mem_cons.mpr ⟨by rw [show mxtr G (.ref 7) = .ref (kd 7) from hz 7 (by decide)]; exact va_Zof (hts _ (mxWd_mem (i := 3051) (by decide +kernel))) (hts _ (mxWd_mem (i := 1006) (by decide +kernel))) (hkd 7 (by decide)).1 hA, List.forall_mem_cons.mpr ⟨by rw [show mxtr G (.ref 9) = .ref (kd 9) from hz 9 (by decide)]; exact va_Zof (hts _ (mxWd_mem (i := 3058) (by decide +kernel))) (hts _ (mxWd_mem (i := 1006) (by decide +kernel))) (hkd 9 (by decide)).1 hA, List.forall_mem_cons.mpr ⟨by rw [show mxtr G (.ref 8) = .ref (kd 8) from hz 8 (by decide)]; exact va_Zof (hts _ (mxWd_mem (i := 3064) (by decide +kernel))) (hts _ (mxWd_mem (i := 1006) (by decide +kernel))) (hkd 8 (by decide)).1 hA, List.forall_mem_cons.mpr ⟨by rw [show mxtr G (.ref 18) = .ref (kd 18) from hz 18 (by decide)]; exact va_Zof (hts _ (mxWd_mem (i := 3084) (by decide +kernel))) (hts _ (mxWd_mem (i := 1006) (by decide +kernel))) (hkd 18 (by decide)).1 hA, List.forall_mem_cons.mpr ⟨by rw [show mxtr G (.ref 42) = .ref (kd 42) from hz 42 (by decide)]; exact va_Zof (hts _ (mxWd_mem (i := 3090) (by decide +kernel))) (hts _ (mxWd_mem (i := 1006) (by decide +kernel))) (hkd 42 (by decide)).1 hA, List.forall_mem_cons.mpr ⟨by rw [show mxtr G (.ref 28) = .ref (kd 28) from hz 28 (by decide)]; exact va_Zof (hts _ (mxWd_mem (i := 3092) (by decide +kernel))) (hts _ (mxWd_mem (i := 1006) (by decide +kernel))) (hkd 28 (by decide)).1 hA, List.forall_mem_cons.mpr ⟨by rw [show mxtr G (.ref 27) = .ref (kd 27) from hz 27 (by decide)]; exact va_Zof (hts _ (mxWd_mem (i := 3098) (by decide +kernel))) (hts _ (mxWd_mem (i := 1006) (by decide +kernel))) (hkd 27 (by decide)).1 hA, List.forall_mem_cons.mpr ⟨by rw [show mxtr G (.ref 15) = .ref (kd 15) from hz 15 (by decide)]; exact va_Zof (hts _ (mxWd_mem (i := 3100) (by decide +kernel))) (hts _ (mxWd_mem (i := 1006) (by decide +kernel))) (hkd 15 (by decide)).1 hA, List.forall_mem_cons.mpr ⟨by rw [show mxtr G (.ref 32) = .ref (kd 32) from hz 32 (by decide)]; exact va_Zof (hts _ (mxWd_mem (i := 3102) (by decide +kernel))) (hts _ (mxWd_mem (i := 1006) (by decide +kernel))) (hkd 32 (by decide)).1 hA, List.forall_mem_cons.mpr ⟨by rw [show mxtr G (.ref 35) = .ref (kd 35) from hz 35 (by decide)]; exact va_Zof (hts _ (mxWd_mem (i := 3104) (by decide +kernel))) (hts _ (mxWd_mem (i := 1006) (by decide +kernel))) (hkd 35 (by decide)).1 hA, List.forall_mem_cons.mpr ⟨by rw [show mxtr G (.ref 36) = .ref (kd 36) from hz 36 (by decide)]; exact va_Zof (hts _ (mxWd_mem (i := 3106) (by decide +kernel))) (hts _ (mxWd_mem (i := 1006) (by decide +kernel))) (hkd 36 (by decide)).1 hA, List.forall_mem_cons.mpr ⟨by rw [show mxtr G (.ref 33) = .ref (kd 33) from hz 33 (by decide)]; exact va_Zof (hts _ (mxWd_mem (i := 3108) (by decide +kernel))) (hts _ (mxWd_mem (i := 1006) (by decide +kernel))) (hkd 33 (by decide)).1 hA, List.forall_mem_cons.mpr ⟨by rw [show mxtr G (.ref 34) = .ref (kd 34) from hz 34 (by decide)]; exact va_Zof (hts _ (mxWd_mem (i := 3110) (by decide +kernel))) (hts _ (mxWd_mem (i := 1006) (by decide +kernel))) (hkd 34 (by decide)).1 hA, List.forall_mem_cons.mpr ⟨by rw [show mxtr G (.ref 10) = .ref (kd 10) from hz 10 (by decide)]; exact va_Zof (hts _ (mxWd_mem (i := 3112) (by decide +kernel))) (hts _ (mxWd_mem (i := 1006) (by decide +kernel))) (hkd 10 (by decide)).1 hA, List.forall_mem_cons.mpr ⟨by rw [show mxtr G (.ref 30) = .ref (kd 30) from hz 30 (by decide)]; exact va_Zof (hts _ (mxWd_mem (i := 3126) (by decide +kernel))) (hts _ (mxWd_mem (i := 1006) (by decide +kernel))) (hkd 30 (by decide)).1 hA, List.forall_mem_cons.mpr ⟨by rw [show mxtr G (.ref 23) = .ref (kd 23) from hz 23 (by decide)]; exact va_Zof (hts _ (mxWd_mem (i := 3132) (by decide +kernel))) (hts _ (mxWd_mem (i := 1006) (by decide +kernel))) (hkd 23 (by decide)).1 hA, List.forall_mem_cons.mpr ⟨by rw [show mxtr G (.ref 24) = .ref (kd 24) from hz 24 (by decide)]; exact va_Zof (hts _ (mxWd_mem (i := 3134) (by decide +kernel))) (hts _ (mxWd_mem (i := 1006) (by decide +kernel))) (hkd 24 (by decide)).1 hA, List.forall_mem_cons.mpr ⟨va_Zof (hts _ (mxWd_mem (i := 2164) (by decide +kernel))) (hts _ (mxWd_mem (i := 1021) (by decide +kernel))) (va_eqt (nr_of hg (i := 66) (by decide +kernel))) hA, List.forall_mem_cons.mpr ⟨va_Zof (hts _ (mxWd_mem (i := 2180) (by decide +kernel))) (hts _ (mxWd_mem (i := 1023) (by decide +kernel))) hF1 hA, List.forall_mem_cons.mpr ⟨va_Zof (hts _ (mxWd_mem (i := 6126) (by decide +kernel))) (hts _ (mxWd_mem (i := 1013) (by decide +kernel))) hzw hA, fun _ h => absurd h (List.not_mem_nil)⟩⟩⟩⟩⟩⟩⟩⟩⟩⟩⟩⟩⟩⟩⟩⟩⟩⟩⟩⟩⟩⟩⟩⟩⟩⟩⟩⟩⟩⟩⟩⟩⟩⟩
  · rw [hLG, hXG]
    by_cases q1 : a < 47
    · rw [mxkon, if_pos q1]
      obtain ⟨u1, u2, u3, u4, u5, u6⟩ := hkd a q1
      have e1 : mxgA G a = kd a := by rw [hgA, ad_k q1]
      refine .inr ⟨by rw [hfr, e1]; exact u2, fun k v hk => ?_⟩
      rw [hfr, e1]
      match k, hk with
      | 0, hk =>
        cases hk
        rw [htr (50 + a) (by omega), hgA, ad_t q1]
        exact u6 _ (htp a q1).1
      | 1, hk =>
        cases hk
        exact u3
      | 2, hk =>
        cases hk
        exact u4
      | k + 3, hk => cases hk
    rw [mxkon, if_neg q1]
    by_cases q2 : 50 ≤ a ∧ a < 97
    · rw [if_pos q2]
      obtain ⟨i, hi, rfl⟩ : ∃ i, i < 47 ∧ a = 50 + i := ⟨a - 50, by omega, by omega⟩
      obtain ⟨u1, u2, u3, u4, u5⟩ := htp i hi
      have e1 : mxgA G (50 + i) = (tp i).1 := by rw [hgA, ad_t hi]
      refine .inr ⟨by rw [hfr, e1]; exact u2, fun k v hk => ?_⟩
      rw [hfr, e1]
      match k, hk with
      | 0, hk =>
        cases hk
        rw [show 150 + (50 + i) = 200 + i by omega, htr (200 + i) (by omega), hgA, ad_tv hi]
        exact u3
      | 1, hk =>
        cases hk
        exact u4
      | k + 2, hk => cases hk
    rw [if_neg q2]
    by_cases q3 : 100 ≤ a ∧ a < 127
    · rw [if_pos q3]
      obtain ⟨i, hi, rfl⟩ : ∃ i, i < 27 ∧ a = 100 + i := ⟨a - 100, by omega, by omega⟩
      obtain ⟨u1, u2, u3, u4, u5⟩ := hwp i hi
      have e1 : mxgA G (100 + i) = (wp i).1 := by rw [hgA, ad_w hi]
      refine .inr ⟨by rw [hfr, e1]; exact u2, fun k v hk => ?_⟩
      rw [hfr, e1]
      match k, hk with
      | 0, hk =>
        cases hk
        rw [show 150 + (100 + i) = 250 + i by omega, htr (250 + i) (by omega), hgA, ad_wv hi]
        exact u3
      | 1, hk =>
        cases hk
        exact u4
      | k + 2, hk => cases hk
    rw [if_neg q3]
    by_cases q4 : a = 130
    · rw [if_pos q4]
      subst q4
      have e1 : mxgA G 130 = sg := by rw [hgA]; rfl
      refine .inr ⟨by rw [hfr, e1]; exact hs2, fun k v hk => ?_⟩
      rw [hfr, e1]
      match k, hk with
      | 0, hk =>
        cases hk
        rw [htr 280 (by decide), hgA]
        exact hs3
      | 1, hk =>
        cases hk
        exact hs4
      | k + 2, hk => cases hk
    rw [if_neg q4]
    by_cases q5 : 200 ≤ a ∧ a < 247
    · rw [if_pos q5]
      obtain ⟨i, hi, rfl⟩ : ∃ i, i < 47 ∧ a = 200 + i := ⟨a - 200, by omega, by omega⟩
      obtain ⟨u1, u2, u3, u4, u5⟩ := htp i hi
      have e1 : mxgA G (200 + i) = (tp i).2 := by rw [hgA, ad_tv hi]
      rw [Nat.add_sub_cancel_left]
      show va_T .byte (mxgA G (200 + i)) _ _ (mxfree G) s s.heap
      rw [hfr, e1]
      exact u5
    rw [if_neg q5]
    by_cases q6 : 250 ≤ a ∧ a < 277
    · rw [if_pos q6]
      obtain ⟨i, hi, rfl⟩ : ∃ i, i < 27 ∧ a = 250 + i := ⟨a - 250, by omega, by omega⟩
      obtain ⟨u1, u2, u3, u4, u5⟩ := hwp i hi
      have e1 : mxgA G (250 + i) = (wp i).2 := by rw [hgA, ad_wv hi]
      rw [Nat.add_sub_cancel_left]
      show va_T .byte (mxgA G (250 + i)) _ _ (mxfree G) s s.heap
      rw [hfr, e1]
      exact u5
    rw [if_neg q6]
    by_cases q7 : a = 280
    · rw [if_pos q7]
      subst q7
      show va_T .byte (mxgA G 280) _ _ (mxfree G) s s.heap
      rw [hfr, show mxgA G 280 = sv by rw [hgA]; rfl]
      exact hs5
    rw [if_neg q7]
    by_cases q8 : a = 300
    · rw [if_pos q8]
      subst q8
      show va_T .int (mxgA G 300) _ _ (mxfree G) s s.heap
      rw [hfr, show mxgA G 300 = zm by rw [hgA]; rfl]
      exact hzmT
    rw [if_neg q8]
    by_cases q9 : a = 301
    · rw [if_pos q9]
      subst q9
      show va_T (.object "RoofPigeons$Kind") (mxgA G 301) _ _ (mxfree G) s s.heap
      rw [hfr, show mxgA G 301 = za by rw [hgA]; rfl]
      refine vT_cg hzaT (fun j hj => ?_)
      show _ = Value.ref (mxad G j)
      rw [had j (by omega), hgA, ad_k hj]
    rw [if_neg q9]
    by_cases q10 : a = 302
    · rw [if_pos q10]
      subst q10
      show va_T (.object "java/lang/String") (mxgA G 302) _ _ (mxfree G) s s.heap
      rw [hfr, show mxgA G 302 = zw by rw [hgA]; rfl]
      refine vT_cg hzwT (fun j hj => ?_)
      show _ = Value.ref (mxad G (100 + j))
      rw [had (100 + j) (by omega), hgA, ad_w hj]
    rw [if_neg q10]
    by_cases q11 : a = 303
    · rw [if_pos q11]
      subst q11
      show va_T .int (mxgA G 303) L _ (mxfree G) s s.heap
      rw [hfr, show mxgA G 303 = b by rw [hgA]; rfl]
      obtain ⟨scr, x1, x2, x3, x4, x5⟩ := hX
      exact ⟨scr, x1, x2, x3, Nat.le_of_eq x4.symm, by rw [x4], x5, hA b hbl⟩
    · rw [if_neg q11]
      exact .inl rfl
  · have h1 := (hkd i hi).2.2.2.2.1
    have h2 := (hkd j hj).2.2.2.2.1
    rw [hgA, ad_k hi, ad_k hj] at hij
    rw [hij] at h1
    have h3 : nI i = nI j := Value.int.inj (Option.some.inj (h1.symm.trans h2))
    rcases Nat.lt_trichotomy i j with q | q | q
    · have h4 := nI_lt q (show j < 2 ^ 31 by omega)
      rw [h3] at h4
      exact absurd (Int32.lt_iff_toInt_lt.mp h4) (Int.lt_irrefl _)
    · exact q
    · have h4 := nI_lt q (show i < 2 ^ 31 by omega)
      rw [h3] at h4
      exact absurd (Int32.lt_iff_toInt_lt.mp h4) (Int.lt_irrefl _)
  · rw [hfr]
    exact vx_Zqof (hts _ (mxWd_mem (i := 4073) (by decide +kernel))) (hts _ (mxWd_mem (i := 1016) (by decide +kernel))) (nr_of hg (i := 225) (by decide +kernel)) hA
  · rw [hfr]
    exact vx_Zqof (hts _ (mxWd_mem (i := 4075) (by decide +kernel))) (hts _ (mxWd_mem (i := 1016) (by decide +kernel))) (nr_of hg (i := 226) (by decide +kernel)) hA
  · rw [hFG]
    cases F with
    | null => exact .inl rfl
    | ref a => exact .inr ⟨a, rfl⟩
    | _ => cases hF2
