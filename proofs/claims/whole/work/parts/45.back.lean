/-! back and whole. -/
def unt (T r : Nat) (en : Nat → Nat) : Nat := if r = 0 then T else en (r - 1)
theorem imax {a b : Nat} (ha : a < 2147483648) (hb : b < 2147483648) : (if nI a < nI b then nI b else nI a) = nI (max a b) := by
  by_cases h : a < b
  · rw [if_pos ((nI_lt' ha hb).mpr h), Nat.max_eq_right (by omega)]
  · rw [if_neg (fun z => h ((nI_lt' ha hb).mp z)), Nat.max_eq_left (by omega)]
theorem unt_le {N T r : Nat} {st bg bk ro en : Nat → Nat} (hT : T ≤ 2000) (hB : BK N T r st bg bk ro en) : T ≤ unt T r en ∧ unt T r en ≤ 2600 := by
  unfold unt
  by_cases h : r = 0
  · rw [if_pos h]; omega
  · rw [if_neg h]
    have := hB.2.1 (r - 1) (by omega)
    omega
theorem c_backUntil {d : Nat} {s : nm_S} {Q : nm_K} {N T r : Nat} {st bg mi nd bk : Nat → Nat} {pt sf : Nat → Bool} {ro en : Nat → Nat} (hN : N ≤ 10) (hT : T ≤ 2000) (hX : XR s N st bg mi nd bk pt sf) (hW : WF N T st bg mi nd bk sf) (hB : BK N T r st bg bk ro en) (hXB : XB s r ro en) : nm_call (d + 1) 55 [.ref 21, .int (nI T)] (rep s) Q ↔ Q [.int (nI (unt T r en))] (rep s) := by
  obtain ⟨hx1, hx2⟩ := hX
  have hst : ∀ k, k < N → st k < 2147483648 := fun k hk => by have := (hW k hk).2.2.2.1; omega
  rw [e_X5_backUntil]
  simp only [r_X5_backUntil_0, r_X5_backUntil_1, r_X5_backUntil_2, r_X5_backUntil_3]
  have key := nm_loop0 (fun i (a : Int32) => x_X5_backUntil d Q 4 [.ref 21, .int (nI T), .int a, .int (nI i)] [] (rep s) 0 0) (fun a => Q [.int a] (rep s)) (fun i a => if ga s 22 i = 3 then (if a < ga s 29 i then ga s 29 i else a) else a) N (by
    intro i a hi
    have g1 : nI i < nI N := (nI_lt' (by omega) (by omega)).mpr hi
    have g2 : vp_in (nI i) 10 := vp_in' (by omega) (by omega)
    have g3 : (nI i).toNatClampNeg = i := i_nIc (by omega)
    try dsimp only
    rw [r_X5_backUntil_4]
    simp only [r_X5_backUntil_5, r_X5_backUntil_6, r_X5_backUntil_9, r_X5_backUntil_12, r_X5_backUntil_13, r_X5_backUntil_16, r_X5_backUntil_17, r_X5_backUntil_18, r_X5_backUntil_19, r_X5_backUntil_22, r_X5_backUntil_23, r_X5_backUntil_24, r_X5_backUntil_27, r_X5_backUntil_28, r_X5_backUntil_29, r_X5_backUntil_32, r_X5_backUntil_33, r_X5_backUntil_36, ob_21, gt_21_0, gt_21_1, gt_21_2, gt_21_3, pt_21_3, gt_21_4, pt_21_4, gt_21_5, gt_21_6, gt_21_7, gt_21_8, gt_21_9, gt_21_10, ad_22, as_22, ad_29, as_29, List.cons_append, List.nil_append, List.append_nil, if_true, if_false, true_and, and_true, true_or, or_true, nm_b_some, hx1, g1, g2, g3, nI_s]
    by_cases h1 : ga s 22 i = 3
    · simp only [h1, if_true]
    · simp only [h1, if_false]) (by
    intro a
    have g1 : ¬ nI N < nI N := by rw [nI_lt' (by omega) (by omega)]; omega
    try dsimp only
    rw [r_X5_backUntil_4]
    simp only [r_X5_backUntil_5, r_X5_backUntil_6, r_X5_backUntil_9, r_X5_backUntil_12, r_X5_backUntil_13, r_X5_backUntil_16, r_X5_backUntil_17, r_X5_backUntil_18, r_X5_backUntil_19, r_X5_backUntil_22, r_X5_backUntil_23, r_X5_backUntil_24, r_X5_backUntil_27, r_X5_backUntil_28, r_X5_backUntil_29, r_X5_backUntil_32, r_X5_backUntil_33, r_X5_backUntil_36, r_X5_backUntil_39, r_X5_backUntil_40, ob_21, gt_21_0, gt_21_1, gt_21_2, gt_21_3, pt_21_3, gt_21_4, pt_21_4, gt_21_5, gt_21_6, gt_21_7, gt_21_8, gt_21_9, gt_21_10, ad_22, as_22, List.cons_append, List.nil_append, List.append_nil, if_true, if_false, true_and, and_true, true_or, or_true, nm_b_some, hx1, g1]) (nI T)
  have e := lpf_ind (step := fun i (a : Int32) => if ga s 22 i = 3 then (if a < ga s 29 i then ga s 29 i else a) else a) (fun i a => ∃ v, a = nI v ∧ T ≤ v ∧ (v = T ∨ ∃ j, j < r ∧ v = en j) ∧ ∀ j, j < r → ro j < i → en j ≤ v) (N := N) (by
    rintro i a hi ⟨v, rfl, h1, h2, h3⟩
    have hvb : v ≤ 2600 := by
      rcases h2 with z | ⟨j, j1, z⟩
      · omega
      · have := (hB.2.1 j j1).2.2.2; omega
    try dsimp only
    by_cases c : st i = 3
    · obtain ⟨k, k1, k2⟩ := hB.2.2.2.2.1 i hi c
      have e29 := hXB k k1
      rw [k2] at e29
      have e22 : ga s 22 i = 3 := by rw [(hx2 i hi).1, c]; rfl
      have hen := (hB.2.1 k k1).2.2.2
      rw [if_pos e22, e29, imax (by omega) (by omega)]
      refine ⟨_, rfl, by omega, ?_, fun j j1 j2 => ?_⟩
      · by_cases hle : v ≤ en k
        · rw [Nat.max_eq_right hle]; exact Or.inr ⟨k, k1, rfl⟩
        · rw [Nat.max_eq_left (by omega)]; exact h2
      · by_cases e : ro j = i
        · have := BK_inj hB j1 k1 (by rw [e, k2])
          subst this
          omega
        · have := h3 j j1 (by omega); omega
    · have e22 : ¬ ga s 22 i = 3 := by rw [(hx2 i hi).1, nI_3', nI_eq' (hst i hi) (by omega)]; exact c
      rw [if_neg e22]
      refine ⟨v, rfl, h1, h2, fun j j1 j2 => h3 j j1 ?_⟩
      rcases Nat.lt_or_ge (ro j) i with z | z
      · exact z
      · have hh : ro j = i := by omega
        have := (hB.2.1 j j1).2.1
        rw [hh] at this
        exact absurd this c) N 0 (nI T) (by omega) ⟨T, rfl, Nat.le_refl _, Or.inl rfl, fun j _ h => by omega⟩
  obtain ⟨v, e1, e2, e3, e4⟩ := e
  have hv : v = unt T r en := by
    unfold unt
    by_cases h : r = 0
    · rw [if_pos h]
      rcases e3 with z | ⟨j, j1, -⟩
      · exact z
      · omega
    · rw [if_neg h]
      have a1 := e4 (r - 1) (by omega) (hB.2.1 (r - 1) (by omega)).1
      have a2 := (hB.2.1 (r - 1) (by omega)).2.2.1
      rcases e3 with z | ⟨j, j1, z⟩
      · omega
      · have := BK_mono hB j (r - 1 - j) (by omega)
        rw [show j + (r - 1 - j) = r - 1 by omega] at this
        omega
  rw [e1, hv] at key
  exact key
theorem c_Mwhole_loop {d : Nat} {s : nm_S} {Q : nm_K} {N T r : Nat} {st bg bk : Nat → Nat} {ro en : Nat → Nat} (hN : N ≤ 10) (hbk : ∀ i, i < N → ga s 57 i = nI (bk i)) (hB : BK N T r st bg bk ro en) (hMB : MB s T r ro en) (hQ : Q [.int (nI (en (r - 1)))] (rep s)) : ∀ m k, 0 < k → k + m = r → x_X9_whole d Q 12 [.ref 40, .int (nI (en (k - 1))), .int (nI k)] [] (rep s) 0 0
  | 0, k, h0, hk => by
    have hr := hB.1
    have : k = r := by omega
    subst this
    have g1 : ¬ nI k < nI k := by rw [nI_lt' (by omega) (by omega)]; omega
    rw [r_X9_whole_12]
    simp only [r_X9_whole_13, r_X9_whole_14, r_X9_whole_17, r_X9_whole_20, r_X9_whole_21, r_X9_whole_22, r_X9_whole_25, r_X9_whole_26, r_X9_whole_29, r_X9_whole_30, r_X9_whole_31, r_X9_whole_32, r_X9_whole_33, r_X9_whole_34, r_X9_whole_37, r_X9_whole_40, r_X9_whole_41, ob_40, gt_40_0, pt_40_0, gt_40_1, pt_40_1, gt_40_2, pt_40_2, gt_40_3, pt_40_3, gt_40_4, pt_40_4, gt_40_5, pt_40_5, gt_40_6, pt_40_6, gt_40_7, pt_40_7, gt_40_8, pt_40_8, gt_40_9, pt_40_9, gt_40_10, pt_40_10, gt_40_11, gt_40_12, gt_40_13, gt_40_14, gt_40_15, gt_40_16, gt_40_17, gt_40_18, gt_40_19, gt_40_20, gt_40_21, gt_40_22, pt_40_22, gt_40_23, gt_40_24, gt_40_25, gt_40_26, gt_40_27, gt_40_28, gt_40_29, gt_40_30, gt_40_31, gt_40_32, gt_40_33, gt_40_34, pt_40_34, gt_40_35, pt_40_35, gt_40_36, gt_40_37, gt_40_38, gt_40_39, gt_40_40, gt_40_41, pt_40_41, gt_40_42, pt_40_42, gt_40_43, pt_40_43, gt_40_44, pt_40_44, gt_40_45, pt_40_45, gt_40_46, pt_40_46, gt_40_47, List.cons_append, List.nil_append, List.append_nil, if_true, if_false, true_and, and_true, true_or, or_true, nm_b_some, hMB.1, g1]
    exact hQ
  | m + 1, k, h0, hk => by
    have hr := hB.1
    have hkr : k < r := by omega
    have g1 : nI k < nI r := (nI_lt' (by omega) (by omega)).mpr hkr
    have g2 : vp_in (nI k) 10 := vp_in' (by omega) (by omega)
    have g3 : (nI k).toNatClampNeg = k := i_nIc (by omega)
    have hb := hB.2.1 k hkr
    have g4 : vp_in (nI (ro k)) 10 := vp_in' (by omega) (by omega)
    have g5 : (nI (ro k)).toNatClampNeg = ro k := i_nIc (by omega)
    have he := hB.2.2.1 (k - 1) (by omega)
    rw [show k - 1 + 1 = k by omega] at he
    rw [r_X9_whole_12]
    simp only [r_X9_whole_13, r_X9_whole_14, r_X9_whole_17, r_X9_whole_20, r_X9_whole_21, r_X9_whole_22, r_X9_whole_25, r_X9_whole_26, r_X9_whole_29, r_X9_whole_30, r_X9_whole_31, r_X9_whole_32, r_X9_whole_33, r_X9_whole_34, r_X9_whole_37, ob_40, gt_40_0, pt_40_0, gt_40_1, pt_40_1, gt_40_2, pt_40_2, gt_40_3, pt_40_3, gt_40_4, pt_40_4, gt_40_5, pt_40_5, gt_40_6, pt_40_6, gt_40_7, pt_40_7, gt_40_8, pt_40_8, gt_40_9, pt_40_9, gt_40_10, pt_40_10, gt_40_11, gt_40_12, gt_40_13, gt_40_14, gt_40_15, gt_40_16, gt_40_17, gt_40_18, gt_40_19, gt_40_20, gt_40_21, gt_40_22, pt_40_22, gt_40_23, gt_40_24, gt_40_25, gt_40_26, gt_40_27, gt_40_28, gt_40_29, gt_40_30, gt_40_31, gt_40_32, gt_40_33, gt_40_34, pt_40_34, gt_40_35, pt_40_35, gt_40_36, gt_40_37, gt_40_38, gt_40_39, gt_40_40, gt_40_41, pt_40_41, gt_40_42, pt_40_42, gt_40_43, pt_40_43, gt_40_44, pt_40_44, gt_40_45, pt_40_45, gt_40_46, pt_40_46, gt_40_47, ad_57, as_57, ad_62, as_62, List.cons_append, List.nil_append, List.append_nil, if_true, if_false, true_and, and_true, true_or, or_true, nm_b_some, hMB.1, g1, g2, g3, hMB.2.2 k hkr, g4, g5, hbk _ hb.1, nI_ad, nI_s, ← he]
    have ih := c_Mwhole_loop (d := d) hN hbk hB hMB hQ m (k + 1) (by omega) (by omega)
    rw [show k + 1 - 1 = k by omega] at ih
    exact ih
theorem c_Mwhole {d : Nat} {s : nm_S} {Q : nm_K} {N T r : Nat} {st bg mi nd bk : Nat → Nat} {pt sf : Nat → Bool} {ro en : Nat → Nat} (hN : N ≤ 10) (hT : T ≤ 2000) (h4 : gi s 4000 = nI T) (hM : MR s N st bg mi nd bk pt sf) (hB : BK N T r st bg bk ro en) (hMB : MB s T r ro en) : nm_call (d + 1) 131 [.ref 40] (rep s) Q ↔ Q [.int (nI (unt T r en))] (rep s) := by
  refine iff_of (fun Q hQ => ?_) Q
  have hr := hB.1
  rw [e_X9_whole]
  simp only [r_X9_whole_0, r_X9_whole_1, r_X9_whole_4, r_X9_whole_5, r_X9_whole_8, r_X9_whole_9, r_X9_whole_10, r_X9_whole_11, ob_40, gt_40_0, pt_40_0, gt_40_1, pt_40_1, gt_40_2, pt_40_2, gt_40_3, pt_40_3, gt_40_4, pt_40_4, gt_40_5, pt_40_5, gt_40_6, pt_40_6, gt_40_7, pt_40_7, gt_40_8, pt_40_8, gt_40_9, pt_40_9, gt_40_10, pt_40_10, gt_40_11, gt_40_12, gt_40_13, gt_40_14, gt_40_15, gt_40_16, gt_40_17, gt_40_18, gt_40_19, gt_40_20, gt_40_21, gt_40_22, pt_40_22, gt_40_23, gt_40_24, gt_40_25, gt_40_26, gt_40_27, gt_40_28, gt_40_29, gt_40_30, gt_40_31, gt_40_32, gt_40_33, gt_40_34, pt_40_34, gt_40_35, pt_40_35, gt_40_36, gt_40_37, gt_40_38, gt_40_39, gt_40_40, gt_40_41, pt_40_41, gt_40_42, pt_40_42, gt_40_43, pt_40_43, gt_40_44, pt_40_44, gt_40_45, pt_40_45, gt_40_46, pt_40_46, gt_40_47, List.cons_append, List.nil_append, List.append_nil, if_true, if_false, true_and, and_true, true_or, or_true, nm_b_some, h4, hMB.2.1, nI_ad]
  by_cases h : r = 0
  · have g1 : ¬ (1 : Int32) < nI r := by rw [nI_1', nI_lt' (by omega) (by omega)]; omega
    unfold unt at hQ
    rw [if_pos h] at hQ ⊢
    rw [r_X9_whole_12]
    simp only [r_X9_whole_13, r_X9_whole_14, r_X9_whole_17, r_X9_whole_20, r_X9_whole_21, r_X9_whole_22, r_X9_whole_25, r_X9_whole_26, r_X9_whole_29, r_X9_whole_30, r_X9_whole_31, r_X9_whole_32, r_X9_whole_33, r_X9_whole_34, r_X9_whole_37, r_X9_whole_40, r_X9_whole_41, ob_40, gt_40_0, pt_40_0, gt_40_1, pt_40_1, gt_40_2, pt_40_2, gt_40_3, pt_40_3, gt_40_4, pt_40_4, gt_40_5, pt_40_5, gt_40_6, pt_40_6, gt_40_7, pt_40_7, gt_40_8, pt_40_8, gt_40_9, pt_40_9, gt_40_10, pt_40_10, gt_40_11, gt_40_12, gt_40_13, gt_40_14, gt_40_15, gt_40_16, gt_40_17, gt_40_18, gt_40_19, gt_40_20, gt_40_21, gt_40_22, pt_40_22, gt_40_23, gt_40_24, gt_40_25, gt_40_26, gt_40_27, gt_40_28, gt_40_29, gt_40_30, gt_40_31, gt_40_32, gt_40_33, gt_40_34, pt_40_34, gt_40_35, pt_40_35, gt_40_36, gt_40_37, gt_40_38, gt_40_39, gt_40_40, gt_40_41, pt_40_41, gt_40_42, pt_40_42, gt_40_43, pt_40_43, gt_40_44, pt_40_44, gt_40_45, pt_40_45, gt_40_46, pt_40_46, gt_40_47, List.cons_append, List.nil_append, List.append_nil, if_true, if_false, true_and, and_true, true_or, or_true, nm_b_some, hMB.1, g1]
    exact hQ
  · unfold unt at hQ
    rw [if_neg h] at hQ
    have hb := hB.2.1 0 (by omega)
    rw [if_neg h, show T + (en 0 - T) = en (1 - 1) by rw [Nat.sub_self]; omega]
    exact c_Mwhole_loop hN (fun i hi => (hM.2.1 i hi).2.2.2.2.2.1) hB hMB hQ (r - 1) 1 (by omega) (by omega)
theorem st_whole {s : nm_S} (h : IvS s) : ∃ v s1 s2, Runs 86 [.ref 0] s v s1 ∧ Runs 131 [.ref 40] s1 v s2 ∧ Fr [] [] s s2 := by
  obtain ⟨N, T, r, st, bg, mi, nd, bk, pt, sf, ro, en, ⟨h1, h2⟩, ⟨h3, h4⟩, h5, hX, hM, hW, hB, hMB, hXB⟩ := h
  refine ⟨nI (unt T r en), s, s, ?_, ?_, Fr.rf⟩
  · intro Q hQ
    simp only [e_X8_whole, r_X8_whole_0, r_X8_whole_1, r_X8_whole_4, r_X8_whole_5, r_X8_whole_8, r_X8_whole_11, ob_0, gt_0_0, gt_0_1, gt_0_2, gt_0_3, gt_0_4, gt_0_5, gt_0_6, gt_0_7, gt_0_8, gt_0_9, pt_0_9, gt_0_10, pt_0_10, gt_0_11, pt_0_11, ob_21, gt_21_0, gt_21_1, gt_21_2, gt_21_3, pt_21_3, gt_21_4, pt_21_4, gt_21_5, gt_21_6, gt_21_7, gt_21_8, gt_21_9, gt_21_10, List.cons_append, List.nil_append, List.append_nil, if_true, if_false, true_and, and_true, true_or, or_true, nm_b_some, h3, c_backUntil h1 h2 hX hW hB hXB]
    exact hQ
  · intro Q hQ
    rw [c_Mwhole h1 h2 h4 hM hB hMB]
    exact hQ
theorem st_back {s : nm_S} (h : IvS s) : ∃ v s1 s2, Runs 85 [.ref 0] s v s1 ∧ Runs 130 [.ref 40] s1 v s2 ∧ Fr [] [] s s2 := by
  obtain ⟨N, T, r, st, bg, mi, nd, bk, pt, sf, ro, en, ⟨h1, h2⟩, ⟨h3, h4⟩, h5, ⟨hx1, hx2⟩, hM, hW, hB, hMB, hXB⟩ := h
  have hr := hB.1
  have hst : ∀ k, k < N → st k < 2147483648 := fun k hk => by have := (hW k hk).2.2.2.1; omega
  have g0 : vp_in (0 : Int32) 10 := vp_in' (a := 0) (by omega) (by omega)
  have g0' : (0 : Int32).toNatClampNeg = 0 := by decide
  have hs3 : ∀ i, i < N → (ga s 22 i = 3 ↔ st i = 3) := fun i hi => by rw [(hx2 i hi).1, nI_3', nI_eq' (hst i hi) (by omega)]
  have hbit : ∀ i, i < N → ((mask (fun i => decide (ga s 22 i = 3)) N).testBit i = true ↔ st i = 3) := by
    intro i hi
    rw [mask_bit]
    simp only [hi, decide_true, Bool.true_and, decide_eq_true_eq]
    exact hs3 i hi
  have z0 : (0 : Int32) < nI r ↔ ¬ r = 0 := by rw [show (0 : Int32) = nI 0 from rfl, nI_lt' (by omega) (by omega)]; omega
  have hsel : oenc (sel (fun i => (mask (fun i => decide (ga s 22 i = 3)) N).testBit i) (ga s 23) N) = if r = 0 then -1 else nI (ro 0) := by
    by_cases h : r = 0
    · rw [if_pos h]
      have hs := sel_is (fun i => (mask (fun i => decide (ga s 22 i = 3)) N).testBit i) (ga s 23) N
      cases he : sel (fun i => (mask (fun i => decide (ga s 22 i = 3)) N).testBit i) (ga s 23) N with
      | none => rfl
      | some m =>
        rw [he] at hs
        obtain ⟨k, hk, -⟩ := hB.2.2.2.2.1 m hs.1 ((hbit m hs.1).mp hs.2.1)
        omega
    · rw [if_neg h]
      obtain ⟨b1, b2', b3, b4⟩ := hB.2.1 0 (by omega)
      rw [sel_uniq (m := ro 0) b1 ((hbit _ b1).mpr b2') (fun i hi hp => ?_)]
      · rfl
      · obtain ⟨k, k1, k2⟩ := hB.2.2.2.2.1 i hi ((hbit i hi).mp hp)
        by_cases e : k = 0
        · subst e; exact Or.inl k2.symm
        · right
          have y := hB.2.2.2.1 0 k (by omega) k1
          rw [k2] at y
          unfold ltN at y
          unfold ltr
          have w1 := (hW _ b1).2.2.2.2.2.2.1 b2'
          have w2 := (hW i hi).2.2.2.2.2.2.1 ((hbit i hi).mp hp)
          have q2 := (hbit i hi).mp hp
          rw [(hx2 _ b1).2.1, (hx2 i hi).2.1]
          unfold eb
          rw [if_neg (by omega), if_neg (by omega), i_nI (by omega), i_nI (by omega)]
          omega
  refine ⟨if r = 0 then -1 else nI (ro 0), s, s, ?_, ?_, Fr.rf⟩
  · intro Q hQ
    simp only [e_X8_back, r_X8_back_0, r_X8_back_1, r_X8_back_4, r_X8_back_5, r_X8_back_8, r_X8_back_9, r_X8_back_12, r_X8_back_15, ob_0, gt_0_0, gt_0_1, gt_0_2, gt_0_3, gt_0_4, gt_0_5, gt_0_6, gt_0_7, gt_0_8, gt_0_9, pt_0_9, gt_0_10, pt_0_10, gt_0_11, pt_0_11, ob_21, gt_21_0, gt_21_1, gt_21_2, gt_21_3, pt_21_3, gt_21_4, pt_21_4, gt_21_5, gt_21_6, gt_21_7, gt_21_8, gt_21_9, gt_21_10, List.cons_append, List.nil_append, List.append_nil, if_true, if_false, true_and, and_true, true_or, or_true, nm_b_some, c_allThat hx1 h1, c_lastBegun hx1 h1, hsel]
    exact hQ
  · intro Q hQ
    simp only [e_X9_back, r_X9_back_0, r_X9_back_1, r_X9_back_4, r_X9_back_7, r_X9_back_8, r_X9_back_11, r_X9_back_12, r_X9_back_13, r_X9_back_16, r_X9_back_17, ob_40, gt_40_0, pt_40_0, gt_40_1, pt_40_1, gt_40_2, pt_40_2, gt_40_3, pt_40_3, gt_40_4, pt_40_4, gt_40_5, pt_40_5, gt_40_6, pt_40_6, gt_40_7, pt_40_7, gt_40_8, pt_40_8, gt_40_9, pt_40_9, gt_40_10, pt_40_10, gt_40_11, gt_40_12, gt_40_13, gt_40_14, gt_40_15, gt_40_16, gt_40_17, gt_40_18, gt_40_19, gt_40_20, gt_40_21, gt_40_22, pt_40_22, gt_40_23, gt_40_24, gt_40_25, gt_40_26, gt_40_27, gt_40_28, gt_40_29, gt_40_30, gt_40_31, gt_40_32, gt_40_33, gt_40_34, pt_40_34, gt_40_35, pt_40_35, gt_40_36, gt_40_37, gt_40_38, gt_40_39, gt_40_40, gt_40_41, pt_40_41, gt_40_42, pt_40_42, gt_40_43, pt_40_43, gt_40_44, pt_40_44, gt_40_45, pt_40_45, gt_40_46, pt_40_46, gt_40_47, ad_62, as_62, List.cons_append, List.nil_append, List.append_nil, if_true, if_false, true_and, and_true, true_or, or_true, nm_b_some, hMB.1, z0, g0, g0']
    by_cases h : r = 0
    · simp only [h, not_true_eq_false, if_true, if_false] at hQ ⊢
      exact hQ
    · simp only [h, not_false_eq_true, if_true, if_false, hMB.2.2 0 (by omega)] at hQ ⊢
      exact hQ
