/-! count. -/
theorem c_doneMany {d : Nat} {s : nm_S} {Q : nm_K} {N : Nat} (hN : gi s 4004 = nI N) (hn : N ≤ 10) : nm_call (d + 1) 136 [.ref 40] (rep s) Q ↔ Q [.int (nI (cnt (fun i => decide (ga s 59 i = 2)) N))] (rep s) := by
  rw [e_X9_doneMany]
  simp only [r_X9_doneMany_0, r_X9_doneMany_1, r_X9_doneMany_2, r_X9_doneMany_3]
  have key := nm_loop0 (fun i a => x_X9_doneMany d Q 4 [.ref 40, .int a, .int (nI i)] [] (rep s) 0 0) (fun a => Q [.int a] (rep s)) (fun i acc => if ga s 59 i = 2 then acc + 1 else acc + 0) N (by
    intro i a hi
    have h1 : nI i < nI N := (nI_lt' (by omega) (by omega)).mpr hi
    have h2 : vp_in (nI i) 10 := vp_in' (by omega) (by omega)
    have h3 : (nI i).toNatClampNeg = i := i_nIc (by omega)
    try dsimp only
    rw [r_X9_doneMany_4]
    simp only [r_X9_doneMany_0, r_X9_doneMany_1, r_X9_doneMany_2, r_X9_doneMany_3, r_X9_doneMany_5, r_X9_doneMany_6, r_X9_doneMany_9, r_X9_doneMany_12, r_X9_doneMany_13, r_X9_doneMany_14, r_X9_doneMany_17, r_X9_doneMany_18, r_X9_doneMany_19, r_X9_doneMany_20, r_X9_doneMany_23, r_X9_doneMany_24, r_X9_doneMany_27, r_X9_doneMany_28, r_X9_doneMany_29, r_X9_doneMany_30, r_X9_doneMany_33, r_X9_doneMany_36, r_X9_doneMany_37, ob_40, gt_40_0, pt_40_0, gt_40_1, pt_40_1, gt_40_2, pt_40_2, gt_40_3, pt_40_3, gt_40_4, pt_40_4, gt_40_5, pt_40_5, gt_40_6, pt_40_6, gt_40_7, pt_40_7, gt_40_8, pt_40_8, gt_40_9, pt_40_9, gt_40_10, pt_40_10, gt_40_11, gt_40_12, gt_40_13, gt_40_14, gt_40_15, gt_40_16, gt_40_17, gt_40_18, gt_40_19, gt_40_20, gt_40_21, gt_40_22, pt_40_22, gt_40_23, gt_40_24, gt_40_25, gt_40_26, gt_40_27, gt_40_28, gt_40_29, gt_40_30, gt_40_31, gt_40_32, gt_40_33, gt_40_34, pt_40_34, gt_40_35, pt_40_35, gt_40_36, gt_40_37, gt_40_38, gt_40_39, gt_40_40, gt_40_41, pt_40_41, gt_40_42, pt_40_42, gt_40_43, pt_40_43, gt_40_44, pt_40_44, gt_40_45, pt_40_45, gt_40_46, pt_40_46, gt_40_47, ad_59, as_59, List.cons_append, List.nil_append, List.append_nil, if_true, if_false, true_and, and_true, true_or, or_true, nm_b_some, hN, h1, h2, h3, nI_s]
    by_cases hv : ga s 59 i = 2
    · simp only [hv, if_true]
    · simp only [hv, if_false]) (by
    intro a
    have h1 : ¬ nI N < nI N := by rw [nI_lt' (by omega) (by omega)]; omega
    try dsimp only
    rw [r_X9_doneMany_4]
    simp only [r_X9_doneMany_0, r_X9_doneMany_1, r_X9_doneMany_2, r_X9_doneMany_3, r_X9_doneMany_5, r_X9_doneMany_6, r_X9_doneMany_9, r_X9_doneMany_12, r_X9_doneMany_13, r_X9_doneMany_14, r_X9_doneMany_17, r_X9_doneMany_18, r_X9_doneMany_19, r_X9_doneMany_20, r_X9_doneMany_23, r_X9_doneMany_24, r_X9_doneMany_27, r_X9_doneMany_28, r_X9_doneMany_29, r_X9_doneMany_30, r_X9_doneMany_33, r_X9_doneMany_36, r_X9_doneMany_37, ob_40, gt_40_0, pt_40_0, gt_40_1, pt_40_1, gt_40_2, pt_40_2, gt_40_3, pt_40_3, gt_40_4, pt_40_4, gt_40_5, pt_40_5, gt_40_6, pt_40_6, gt_40_7, pt_40_7, gt_40_8, pt_40_8, gt_40_9, pt_40_9, gt_40_10, pt_40_10, gt_40_11, gt_40_12, gt_40_13, gt_40_14, gt_40_15, gt_40_16, gt_40_17, gt_40_18, gt_40_19, gt_40_20, gt_40_21, gt_40_22, pt_40_22, gt_40_23, gt_40_24, gt_40_25, gt_40_26, gt_40_27, gt_40_28, gt_40_29, gt_40_30, gt_40_31, gt_40_32, gt_40_33, gt_40_34, pt_40_34, gt_40_35, pt_40_35, gt_40_36, gt_40_37, gt_40_38, gt_40_39, gt_40_40, gt_40_41, pt_40_41, gt_40_42, pt_40_42, gt_40_43, pt_40_43, gt_40_44, pt_40_44, gt_40_45, pt_40_45, gt_40_46, pt_40_46, gt_40_47, List.cons_append, List.nil_append, List.append_nil, if_true, if_false, true_and, and_true, true_or, or_true, nm_b_some, hN, h1]) 0
  have e : lpf (fun i (acc : Int32) => if ga s 59 i = 2 then acc + 1 else acc + 0) N 0 0 = nI (cnt (fun i => decide (ga s 59 i = 2)) N) := by
    exact lpf_ind (fun i a => a = nI (cnt (fun i => decide (ga s 59 i = 2)) i)) (by
      intro i a hi ha
      subst ha
      rw [cnt_s]
      by_cases hv : ga s 59 i = 2
      · simp [hv, nI_s]
      · simp [hv]) N 0 0 (by omega) rfl
  rw [e] at key
  exact key
theorem c_Mcount_loop {s : nm_S} {Q : nm_K} {N : Nat} {y : Int32} (hN : gi s 4004 = nI N) (hn : N ≤ 10) (hQ : ∀ z : Value, x_X9_count 59 Q 35 [.ref 40, .int y, .int (nI (cnt (fun i => decide (¬ ga s 61 i = 0)) N)), z] [] (rep s) 0 0) : nm_call 60 148 [.ref 40, .int y] (rep s) Q := by
  rw [show (60 : Nat) = 59 + 1 from rfl, e_X9_count]
  simp only [r_X9_count_0, r_X9_count_1, r_X9_count_2, r_X9_count_3]
  have e : lpf (fun i (acc : Int32) => if ga s 61 i = 0 then acc + 0 else acc + 1) N 0 0 = nI (cnt (fun i => decide (¬ ga s 61 i = 0)) N) := by
    exact lpf_ind (fun i a => a = nI (cnt (fun i => decide (¬ ga s 61 i = 0)) i)) (by
      intro i a hi ha
      subst ha
      rw [cnt_s]
      by_cases hv : ga s 61 i = 0
      · simp [hv]
      · simp [hv, nI_s]) N 0 0 (by omega) rfl
  refine nm_loopI (fun i (a : Int32) => x_X9_count 59 Q 4 [.ref 40, .int y, .int a, .int (nI i)] [] (rep s) 0 0) (fun a => ∀ z : Value, x_X9_count 59 Q 35 [.ref 40, .int y, .int a, z] [] (rep s) 0 0) (fun i (acc : Int32) => if ga s 61 i = 0 then acc + 0 else acc + 1) (fun _ _ => True) (N := N) ?_ ?_ N 0 0 (by omega) trivial (by rw [e]; exact hQ)
  · intro i a hi _
    refine ⟨trivial, fun hnx => ?_⟩
    have h1 : nI i < nI N := (nI_lt' (by omega) (by omega)).mpr hi
    have h2 : vp_in (nI i) 10 := vp_in' (by omega) (by omega)
    have h3 : (nI i).toNatClampNeg = i := i_nIc (by omega)
    rw [r_X9_count_4]
    simp only [r_X9_count_5, r_X9_count_6, r_X9_count_9, r_X9_count_12, r_X9_count_13, r_X9_count_14, r_X9_count_17, r_X9_count_18, r_X9_count_19, r_X9_count_22, r_X9_count_23, r_X9_count_26, r_X9_count_27, r_X9_count_28, r_X9_count_29, r_X9_count_32, ob_40, gt_40_0, pt_40_0, gt_40_1, pt_40_1, gt_40_2, pt_40_2, gt_40_3, pt_40_3, gt_40_4, pt_40_4, gt_40_5, pt_40_5, gt_40_6, pt_40_6, gt_40_7, pt_40_7, gt_40_8, pt_40_8, gt_40_9, pt_40_9, gt_40_10, pt_40_10, gt_40_11, gt_40_12, gt_40_13, gt_40_14, gt_40_15, gt_40_16, gt_40_17, gt_40_18, gt_40_19, gt_40_20, gt_40_21, gt_40_22, pt_40_22, gt_40_23, gt_40_24, gt_40_25, gt_40_26, gt_40_27, gt_40_28, gt_40_29, gt_40_30, gt_40_31, gt_40_32, gt_40_33, gt_40_34, pt_40_34, gt_40_35, pt_40_35, gt_40_36, gt_40_37, gt_40_38, gt_40_39, gt_40_40, gt_40_41, pt_40_41, gt_40_42, pt_40_42, gt_40_43, pt_40_43, gt_40_44, pt_40_44, gt_40_45, pt_40_45, gt_40_46, pt_40_46, gt_40_47, ad_61, as_61, List.cons_append, List.nil_append, List.append_nil, if_true, if_false, true_and, and_true, true_or, or_true, nm_b_some, hN, h1, h2, h3, nI_s]
    by_cases hv : ga s 61 i = 0
    · simp only [hv, if_true] at hnx ⊢
      exact hnx
    · simp only [hv, if_false] at hnx ⊢
      exact hnx
  · intro a _ hr
    have h1 : ¬ nI N < nI N := by rw [nI_lt' (by omega) (by omega)]; omega
    rw [r_X9_count_4]
    simp only [r_X9_count_5, r_X9_count_6, r_X9_count_9, ob_40, gt_40_0, pt_40_0, gt_40_1, pt_40_1, gt_40_2, pt_40_2, gt_40_3, pt_40_3, gt_40_4, pt_40_4, gt_40_5, pt_40_5, gt_40_6, pt_40_6, gt_40_7, pt_40_7, gt_40_8, pt_40_8, gt_40_9, pt_40_9, gt_40_10, pt_40_10, gt_40_11, gt_40_12, gt_40_13, gt_40_14, gt_40_15, gt_40_16, gt_40_17, gt_40_18, gt_40_19, gt_40_20, gt_40_21, gt_40_22, pt_40_22, gt_40_23, gt_40_24, gt_40_25, gt_40_26, gt_40_27, gt_40_28, gt_40_29, gt_40_30, gt_40_31, gt_40_32, gt_40_33, gt_40_34, pt_40_34, gt_40_35, pt_40_35, gt_40_36, gt_40_37, gt_40_38, gt_40_39, gt_40_40, gt_40_41, pt_40_41, gt_40_42, pt_40_42, gt_40_43, pt_40_43, gt_40_44, pt_40_44, gt_40_45, pt_40_45, gt_40_46, pt_40_46, gt_40_47, List.cons_append, List.nil_append, List.append_nil, if_true, if_false, true_and, and_true, true_or, or_true, nm_b_some, hN, h1]
    exact hr _
theorem st_count {s : nm_S} (y : Int32) (h : IvS s) (hb : IvB s) (hg : IvG s) (hc : IvC s) (hf : IvF s) (ht : IvT s) : ∃ v s1 s2, Runs 95 [.ref 0, .int y] s v s1 ∧ Runs 148 [.ref 40, .int y] s1 v s2 ∧ Fr [] [] s s2 := by
  obtain ⟨N, T, r, st, bg, mi, nd, bk, pt, sf, ro, en, ⟨h1, h2⟩, ⟨h3, h4⟩, h5, ⟨hx1, hx2⟩, ⟨hm1, hm2, -⟩, -⟩ := h
  obtain ⟨⟨-, -, b3, -, -⟩, -, b4, -⟩ := hb
  obtain ⟨TT, -, g1, g2, -⟩ := hg
  obtain ⟨CC, -, c1, c2, -⟩ := hc
  obtain ⟨nf, f0, -, f2, f3, -, f4⟩ := hf
  obtain ⟨nt, -, t1, t2, -⟩ := ht
  have hdone : cnt (fun i => decide (ga s 22 i = 2)) N = cnt (fun i => decide (ga s 59 i = 2)) N := cnt_cong (fun i hi => by rw [(hx2 i hi).1, (hm2 i hi).1])
  have hsafe : cnt (fun i => decide (¬ ga s 24 i = 0)) N = cnt (fun i => decide (¬ ga s 61 i = 0)) N := cnt_cong (fun i hi => by rw [(hx2 i hi).2.2.1, (hm2 i hi).2.2.1])
  have hopen : cnt (fun i => decide (ga s 32 i = 0)) nf = cnt (fun i => decide (ga s 64 i = 0)) nf := cnt_cong (fun i hi => by rw [(f3 i (by omega)).1])
  have cX : ∀ (v : Int32), (∀ Q : nm_K, Q [.int v] (rep s) → x_X8_count 59 Q 1 [.ref 0, .int y] [.int y] (rep s) 0 0) → Runs 95 [.ref 0, .int y] s v s := by
    intro v hv Q hQ
    simp only [e_X8_count, r_X8_count_0]
    exact hv Q hQ
  have cM : ∀ (v : Int32), (∀ (Q : nm_K) (z : Value), Q [.int v] (rep s) → x_X9_count 59 Q 36 [.ref 40, .int y, .int (nI (cnt (fun i => decide (¬ ga s 61 i = 0)) N)), z] [.int y] (rep s) 0 0) → Runs 148 [.ref 40, .int y] s v s := by
    intro v hv Q hQ
    refine c_Mcount_loop hm1 h1 (fun z => ?_)
    simp only [r_X9_count_35]
    exact hv Q z hQ
  refine Exists.elim (show ∃ v, Runs 95 [.ref 0, .int y] s v s ∧ Runs 148 [.ref 40, .int y] s v s from ?_) (fun v hv => ⟨v, s, s, hv.1, hv.2, Fr.rf⟩)
  rcases sw_cases y 10 with ⟨j, hj, rfl⟩ | hy
  · match j, hj with
    | 0, _ =>
      refine ⟨nI T, cX _ (fun Q hQ => ?_), cM _ (fun Q z hQ => ?_)⟩
      · rw [r_X8_count_1, swt_in (by omega)]
        simp only [List.getD_cons_zero, List.getD_cons_succ, r_X8_count_56, r_X8_count_57, r_X8_count_60, ob_0, gt_0_0, gt_0_1, gt_0_2, gt_0_3, gt_0_4, gt_0_5, gt_0_6, gt_0_7, gt_0_8, gt_0_9, pt_0_9, gt_0_10, pt_0_10, gt_0_11, pt_0_11, List.cons_append, List.nil_append, List.append_nil, if_true, if_false, true_and, and_true, true_or, or_true, nm_b_some, h3]
        exact hQ
      · rw [r_X9_count_36, swt_in (by omega)]
        simp only [List.getD_cons_zero, List.getD_cons_succ, r_X9_count_92, r_X9_count_93, r_X9_count_96, ob_40, gt_40_0, pt_40_0, gt_40_1, pt_40_1, gt_40_2, pt_40_2, gt_40_3, pt_40_3, gt_40_4, pt_40_4, gt_40_5, pt_40_5, gt_40_6, pt_40_6, gt_40_7, pt_40_7, gt_40_8, pt_40_8, gt_40_9, pt_40_9, gt_40_10, pt_40_10, gt_40_11, gt_40_12, gt_40_13, gt_40_14, gt_40_15, gt_40_16, gt_40_17, gt_40_18, gt_40_19, gt_40_20, gt_40_21, gt_40_22, pt_40_22, gt_40_23, gt_40_24, gt_40_25, gt_40_26, gt_40_27, gt_40_28, gt_40_29, gt_40_30, gt_40_31, gt_40_32, gt_40_33, gt_40_34, pt_40_34, gt_40_35, pt_40_35, gt_40_36, gt_40_37, gt_40_38, gt_40_39, gt_40_40, gt_40_41, pt_40_41, gt_40_42, pt_40_42, gt_40_43, pt_40_43, gt_40_44, pt_40_44, gt_40_45, pt_40_45, gt_40_46, pt_40_46, gt_40_47, List.cons_append, List.nil_append, List.append_nil, if_true, if_false, true_and, and_true, true_or, or_true, nm_b_some, h4]
        exact hQ
    | 1, _ =>
      refine ⟨nI TT, cX _ (fun Q hQ => ?_), cM _ (fun Q z hQ => ?_)⟩
      · rw [r_X8_count_1, swt_in (by omega)]
        simp only [List.getD_cons_zero, List.getD_cons_succ, r_X8_count_61, r_X8_count_62, r_X8_count_65, r_X8_count_68, ob_0, gt_0_0, gt_0_1, gt_0_2, gt_0_3, gt_0_4, gt_0_5, gt_0_6, gt_0_7, gt_0_8, gt_0_9, pt_0_9, gt_0_10, pt_0_10, gt_0_11, pt_0_11, ob_1, gt_1_0, gt_1_1, gt_1_2, gt_1_3, gt_1_4, pt_1_4, List.cons_append, List.nil_append, List.append_nil, if_true, if_false, true_and, and_true, true_or, or_true, nm_b_some, g1]
        exact hQ
      · rw [r_X9_count_36, swt_in (by omega)]
        simp only [List.getD_cons_zero, List.getD_cons_succ, r_X9_count_97, r_X9_count_98, r_X9_count_101, ob_40, gt_40_0, pt_40_0, gt_40_1, pt_40_1, gt_40_2, pt_40_2, gt_40_3, pt_40_3, gt_40_4, pt_40_4, gt_40_5, pt_40_5, gt_40_6, pt_40_6, gt_40_7, pt_40_7, gt_40_8, pt_40_8, gt_40_9, pt_40_9, gt_40_10, pt_40_10, gt_40_11, gt_40_12, gt_40_13, gt_40_14, gt_40_15, gt_40_16, gt_40_17, gt_40_18, gt_40_19, gt_40_20, gt_40_21, gt_40_22, pt_40_22, gt_40_23, gt_40_24, gt_40_25, gt_40_26, gt_40_27, gt_40_28, gt_40_29, gt_40_30, gt_40_31, gt_40_32, gt_40_33, gt_40_34, pt_40_34, gt_40_35, pt_40_35, gt_40_36, gt_40_37, gt_40_38, gt_40_39, gt_40_40, gt_40_41, pt_40_41, gt_40_42, pt_40_42, gt_40_43, pt_40_43, gt_40_44, pt_40_44, gt_40_45, pt_40_45, gt_40_46, pt_40_46, gt_40_47, List.cons_append, List.nil_append, List.append_nil, if_true, if_false, true_and, and_true, true_or, or_true, nm_b_some, g2]
        exact hQ
    | 2, _ =>
      refine ⟨nI CC, cX _ (fun Q hQ => ?_), cM _ (fun Q z hQ => ?_)⟩
      · rw [r_X8_count_1, swt_in (by omega)]
        simp only [List.getD_cons_zero, List.getD_cons_succ, r_X8_count_69, r_X8_count_70, r_X8_count_73, r_X8_count_76, ob_0, gt_0_0, gt_0_1, gt_0_2, gt_0_3, gt_0_4, gt_0_5, gt_0_6, gt_0_7, gt_0_8, gt_0_9, pt_0_9, gt_0_10, pt_0_10, gt_0_11, pt_0_11, ob_6, gt_6_0, gt_6_1, gt_6_2, gt_6_3, gt_6_4, pt_6_4, gt_6_5, pt_6_5, gt_6_6, pt_6_6, List.cons_append, List.nil_append, List.append_nil, if_true, if_false, true_and, and_true, true_or, or_true, nm_b_some, c1]
        exact hQ
      · rw [r_X9_count_36, swt_in (by omega)]
        simp only [List.getD_cons_zero, List.getD_cons_succ, r_X9_count_102, r_X9_count_103, r_X9_count_106, ob_40, gt_40_0, pt_40_0, gt_40_1, pt_40_1, gt_40_2, pt_40_2, gt_40_3, pt_40_3, gt_40_4, pt_40_4, gt_40_5, pt_40_5, gt_40_6, pt_40_6, gt_40_7, pt_40_7, gt_40_8, pt_40_8, gt_40_9, pt_40_9, gt_40_10, pt_40_10, gt_40_11, gt_40_12, gt_40_13, gt_40_14, gt_40_15, gt_40_16, gt_40_17, gt_40_18, gt_40_19, gt_40_20, gt_40_21, gt_40_22, pt_40_22, gt_40_23, gt_40_24, gt_40_25, gt_40_26, gt_40_27, gt_40_28, gt_40_29, gt_40_30, gt_40_31, gt_40_32, gt_40_33, gt_40_34, pt_40_34, gt_40_35, pt_40_35, gt_40_36, gt_40_37, gt_40_38, gt_40_39, gt_40_40, gt_40_41, pt_40_41, gt_40_42, pt_40_42, gt_40_43, pt_40_43, gt_40_44, pt_40_44, gt_40_45, pt_40_45, gt_40_46, pt_40_46, gt_40_47, List.cons_append, List.nil_append, List.append_nil, if_true, if_false, true_and, and_true, true_or, or_true, nm_b_some, c2]
        exact hQ
    | 3, _ =>
      refine ⟨gi s 11, cX _ (fun Q hQ => ?_), cM _ (fun Q z hQ => ?_)⟩
      · rw [r_X8_count_1, swt_in (by omega)]
        simp only [List.getD_cons_zero, List.getD_cons_succ, r_X8_count_77, r_X8_count_78, r_X8_count_81, r_X8_count_84, r_X8_count_85, r_X8_count_88, r_X8_count_89, ob_0, gt_0_0, gt_0_1, gt_0_2, gt_0_3, gt_0_4, gt_0_5, gt_0_6, gt_0_7, gt_0_8, gt_0_9, pt_0_9, gt_0_10, pt_0_10, gt_0_11, pt_0_11, List.cons_append, List.nil_append, List.append_nil, if_true, if_false, true_and, and_true, true_or, or_true, nm_b_some]
        rcases b4 with z | z
        · rw [z] at hQ ⊢; simpa using hQ
        · rw [z] at hQ ⊢; simpa using hQ
      · rw [r_X9_count_36, swt_in (by omega)]
        simp only [List.getD_cons_zero, List.getD_cons_succ, r_X9_count_107, r_X9_count_108, r_X9_count_111, r_X9_count_114, r_X9_count_115, r_X9_count_118, r_X9_count_119, ob_40, gt_40_0, pt_40_0, gt_40_1, pt_40_1, gt_40_2, pt_40_2, gt_40_3, pt_40_3, gt_40_4, pt_40_4, gt_40_5, pt_40_5, gt_40_6, pt_40_6, gt_40_7, pt_40_7, gt_40_8, pt_40_8, gt_40_9, pt_40_9, gt_40_10, pt_40_10, gt_40_11, gt_40_12, gt_40_13, gt_40_14, gt_40_15, gt_40_16, gt_40_17, gt_40_18, gt_40_19, gt_40_20, gt_40_21, gt_40_22, pt_40_22, gt_40_23, gt_40_24, gt_40_25, gt_40_26, gt_40_27, gt_40_28, gt_40_29, gt_40_30, gt_40_31, gt_40_32, gt_40_33, gt_40_34, pt_40_34, gt_40_35, pt_40_35, gt_40_36, gt_40_37, gt_40_38, gt_40_39, gt_40_40, gt_40_41, pt_40_41, gt_40_42, pt_40_42, gt_40_43, pt_40_43, gt_40_44, pt_40_44, gt_40_45, pt_40_45, gt_40_46, pt_40_46, gt_40_47, List.cons_append, List.nil_append, List.append_nil, if_true, if_false, true_and, and_true, true_or, or_true, nm_b_some, ← b3]
        rcases b4 with z | z
        · rw [z] at hQ ⊢; simpa using hQ
        · rw [z] at hQ ⊢; simpa using hQ
    | 4, _ =>
      refine ⟨nI N, cX _ (fun Q hQ => ?_), cM _ (fun Q z hQ => ?_)⟩
      · rw [r_X8_count_1, swt_in (by omega)]
        simp only [List.getD_cons_zero, List.getD_cons_succ, r_X8_count_90, r_X8_count_91, r_X8_count_94, r_X8_count_97, ob_0, gt_0_0, gt_0_1, gt_0_2, gt_0_3, gt_0_4, gt_0_5, gt_0_6, gt_0_7, gt_0_8, gt_0_9, pt_0_9, gt_0_10, pt_0_10, gt_0_11, pt_0_11, ob_21, gt_21_0, gt_21_1, gt_21_2, gt_21_3, pt_21_3, gt_21_4, pt_21_4, gt_21_5, gt_21_6, gt_21_7, gt_21_8, gt_21_9, gt_21_10, List.cons_append, List.nil_append, List.append_nil, if_true, if_false, true_and, and_true, true_or, or_true, nm_b_some, hx1]
        exact hQ
      · rw [r_X9_count_36, swt_in (by omega)]
        simp only [List.getD_cons_zero, List.getD_cons_succ, r_X9_count_120, r_X9_count_121, r_X9_count_124, ob_40, gt_40_0, pt_40_0, gt_40_1, pt_40_1, gt_40_2, pt_40_2, gt_40_3, pt_40_3, gt_40_4, pt_40_4, gt_40_5, pt_40_5, gt_40_6, pt_40_6, gt_40_7, pt_40_7, gt_40_8, pt_40_8, gt_40_9, pt_40_9, gt_40_10, pt_40_10, gt_40_11, gt_40_12, gt_40_13, gt_40_14, gt_40_15, gt_40_16, gt_40_17, gt_40_18, gt_40_19, gt_40_20, gt_40_21, gt_40_22, pt_40_22, gt_40_23, gt_40_24, gt_40_25, gt_40_26, gt_40_27, gt_40_28, gt_40_29, gt_40_30, gt_40_31, gt_40_32, gt_40_33, gt_40_34, pt_40_34, gt_40_35, pt_40_35, gt_40_36, gt_40_37, gt_40_38, gt_40_39, gt_40_40, gt_40_41, pt_40_41, gt_40_42, pt_40_42, gt_40_43, pt_40_43, gt_40_44, pt_40_44, gt_40_45, pt_40_45, gt_40_46, pt_40_46, gt_40_47, List.cons_append, List.nil_append, List.append_nil, if_true, if_false, true_and, and_true, true_or, or_true, nm_b_some, hm1]
        exact hQ
    | 5, _ =>
      refine ⟨nI (cnt (fun i => decide (ga s 22 i = 2)) N), cX _ (fun Q hQ => ?_), cM _ (fun Q z hQ => ?_)⟩
      · rw [r_X8_count_1, swt_in (by omega)]
        simp only [List.getD_cons_zero, List.getD_cons_succ, r_X8_count_98, r_X8_count_99, r_X8_count_102, r_X8_count_103, r_X8_count_106, r_X8_count_109, ob_0, gt_0_0, gt_0_1, gt_0_2, gt_0_3, gt_0_4, gt_0_5, gt_0_6, gt_0_7, gt_0_8, gt_0_9, pt_0_9, gt_0_10, pt_0_10, gt_0_11, pt_0_11, ob_21, gt_21_0, gt_21_1, gt_21_2, gt_21_3, pt_21_3, gt_21_4, pt_21_4, gt_21_5, gt_21_6, gt_21_7, gt_21_8, gt_21_9, gt_21_10, List.cons_append, List.nil_append, List.append_nil, if_true, if_false, true_and, and_true, true_or, or_true, nm_b_some, c_allThat hx1 h1, c_countMask h1]
        exact hQ
      · rw [r_X9_count_36, swt_in (by omega)]
        simp only [List.getD_cons_zero, List.getD_cons_succ, r_X9_count_125, r_X9_count_126, r_X9_count_129, ob_40, gt_40_0, pt_40_0, gt_40_1, pt_40_1, gt_40_2, pt_40_2, gt_40_3, pt_40_3, gt_40_4, pt_40_4, gt_40_5, pt_40_5, gt_40_6, pt_40_6, gt_40_7, pt_40_7, gt_40_8, pt_40_8, gt_40_9, pt_40_9, gt_40_10, pt_40_10, gt_40_11, gt_40_12, gt_40_13, gt_40_14, gt_40_15, gt_40_16, gt_40_17, gt_40_18, gt_40_19, gt_40_20, gt_40_21, gt_40_22, pt_40_22, gt_40_23, gt_40_24, gt_40_25, gt_40_26, gt_40_27, gt_40_28, gt_40_29, gt_40_30, gt_40_31, gt_40_32, gt_40_33, gt_40_34, pt_40_34, gt_40_35, pt_40_35, gt_40_36, gt_40_37, gt_40_38, gt_40_39, gt_40_40, gt_40_41, pt_40_41, gt_40_42, pt_40_42, gt_40_43, pt_40_43, gt_40_44, pt_40_44, gt_40_45, pt_40_45, gt_40_46, pt_40_46, gt_40_47, List.cons_append, List.nil_append, List.append_nil, if_true, if_false, true_and, and_true, true_or, or_true, nm_b_some, c_doneMany hm1 h1]
        rw [hdone] at hQ
        exact hQ
    | 6, _ =>
      refine ⟨nI (cnt (fun i => decide (¬ ga s 24 i = 0)) N), cX _ (fun Q hQ => ?_), cM _ (fun Q z hQ => ?_)⟩
      · rw [r_X8_count_1, swt_in (by omega)]
        simp only [List.getD_cons_zero, List.getD_cons_succ, r_X8_count_110, r_X8_count_111, r_X8_count_114, r_X8_count_117, ob_0, gt_0_0, gt_0_1, gt_0_2, gt_0_3, gt_0_4, gt_0_5, gt_0_6, gt_0_7, gt_0_8, gt_0_9, pt_0_9, gt_0_10, pt_0_10, gt_0_11, pt_0_11, ob_21, gt_21_0, gt_21_1, gt_21_2, gt_21_3, pt_21_3, gt_21_4, pt_21_4, gt_21_5, gt_21_6, gt_21_7, gt_21_8, gt_21_9, gt_21_10, List.cons_append, List.nil_append, List.append_nil, if_true, if_false, true_and, and_true, true_or, or_true, nm_b_some, c_safeOnes hx1 h1]
        exact hQ
      · rw [r_X9_count_36, swt_in (by omega)]
        simp only [List.getD_cons_zero, List.getD_cons_succ, r_X9_count_130, r_X9_count_131, ob_40, gt_40_0, pt_40_0, gt_40_1, pt_40_1, gt_40_2, pt_40_2, gt_40_3, pt_40_3, gt_40_4, pt_40_4, gt_40_5, pt_40_5, gt_40_6, pt_40_6, gt_40_7, pt_40_7, gt_40_8, pt_40_8, gt_40_9, pt_40_9, gt_40_10, pt_40_10, gt_40_11, gt_40_12, gt_40_13, gt_40_14, gt_40_15, gt_40_16, gt_40_17, gt_40_18, gt_40_19, gt_40_20, gt_40_21, gt_40_22, pt_40_22, gt_40_23, gt_40_24, gt_40_25, gt_40_26, gt_40_27, gt_40_28, gt_40_29, gt_40_30, gt_40_31, gt_40_32, gt_40_33, gt_40_34, pt_40_34, gt_40_35, pt_40_35, gt_40_36, gt_40_37, gt_40_38, gt_40_39, gt_40_40, gt_40_41, pt_40_41, gt_40_42, pt_40_42, gt_40_43, pt_40_43, gt_40_44, pt_40_44, gt_40_45, pt_40_45, gt_40_46, pt_40_46, gt_40_47, List.cons_append, List.nil_append, List.append_nil, if_true, if_false, true_and, and_true, true_or, or_true, nm_b_some]
        rw [hsafe] at hQ
        exact hQ
    | 7, _ =>
      refine ⟨nI (cnt (fun i => decide (ga s 32 i = 0)) nf), cX _ (fun Q hQ => ?_), cM _ (fun Q z hQ => ?_)⟩
      · rw [r_X8_count_1, swt_in (by omega)]
        simp only [List.getD_cons_zero, List.getD_cons_succ, r_X8_count_118, r_X8_count_119, r_X8_count_122, r_X8_count_125, ob_0, gt_0_0, gt_0_1, gt_0_2, gt_0_3, gt_0_4, gt_0_5, gt_0_6, gt_0_7, gt_0_8, gt_0_9, pt_0_9, gt_0_10, pt_0_10, gt_0_11, pt_0_11, ob_31, gt_31_0, gt_31_1, pt_31_1, gt_31_2, pt_31_2, List.cons_append, List.nil_append, List.append_nil, if_true, if_false, true_and, and_true, true_or, or_true, nm_b_some, f4]
        exact hQ
      · rw [r_X9_count_36, swt_in (by omega)]
        simp only [List.getD_cons_zero, List.getD_cons_succ, r_X9_count_132, r_X9_count_133, r_X9_count_136, ob_40, gt_40_0, pt_40_0, gt_40_1, pt_40_1, gt_40_2, pt_40_2, gt_40_3, pt_40_3, gt_40_4, pt_40_4, gt_40_5, pt_40_5, gt_40_6, pt_40_6, gt_40_7, pt_40_7, gt_40_8, pt_40_8, gt_40_9, pt_40_9, gt_40_10, pt_40_10, gt_40_11, gt_40_12, gt_40_13, gt_40_14, gt_40_15, gt_40_16, gt_40_17, gt_40_18, gt_40_19, gt_40_20, gt_40_21, gt_40_22, pt_40_22, gt_40_23, gt_40_24, gt_40_25, gt_40_26, gt_40_27, gt_40_28, gt_40_29, gt_40_30, gt_40_31, gt_40_32, gt_40_33, gt_40_34, pt_40_34, gt_40_35, pt_40_35, gt_40_36, gt_40_37, gt_40_38, gt_40_39, gt_40_40, gt_40_41, pt_40_41, gt_40_42, pt_40_42, gt_40_43, pt_40_43, gt_40_44, pt_40_44, gt_40_45, pt_40_45, gt_40_46, pt_40_46, gt_40_47, List.cons_append, List.nil_append, List.append_nil, if_true, if_false, true_and, and_true, true_or, or_true, nm_b_some, c_openMany f2 f0]
        rw [hopen] at hQ
        exact hQ
    | 8, _ =>
      refine ⟨nI nt, cX _ (fun Q hQ => ?_), cM _ (fun Q z hQ => ?_)⟩
      · rw [r_X8_count_1, swt_in (by omega)]
        simp only [List.getD_cons_zero, List.getD_cons_succ, r_X8_count_126, r_X8_count_127, r_X8_count_130, r_X8_count_133, ob_0, gt_0_0, gt_0_1, gt_0_2, gt_0_3, gt_0_4, gt_0_5, gt_0_6, gt_0_7, gt_0_8, gt_0_9, pt_0_9, gt_0_10, pt_0_10, gt_0_11, pt_0_11, ob_33, gt_33_0, gt_33_1, pt_33_1, List.cons_append, List.nil_append, List.append_nil, if_true, if_false, true_and, and_true, true_or, or_true, nm_b_some, t1]
        exact hQ
      · rw [r_X9_count_36, swt_in (by omega)]
        simp only [List.getD_cons_zero, List.getD_cons_succ, r_X9_count_137, r_X9_count_138, r_X9_count_141, ob_40, gt_40_0, pt_40_0, gt_40_1, pt_40_1, gt_40_2, pt_40_2, gt_40_3, pt_40_3, gt_40_4, pt_40_4, gt_40_5, pt_40_5, gt_40_6, pt_40_6, gt_40_7, pt_40_7, gt_40_8, pt_40_8, gt_40_9, pt_40_9, gt_40_10, pt_40_10, gt_40_11, gt_40_12, gt_40_13, gt_40_14, gt_40_15, gt_40_16, gt_40_17, gt_40_18, gt_40_19, gt_40_20, gt_40_21, gt_40_22, pt_40_22, gt_40_23, gt_40_24, gt_40_25, gt_40_26, gt_40_27, gt_40_28, gt_40_29, gt_40_30, gt_40_31, gt_40_32, gt_40_33, gt_40_34, pt_40_34, gt_40_35, pt_40_35, gt_40_36, gt_40_37, gt_40_38, gt_40_39, gt_40_40, gt_40_41, pt_40_41, gt_40_42, pt_40_42, gt_40_43, pt_40_43, gt_40_44, pt_40_44, gt_40_45, pt_40_45, gt_40_46, pt_40_46, gt_40_47, List.cons_append, List.nil_append, List.append_nil, if_true, if_false, true_and, and_true, true_or, or_true, nm_b_some, t2]
        exact hQ
    | 9, _ =>
      refine ⟨gi s 2104, cX _ (fun Q hQ => ?_), cM _ (fun Q z hQ => ?_)⟩
      · rw [r_X8_count_1, swt_in (by omega)]
        simp only [List.getD_cons_zero, List.getD_cons_succ, r_X8_count_134, r_X8_count_135, r_X8_count_138, r_X8_count_141, ob_0, gt_0_0, gt_0_1, gt_0_2, gt_0_3, gt_0_4, gt_0_5, gt_0_6, gt_0_7, gt_0_8, gt_0_9, pt_0_9, gt_0_10, pt_0_10, gt_0_11, pt_0_11, ob_21, gt_21_0, gt_21_1, gt_21_2, gt_21_3, pt_21_3, gt_21_4, pt_21_4, gt_21_5, gt_21_6, gt_21_7, gt_21_8, gt_21_9, gt_21_10, List.cons_append, List.nil_append, List.append_nil, if_true, if_false, true_and, and_true, true_or, or_true, nm_b_some]
        exact hQ
      · rw [r_X9_count_36, swt_in (by omega)]
        simp only [List.getD_cons_zero, List.getD_cons_succ, r_X9_count_142, r_X9_count_143, r_X9_count_146, ob_40, gt_40_0, pt_40_0, gt_40_1, pt_40_1, gt_40_2, pt_40_2, gt_40_3, pt_40_3, gt_40_4, pt_40_4, gt_40_5, pt_40_5, gt_40_6, pt_40_6, gt_40_7, pt_40_7, gt_40_8, pt_40_8, gt_40_9, pt_40_9, gt_40_10, pt_40_10, gt_40_11, gt_40_12, gt_40_13, gt_40_14, gt_40_15, gt_40_16, gt_40_17, gt_40_18, gt_40_19, gt_40_20, gt_40_21, gt_40_22, pt_40_22, gt_40_23, gt_40_24, gt_40_25, gt_40_26, gt_40_27, gt_40_28, gt_40_29, gt_40_30, gt_40_31, gt_40_32, gt_40_33, gt_40_34, pt_40_34, gt_40_35, pt_40_35, gt_40_36, gt_40_37, gt_40_38, gt_40_39, gt_40_40, gt_40_41, pt_40_41, gt_40_42, pt_40_42, gt_40_43, pt_40_43, gt_40_44, pt_40_44, gt_40_45, pt_40_45, gt_40_46, pt_40_46, gt_40_47, List.cons_append, List.nil_append, List.append_nil, if_true, if_false, true_and, and_true, true_or, or_true, nm_b_some, ← h5]
        exact hQ
  · refine ⟨-1, cX _ (fun Q hQ => ?_), cM _ (fun Q z hQ => ?_)⟩
    · rw [r_X8_count_1, swt_out (by simpa using hy)]
      simp only [r_X8_count_142, r_X8_count_143]
      exact hQ
    · rw [r_X9_count_36, swt_out (by simpa using hy)]
      simp only [r_X9_count_147, r_X9_count_148]
      exact hQ
