/-! STAGES, the class's side: reads. -/
theorem c_allThat {d : Nat} {s : nm_S} {Q : nm_K} {v : Int32} {N : Nat} (hN : gi s 2103 = nI N) (hn : N ≤ 10) : nm_call (d + 1) 44 [.ref 21, .int v] (rep s) Q ↔ Q [.int (nI (mask (fun i => decide (ga s 22 i = v)) N))] (rep s) := by
  rw [e_X5_allThat]
  simp only [r_X5_allThat_0, r_X5_allThat_1, r_X5_allThat_2, r_X5_allThat_3]
  have key := nm_loop0 (fun i a => x_X5_allThat d Q 4 [.ref 21, .int v, .int a, .int (nI i)] [] (rep s) 0 0) (fun a => Q [.int a] (rep s)) (fun i acc => if ga s 22 i = v then acc ||| (1 : Int32) <<< (nI i &&& 31) else acc) N (by
    intro i a hi
    have h1 : nI i < gi s 2103 := by rw [hN]; exact (nI_lt' (by omega) (by omega)).mpr hi
    have h2 : vp_in (nI i) 10 := vp_in' (by omega) (by omega)
    have h3 : (nI i).toNatClampNeg = i := i_nIc (by omega)
    try dsimp only
    rw [r_X5_allThat_4]
    simp only [r_X5_allThat_0, r_X5_allThat_1, r_X5_allThat_2, r_X5_allThat_3, r_X5_allThat_5, r_X5_allThat_6, r_X5_allThat_9, r_X5_allThat_12, r_X5_allThat_13, r_X5_allThat_16, r_X5_allThat_17, r_X5_allThat_18, r_X5_allThat_19, r_X5_allThat_22, r_X5_allThat_23, r_X5_allThat_24, r_X5_allThat_25, r_X5_allThat_26, r_X5_allThat_27, r_X5_allThat_28, r_X5_allThat_31, r_X5_allThat_34, r_X5_allThat_35, ob_21, gt_21_0, gt_21_1, gt_21_2, gt_21_3, pt_21_3, gt_21_4, pt_21_4, gt_21_5, gt_21_6, gt_21_7, gt_21_8, gt_21_9, gt_21_10, ad_22, as_22, List.cons_append, List.nil_append, List.append_nil, if_true, if_false, true_and, and_true, true_or, or_true, nm_b_some, h1, h2, h3, nI_s]
    by_cases hv : ga s 22 i = v
    · simp only [hv, if_true]
    · simp only [hv, if_false]) (by
    intro a
    have h1 : ¬ nI N < gi s 2103 := by rw [hN, nI_lt' (by omega) (by omega)]; omega
    try dsimp only
    rw [r_X5_allThat_4]
    simp only [r_X5_allThat_0, r_X5_allThat_1, r_X5_allThat_2, r_X5_allThat_3, r_X5_allThat_5, r_X5_allThat_6, r_X5_allThat_9, r_X5_allThat_12, r_X5_allThat_13, r_X5_allThat_16, r_X5_allThat_17, r_X5_allThat_18, r_X5_allThat_19, r_X5_allThat_22, r_X5_allThat_23, r_X5_allThat_24, r_X5_allThat_25, r_X5_allThat_26, r_X5_allThat_27, r_X5_allThat_28, r_X5_allThat_31, r_X5_allThat_34, r_X5_allThat_35, ob_21, gt_21_0, gt_21_1, gt_21_2, gt_21_3, pt_21_3, gt_21_4, pt_21_4, gt_21_5, gt_21_6, gt_21_7, gt_21_8, gt_21_9, gt_21_10, ad_22, as_22, List.cons_append, List.nil_append, List.append_nil, if_true, if_false, true_and, and_true, true_or, or_true, nm_b_some, h1]) 0
  rw [mask_lpf (fun i => ga s 22 i = v) (by omega)] at key
  exact key
theorem c_safeOnes {d : Nat} {s : nm_S} {Q : nm_K} {N : Nat} (hN : gi s 2103 = nI N) (hn : N ≤ 10) : nm_call (d + 1) 45 [.ref 21] (rep s) Q ↔ Q [.int (nI (cnt (fun i => decide (¬ ga s 24 i = 0)) N))] (rep s) := by
  rw [e_X5_safeOnes]
  simp only [r_X5_safeOnes_0, r_X5_safeOnes_1, r_X5_safeOnes_2, r_X5_safeOnes_3]
  have key := nm_loop0 (fun i a => x_X5_safeOnes d Q 4 [.ref 21, .int a, .int (nI i)] [] (rep s) 0 0) (fun a => Q [.int a] (rep s)) (fun i acc => if ga s 24 i = 0 then acc else acc + 1) N (by
    intro i a hi
    have h1 : nI i < gi s 2103 := by rw [hN]; exact (nI_lt' (by omega) (by omega)).mpr hi
    have h2 : vp_in (nI i) 10 := vp_in' (by omega) (by omega)
    have h3 : (nI i).toNatClampNeg = i := i_nIc (by omega)
    try dsimp only
    rw [r_X5_safeOnes_4]
    simp only [r_X5_safeOnes_0, r_X5_safeOnes_1, r_X5_safeOnes_2, r_X5_safeOnes_3, r_X5_safeOnes_5, r_X5_safeOnes_6, r_X5_safeOnes_9, r_X5_safeOnes_12, r_X5_safeOnes_13, r_X5_safeOnes_16, r_X5_safeOnes_17, r_X5_safeOnes_18, r_X5_safeOnes_21, r_X5_safeOnes_24, r_X5_safeOnes_27, r_X5_safeOnes_30, r_X5_safeOnes_31, ob_21, gt_21_0, gt_21_1, gt_21_2, gt_21_3, pt_21_3, gt_21_4, pt_21_4, gt_21_5, gt_21_6, gt_21_7, gt_21_8, gt_21_9, gt_21_10, ad_24, as_24, List.cons_append, List.nil_append, List.append_nil, if_true, if_false, true_and, and_true, true_or, or_true, nm_b_some, h1, h2, h3, nI_s]
    by_cases hv : ga s 24 i = 0
    · simp only [hv, if_true]
    · simp only [hv, if_false]) (by
    intro a
    have h1 : ¬ nI N < gi s 2103 := by rw [hN, nI_lt' (by omega) (by omega)]; omega
    try dsimp only
    rw [r_X5_safeOnes_4]
    simp only [r_X5_safeOnes_0, r_X5_safeOnes_1, r_X5_safeOnes_2, r_X5_safeOnes_3, r_X5_safeOnes_5, r_X5_safeOnes_6, r_X5_safeOnes_9, r_X5_safeOnes_12, r_X5_safeOnes_13, r_X5_safeOnes_16, r_X5_safeOnes_17, r_X5_safeOnes_18, r_X5_safeOnes_21, r_X5_safeOnes_24, r_X5_safeOnes_27, r_X5_safeOnes_30, r_X5_safeOnes_31, ob_21, gt_21_0, gt_21_1, gt_21_2, gt_21_3, pt_21_3, gt_21_4, pt_21_4, gt_21_5, gt_21_6, gt_21_7, gt_21_8, gt_21_9, gt_21_10, ad_24, as_24, List.cons_append, List.nil_append, List.append_nil, if_true, if_false, true_and, and_true, true_or, or_true, nm_b_some, h1]) 0
  have e : lpf (fun i (acc : Int32) => if ga s 24 i = 0 then acc else acc + 1) N 0 0 = nI (cnt (fun i => decide (¬ ga s 24 i = 0)) N) := by
    exact lpf_ind (fun i a => a = nI (cnt (fun i => decide (¬ ga s 24 i = 0)) i)) (by
      intro i a hi ha
      subst ha
      rw [cnt_s]
      by_cases hv : ga s 24 i = 0
      · simp [hv]
      · simp [hv, nI_s]) N 0 0 (by omega) rfl
  rw [e] at key
  exact key
theorem c_doneMinute {d : Nat} {s : nm_S} {Q : nm_K} {i : Nat} (hi : i < 10) : nm_call (d + 1) 47 [.ref 21, .int (nI i)] (rep s) Q ↔ Q [.int (if ga s 22 i = 1 ∨ ga s 22 i = 2 then ga s 23 i + ga s 25 i else -1)] (rep s) := by
  have h2 : vp_in (nI i) 10 := vp_in' (by omega) (by omega)
  have h3 : (nI i).toNatClampNeg = i := i_nIc (by omega)
  simp only [e_X5_doneMinute, r_X5_doneMinute_0, r_X5_doneMinute_1, r_X5_doneMinute_4, r_X5_doneMinute_5, r_X5_doneMinute_6, r_X5_doneMinute_7, r_X5_doneMinute_10, r_X5_doneMinute_11, r_X5_doneMinute_14, r_X5_doneMinute_15, r_X5_doneMinute_16, r_X5_doneMinute_17, r_X5_doneMinute_20, r_X5_doneMinute_21, r_X5_doneMinute_24, r_X5_doneMinute_25, r_X5_doneMinute_26, r_X5_doneMinute_27, r_X5_doneMinute_30, r_X5_doneMinute_31, r_X5_doneMinute_32, r_X5_doneMinute_33, r_X5_doneMinute_36, r_X5_doneMinute_37, ob_21, gt_21_0, gt_21_1, gt_21_2, gt_21_3, pt_21_3, gt_21_4, pt_21_4, gt_21_5, gt_21_6, gt_21_7, gt_21_8, gt_21_9, gt_21_10, ad_22, as_22, ad_23, as_23, ad_25, as_25, List.cons_append, List.nil_append, List.append_nil, if_true, if_false, true_and, and_true, true_or, or_true, nm_b_some, h2, h3]
  by_cases h1 : ga s 22 i = 1
  · simp only [h1, true_or, if_true]
  · by_cases h4 : ga s 22 i = 2
    · simp only [h4, or_true, if_true]
      simp
    · simp only [h1, h4, or_self, if_false]
theorem c_clear {d : Nat} {s : nm_S} {Q : nm_K} {i : Nat} (hi : i < 10) : nm_call (d + 1) 43 [.ref 21, .int (nI i)] (rep s) Q ↔ Q [] (rep (sa (sa (sa (sa s 22 (upd (ga s 22) i 0)) 23 (upd (ga s 23) i (-1))) 29 (upd (ga s 29) i (-1))) 24 (upd (ga s 24) i 0))) := by
  have h2 : vp_in (nI i) 10 := vp_in' (by omega) (by omega)
  have h3 : (nI i).toNatClampNeg = i := i_nIc (by omega)
  have h4 : (0 : Int32) &&& 1 = 0 := by decide
  simp only [e_X5_clear, r_X5_clear_0, r_X5_clear_1, r_X5_clear_4, r_X5_clear_5, r_X5_clear_6, r_X5_clear_7, r_X5_clear_8, r_X5_clear_11, r_X5_clear_12, r_X5_clear_13, r_X5_clear_14, r_X5_clear_15, r_X5_clear_18, r_X5_clear_19, r_X5_clear_20, r_X5_clear_21, r_X5_clear_22, r_X5_clear_25, r_X5_clear_26, r_X5_clear_27, r_X5_clear_28, ob_21, gt_21_0, gt_21_1, gt_21_2, gt_21_3, pt_21_3, gt_21_4, pt_21_4, gt_21_5, gt_21_6, gt_21_7, gt_21_8, gt_21_9, gt_21_10, ad_22, as_22, ad_23, as_23, ad_24, as_24, ad_29, as_29, List.cons_append, List.nil_append, List.append_nil, if_true, if_false, true_and, and_true, true_or, or_true, nm_b_some, gi_si, ga_sa, gi_sa, gi_sb, gi_sp, ga_si, ga_sb, ga_sp, gb_si, gb_sa, gb_sb, gb_sp, gp_si, gp_sa, gp_sb, gp_sp, if_true, if_false, ↓reduceIte, Nat.reduceEqDiff, h2, h3, h4]
