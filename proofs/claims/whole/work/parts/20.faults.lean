/-! FAULTS: found, closed, counted. -/
def IvF (s : nm_S) : Prop := ∃ n : Nat, n ≤ 100 ∧ gi s 3101 = nI n ∧ gi s 4005 = nI n ∧ (∀ i, i < 100 → ga s 32 i = ga s 64 i ∧ (ga s 32 i = 0 ∨ ga s 32 i = 1)) ∧ (∀ i, n ≤ i → i < 100 → ga s 32 i = 0) ∧ gi s 3102 = nI (cnt (fun i => decide (ga s 32 i = 0)) n)
theorem c_find {s : nm_S} {n : Nat} (h1 : gi s 3101 = nI n) (hn : n ≤ 100) : Runs 88 [.ref 0] s (if n < 100 then nI n else -1) (if n < 100 then si (si s 3101 (nI (n + 1))) 3102 (gi s 3102 + 1) else s) := by
  intro Q hQ
  simp only [e_X8_find, r_X8_find_0, r_X8_find_1, r_X8_find_4, r_X8_find_7, e_X1_add, r_X1_add_0, r_X1_add_1, r_X1_add_4, r_X1_add_6, r_X1_add_9, r_X1_add_10, r_X1_add_11, r_X1_add_12, r_X1_add_13, r_X1_add_16, r_X1_add_17, r_X1_add_18, r_X1_add_21, r_X1_add_22, r_X1_add_23, r_X1_add_26, r_X1_add_27, r_X1_add_28, r_X1_add_31, r_X1_add_32, r_X1_add_35, r_X1_add_36, r_X1_add_37, ob_0, gt_0_0, gt_0_1, gt_0_2, gt_0_3, gt_0_4, gt_0_5, gt_0_6, gt_0_7, gt_0_8, gt_0_9, pt_0_9, gt_0_10, pt_0_10, gt_0_11, pt_0_11, ob_31, gt_31_0, gt_31_1, pt_31_1, gt_31_2, pt_31_2, List.cons_append, List.nil_append, List.append_nil, if_true, if_false, true_and, and_true, true_or, or_true, nm_b_some, gi_si, ga_sa, gi_sa, gi_sb, gi_sp, ga_si, ga_sb, ga_sp, gb_si, gb_sa, gb_sb, gb_sp, gp_si, gp_sa, gp_sb, gp_sp, if_true, if_false, ↓reduceIte, Nat.reduceEqDiff, h1, nI_s]
  by_cases h : n < 100
  · have h2 : nI n < 100 := (nI_lt' (b := 100) (by omega) (by omega)).mpr h
    simp only [h, h2, if_true] at hQ ⊢
    simpa [nI_pred] using hQ
  · have h2 : ¬ nI n < 100 := fun z => h ((nI_lt' (b := 100) (by omega) (by omega)).mp z)
    simp only [h, h2, if_false] at hQ ⊢
    exact hQ
theorem c_Mfind {s : nm_S} {n : Nat} (h1 : gi s 4005 = nI n) (hn : n ≤ 100) : Runs 133 [.ref 40] s (if n < 100 then nI n else -1) (if n < 100 then si s 4005 (nI (n + 1)) else s) := by
  intro Q hQ
  simp only [e_X9_find, r_X9_find_0, r_X9_find_1, r_X9_find_4, r_X9_find_6, r_X9_find_9, r_X9_find_10, r_X9_find_11, r_X9_find_12, r_X9_find_13, r_X9_find_16, r_X9_find_17, r_X9_find_18, r_X9_find_21, r_X9_find_22, r_X9_find_25, r_X9_find_26, r_X9_find_27, ob_40, gt_40_0, pt_40_0, gt_40_1, pt_40_1, gt_40_2, pt_40_2, gt_40_3, pt_40_3, gt_40_4, pt_40_4, gt_40_5, pt_40_5, gt_40_6, pt_40_6, gt_40_7, pt_40_7, gt_40_8, pt_40_8, gt_40_9, pt_40_9, gt_40_10, pt_40_10, gt_40_11, gt_40_12, gt_40_13, gt_40_14, gt_40_15, gt_40_16, gt_40_17, gt_40_18, gt_40_19, gt_40_20, gt_40_21, gt_40_22, pt_40_22, gt_40_23, gt_40_24, gt_40_25, gt_40_26, gt_40_27, gt_40_28, gt_40_29, gt_40_30, gt_40_31, gt_40_32, gt_40_33, gt_40_34, pt_40_34, gt_40_35, pt_40_35, gt_40_36, gt_40_37, gt_40_38, gt_40_39, gt_40_40, gt_40_41, pt_40_41, gt_40_42, pt_40_42, gt_40_43, pt_40_43, gt_40_44, pt_40_44, gt_40_45, pt_40_45, gt_40_46, pt_40_46, gt_40_47, List.cons_append, List.nil_append, List.append_nil, if_true, if_false, true_and, and_true, true_or, or_true, nm_b_some, gi_si, ga_sa, gi_sa, gi_sb, gi_sp, ga_si, ga_sb, ga_sp, gb_si, gb_sa, gb_sb, gb_sp, gp_si, gp_sa, gp_sb, gp_sp, if_true, if_false, ↓reduceIte, Nat.reduceEqDiff, h1, nI_s]
  by_cases h : n < 100
  · have h2 : ¬ nI n = 100 := fun z => by have := (nI_eq' (b := 100) (by omega) (by omega)).mp z; omega
    simp only [h, h2, if_true, if_false] at hQ ⊢
    simpa [nI_pred] using hQ
  · have h2 : nI n = 100 := by rw [show n = 100 by omega]; rfl
    simp only [h, h2, if_true, if_false] at hQ ⊢
    exact hQ
theorem cnt_upd {p q : Nat → Bool} {i : Nat} (hq : ∀ j, j ≠ i → q j = p j) : ∀ {n : Nat}, i < n → cnt q n + (if p i = true then 1 else 0) = cnt p n + (if q i = true then 1 else 0)
  | 0, h => by omega
  | n + 1, h => by
    rw [cnt_s, cnt_s]
    by_cases hi : i = n
    · subst hi
      have : cnt q i = cnt p i := cnt_cong (fun j hj => hq j (by omega))
      omega
    · have ih := cnt_upd hq (n := n) (by omega)
      rw [hq n (by omega)]
      omega
theorem c_close {s : nm_S} {j : Nat} (hj : j < 100) {n : Nat} (h1 : gi s 3101 = nI n) (hjn : j < n) (hn : n ≤ 100) : Runs 89 [.ref 0, .int (nI j)] s (if ga s 32 j = 0 then 1 else 0) (if ga s 32 j = 0 then si (sa s 32 (upd (ga s 32) j 1)) 3102 (gi s 3102 - 1) else s) := by
  intro Q hQ
  have h11 : (1 : Int32) &&& 1 = 1 := by decide
  have h5 : vp_in (nI j) 100 := vp_in' hj (by omega)
  have h3 : (nI j).toNatClampNeg = j := i_nIc (by omega)
  have h := (idx_iff (j := j) (n := n) (by omega) (by omega)).mpr hjn
  simp only [e_X8_close, r_X8_close_0, r_X8_close_1, r_X8_close_4, r_X8_close_5, r_X8_close_8, e_X1_mend, r_X1_mend_0, r_X1_mend_1, r_X1_mend_2, r_X1_mend_3, r_X1_mend_6, r_X1_mend_7, r_X1_mend_8, r_X1_mend_11, r_X1_mend_14, r_X1_mend_15, r_X1_mend_18, r_X1_mend_19, r_X1_mend_20, r_X1_mend_23, r_X1_mend_24, r_X1_mend_25, r_X1_mend_26, r_X1_mend_29, r_X1_mend_30, r_X1_mend_31, r_X1_mend_32, r_X1_mend_33, r_X1_mend_34, r_X1_mend_37, r_X1_mend_38, r_X1_mend_39, r_X1_mend_42, r_X1_mend_43, ob_0, gt_0_0, gt_0_1, gt_0_2, gt_0_3, gt_0_4, gt_0_5, gt_0_6, gt_0_7, gt_0_8, gt_0_9, pt_0_9, gt_0_10, pt_0_10, gt_0_11, pt_0_11, ob_31, gt_31_0, gt_31_1, pt_31_1, gt_31_2, pt_31_2, ad_32, as_32, List.cons_append, List.nil_append, List.append_nil, if_true, if_false, true_and, and_true, true_or, or_true, nm_b_some, gi_si, ga_sa, gi_sa, gi_sb, gi_sp, ga_si, ga_sb, ga_sp, gb_si, gb_sa, gb_sb, gb_sp, gp_si, gp_sa, gp_sb, gp_sp, if_true, if_false, ↓reduceIte, Nat.reduceEqDiff, h1, c_within, b_0, h11, h, h5, h3, and_self]
  by_cases h6 : ga s 32 j = 0
  · simp only [h6, if_true] at hQ ⊢
    simpa using hQ
  · simp only [h6, if_false] at hQ ⊢
    simpa using hQ
theorem c_close_no {s : nm_S} {x : Int32} {n : Nat} (h1 : gi s 3101 = nI n) (hx : ¬ (0 ≤ x ∧ x ≤ nI n - 1)) : Runs 89 [.ref 0, .int x] s 0 s := by
  intro Q hQ
  simp only [e_X8_close, r_X8_close_0, r_X8_close_1, r_X8_close_4, r_X8_close_5, r_X8_close_8, e_X1_mend, r_X1_mend_0, r_X1_mend_1, r_X1_mend_2, r_X1_mend_3, r_X1_mend_6, r_X1_mend_7, r_X1_mend_8, r_X1_mend_11, r_X1_mend_14, r_X1_mend_15, r_X1_mend_18, r_X1_mend_19, r_X1_mend_20, r_X1_mend_23, r_X1_mend_24, r_X1_mend_25, r_X1_mend_26, r_X1_mend_29, r_X1_mend_30, r_X1_mend_31, r_X1_mend_32, r_X1_mend_33, r_X1_mend_34, r_X1_mend_37, r_X1_mend_38, r_X1_mend_39, r_X1_mend_42, r_X1_mend_43, ob_0, gt_0_0, gt_0_1, gt_0_2, gt_0_3, gt_0_4, gt_0_5, gt_0_6, gt_0_7, gt_0_8, gt_0_9, pt_0_9, gt_0_10, pt_0_10, gt_0_11, pt_0_11, ob_31, gt_31_0, gt_31_1, pt_31_1, gt_31_2, pt_31_2, ad_32, as_32, List.cons_append, List.nil_append, List.append_nil, if_true, if_false, true_and, and_true, true_or, or_true, nm_b_some, gi_si, ga_sa, gi_sa, gi_sb, gi_sp, ga_si, ga_sb, ga_sp, gb_si, gb_sa, gb_sb, gb_sp, gp_si, gp_sa, gp_sb, gp_sp, if_true, if_false, ↓reduceIte, Nat.reduceEqDiff, h1, c_within, b_0, hx, not_false_eq_true, if_true]
  exact hQ
theorem c_Mclose {s : nm_S} {j : Nat} (hj : j < 100) {n : Nat} (h1 : gi s 4005 = nI n) (hjn : j < n) (hn : n ≤ 100) : Runs 134 [.ref 40, .int (nI j)] s (if ga s 64 j = 0 then 1 else 0) (if ga s 64 j = 0 then sa s 64 (upd (ga s 64) j 1) else s) := by
  intro Q hQ
  have h11 : (1 : Int32) &&& 1 = 1 := by decide
  have h5 : vp_in (nI j) 100 := vp_in' hj (by omega)
  have h3 : (nI j).toNatClampNeg = j := i_nIc (by omega)
  have h := (idx_iff (j := j) (n := n) (by omega) (by omega)).mpr hjn
  simp only [e_X9_close, r_X9_close_0, r_X9_close_1, r_X9_close_2, r_X9_close_3, r_X9_close_6, r_X9_close_7, r_X9_close_8, r_X9_close_11, r_X9_close_14, r_X9_close_15, r_X9_close_18, r_X9_close_19, r_X9_close_20, r_X9_close_23, r_X9_close_24, r_X9_close_25, r_X9_close_26, r_X9_close_29, r_X9_close_30, r_X9_close_31, r_X9_close_32, r_X9_close_33, ob_40, gt_40_0, pt_40_0, gt_40_1, pt_40_1, gt_40_2, pt_40_2, gt_40_3, pt_40_3, gt_40_4, pt_40_4, gt_40_5, pt_40_5, gt_40_6, pt_40_6, gt_40_7, pt_40_7, gt_40_8, pt_40_8, gt_40_9, pt_40_9, gt_40_10, pt_40_10, gt_40_11, gt_40_12, gt_40_13, gt_40_14, gt_40_15, gt_40_16, gt_40_17, gt_40_18, gt_40_19, gt_40_20, gt_40_21, gt_40_22, pt_40_22, gt_40_23, gt_40_24, gt_40_25, gt_40_26, gt_40_27, gt_40_28, gt_40_29, gt_40_30, gt_40_31, gt_40_32, gt_40_33, gt_40_34, pt_40_34, gt_40_35, pt_40_35, gt_40_36, gt_40_37, gt_40_38, gt_40_39, gt_40_40, gt_40_41, pt_40_41, gt_40_42, pt_40_42, gt_40_43, pt_40_43, gt_40_44, pt_40_44, gt_40_45, pt_40_45, gt_40_46, pt_40_46, gt_40_47, ad_64, as_64, List.cons_append, List.nil_append, List.append_nil, if_true, if_false, true_and, and_true, true_or, or_true, nm_b_some, gi_si, ga_sa, gi_sa, gi_sb, gi_sp, ga_si, ga_sb, ga_sp, gb_si, gb_sa, gb_sb, gb_sp, gp_si, gp_sa, gp_sb, gp_sp, if_true, if_false, ↓reduceIte, Nat.reduceEqDiff, h1, c_in, b_0, h11, h, h5, h3, and_self]
  by_cases h6 : ga s 64 j = 0
  · simp only [h6, if_true] at hQ ⊢
    simpa using hQ
  · simp only [h6, if_false] at hQ ⊢
    simpa using hQ
theorem c_Mclose_no {s : nm_S} {x : Int32} {n : Nat} (h1 : gi s 4005 = nI n) (hx : ¬ (0 ≤ x ∧ x ≤ nI n - 1)) : Runs 134 [.ref 40, .int x] s 0 s := by
  intro Q hQ
  simp only [e_X9_close, r_X9_close_0, r_X9_close_1, r_X9_close_2, r_X9_close_3, r_X9_close_6, r_X9_close_7, r_X9_close_8, r_X9_close_11, r_X9_close_14, r_X9_close_15, r_X9_close_18, r_X9_close_19, r_X9_close_20, r_X9_close_23, r_X9_close_24, r_X9_close_25, r_X9_close_26, r_X9_close_29, r_X9_close_30, r_X9_close_31, r_X9_close_32, r_X9_close_33, ob_40, gt_40_0, pt_40_0, gt_40_1, pt_40_1, gt_40_2, pt_40_2, gt_40_3, pt_40_3, gt_40_4, pt_40_4, gt_40_5, pt_40_5, gt_40_6, pt_40_6, gt_40_7, pt_40_7, gt_40_8, pt_40_8, gt_40_9, pt_40_9, gt_40_10, pt_40_10, gt_40_11, gt_40_12, gt_40_13, gt_40_14, gt_40_15, gt_40_16, gt_40_17, gt_40_18, gt_40_19, gt_40_20, gt_40_21, gt_40_22, pt_40_22, gt_40_23, gt_40_24, gt_40_25, gt_40_26, gt_40_27, gt_40_28, gt_40_29, gt_40_30, gt_40_31, gt_40_32, gt_40_33, gt_40_34, pt_40_34, gt_40_35, pt_40_35, gt_40_36, gt_40_37, gt_40_38, gt_40_39, gt_40_40, gt_40_41, pt_40_41, gt_40_42, pt_40_42, gt_40_43, pt_40_43, gt_40_44, pt_40_44, gt_40_45, pt_40_45, gt_40_46, pt_40_46, gt_40_47, ad_64, as_64, List.cons_append, List.nil_append, List.append_nil, if_true, if_false, true_and, and_true, true_or, or_true, nm_b_some, gi_si, ga_sa, gi_sa, gi_sb, gi_sp, ga_si, ga_sb, ga_sp, gb_si, gb_sa, gb_sb, gb_sp, gp_si, gp_sa, gp_sb, gp_sp, if_true, if_false, ↓reduceIte, Nat.reduceEqDiff, h1, c_in, b_0, hx, not_false_eq_true, if_true]
  exact hQ
theorem c_openMany {d : Nat} {s : nm_S} {Q : nm_K} {N : Nat} (hN : gi s 4005 = nI N) (hn : N ≤ 100) : nm_call (d + 1) 135 [.ref 40] (rep s) Q ↔ Q [.int (nI (cnt (fun i => decide (ga s 64 i = 0)) N))] (rep s) := by
  rw [e_X9_openMany]
  simp only [r_X9_openMany_0, r_X9_openMany_1, r_X9_openMany_2, r_X9_openMany_3]
  have key := nm_loop0 (fun i a => x_X9_openMany d Q 4 [.ref 40, .int a, .int (nI i)] [] (rep s) 0 0) (fun a => Q [.int a] (rep s)) (fun i acc => if ga s 64 i = 0 then acc + 1 else acc + 0) N (by
    intro i a hi
    have h1 : nI i < gi s 4005 := by rw [hN]; exact (nI_lt' (by omega) (by omega)).mpr hi
    have h2 : vp_in (nI i) 100 := vp_in' (by omega) (by omega)
    have h3 : (nI i).toNatClampNeg = i := i_nIc (by omega)
    try dsimp only
    rw [r_X9_openMany_4]
    simp only [r_X9_openMany_0, r_X9_openMany_1, r_X9_openMany_2, r_X9_openMany_3, r_X9_openMany_5, r_X9_openMany_6, r_X9_openMany_9, r_X9_openMany_12, r_X9_openMany_13, r_X9_openMany_14, r_X9_openMany_17, r_X9_openMany_18, r_X9_openMany_19, r_X9_openMany_22, r_X9_openMany_23, r_X9_openMany_26, r_X9_openMany_27, r_X9_openMany_28, r_X9_openMany_29, r_X9_openMany_32, r_X9_openMany_35, r_X9_openMany_36, ob_40, gt_40_0, pt_40_0, gt_40_1, pt_40_1, gt_40_2, pt_40_2, gt_40_3, pt_40_3, gt_40_4, pt_40_4, gt_40_5, pt_40_5, gt_40_6, pt_40_6, gt_40_7, pt_40_7, gt_40_8, pt_40_8, gt_40_9, pt_40_9, gt_40_10, pt_40_10, gt_40_11, gt_40_12, gt_40_13, gt_40_14, gt_40_15, gt_40_16, gt_40_17, gt_40_18, gt_40_19, gt_40_20, gt_40_21, gt_40_22, pt_40_22, gt_40_23, gt_40_24, gt_40_25, gt_40_26, gt_40_27, gt_40_28, gt_40_29, gt_40_30, gt_40_31, gt_40_32, gt_40_33, gt_40_34, pt_40_34, gt_40_35, pt_40_35, gt_40_36, gt_40_37, gt_40_38, gt_40_39, gt_40_40, gt_40_41, pt_40_41, gt_40_42, pt_40_42, gt_40_43, pt_40_43, gt_40_44, pt_40_44, gt_40_45, pt_40_45, gt_40_46, pt_40_46, gt_40_47, ad_64, as_64, List.cons_append, List.nil_append, List.append_nil, if_true, if_false, true_and, and_true, true_or, or_true, nm_b_some, h1, h2, h3, nI_s]
    by_cases hv : ga s 64 i = 0
    · simp only [hv, if_true]
    · simp only [hv, if_false]) (by
    intro a
    have h1 : ¬ nI N < gi s 4005 := by rw [hN, nI_lt' (by omega) (by omega)]; omega
    try dsimp only
    rw [r_X9_openMany_4]
    simp only [r_X9_openMany_0, r_X9_openMany_1, r_X9_openMany_2, r_X9_openMany_3, r_X9_openMany_5, r_X9_openMany_6, r_X9_openMany_9, r_X9_openMany_12, r_X9_openMany_13, r_X9_openMany_14, r_X9_openMany_17, r_X9_openMany_18, r_X9_openMany_19, r_X9_openMany_22, r_X9_openMany_23, r_X9_openMany_26, r_X9_openMany_27, r_X9_openMany_28, r_X9_openMany_29, r_X9_openMany_32, r_X9_openMany_35, r_X9_openMany_36, ob_40, gt_40_0, pt_40_0, gt_40_1, pt_40_1, gt_40_2, pt_40_2, gt_40_3, pt_40_3, gt_40_4, pt_40_4, gt_40_5, pt_40_5, gt_40_6, pt_40_6, gt_40_7, pt_40_7, gt_40_8, pt_40_8, gt_40_9, pt_40_9, gt_40_10, pt_40_10, gt_40_11, gt_40_12, gt_40_13, gt_40_14, gt_40_15, gt_40_16, gt_40_17, gt_40_18, gt_40_19, gt_40_20, gt_40_21, gt_40_22, pt_40_22, gt_40_23, gt_40_24, gt_40_25, gt_40_26, gt_40_27, gt_40_28, gt_40_29, gt_40_30, gt_40_31, gt_40_32, gt_40_33, gt_40_34, pt_40_34, gt_40_35, pt_40_35, gt_40_36, gt_40_37, gt_40_38, gt_40_39, gt_40_40, gt_40_41, pt_40_41, gt_40_42, pt_40_42, gt_40_43, pt_40_43, gt_40_44, pt_40_44, gt_40_45, pt_40_45, gt_40_46, pt_40_46, gt_40_47, ad_64, as_64, List.cons_append, List.nil_append, List.append_nil, if_true, if_false, true_and, and_true, true_or, or_true, nm_b_some, h1]) 0
  have e : lpf (fun i (acc : Int32) => if ga s 64 i = 0 then acc + 1 else acc + 0) N 0 0 = nI (cnt (fun i => decide (ga s 64 i = 0)) N) := by
    exact lpf_ind (fun i a => a = nI (cnt (fun i => decide (ga s 64 i = 0)) i)) (by
      intro i a hi ha
      subst ha
      rw [cnt_s]
      by_cases hv : ga s 64 i = 0
      · simp [hv, nI_s]
      · simp [hv]) N 0 0 (by omega) rfl
  rw [e] at key
  exact key
theorem IvF_reads : Reads [3101, 3102, 4005] [32, 64] IvF := by
  intro s t hk hc h
  unfold IvF at h ⊢
  rw [hk 3101 (by decide), hk 3102 (by decide), hk 4005 (by decide), hc 32 (by decide), hc 64 (by decide)]
  exact h
theorem st_find {s : nm_S} (h : IvF s) : ∃ v s1 s2, Runs 88 [.ref 0] s v s1 ∧ Runs 133 [.ref 40] s1 v s2 ∧ Fr [3101, 3102, 4005] [32, 64] s s2 ∧ IvF s2 := by
  obtain ⟨n, hn, h1, h2, h3, h4, h5⟩ := h
  by_cases hlt : n < 100
  · have r1 := c_find h1 hn
    have r2 := c_Mfind (s := si (si s 3101 (nI (n + 1))) 3102 (gi s 3102 + 1)) (n := n) (by simp only [gi_si, ga_sa, gi_sa, gi_sb, gi_sp, ga_si, ga_sb, ga_sp, gb_si, gb_sa, gb_sb, gb_sp, gp_si, gp_sa, gp_sb, gp_sp, if_true, if_false, ↓reduceIte, Nat.reduceEqDiff]; simpa using h2) hn
    simp only [hlt, if_true] at r1 r2
    refine ⟨_, _, _, r1, r2, ((Fr.rf.si (by decide)).si (by decide)).si (by decide), n + 1, by omega, ?_, ?_, ?_, ?_, ?_⟩
    · simp [gi_si]
    · simp [gi_si]
    · intro i hi
      simpa [ga_si] using h3 i hi
    · intro i hi hi2
      simpa [ga_si] using h4 i (by omega) hi2
    · have e : cnt (fun i => decide (ga s 32 i = 0)) (n + 1) = cnt (fun i => decide (ga s 32 i = 0)) n + 1 := by
        rw [cnt_s, if_pos (decide_eq_true (h4 n (Nat.le_refl n) hlt))]
      show _ = nI (cnt (fun i => decide (ga s 32 i = 0)) (n + 1))
      rw [e, ← nI_s (cnt _ n), ← h5]
      simp [gi_si]
  · have r1 := c_find h1 hn
    have r2 := c_Mfind h2 hn
    simp only [hlt, if_false] at r1 r2
    exact ⟨_, _, _, r1, r2, Fr.rf, n, hn, h1, h2, h3, h4, h5⟩
theorem st_close {s : nm_S} (x : Int32) (h : IvF s) : ∃ v s1 s2, Runs 89 [.ref 0, .int x] s v s1 ∧ Runs 134 [.ref 40, .int x] s1 v s2 ∧ Fr [3101, 3102, 4005] [32, 64] s s2 ∧ IvF s2 := by
  obtain ⟨n, hn, h1, h2, h3, h4, h5⟩ := h
  by_cases hx : 0 ≤ x ∧ x ≤ nI n - 1
  · obtain ⟨j, hj, rfl⟩ := idx_of (by omega) hx
    by_cases hc : ga s 32 j = 0
    · have r1 := c_close (s := s) (j := j) (by omega) h1 hj hn
      have r2 := c_Mclose (s := si (sa s 32 (upd (ga s 32) j 1)) 3102 (gi s 3102 - 1)) (j := j) (n := n) (by omega) (by simp only [gi_si, ga_sa, gi_sa, gi_sb, gi_sp, ga_si, ga_sb, ga_sp, gb_si, gb_sa, gb_sb, gb_sp, gp_si, gp_sa, gp_sb, gp_sp, if_true, if_false, ↓reduceIte, Nat.reduceEqDiff]; simpa using h2) hj hn
      have hc2 : ga s 64 j = 0 := by rw [← (h3 j (by omega)).1]; exact hc
      simp only [gi_si, ga_sa, gi_sa, gi_sb, gi_sp, ga_si, ga_sb, ga_sp, gb_si, gb_sa, gb_sb, gb_sp, gp_si, gp_sa, gp_sb, gp_sp, if_true, if_false, ↓reduceIte, Nat.reduceEqDiff] at r2
      simp only [hc, hc2, if_true] at r1 r2
      have hcnt := cnt_upd (p := fun i => decide (ga s 32 i = 0)) (q := fun i => decide (upd (ga s 32) j 1 i = 0)) (i := j) (fun k hk => by simp [upd_ne hk]) hj
      simp [upd_at, hc] at hcnt
      refine ⟨_, _, _, r1, r2, ((Fr.rf.sa (by decide)).si (by decide)).sa (by decide), n, hn, ?_, ?_, ?_, ?_, ?_⟩
      · simpa [gi_si, gi_sa] using h1
      · simpa [gi_si, gi_sa] using h2
      · intro i hi
        simp only [gi_si, ga_sa, gi_sa, gi_sb, gi_sp, ga_si, ga_sb, ga_sp, gb_si, gb_sa, gb_sb, gb_sp, gp_si, gp_sa, gp_sb, gp_sp, if_true, if_false, ↓reduceIte, Nat.reduceEqDiff]
        by_cases hij : i = j
        · subst hij; simp [upd_at]
        · simpa [upd_ne hij] using h3 i hi
      · intro i hi hi2
        simp only [gi_si, ga_sa, gi_sa, gi_sb, gi_sp, ga_si, ga_sb, ga_sp, gb_si, gb_sa, gb_sb, gb_sp, gp_si, gp_sa, gp_sb, gp_sp, if_true, if_false, ↓reduceIte, Nat.reduceEqDiff]
        simpa [upd_ne (show i ≠ j by omega)] using h4 i hi hi2
      · simp only [gi_si, ga_sa, gi_sa, gi_sb, gi_sp, ga_si, ga_sb, ga_sp, gb_si, gb_sa, gb_sb, gb_sp, gp_si, gp_sa, gp_sb, gp_sp, if_true, if_false, ↓reduceIte, Nat.reduceEqDiff]
        simp only [h5]
        rw [← hcnt]
        exact nI_pred _
    · have r1 := c_close (s := s) (j := j) (by omega) h1 hj hn
      have r2 := c_Mclose (s := s) (j := j) (by omega) h2 hj hn
      have hc2 : ¬ ga s 64 j = 0 := by rw [← (h3 j (by omega)).1]; exact hc
      simp only [hc, hc2, if_false] at r1 r2
      exact ⟨_, _, _, r1, r2, Fr.rf, n, hn, h1, h2, h3, h4, h5⟩
  · exact ⟨_, _, _, c_close_no h1 hx, c_Mclose_no h2 hx, Fr.rf, n, hn, h1, h2, h3, h4, h5⟩
