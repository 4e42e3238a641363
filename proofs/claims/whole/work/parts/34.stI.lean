/-! STAGES: what holds between the two, and told, begin, stage. -/
def eb (st bg : Nat → Nat) (i : Nat) : Int32 := if st i = 0 then -1 else nI (bg i)
def b2 (b : Bool) : Int32 := if b = true then 1 else 0
theorem b2_0 (b : Bool) : b2 b = 0 ↔ b = false := by cases b <;> decide
theorem b2_01 (b : Bool) : b2 b = 0 ∨ b2 b = 1 := by cases b <;> decide
theorem b2_if (b : Bool) : (if b2 b = 0 then (0 : Int32) else 1) = b2 b := by cases b <;> decide
def XR (s : nm_S) (N : Nat) (st bg mi nd bk : Nat → Nat) (pt sf : Nat → Bool) : Prop := gi s 2103 = nI N ∧ ∀ i, i < N → ga s 22 i = nI (st i) ∧ ga s 23 i = eb st bg i ∧ ga s 24 i = b2 (sf i) ∧ ga s 25 i = nI (mi i) ∧ ga s 26 i = nI (nd i) ∧ ga s 27 i = nI (bk i) ∧ ga s 28 i = b2 (pt i)
def MR (s : nm_S) (N : Nat) (st bg mi nd bk : Nat → Nat) (pt sf : Nat → Bool) : Prop := gi s 4004 = nI N ∧ (∀ i, i < N → ga s 59 i = nI (st i) ∧ ga s 60 i = eb st bg i ∧ ga s 61 i = b2 (sf i) ∧ ga s 55 i = nI (mi i) ∧ ga s 56 i = nI (nd i) ∧ ga s 57 i = nI (bk i) ∧ ga s 58 i = b2 (pt i)) ∧ ∀ i, N ≤ i → i < 10 → ga s 59 i = 0 ∧ ga s 61 i = 0
def WF (N T : Nat) (st bg mi nd bk : Nat → Nat) (sf : Nat → Bool) : Prop := ∀ i, i < N → (1 ≤ mi i ∧ mi i ≤ 60) ∧ nd i < 2 ^ i ∧ bk i ≤ 60 ∧ st i ≤ 3 ∧ (st i = 1 → bg i ≤ T ∧ T < bg i + mi i) ∧ (st i = 2 → bg i + mi i ≤ T) ∧ (st i = 3 → bg i ≤ T) ∧ (sf i = true → st i = 2)
def ltN (bg : Nat → Nat) (m i : Nat) : Prop := bg i < bg m ∨ (bg i = bg m ∧ i < m)
/-- what goes back: row, ends -/
def BK (N T r : Nat) (st bg bk : Nat → Nat) (ro en : Nat → Nat) : Prop := r ≤ N ∧ (∀ k, k < r → ro k < N ∧ st (ro k) = 3 ∧ T < en k ∧ en k ≤ 2600) ∧ (∀ k, k + 1 < r → en (k + 1) = en k + bk (ro (k + 1))) ∧ (∀ j k, j < k → k < r → ltN bg (ro j) (ro k)) ∧ (∀ i, i < N → st i = 3 → ∃ k, k < r ∧ ro k = i) ∧ (0 < r → ∀ i, i < N → st i ≠ 1)
def MB (s : nm_S) (T r : Nat) (ro en : Nat → Nat) : Prop := gi s 4034 = nI r ∧ gi s 4035 = nI (if r = 0 then 0 else en 0 - T) ∧ ∀ k, k < r → ga s 62 k = nI (ro k)
def XB (s : nm_S) (r : Nat) (ro en : Nat → Nat) : Prop := ∀ k, k < r → ga s 29 (ro k) = nI (en k)
def IvS (s : nm_S) : Prop := ∃ (N T r : Nat) (st bg mi nd bk : Nat → Nat) (pt sf : Nat → Bool) (ro en : Nat → Nat), (N ≤ 10 ∧ T ≤ 2000) ∧ (gi s 9 = nI T ∧ gi s 4000 = nI T) ∧ gi s 2104 = gi s 4006 ∧ XR s N st bg mi nd bk pt sf ∧ MR s N st bg mi nd bk pt sf ∧ WF N T st bg mi nd bk sf ∧ BK N T r st bg bk ro en ∧ MB s T r ro en ∧ XB s r ro en
theorem IvS_reads : Reads [9, 2103, 2104, 4000, 4004, 4006, 4034, 4035] [22, 23, 24, 25, 26, 27, 28, 29, 55, 56, 57, 58, 59, 60, 61, 62] IvS := by
  intro s t hk hc h
  unfold IvS XR MR MB XB at h ⊢
  rw [hk 9 (by decide), hk 2103 (by decide), hk 2104 (by decide), hk 4000 (by decide), hk 4004 (by decide), hk 4006 (by decide), hk 4034 (by decide), hk 4035 (by decide), hc 22 (by decide), hc 23 (by decide), hc 24 (by decide), hc 25 (by decide), hc 26 (by decide), hc 27 (by decide), hc 28 (by decide), hc 29 (by decide), hc 55 (by decide), hc 56 (by decide), hc 57 (by decide), hc 58 (by decide), hc 59 (by decide), hc 60 (by decide), hc 61 (by decide), hc 62 (by decide)]
  exact h
theorem nI_lit {n k : Nat} (hn : n < 2147483648) (hk : k < 2147483648) (h : n ≠ k) : ¬ nI n = nI k := fun z => h ((nI_eq' hn hk).mp z)
theorem st_told {s : nm_S} (x y : Int32) (h : IvS s) : ∃ v s1 s2, Runs 84 [.ref 0, .int x, .int y] s v s1 ∧ Runs 129 [.ref 40, .int x, .int y] s1 v s2 ∧ Fr [] [] s s2 := by
  obtain ⟨N, T, r, st, bg, mi, nd, bk, pt, sf, ro, en, ⟨h1, h2⟩, -, -, ⟨hx1, hx2⟩, ⟨hm1, hm2, -⟩, -⟩ := h
  have h10 : ¬ (1 : Int32) = 0 := by decide
  by_cases hx : 0 ≤ x ∧ x ≤ nI N - 1
  · obtain ⟨i, hi, rfl⟩ := idx_of (by omega) hx
    obtain ⟨a1, a2, a3, a4, a5, a6, a7⟩ := hx2 i hi
    obtain ⟨b1, b2', b3, b4, b5, b6, b7⟩ := hm2 i hi
    have u3 : vp_in (nI i) 10 := vp_in' (by omega) (by omega)
    have u4 : (nI i).toNatClampNeg = i := i_nIc (by omega)
    have cX : ∀ (v : Int32), (∀ Q : nm_K, Q [.int v] (rep s) → x_X8_told 59 Q 11 [.ref 0, .int (nI i), .int y] [.int y] (rep s) 0 0) → Runs 84 [.ref 0, .int (nI i), .int y] s v s := by
      intro v hv Q hQ
      simp only [e_X8_told, r_X8_told_0, r_X8_told_1, r_X8_told_2, r_X8_told_5, r_X8_told_8, r_X8_told_9, r_X8_told_10, ob_0, gt_0_0, gt_0_1, gt_0_2, gt_0_3, gt_0_4, gt_0_5, gt_0_6, gt_0_7, gt_0_8, gt_0_9, pt_0_9, gt_0_10, pt_0_10, gt_0_11, pt_0_11, List.cons_append, List.nil_append, List.append_nil, if_true, if_false, true_and, and_true, true_or, or_true, nm_b_some, c_isStage, b_0, hx1, hx, and_self, not_true_eq_false]
      exact hv Q hQ
    have cM : ∀ (v : Int32), (∀ Q : nm_K, Q [.int v] (rep s) → x_X9_told 59 Q 11 [.ref 40, .int (nI i), .int y] [.int y] (rep s) 0 0) → Runs 129 [.ref 40, .int (nI i), .int y] s v s := by
      intro v hv Q hQ
      simp only [e_X9_told, r_X9_told_0, r_X9_told_1, r_X9_told_2, r_X9_told_5, r_X9_told_8, r_X9_told_9, r_X9_told_10, ob_40, gt_40_0, pt_40_0, gt_40_1, pt_40_1, gt_40_2, pt_40_2, gt_40_3, pt_40_3, gt_40_4, pt_40_4, gt_40_5, pt_40_5, gt_40_6, pt_40_6, gt_40_7, pt_40_7, gt_40_8, pt_40_8, gt_40_9, pt_40_9, gt_40_10, pt_40_10, gt_40_11, gt_40_12, gt_40_13, gt_40_14, gt_40_15, gt_40_16, gt_40_17, gt_40_18, gt_40_19, gt_40_20, gt_40_21, gt_40_22, pt_40_22, gt_40_23, gt_40_24, gt_40_25, gt_40_26, gt_40_27, gt_40_28, gt_40_29, gt_40_30, gt_40_31, gt_40_32, gt_40_33, gt_40_34, pt_40_34, gt_40_35, pt_40_35, gt_40_36, gt_40_37, gt_40_38, gt_40_39, gt_40_40, gt_40_41, pt_40_41, gt_40_42, pt_40_42, gt_40_43, pt_40_43, gt_40_44, pt_40_44, gt_40_45, pt_40_45, gt_40_46, pt_40_46, gt_40_47, List.cons_append, List.nil_append, List.append_nil, if_true, if_false, true_and, and_true, true_or, or_true, nm_b_some, c_MisStage, b_0, hm1, hx, and_self, not_true_eq_false]
      exact hv Q hQ
    refine Exists.elim (show ∃ v, Runs 84 [.ref 0, .int (nI i), .int y] s v s ∧ Runs 129 [.ref 40, .int (nI i), .int y] s v s from ?_) (fun v hv => ⟨v, s, s, hv.1, hv.2, Fr.rf⟩)
    rcases sw_cases y 4 with ⟨j, hj, rfl⟩ | hy
    · match j, hj with
      | 0, _ =>
        refine ⟨nI (st i), cX _ (fun Q hQ => ?_), cM _ (fun Q hQ => ?_)⟩
        · rw [r_X8_told_11, swt_in (by omega)]
          simp only [List.getD_cons_zero, r_X8_told_40, r_X8_told_41, r_X8_told_44, r_X8_told_47, r_X8_told_48, r_X8_told_49, ob_0, gt_0_0, gt_0_1, gt_0_2, gt_0_3, gt_0_4, gt_0_5, gt_0_6, gt_0_7, gt_0_8, gt_0_9, pt_0_9, gt_0_10, pt_0_10, gt_0_11, pt_0_11, ob_21, gt_21_0, gt_21_1, gt_21_2, gt_21_3, pt_21_3, gt_21_4, pt_21_4, gt_21_5, gt_21_6, gt_21_7, gt_21_8, gt_21_9, gt_21_10, ad_22, as_22, List.cons_append, List.nil_append, List.append_nil, if_true, if_false, true_and, and_true, true_or, or_true, nm_b_some, u3, u4, a1]
          exact hQ
        · rw [r_X9_told_11, swt_in (by omega)]
          simp only [List.getD_cons_zero, r_X9_told_40, r_X9_told_41, r_X9_told_44, r_X9_told_45, r_X9_told_46, ob_40, gt_40_0, pt_40_0, gt_40_1, pt_40_1, gt_40_2, pt_40_2, gt_40_3, pt_40_3, gt_40_4, pt_40_4, gt_40_5, pt_40_5, gt_40_6, pt_40_6, gt_40_7, pt_40_7, gt_40_8, pt_40_8, gt_40_9, pt_40_9, gt_40_10, pt_40_10, gt_40_11, gt_40_12, gt_40_13, gt_40_14, gt_40_15, gt_40_16, gt_40_17, gt_40_18, gt_40_19, gt_40_20, gt_40_21, gt_40_22, pt_40_22, gt_40_23, gt_40_24, gt_40_25, gt_40_26, gt_40_27, gt_40_28, gt_40_29, gt_40_30, gt_40_31, gt_40_32, gt_40_33, gt_40_34, pt_40_34, gt_40_35, pt_40_35, gt_40_36, gt_40_37, gt_40_38, gt_40_39, gt_40_40, gt_40_41, pt_40_41, gt_40_42, pt_40_42, gt_40_43, pt_40_43, gt_40_44, pt_40_44, gt_40_45, pt_40_45, gt_40_46, pt_40_46, gt_40_47, ad_59, as_59, List.cons_append, List.nil_append, List.append_nil, if_true, if_false, true_and, and_true, true_or, or_true, nm_b_some, u3, u4, b1]
          exact hQ
      | 1, _ =>
        refine ⟨eb st bg i, cX _ (fun Q hQ => ?_), cM _ (fun Q hQ => ?_)⟩
        · rw [r_X8_told_11, swt_in (by omega)]
          simp only [List.getD_cons_zero, List.getD_cons_succ, r_X8_told_50, r_X8_told_51, r_X8_told_54, r_X8_told_57, r_X8_told_58, r_X8_told_59, ob_0, gt_0_0, gt_0_1, gt_0_2, gt_0_3, gt_0_4, gt_0_5, gt_0_6, gt_0_7, gt_0_8, gt_0_9, pt_0_9, gt_0_10, pt_0_10, gt_0_11, pt_0_11, ob_21, gt_21_0, gt_21_1, gt_21_2, gt_21_3, pt_21_3, gt_21_4, pt_21_4, gt_21_5, gt_21_6, gt_21_7, gt_21_8, gt_21_9, gt_21_10, ad_23, as_23, List.cons_append, List.nil_append, List.append_nil, if_true, if_false, true_and, and_true, true_or, or_true, nm_b_some, u3, u4, a2]
          exact hQ
        · rw [r_X9_told_11, swt_in (by omega)]
          simp only [List.getD_cons_zero, List.getD_cons_succ, r_X9_told_47, r_X9_told_48, r_X9_told_51, r_X9_told_52, r_X9_told_53, ob_40, gt_40_0, pt_40_0, gt_40_1, pt_40_1, gt_40_2, pt_40_2, gt_40_3, pt_40_3, gt_40_4, pt_40_4, gt_40_5, pt_40_5, gt_40_6, pt_40_6, gt_40_7, pt_40_7, gt_40_8, pt_40_8, gt_40_9, pt_40_9, gt_40_10, pt_40_10, gt_40_11, gt_40_12, gt_40_13, gt_40_14, gt_40_15, gt_40_16, gt_40_17, gt_40_18, gt_40_19, gt_40_20, gt_40_21, gt_40_22, pt_40_22, gt_40_23, gt_40_24, gt_40_25, gt_40_26, gt_40_27, gt_40_28, gt_40_29, gt_40_30, gt_40_31, gt_40_32, gt_40_33, gt_40_34, pt_40_34, gt_40_35, pt_40_35, gt_40_36, gt_40_37, gt_40_38, gt_40_39, gt_40_40, gt_40_41, pt_40_41, gt_40_42, pt_40_42, gt_40_43, pt_40_43, gt_40_44, pt_40_44, gt_40_45, pt_40_45, gt_40_46, pt_40_46, gt_40_47, ad_60, as_60, List.cons_append, List.nil_append, List.append_nil, if_true, if_false, true_and, and_true, true_or, or_true, nm_b_some, u3, u4, b2']
          exact hQ
      | 2, _ =>
        refine ⟨if nI (st i) = 1 ∨ nI (st i) = 2 then eb st bg i + nI (mi i) else -1, cX _ (fun Q hQ => ?_), cM _ (fun Q hQ => ?_)⟩
        · rw [r_X8_told_11, swt_in (by omega)]
          simp only [List.getD_cons_zero, List.getD_cons_succ, r_X8_told_60, r_X8_told_61, r_X8_told_64, r_X8_told_65, r_X8_told_68, ob_0, gt_0_0, gt_0_1, gt_0_2, gt_0_3, gt_0_4, gt_0_5, gt_0_6, gt_0_7, gt_0_8, gt_0_9, pt_0_9, gt_0_10, pt_0_10, gt_0_11, pt_0_11, ob_21, gt_21_0, gt_21_1, gt_21_2, gt_21_3, pt_21_3, gt_21_4, pt_21_4, gt_21_5, gt_21_6, gt_21_7, gt_21_8, gt_21_9, gt_21_10, List.cons_append, List.nil_append, List.append_nil, if_true, if_false, true_and, and_true, true_or, or_true, nm_b_some, c_doneMinute (show i < 10 by omega), a1, a2, a4]
          exact hQ
        · rw [r_X9_told_11, swt_in (by omega)]
          simp only [List.getD_cons_zero, List.getD_cons_succ, r_X9_told_54, r_X9_told_55, r_X9_told_58, r_X9_told_59, r_X9_told_60, r_X9_told_61, r_X9_told_64, r_X9_told_65, r_X9_told_68, r_X9_told_69, r_X9_told_70, r_X9_told_71, r_X9_told_74, r_X9_told_75, r_X9_told_78, r_X9_told_79, r_X9_told_80, r_X9_told_81, r_X9_told_84, r_X9_told_85, r_X9_told_86, r_X9_told_87, r_X9_told_90, r_X9_told_91, ob_40, gt_40_0, pt_40_0, gt_40_1, pt_40_1, gt_40_2, pt_40_2, gt_40_3, pt_40_3, gt_40_4, pt_40_4, gt_40_5, pt_40_5, gt_40_6, pt_40_6, gt_40_7, pt_40_7, gt_40_8, pt_40_8, gt_40_9, pt_40_9, gt_40_10, pt_40_10, gt_40_11, gt_40_12, gt_40_13, gt_40_14, gt_40_15, gt_40_16, gt_40_17, gt_40_18, gt_40_19, gt_40_20, gt_40_21, gt_40_22, pt_40_22, gt_40_23, gt_40_24, gt_40_25, gt_40_26, gt_40_27, gt_40_28, gt_40_29, gt_40_30, gt_40_31, gt_40_32, gt_40_33, gt_40_34, pt_40_34, gt_40_35, pt_40_35, gt_40_36, gt_40_37, gt_40_38, gt_40_39, gt_40_40, gt_40_41, pt_40_41, gt_40_42, pt_40_42, gt_40_43, pt_40_43, gt_40_44, pt_40_44, gt_40_45, pt_40_45, gt_40_46, pt_40_46, gt_40_47, ad_55, as_55, ad_59, as_59, ad_60, as_60, List.cons_append, List.nil_append, List.append_nil, if_true, if_false, true_and, and_true, true_or, or_true, nm_b_some, u3, u4, b1, b2', b4]
          by_cases c1 : nI (st i) = 1
          · simp only [c1, true_or, if_true] at hQ ⊢
            exact hQ
          · by_cases c2 : nI (st i) = 2
            · have c3 : ¬ (2 : Int32) = 1 := by decide
              simp only [c2, c3, or_true, if_true, if_false] at hQ ⊢
              exact hQ
            · simp only [c1, c2, or_self, if_false] at hQ ⊢
              exact hQ
      | 3, _ =>
        refine ⟨b2 (sf i), cX _ (fun Q hQ => ?_), cM _ (fun Q hQ => ?_)⟩
        · rw [r_X8_told_11, swt_in (by omega)]
          simp only [List.getD_cons_zero, List.getD_cons_succ, r_X8_told_69, r_X8_told_70, r_X8_told_73, r_X8_told_76, r_X8_told_77, r_X8_told_78, r_X8_told_81, r_X8_told_82, r_X8_told_85, r_X8_told_86, ob_0, gt_0_0, gt_0_1, gt_0_2, gt_0_3, gt_0_4, gt_0_5, gt_0_6, gt_0_7, gt_0_8, gt_0_9, pt_0_9, gt_0_10, pt_0_10, gt_0_11, pt_0_11, ob_21, gt_21_0, gt_21_1, gt_21_2, gt_21_3, pt_21_3, gt_21_4, pt_21_4, gt_21_5, gt_21_6, gt_21_7, gt_21_8, gt_21_9, gt_21_10, ad_24, as_24, List.cons_append, List.nil_append, List.append_nil, if_true, if_false, true_and, and_true, true_or, or_true, nm_b_some, u3, u4, a3]
          cases hsf : sf i
          · rw [hsf] at hQ; simpa [b2] using hQ
          · rw [hsf] at hQ; simpa [b2] using hQ
        · rw [r_X9_told_11, swt_in (by omega)]
          simp only [List.getD_cons_zero, List.getD_cons_succ, r_X9_told_92, r_X9_told_93, r_X9_told_96, r_X9_told_97, r_X9_told_98, r_X9_told_101, r_X9_told_102, r_X9_told_105, r_X9_told_106, ob_40, gt_40_0, pt_40_0, gt_40_1, pt_40_1, gt_40_2, pt_40_2, gt_40_3, pt_40_3, gt_40_4, pt_40_4, gt_40_5, pt_40_5, gt_40_6, pt_40_6, gt_40_7, pt_40_7, gt_40_8, pt_40_8, gt_40_9, pt_40_9, gt_40_10, pt_40_10, gt_40_11, gt_40_12, gt_40_13, gt_40_14, gt_40_15, gt_40_16, gt_40_17, gt_40_18, gt_40_19, gt_40_20, gt_40_21, gt_40_22, pt_40_22, gt_40_23, gt_40_24, gt_40_25, gt_40_26, gt_40_27, gt_40_28, gt_40_29, gt_40_30, gt_40_31, gt_40_32, gt_40_33, gt_40_34, pt_40_34, gt_40_35, pt_40_35, gt_40_36, gt_40_37, gt_40_38, gt_40_39, gt_40_40, gt_40_41, pt_40_41, gt_40_42, pt_40_42, gt_40_43, pt_40_43, gt_40_44, pt_40_44, gt_40_45, pt_40_45, gt_40_46, pt_40_46, gt_40_47, ad_61, as_61, List.cons_append, List.nil_append, List.append_nil, if_true, if_false, true_and, and_true, true_or, or_true, nm_b_some, u3, u4, b3]
          cases hsf : sf i
          · rw [hsf] at hQ; simpa [b2] using hQ
          · rw [hsf] at hQ; simpa [b2] using hQ
    · refine ⟨-1, cX _ (fun Q hQ => ?_), cM _ (fun Q hQ => ?_)⟩
      · rw [r_X8_told_11, swt_out (by simpa using hy)]
        simp only [r_X8_told_87, r_X8_told_88]
        exact hQ
      · rw [r_X9_told_11, swt_out (by simpa using hy)]
        simp only [r_X9_told_107, r_X9_told_108]
        exact hQ
  · refine ⟨-1, s, s, ?_, ?_, Fr.rf⟩
    · intro Q hQ
      simp only [e_X8_told, r_X8_told_0, r_X8_told_1, r_X8_told_2, r_X8_told_5, r_X8_told_8, r_X8_told_9, ob_0, gt_0_0, gt_0_1, gt_0_2, gt_0_3, gt_0_4, gt_0_5, gt_0_6, gt_0_7, gt_0_8, gt_0_9, pt_0_9, gt_0_10, pt_0_10, gt_0_11, pt_0_11, List.cons_append, List.nil_append, List.append_nil, if_true, if_false, true_and, and_true, true_or, or_true, nm_b_some, c_isStage, b_0, hx1, hx, not_false_eq_true]
      exact hQ
    · intro Q hQ
      simp only [e_X9_told, r_X9_told_0, r_X9_told_1, r_X9_told_2, r_X9_told_5, r_X9_told_8, r_X9_told_9, ob_40, gt_40_0, pt_40_0, gt_40_1, pt_40_1, gt_40_2, pt_40_2, gt_40_3, pt_40_3, gt_40_4, pt_40_4, gt_40_5, pt_40_5, gt_40_6, pt_40_6, gt_40_7, pt_40_7, gt_40_8, pt_40_8, gt_40_9, pt_40_9, gt_40_10, pt_40_10, gt_40_11, gt_40_12, gt_40_13, gt_40_14, gt_40_15, gt_40_16, gt_40_17, gt_40_18, gt_40_19, gt_40_20, gt_40_21, gt_40_22, pt_40_22, gt_40_23, gt_40_24, gt_40_25, gt_40_26, gt_40_27, gt_40_28, gt_40_29, gt_40_30, gt_40_31, gt_40_32, gt_40_33, gt_40_34, pt_40_34, gt_40_35, pt_40_35, gt_40_36, gt_40_37, gt_40_38, gt_40_39, gt_40_40, gt_40_41, pt_40_41, gt_40_42, pt_40_42, gt_40_43, pt_40_43, gt_40_44, pt_40_44, gt_40_45, pt_40_45, gt_40_46, pt_40_46, gt_40_47, List.cons_append, List.nil_append, List.append_nil, if_true, if_false, true_and, and_true, true_or, or_true, nm_b_some, c_MisStage, b_0, hm1, hx, not_false_eq_true]
      exact hQ
/-! begin -/
theorem needs_iff (a b : Nat) (ha : a < 65536) (hb : b < 65536) : (nI a &&& (nI b ^^^ (-1)) = 0) ↔ ∀ k, k < 16 → a.testBit k = true → b.testBit k = true := by
  have h16 : ∀ m, m < 65536 → ∀ k, 16 ≤ k → m.testBit k = false := fun m hm k hk => Nat.testBit_lt_two_pow (Nat.lt_of_lt_of_le hm (Nat.le_trans (show 65536 ≤ 2 ^ 16 by decide) (Nat.pow_le_pow_right (by decide) hk)))
  have hle : a &&& (b ^^^ 4294967295) ≤ a := Nat.and_le_left
  rw [show (-1 : Int32) = nI 4294967295 by decide, fb_xorI, fa_and, nI_z (by omega)]
  have hbit : ∀ k, (a &&& (b ^^^ 4294967295)).testBit k = (a.testBit k && (b.testBit k ^^ decide (k < 32))) := by
    intro k
    rw [Nat.testBit_and, Nat.testBit_xor, show (4294967295 : Nat) = 2 ^ 32 - 1 by decide, Nat.testBit_two_pow_sub_one]
  constructor
  · intro h k hk hak
    have := hbit k
    rw [h, hak] at this
    have e : decide (k < 32) = true := by simp; omega
    rw [e] at this
    simpa using this.symm
  · intro h
    apply Nat.eq_of_testBit_eq
    intro k
    rw [hbit k]
    by_cases hk : k < 16
    · cases hak : a.testBit k with
      | false => simp
      | true =>
        have e : decide (k < 32) = true := by simp; omega
        rw [h k hk hak, e]
        simp
    · rw [h16 a ha k (by omega)]
      simp
theorem need_bit (m k : Nat) (hm : m < 65536) (hk : k < 16) : (nI m >>> (nI k &&& 31) &&& 1 = 1) ↔ m.testBit k = true := by
  have e : ∀ k, k < 16 → ((nI k &&& 31).toBitVec.smod 32).toNat = k := by decide +kernel
  rw [pk_shrN (by omega) _ k (e k hk), show (1 : Int32) = nI (2 ^ 1 - 1) by decide, fa_and, Nat.and_two_pow_sub_one_eq_mod, nI_eq' (by have := Nat.mod_lt (m / 2 ^ k) (show 2 ^ 1 > 0 by decide); omega) (by decide)]
  rw [Nat.testBit_eq_decide_div_mod_eq]
  simp
theorem nd_small {i m : Nat} (hi : i < 10) (h : m < 2 ^ i) : m < 65536 := Nat.lt_of_lt_of_le h (Nat.le_trans (Nat.pow_le_pow_right (by decide) (show i ≤ 16 by omega)) (by decide))
def okbeg (N i : Nat) (st nd : Nat → Nat) (r : Nat) : Prop := st i = 0 ∧ r = 0 ∧ ∀ k, k < N → (nd i).testBit k = true → st k = 2
theorem c_begin {s : nm_S} {N T i : Nat} {st bg mi nd bk : Nat → Nat} {pt sf : Nat → Bool} {r : Nat} {ro en : Nat → Nat} (hN : N ≤ 10) (hX : XR s N st bg mi nd bk pt sf) (hW : WF N T st bg mi nd bk sf) (hB : BK N T r st bg bk ro en) (hi : i < N) : (okbeg N i st nd r → Runs 81 [.ref 0, .int (nI i)] s 1 (sa (sa s 22 (upd (ga s 22) i 1)) 23 (upd (ga s 23) i (gi s 9)))) ∧ (¬ okbeg N i st nd r → Runs 81 [.ref 0, .int (nI i)] s 0 s) := by
  obtain ⟨hx1, hx2⟩ := hX
  have g := (idx_iff (j := i) (n := N) (by omega) (by omega)).mpr hi
  have u3 : vp_in (nI i) 10 := vp_in' (by omega) (by omega)
  have u4 : (nI i).toNatClampNeg = i := i_nIc (by omega)
  have h10 : ¬ (1 : Int32) = 0 := by decide
  obtain ⟨a1, a2, a3, a4, a5, a6, a7⟩ := hx2 i hi
  have hst : ∀ k, k < N → st k < 2147483648 := fun k hk => by have := (hW k hk).2.2.2.1; omega
  have z0 : nI (st i) = 0 ↔ st i = 0 := nI_z (hst i hi)
  have m3 : mask (fun k => decide (ga s 22 k = 3)) N = 0 ↔ r = 0 := by
    rw [mask_0]
    constructor
    · intro h
      rcases Nat.eq_zero_or_pos r with h0 | h0
      · exact h0
      · obtain ⟨b1, b2, -⟩ := hB.2.1 0 h0
        have := h (ro 0) b1
        rw [(hx2 _ b1).1, b2] at this
        simp at this
        exact absurd rfl this
    · intro h k hk
      simp only [decide_eq_false_iff_not]
      intro z
      rw [(hx2 k hk).1, show (3 : Int32) = nI 3 from rfl, nI_eq' (hst k hk) (by omega)] at z
      obtain ⟨j, hj, -⟩ := hB.2.2.2.2.1 k hk z
      omega
  have m3' : nI (mask (fun k => decide (ga s 22 k = 3)) N) = 0 ↔ r = 0 := by
    rw [nI_z (by have := mask_small (fun k => decide (ga s 22 k = 3)) (show N ≤ 16 by omega); omega)]
    exact m3
  have m2 : (nI (nd i) &&& (nI (mask (fun k => decide (ga s 22 k = 2)) N) ^^^ (-1)) = 0) ↔ ∀ k, k < N → (nd i).testBit k = true → st k = 2 := by
    rw [needs_iff _ _ (nd_small (by omega) (hW i hi).2.1) (mask_small _ (by omega))]
    constructor
    · intro h k hk hb
      have := h k (by omega) hb
      rw [mask_bit] at this
      simp only [Bool.and_eq_true, decide_eq_true_eq] at this
      have z := this.2
      rw [(hx2 k hk).1, show (2 : Int32) = nI 2 from rfl, nI_eq' (hst k hk) (by omega)] at z
      exact z
    · intro h k hk hb
      have hki : k < i := by
        rcases Nat.lt_or_ge k i with z | z
        · exact z
        · have := Nat.testBit_lt_two_pow (Nat.lt_of_lt_of_le (hW i hi).2.1 (Nat.pow_le_pow_right (by decide) z))
          rw [this] at hb; cases hb
      rw [mask_bit]
      simp only [Bool.and_eq_true, decide_eq_true_eq]
      refine ⟨by omega, ?_⟩
      rw [(hx2 k (by omega)).1, h k (by omega) hb]
      rfl
  constructor
  · rintro ⟨k1, k2, k3⟩ Q hQ
    simp only [e_X8_begin, r_X8_begin_0, r_X8_begin_1, r_X8_begin_2, r_X8_begin_5, r_X8_begin_8, r_X8_begin_9, r_X8_begin_12, r_X8_begin_13, r_X8_begin_14, r_X8_begin_17, r_X8_begin_20, r_X8_begin_23, r_X8_begin_24, r_X8_begin_27, r_X8_begin_28, e_X5_start, r_X5_start_0, r_X5_start_1, r_X5_start_4, r_X5_start_5, r_X5_start_6, r_X5_start_9, r_X5_start_10, r_X5_start_11, r_X5_start_14, r_X5_start_17, r_X5_start_18, r_X5_start_21, r_X5_start_22, r_X5_start_23, r_X5_start_24, r_X5_start_25, r_X5_start_28, r_X5_start_29, r_X5_start_30, r_X5_start_31, r_X5_start_34, r_X5_start_35, r_X5_start_36, r_X5_start_37, r_X5_start_40, r_X5_start_41, r_X5_start_42, r_X5_start_43, r_X5_start_44, r_X5_start_47, r_X5_start_48, r_X5_start_49, r_X5_start_50, r_X5_start_51, ob_0, gt_0_0, gt_0_1, gt_0_2, gt_0_3, gt_0_4, gt_0_5, gt_0_6, gt_0_7, gt_0_8, gt_0_9, pt_0_9, gt_0_10, pt_0_10, gt_0_11, pt_0_11, ob_21, gt_21_0, gt_21_1, gt_21_2, gt_21_3, pt_21_3, gt_21_4, pt_21_4, gt_21_5, gt_21_6, gt_21_7, gt_21_8, gt_21_9, gt_21_10, ad_22, as_22, ad_23, as_23, ad_26, as_26, List.cons_append, List.nil_append, List.append_nil, if_true, if_false, true_and, and_true, true_or, or_true, nm_b_some, gi_si, ga_sa, gi_sa, gi_sb, gi_sp, ga_si, ga_sb, ga_sp, gb_si, gb_sa, gb_sb, gb_sp, gp_si, gp_sa, gp_sb, gp_sp, if_true, if_false, ↓reduceIte, Nat.reduceEqDiff, c_isStage, c_allThat hx1 hN, b_0, hx1, g, u3, u4, a1, a5, z0.mpr k1, m3'.mpr k2, m2.mpr k3, h10, and_self, not_true_eq_false]
    exact hQ
  · intro hno Q hQ
    simp only [e_X8_begin, r_X8_begin_0, r_X8_begin_1, r_X8_begin_2, r_X8_begin_5, r_X8_begin_8, r_X8_begin_9, r_X8_begin_12, r_X8_begin_13, r_X8_begin_14, r_X8_begin_17, r_X8_begin_20, r_X8_begin_23, r_X8_begin_24, r_X8_begin_27, r_X8_begin_28, e_X5_start, r_X5_start_0, r_X5_start_1, r_X5_start_4, r_X5_start_5, r_X5_start_6, r_X5_start_9, r_X5_start_10, r_X5_start_11, r_X5_start_14, r_X5_start_17, r_X5_start_18, r_X5_start_21, r_X5_start_22, r_X5_start_23, r_X5_start_24, r_X5_start_25, r_X5_start_28, r_X5_start_29, r_X5_start_30, r_X5_start_31, r_X5_start_34, r_X5_start_35, r_X5_start_36, r_X5_start_37, r_X5_start_40, r_X5_start_41, r_X5_start_42, r_X5_start_43, r_X5_start_44, r_X5_start_47, r_X5_start_48, r_X5_start_49, r_X5_start_50, r_X5_start_51, ob_0, gt_0_0, gt_0_1, gt_0_2, gt_0_3, gt_0_4, gt_0_5, gt_0_6, gt_0_7, gt_0_8, gt_0_9, pt_0_9, gt_0_10, pt_0_10, gt_0_11, pt_0_11, ob_21, gt_21_0, gt_21_1, gt_21_2, gt_21_3, pt_21_3, gt_21_4, pt_21_4, gt_21_5, gt_21_6, gt_21_7, gt_21_8, gt_21_9, gt_21_10, ad_22, as_22, ad_23, as_23, ad_26, as_26, List.cons_append, List.nil_append, List.append_nil, if_true, if_false, true_and, and_true, true_or, or_true, nm_b_some, gi_si, ga_sa, gi_sa, gi_sb, gi_sp, ga_si, ga_sb, ga_sp, gb_si, gb_sa, gb_sb, gb_sp, gp_si, gp_sa, gp_sb, gp_sp, if_true, if_false, ↓reduceIte, Nat.reduceEqDiff, c_isStage, c_allThat hx1 hN, b_0, hx1, g, u3, u4, a1, a5, and_self, not_true_eq_false, z0, m3', m2]
    unfold okbeg at hno
    by_cases k1 : st i = 0
    · by_cases k2 : r = 0
      · have k3 : ¬ ∀ k, k < N → (nd i).testBit k = true → st k = 2 := fun z => hno ⟨k1, k2, z⟩
        simp only [k1, k2, k3, if_true, if_false]
        exact hQ
      · simp only [k1, k2, if_true, if_false]
        exact hQ
    · simp only [k1, if_false]
      exact hQ
