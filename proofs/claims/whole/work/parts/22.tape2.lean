/-! The TAPE on the other side, and both together. -/
theorem c_Mfeed {s : nm_S} {x : Int32} {n : Nat} (hl : gi s 4041 = nI n) (hn : n ≤ 100) : Runs 137 [.ref 40, .int x] s (if n + cnt (bts x) 4 ≤ 100 then nI (lpf (fst x) 4 0 (ga s 65, n)).2 else -1) (if n + cnt (bts x) 4 ≤ 100 then si (sa s 65 (lpf (fst x) 4 0 (ga s 65, n)).1) 4041 (nI (lpf (fst x) 4 0 (ga s 65, n)).2) else s) := by
  intro Q hQ
  have hc := cnt_le (bts x) 4
  rw [e_X9_feed]
  simp only [r_X9_feed_0, r_X9_feed_1, r_X9_feed_2, r_X9_feed_3]
  refine nm_loopI (fun k (a : Int32) => x_X9_feed 59 Q 4 [.ref 40, .int x, .int a, .int (nI k), .null] [] (rep s) 0 0) (fun a => x_X9_feed 59 Q 36 [.ref 40, .int x, .int a, .int (nI 4), .null] [] (rep s) 0 0) (fun k a => if bt x (3 - k) = 0 then a + 0 else a + 1) (fun _ _ => True) (N := 4) ?_ ?_ 4 0 0 (by omega) trivial ?_
  · intro k a hk _
    refine ⟨trivial, fun hn => ?_⟩
    have h1 : nI k < 4 := (nI_lt' (b := 4) (by omega) (by omega)).mpr hk
    have h2 := bt_M2 x k hk
    have h3 : nI (bt x (3 - k)) = 0 ↔ bt x (3 - k) = 0 := nI_z (by have := bt_lt x (3 - k); omega)
    rw [r_X9_feed_4]
    simp only [r_X9_feed_5, r_X9_feed_6, r_X9_feed_9, r_X9_feed_10, r_X9_feed_11, r_X9_feed_13, r_X9_feed_14, r_X9_feed_15, r_X9_feed_16, r_X9_feed_19, r_X9_feed_20, r_X9_feed_23, r_X9_feed_24, r_X9_feed_27, r_X9_feed_28, r_X9_feed_29, r_X9_feed_30, r_X9_feed_33, List.cons_append, List.nil_append, List.append_nil, if_true, if_false, true_and, and_true, true_or, or_true, nm_b_some, h1, h2, h3, nI_s]
    by_cases hv : bt x (3 - k) = 0
    · simp only [hv, if_true] at hn ⊢
      exact hn
    · simp only [hv, if_false] at hn ⊢
      exact hn
  · intro a _ hr
    have h1 : ¬ nI 4 < 4 := by decide
    rw [r_X9_feed_4]
    simp only [r_X9_feed_5, r_X9_feed_6, r_X9_feed_9, List.cons_append, List.nil_append, List.append_nil, if_true, if_false, true_and, and_true, true_or, or_true, nm_b_some, h1]
    exact hr
  · have e : lpf (fun k (a : Int32) => if bt x (3 - k) = 0 then a + 0 else a + 1) 4 0 0 = nI (cnt (bts x) 4) := by
      simp only [lpf, cnt, bts]
      by_cases h0 : bt x 0 = 0 <;> by_cases h1 : bt x 1 = 0 <;> by_cases h2 : bt x 2 = 0 <;> by_cases h3 : bt x 3 = 0 <;> simp [h0, h1, h2, h3] <;> decide
    rw [e]
    simp only [r_X9_feed_36, r_X9_feed_37, r_X9_feed_40, r_X9_feed_41, r_X9_feed_42, r_X9_feed_44, r_X9_feed_47, r_X9_feed_48, r_X9_feed_49, r_X9_feed_50, ob_40, gt_40_0, pt_40_0, gt_40_1, pt_40_1, gt_40_2, pt_40_2, gt_40_3, pt_40_3, gt_40_4, pt_40_4, gt_40_5, pt_40_5, gt_40_6, pt_40_6, gt_40_7, pt_40_7, gt_40_8, pt_40_8, gt_40_9, pt_40_9, gt_40_10, pt_40_10, gt_40_11, gt_40_12, gt_40_13, gt_40_14, gt_40_15, gt_40_16, gt_40_17, gt_40_18, gt_40_19, gt_40_20, gt_40_21, gt_40_22, pt_40_22, gt_40_23, gt_40_24, gt_40_25, gt_40_26, gt_40_27, gt_40_28, gt_40_29, gt_40_30, gt_40_31, gt_40_32, gt_40_33, gt_40_34, pt_40_34, gt_40_35, pt_40_35, gt_40_36, gt_40_37, gt_40_38, gt_40_39, gt_40_40, gt_40_41, pt_40_41, gt_40_42, pt_40_42, gt_40_43, pt_40_43, gt_40_44, pt_40_44, gt_40_45, pt_40_45, gt_40_46, pt_40_46, gt_40_47, List.cons_append, List.nil_append, List.append_nil, if_true, if_false, true_and, and_true, true_or, or_true, nm_b_some, hl, nI_add]
    by_cases h : n + cnt (bts x) 4 ≤ 100
    · have h2 : ¬ (100 : Int32) < nI (n + cnt (bts x) 4) := by
        rw [show (100 : Int32) = nI 100 from rfl, nI_lt' (by omega) (by omega)]; omega
      simp only [h, h2, if_true, if_false] at hQ ⊢
      have hs0 : rep s = rep (si (sa s 65 (ga s 65)) 4041 (nI n)) := by rw [sa_self, ← hl, si_self]
      rw [hs0]
      refine nm_loopI (fun j (a : (Nat → Int32) × Nat) => ∀ z : Value, x_X9_feed 59 Q 51 [.ref 40, .int x, .int (nI (cnt (bts x) 4)), .int (kM j), z] [] (rep (si (sa s 65 a.1) 4041 (nI a.2))) 0 0) (fun a => Q [.int (nI a.2)] (rep (si (sa s 65 a.1) 4041 (nI a.2)))) (fst x) (fun j a => a.2 + cnt (bts x) 4 ≤ 100 + cnt (bts x) j) (N := 4) ?_ ?_ 4 0 (ga s 65, n) (by omega) (by show n + _ ≤ 100 + 0; omega) hQ .null
      · intro j a hj hok
        obtain ⟨g1, g2⟩ := fst_ok hj hok
        refine ⟨g1, fun hn z => ?_⟩
        have h1 := kM_pos j hj
        have h2 := bt_M x j hj
        have hb := bt_lt x j
        have h3 : nI (bt x j) = 0 ↔ bt x j = 0 := nI_z (by omega)
        rw [r_X9_feed_51]
        simp only [r_X9_feed_52, r_X9_feed_55, r_X9_feed_56, r_X9_feed_58, r_X9_feed_59, r_X9_feed_60, r_X9_feed_61, r_X9_feed_64, r_X9_feed_65, r_X9_feed_67, r_X9_feed_69, r_X9_feed_72, r_X9_feed_73, r_X9_feed_76, r_X9_feed_77, r_X9_feed_80, r_X9_feed_82, r_X9_feed_83, r_X9_feed_84, r_X9_feed_85, r_X9_feed_88, r_X9_feed_89, r_X9_feed_90, r_X9_feed_93, r_X9_feed_96, ob_40, gt_40_0, pt_40_0, gt_40_1, pt_40_1, gt_40_2, pt_40_2, gt_40_3, pt_40_3, gt_40_4, pt_40_4, gt_40_5, pt_40_5, gt_40_6, pt_40_6, gt_40_7, pt_40_7, gt_40_8, pt_40_8, gt_40_9, pt_40_9, gt_40_10, pt_40_10, gt_40_11, gt_40_12, gt_40_13, gt_40_14, gt_40_15, gt_40_16, gt_40_17, gt_40_18, gt_40_19, gt_40_20, gt_40_21, gt_40_22, pt_40_22, gt_40_23, gt_40_24, gt_40_25, gt_40_26, gt_40_27, gt_40_28, gt_40_29, gt_40_30, gt_40_31, gt_40_32, gt_40_33, gt_40_34, pt_40_34, gt_40_35, pt_40_35, gt_40_36, gt_40_37, gt_40_38, gt_40_39, gt_40_40, gt_40_41, pt_40_41, gt_40_42, pt_40_42, gt_40_43, pt_40_43, gt_40_44, pt_40_44, gt_40_45, pt_40_45, gt_40_46, pt_40_46, gt_40_47, ad_65, as_65, List.cons_append, List.nil_append, List.append_nil, if_true, if_false, true_and, and_true, true_or, or_true, nm_b_some, gi_si, ga_sa, gi_sa, gi_sb, gi_sp, ga_si, ga_sb, ga_sp, gb_si, gb_sa, gb_sb, gb_sp, gp_si, gp_sa, gp_sb, gp_sp, if_true, if_false, ↓reduceIte, Nat.reduceEqDiff, h1, h2, h3, kM_s]
        by_cases hv : bt x j = 0
        · have e1 : fst x j a = a := by simp [fst, hv]
          rw [e1] at hn
          simp only [hv, if_true]
          exact hn _
        · have g3 := g2 hv
          have h5 : vp_in (nI a.2) 100 := vp_in' g3 (by omega)
          have h6 : (nI a.2).toNatClampNeg = a.2 := i_nIc (by omega)
          have e1 : fst x j a = (upd a.1 a.2 (nI (bt x j)), a.2 + 1) := by simp [fst, hv]
          rw [e1] at hn
          simp only [hv, if_false, h5, h6, if_true, true_and, nI_s, sa_si, si_si, sa_sa]
          exact hn _
      · intro a hok hr z
        have h1 := kM_4
        rw [r_X9_feed_51]
        simp only [r_X9_feed_52, r_X9_feed_55, r_X9_feed_56, r_X9_feed_58, r_X9_feed_59, r_X9_feed_60, r_X9_feed_61, r_X9_feed_64, r_X9_feed_65, r_X9_feed_67, r_X9_feed_69, r_X9_feed_72, r_X9_feed_73, r_X9_feed_76, r_X9_feed_77, r_X9_feed_80, r_X9_feed_82, r_X9_feed_83, r_X9_feed_84, r_X9_feed_85, r_X9_feed_88, r_X9_feed_89, r_X9_feed_90, r_X9_feed_93, r_X9_feed_96, r_X9_feed_99, r_X9_feed_100, r_X9_feed_103, ob_40, gt_40_0, pt_40_0, gt_40_1, pt_40_1, gt_40_2, pt_40_2, gt_40_3, pt_40_3, gt_40_4, pt_40_4, gt_40_5, pt_40_5, gt_40_6, pt_40_6, gt_40_7, pt_40_7, gt_40_8, pt_40_8, gt_40_9, pt_40_9, gt_40_10, pt_40_10, gt_40_11, gt_40_12, gt_40_13, gt_40_14, gt_40_15, gt_40_16, gt_40_17, gt_40_18, gt_40_19, gt_40_20, gt_40_21, gt_40_22, pt_40_22, gt_40_23, gt_40_24, gt_40_25, gt_40_26, gt_40_27, gt_40_28, gt_40_29, gt_40_30, gt_40_31, gt_40_32, gt_40_33, gt_40_34, pt_40_34, gt_40_35, pt_40_35, gt_40_36, gt_40_37, gt_40_38, gt_40_39, gt_40_40, gt_40_41, pt_40_41, gt_40_42, pt_40_42, gt_40_43, pt_40_43, gt_40_44, pt_40_44, gt_40_45, pt_40_45, gt_40_46, pt_40_46, gt_40_47, ad_65, as_65, List.cons_append, List.nil_append, List.append_nil, if_true, if_false, true_and, and_true, true_or, or_true, nm_b_some, gi_si, ga_sa, gi_sa, gi_sb, gi_sp, ga_si, ga_sb, ga_sp, gb_si, gb_sa, gb_sb, gb_sp, gp_si, gp_sa, gp_sb, gp_sp, if_true, if_false, ↓reduceIte, Nat.reduceEqDiff, h1]
        exact hr
    · have h2 : (100 : Int32) < nI (n + cnt (bts x) 4) := by
        rw [show (100 : Int32) = nI 100 from rfl, nI_lt' (by omega) (by omega)]; omega
      simp only [h, h2, if_true, if_false] at hQ ⊢
      exact hQ
def IvT (s : nm_S) : Prop := ∃ n : Nat, n ≤ 100 ∧ gi s 3301 = nI n ∧ gi s 4041 = nI n ∧ ∀ i, i < n → ga s 34 i = ga s 65 i ∧ ∃ b, 1 ≤ b ∧ b < 256 ∧ ga s 34 i = nI b
theorem IvT_reads : Reads [3301, 4041] [34, 65] IvT := by
  intro s t hk hc h
  unfold IvT at h ⊢
  rw [hk 3301 (by decide), hk 4041 (by decide), hc 34 (by decide), hc 65 (by decide)]
  exact h
theorem fst_same (x : Int32) : ∀ (k j : Nat) (f g : Nat → Int32) (n : Nat), (∀ i, i < n → f i = g i ∧ ∃ b, 1 ≤ b ∧ b < 256 ∧ f i = nI b) → (lpf (fst x) k j (f, n)).2 = (lpf (fst x) k j (g, n)).2 ∧ ∀ i, i < (lpf (fst x) k j (f, n)).2 → (lpf (fst x) k j (f, n)).1 i = (lpf (fst x) k j (g, n)).1 i ∧ ∃ b, 1 ≤ b ∧ b < 256 ∧ (lpf (fst x) k j (f, n)).1 i = nI b
  | 0, j, f, g, n, h => ⟨rfl, h⟩
  | k + 1, j, f, g, n, h => by
    rw [lpf_s, lpf_s]
    by_cases hb : bt x j = 0
    · have e1 : fst x j (f, n) = (f, n) := by simp [fst, hb]
      have e2 : fst x j (g, n) = (g, n) := by simp [fst, hb]
      rw [e1, e2]
      exact fst_same x k (j + 1) f g n h
    · have e1 : fst x j (f, n) = (upd f n (nI (bt x j)), n + 1) := by simp [fst, hb]
      have e2 : fst x j (g, n) = (upd g n (nI (bt x j)), n + 1) := by simp [fst, hb]
      rw [e1, e2]
      refine fst_same x k (j + 1) _ _ (n + 1) (fun i hi => ?_)
      by_cases hin : i = n
      · subst hin
        rw [upd_at, upd_at]
        exact ⟨rfl, bt x j, by omega, bt_lt x j, rfl⟩
      · rw [upd_ne hin, upd_ne hin]
        exact h i (by omega)
theorem fst_len (x : Int32) {f : Nat → Int32} {n : Nat} (h : n + cnt (bts x) 4 ≤ 100) : (lpf (fst x) 4 0 (f, n)).2 ≤ 100 := by
  have := lpf_ind (step := fst x) (fun j a => a.2 + cnt (bts x) 4 ≤ 100 + cnt (bts x) j) (N := 4) (fun i a hi ha => (fst_ok hi ha).1) 4 0 (f, n) (by omega) (by show n + _ ≤ 100 + 0; omega)
  omega
theorem st_feed {s : nm_S} (x : Int32) (h : IvT s) : ∃ v s1 s2, Runs 90 [.ref 0, .int x] s v s1 ∧ Runs 137 [.ref 40, .int x] s1 v s2 ∧ Fr [3301, 4041] [34, 65] s s2 ∧ IvT s2 := by
  obtain ⟨n, hn, h1, h2, h3⟩ := h
  have r1 := c_tadd (x := x) h1 hn
  by_cases hc : n + cnt (bts x) 4 ≤ 100
  · simp only [hc, if_true] at r1
    generalize hA : lpf (fst x) 4 0 (ga s 34, n) = A at r1
    have r2 := c_Mfeed (s := si (sa s 34 A.1) 3301 (nI A.2)) (x := x) (n := n) (by simp only [gi_si, ga_sa, gi_sa, gi_sb, gi_sp, ga_si, ga_sb, ga_sp, gb_si, gb_sa, gb_sb, gb_sp, gp_si, gp_sa, gp_sb, gp_sp, if_true, if_false, ↓reduceIte, Nat.reduceEqDiff]; exact h2) hn
    simp only [hc, if_true, gi_si, ga_sa, gi_sa, gi_sb, gi_sp, ga_si, ga_sb, ga_sp, gb_si, gb_sa, gb_sb, gb_sp, gp_si, gp_sa, gp_sb, gp_sp, if_true, if_false, ↓reduceIte, Nat.reduceEqDiff] at r2
    obtain ⟨g1, g2⟩ := fst_same x 4 0 (ga s 34) (ga s 65) n h3
    have g3 := fst_len x (f := ga s 34) hc
    rw [hA] at g1 g2 g3
    rw [← g1] at r2
    refine ⟨_, _, _, r1, r2, (((Fr.rf.sa (by decide)).si (by decide)).sa (by decide)).si (by decide), A.2, g3, ?_, ?_, ?_⟩
    · simp only [gi_si, ga_sa, gi_sa, gi_sb, gi_sp, ga_si, ga_sb, ga_sp, gb_si, gb_sa, gb_sb, gb_sp, gp_si, gp_sa, gp_sb, gp_sp, if_true, if_false, ↓reduceIte, Nat.reduceEqDiff]
    · simp only [gi_si, ga_sa, gi_sa, gi_sb, gi_sp, ga_si, ga_sb, ga_sp, gb_si, gb_sa, gb_sb, gb_sp, gp_si, gp_sa, gp_sb, gp_sp, if_true, if_false, ↓reduceIte, Nat.reduceEqDiff]
    · simp only [gi_si, ga_sa, gi_sa, gi_sb, gi_sp, ga_si, ga_sb, ga_sp, gb_si, gb_sa, gb_sb, gb_sp, gp_si, gp_sa, gp_sb, gp_sp, if_true, if_false, ↓reduceIte, Nat.reduceEqDiff]
      exact g2
  · have r2 := c_Mfeed (x := x) h2 hn
    simp only [hc, if_false] at r1 r2
    exact ⟨_, _, _, r1, r2, Fr.rf, n, hn, h1, h2, h3⟩
theorem c_end {s : nm_S} {x : Int32} : Runs 91 [.ref 0, .int x] s (if 0 ≤ x ∧ x ≤ gi s 3301 then 1 else 0) (if 0 ≤ x ∧ x ≤ gi s 3301 then si s 3301 x else s) := by
  intro Q hQ
  simp only [e_X8_end, r_X8_end_0, r_X8_end_1, r_X8_end_4, r_X8_end_5, r_X8_end_8, e_X6_cut, r_X6_cut_0, r_X6_cut_1, r_X6_cut_2, r_X6_cut_3, r_X6_cut_6, r_X6_cut_9, r_X6_cut_12, r_X6_cut_13, r_X6_cut_14, r_X6_cut_15, r_X6_cut_16, r_X6_cut_19, r_X6_cut_20, ob_0, gt_0_0, gt_0_1, gt_0_2, gt_0_3, gt_0_4, gt_0_5, gt_0_6, gt_0_7, gt_0_8, gt_0_9, pt_0_9, gt_0_10, pt_0_10, gt_0_11, pt_0_11, ob_33, gt_33_0, gt_33_1, pt_33_1, List.cons_append, List.nil_append, List.append_nil, if_true, if_false, true_and, and_true, true_or, or_true, nm_b_some, gi_si, ga_sa, gi_sa, gi_sb, gi_sp, ga_si, ga_sb, ga_sp, gb_si, gb_sa, gb_sb, gb_sp, gp_si, gp_sa, gp_sb, gp_sp, if_true, if_false, ↓reduceIte, Nat.reduceEqDiff, c_within, b_0]
  by_cases h : 0 ≤ x ∧ x ≤ gi s 3301
  · simp only [h, and_self, if_true, not_true_eq_false, if_false] at hQ ⊢
    simpa using hQ
  · simp only [h, if_false, not_false_eq_true, if_true] at hQ ⊢
    simpa using hQ
theorem c_Mend {s : nm_S} {x : Int32} : Runs 138 [.ref 40, .int x] s (if 0 ≤ x ∧ x ≤ gi s 4041 then 1 else 0) (if 0 ≤ x ∧ x ≤ gi s 4041 then si s 4041 x else s) := by
  intro Q hQ
  simp only [e_X9_end, r_X9_end_0, r_X9_end_1, r_X9_end_4, r_X9_end_5, r_X9_end_6, r_X9_end_9, r_X9_end_12, r_X9_end_13, r_X9_end_14, r_X9_end_15, r_X9_end_16, r_X9_end_19, r_X9_end_20, ob_40, gt_40_0, pt_40_0, gt_40_1, pt_40_1, gt_40_2, pt_40_2, gt_40_3, pt_40_3, gt_40_4, pt_40_4, gt_40_5, pt_40_5, gt_40_6, pt_40_6, gt_40_7, pt_40_7, gt_40_8, pt_40_8, gt_40_9, pt_40_9, gt_40_10, pt_40_10, gt_40_11, gt_40_12, gt_40_13, gt_40_14, gt_40_15, gt_40_16, gt_40_17, gt_40_18, gt_40_19, gt_40_20, gt_40_21, gt_40_22, pt_40_22, gt_40_23, gt_40_24, gt_40_25, gt_40_26, gt_40_27, gt_40_28, gt_40_29, gt_40_30, gt_40_31, gt_40_32, gt_40_33, gt_40_34, pt_40_34, gt_40_35, pt_40_35, gt_40_36, gt_40_37, gt_40_38, gt_40_39, gt_40_40, gt_40_41, pt_40_41, gt_40_42, pt_40_42, gt_40_43, pt_40_43, gt_40_44, pt_40_44, gt_40_45, pt_40_45, gt_40_46, pt_40_46, gt_40_47, List.cons_append, List.nil_append, List.append_nil, if_true, if_false, true_and, and_true, true_or, or_true, nm_b_some, gi_si, ga_sa, gi_sa, gi_sb, gi_sp, ga_si, ga_sb, ga_sp, gb_si, gb_sa, gb_sb, gb_sp, gp_si, gp_sa, gp_sb, gp_sp, if_true, if_false, ↓reduceIte, Nat.reduceEqDiff]
  by_cases h1 : x < 0
  · have h : ¬ (0 ≤ x ∧ x ≤ gi s 4041) := by rw [i_le, i_le, i_l0]; rw [i_lt, i_l0] at h1; omega
    simp only [h, h1, if_true, if_false] at hQ ⊢
    exact hQ
  · by_cases h2 : gi s 4041 < x
    · have h : ¬ (0 ≤ x ∧ x ≤ gi s 4041) := by rw [i_le, i_le, i_l0]; rw [i_lt] at h2; omega
      simp only [h, h1, h2, if_true, if_false] at hQ ⊢
      exact hQ
    · have h : 0 ≤ x ∧ x ≤ gi s 4041 := by rw [i_le, i_le, i_l0]; rw [i_lt] at h1 h2; rw [i_l0] at h1; omega
      simp only [h, h1, h2, and_self, if_true, if_false] at hQ ⊢
      exact hQ
theorem st_end {s : nm_S} (x : Int32) (h : IvT s) : ∃ v s1 s2, Runs 91 [.ref 0, .int x] s v s1 ∧ Runs 138 [.ref 40, .int x] s1 v s2 ∧ Fr [3301, 4041] [34, 65] s s2 ∧ IvT s2 := by
  obtain ⟨n, hn, h1, h2, h3⟩ := h
  have r1 := c_end (s := s) (x := x)
  by_cases hc : 0 ≤ x ∧ x ≤ nI n
  · have r2 := c_Mend (s := si s 3301 x) (x := x)
    simp only [gi_si, ga_sa, gi_sa, gi_sb, gi_sp, ga_si, ga_sb, ga_sp, gb_si, gb_sa, gb_sb, gb_sp, gp_si, gp_sa, gp_sb, gp_sp, if_true, if_false, ↓reduceIte, Nat.reduceEqDiff] at r2
    rw [h1] at r1
    rw [h2] at r2
    simp only [hc, and_self, if_true] at r1 r2
    have hx := i_of (by have := hc.1; rw [i_le, i_l0] at this; exact this)
    have hxn : x.toInt.toNat ≤ n := by
      have := hc.2
      rw [i_le, i_nI (by omega)] at this
      omega
    refine ⟨_, _, _, r1, r2, (Fr.rf.si (by decide)).si (by decide), x.toInt.toNat, by omega, ?_, ?_, ?_⟩
    · simp only [gi_si, ga_sa, gi_sa, gi_sb, gi_sp, ga_si, ga_sb, ga_sp, gb_si, gb_sa, gb_sb, gb_sp, gp_si, gp_sa, gp_sb, gp_sp, if_true, if_false, ↓reduceIte, Nat.reduceEqDiff]
      exact hx
    · simp only [gi_si, ga_sa, gi_sa, gi_sb, gi_sp, ga_si, ga_sb, ga_sp, gb_si, gb_sa, gb_sb, gb_sp, gp_si, gp_sa, gp_sb, gp_sp, if_true, if_false, ↓reduceIte, Nat.reduceEqDiff]
      exact hx
    · intro i hi
      simp only [gi_si, ga_sa, gi_sa, gi_sb, gi_sp, ga_si, ga_sb, ga_sp, gb_si, gb_sa, gb_sb, gb_sp, gp_si, gp_sa, gp_sb, gp_sp, if_true, if_false, ↓reduceIte, Nat.reduceEqDiff]
      exact h3 i (by omega)
  · have r2 := c_Mend (s := s) (x := x)
    rw [h1] at r1
    rw [h2] at r2
    simp only [hc, if_false] at r1 r2
    exact ⟨_, _, _, r1, r2, Fr.rf, n, hn, h1, h2, h3⟩
