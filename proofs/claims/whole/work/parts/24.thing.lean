/-! thing. -/
theorem c_thing_y {s : nm_S} {a b l c : Int32} {T : Nat} (hT : gi s 104 = nI T) (hl : T < 10) (h : okthing (gi s 11) a b l c) : Runs 69 [.ref 0, .int a, .int b, .int l, .int c] s (nI T) (si (sa (sa (sa (sa (si s 1105 0) 2 (upd (ga s 2) T a)) 3 (upd (ga s 3) T b)) 4 (lpf (gst (2 ^ T) l c) (2 ^ T) 0 (ga s 4, ga s 5)).1) 5 (lpf (gst (2 ^ T) l c) (2 ^ T) 0 (ga s 4, ga s 5)).2) 104 (nI (T + 1))) := by
  intro Q hQ
  obtain ⟨h1, h2, h3, h4, h5⟩ := h
  have h6 : nI T < 10 := (nI_lt' (b := 10) (by omega) (by omega)).mpr hl
  simp only [e_X8_thing, r_X8_thing_0, r_X8_thing_1, r_X8_thing_4, r_X8_thing_7, r_X8_thing_8, r_X8_thing_11, r_X8_thing_14, r_X8_thing_17, r_X8_thing_18, r_X8_thing_19, r_X8_thing_22, r_X8_thing_25, r_X8_thing_28, r_X8_thing_29, r_X8_thing_30, r_X8_thing_33, r_X8_thing_36, r_X8_thing_39, r_X8_thing_40, r_X8_thing_41, r_X8_thing_42, r_X8_thing_43, r_X8_thing_45, r_X8_thing_48, r_X8_thing_51, r_X8_thing_53, r_X8_thing_54, r_X8_thing_57, r_X8_thing_60, r_X8_thing_63, r_X8_thing_64, r_X8_thing_65, r_X8_thing_66, r_X8_thing_69, r_X8_thing_72, r_X8_thing_73, r_X8_thing_76, r_X8_thing_77, r_X8_thing_78, r_X8_thing_79, r_X8_thing_81, r_X8_thing_84, ob_0, gt_0_0, gt_0_1, gt_0_2, gt_0_3, gt_0_4, gt_0_5, gt_0_6, gt_0_7, gt_0_8, gt_0_9, pt_0_9, gt_0_10, pt_0_10, gt_0_11, pt_0_11, List.cons_append, List.nil_append, List.append_nil, if_true, if_false, true_and, and_true, true_or, or_true, nm_b_some, gi_si, ga_sa, gi_sa, gi_sb, gi_sp, ga_si, ga_sb, ga_sp, gb_si, gb_sa, gb_sb, gb_sp, gp_si, gp_sa, gp_sb, gp_sp, if_true, if_false, ↓reduceIte, Nat.reduceEqDiff, c_within, c_forget, c_gfull, b_0, h1, h2, h3, h4, h5, h6, hT, ob_11, ob_1, and_self, not_true_eq_false, not_false_eq_true]
  refine c_gadd (d := 57) (s := si s 1105 0) (T := T) (by simp only [gi_si, ga_sa, gi_sa, gi_sb, gi_sp, ga_si, ga_sb, ga_sp, gb_si, gb_sa, gb_sb, gb_sp, gp_si, gp_sa, gp_sb, gp_sp, if_true, if_false, ↓reduceIte, Nat.reduceEqDiff]; exact hT) hl ?_
  simp only [r_X8_thing_0, r_X8_thing_1, r_X8_thing_4, r_X8_thing_7, r_X8_thing_8, r_X8_thing_11, r_X8_thing_14, r_X8_thing_17, r_X8_thing_18, r_X8_thing_19, r_X8_thing_22, r_X8_thing_25, r_X8_thing_28, r_X8_thing_29, r_X8_thing_30, r_X8_thing_33, r_X8_thing_36, r_X8_thing_39, r_X8_thing_40, r_X8_thing_41, r_X8_thing_42, r_X8_thing_43, r_X8_thing_45, r_X8_thing_48, r_X8_thing_51, r_X8_thing_53, r_X8_thing_54, r_X8_thing_57, r_X8_thing_60, r_X8_thing_63, r_X8_thing_64, r_X8_thing_65, r_X8_thing_66, r_X8_thing_69, r_X8_thing_72, r_X8_thing_73, r_X8_thing_76, r_X8_thing_77, r_X8_thing_78, r_X8_thing_79, r_X8_thing_81, r_X8_thing_84, List.cons_append, List.nil_append, List.append_nil, if_true, if_false, true_and, and_true, true_or, or_true, nm_b_some, gi_si, ga_sa, gi_sa, gi_sb, gi_sp, ga_si, ga_sb, ga_sp, gb_si, gb_sa, gb_sb, gb_sp, gp_si, gp_sa, gp_sb, gp_sp, if_true, if_false, ↓reduceIte, Nat.reduceEqDiff]
  exact hQ
theorem c_thing_f {s : nm_S} {a b l c : Int32} (hf : ¬ gi s 104 < 10) : Runs 69 [.ref 0, .int a, .int b, .int l, .int c] s (-1) s := by
  intro Q hQ
  simp only [e_X8_thing, r_X8_thing_0, r_X8_thing_1, r_X8_thing_4, r_X8_thing_7, r_X8_thing_8, r_X8_thing_11, r_X8_thing_14, r_X8_thing_17, r_X8_thing_18, r_X8_thing_19, r_X8_thing_22, r_X8_thing_25, r_X8_thing_28, r_X8_thing_29, r_X8_thing_30, r_X8_thing_33, r_X8_thing_36, r_X8_thing_39, r_X8_thing_40, r_X8_thing_41, r_X8_thing_42, r_X8_thing_43, r_X8_thing_45, r_X8_thing_48, r_X8_thing_51, r_X8_thing_53, r_X8_thing_54, r_X8_thing_57, r_X8_thing_60, r_X8_thing_63, r_X8_thing_64, r_X8_thing_65, r_X8_thing_66, r_X8_thing_69, r_X8_thing_72, r_X8_thing_73, r_X8_thing_76, r_X8_thing_77, r_X8_thing_78, r_X8_thing_79, r_X8_thing_81, r_X8_thing_84, ob_0, gt_0_0, gt_0_1, gt_0_2, gt_0_3, gt_0_4, gt_0_5, gt_0_6, gt_0_7, gt_0_8, gt_0_9, pt_0_9, gt_0_10, pt_0_10, gt_0_11, pt_0_11, List.cons_append, List.nil_append, List.append_nil, if_true, if_false, true_and, and_true, true_or, or_true, nm_b_some, gi_si, ga_sa, gi_sa, gi_sb, gi_sp, ga_si, ga_sb, ga_sp, gb_si, gb_sa, gb_sb, gb_sp, gp_si, gp_sa, gp_sb, gp_sp, if_true, if_false, ↓reduceIte, Nat.reduceEqDiff, c_within, c_gfull, b_0, ob_1]
  by_cases h1 : gi s 11 = 0
  · simp only [h1, hf, not_true_eq_false, not_false_eq_true, if_true, if_false]
    simpa using hQ
  · simp only [h1, if_false]
    simpa using hQ
theorem c_thing_n {s : nm_S} {a b l c : Int32} (h : ¬ okthing (gi s 11) a b l c) : Runs 69 [.ref 0, .int a, .int b, .int l, .int c] s (-1) s := by
  by_cases hf : gi s 104 < 10
  case neg => exact c_thing_f hf
  intro Q hQ
  simp only [e_X8_thing, r_X8_thing_0, r_X8_thing_1, r_X8_thing_4, r_X8_thing_7, r_X8_thing_8, r_X8_thing_11, r_X8_thing_14, r_X8_thing_17, r_X8_thing_18, r_X8_thing_19, r_X8_thing_22, r_X8_thing_25, r_X8_thing_28, r_X8_thing_29, r_X8_thing_30, r_X8_thing_33, r_X8_thing_36, r_X8_thing_39, r_X8_thing_40, r_X8_thing_41, r_X8_thing_42, r_X8_thing_43, r_X8_thing_45, r_X8_thing_48, r_X8_thing_51, r_X8_thing_53, r_X8_thing_54, r_X8_thing_57, r_X8_thing_60, r_X8_thing_63, r_X8_thing_64, r_X8_thing_65, r_X8_thing_66, r_X8_thing_69, r_X8_thing_72, r_X8_thing_73, r_X8_thing_76, r_X8_thing_77, r_X8_thing_78, r_X8_thing_79, r_X8_thing_81, r_X8_thing_84, ob_0, gt_0_0, gt_0_1, gt_0_2, gt_0_3, gt_0_4, gt_0_5, gt_0_6, gt_0_7, gt_0_8, gt_0_9, pt_0_9, gt_0_10, pt_0_10, gt_0_11, pt_0_11, List.cons_append, List.nil_append, List.append_nil, if_true, if_false, true_and, and_true, true_or, or_true, nm_b_some, gi_si, ga_sa, gi_sa, gi_sb, gi_sp, ga_si, ga_sb, ga_sp, gb_si, gb_sa, gb_sb, gb_sp, gp_si, gp_sa, gp_sb, gp_sp, if_true, if_false, ↓reduceIte, Nat.reduceEqDiff, c_within, c_gfull, b_0, ob_1, hf, not_true_eq_false, not_false_eq_true]
  unfold okthing at h
  by_cases h1 : gi s 11 = 0
  · by_cases h2 : 0 ≤ a ∧ a ≤ 2000
    · by_cases h3 : a ≤ b ∧ b ≤ 2000
      · by_cases h4 : 1 ≤ l ∧ l ≤ 40
        · have h5 : ¬ (0 ≤ c ∧ c ≤ 1000) := fun z => h ⟨h1, h2, h3, h4, z⟩
          simp only [h1, h2, h3, h4, h5, and_self, not_true_eq_false, not_false_eq_true, if_true, if_false]
          simpa using hQ
        · simp only [h1, h2, h3, h4, and_self, not_true_eq_false, not_false_eq_true, if_true, if_false]
          simpa using hQ
      · simp only [h1, h2, h3, and_self, not_true_eq_false, not_false_eq_true, if_true, if_false]
        simpa using hQ
    · simp only [h1, h2, not_false_eq_true, if_true, if_false]
      simpa using hQ
  · simp only [h1, if_false]
    simpa using hQ
theorem c_Mthing_y {s : nm_S} {a b l c : Int32} {T : Nat} (hT : gi s 4001 = nI T) (hl : T < 10) (h : okthing (gi s 4010) a b l c) : Runs 103 [.ref 40, .int a, .int b, .int l, .int c] s (nI T) (si (sa (sa (sa (sa s 41 (upd (ga s 41) T a)) 42 (upd (ga s 42) T b)) 43 (upd (ga s 43) T l)) 44 (upd (ga s 44) T c)) 4001 (nI (T + 1))) := by
  intro Q hQ
  obtain ⟨h1, h2, h3, h4, h5⟩ := h
  have g1 : ¬ nI T = 10 := fun z => by have := (nI_eq' (b := 10) (by omega) (by omega)).mp z; omega
  have g2 : vp_in (nI T) 10 := vp_in' hl (by omega)
  have g3 : (nI T).toNatClampNeg = T := i_nIc (by omega)
  simp only [e_X9_thing, r_X9_thing_0, r_X9_thing_1, r_X9_thing_4, r_X9_thing_7, r_X9_thing_8, r_X9_thing_11, r_X9_thing_13, r_X9_thing_16, r_X9_thing_17, r_X9_thing_18, r_X9_thing_21, r_X9_thing_24, r_X9_thing_27, r_X9_thing_28, r_X9_thing_29, r_X9_thing_32, r_X9_thing_35, r_X9_thing_38, r_X9_thing_39, r_X9_thing_40, r_X9_thing_42, r_X9_thing_45, r_X9_thing_48, r_X9_thing_50, r_X9_thing_51, r_X9_thing_54, r_X9_thing_57, r_X9_thing_60, r_X9_thing_61, r_X9_thing_62, r_X9_thing_63, r_X9_thing_66, r_X9_thing_67, r_X9_thing_70, r_X9_thing_71, r_X9_thing_72, r_X9_thing_73, r_X9_thing_76, r_X9_thing_77, r_X9_thing_80, r_X9_thing_81, r_X9_thing_82, r_X9_thing_83, r_X9_thing_86, r_X9_thing_87, r_X9_thing_90, r_X9_thing_91, r_X9_thing_92, r_X9_thing_93, r_X9_thing_96, r_X9_thing_97, r_X9_thing_100, r_X9_thing_102, r_X9_thing_103, r_X9_thing_104, r_X9_thing_105, r_X9_thing_108, r_X9_thing_109, r_X9_thing_110, r_X9_thing_113, r_X9_thing_114, r_X9_thing_117, r_X9_thing_118, r_X9_thing_119, ob_40, gt_40_0, pt_40_0, gt_40_1, pt_40_1, gt_40_2, pt_40_2, gt_40_3, pt_40_3, gt_40_4, pt_40_4, gt_40_5, pt_40_5, gt_40_6, pt_40_6, gt_40_7, pt_40_7, gt_40_8, pt_40_8, gt_40_9, pt_40_9, gt_40_10, pt_40_10, gt_40_11, gt_40_12, gt_40_13, gt_40_14, gt_40_15, gt_40_16, gt_40_17, gt_40_18, gt_40_19, gt_40_20, gt_40_21, gt_40_22, pt_40_22, gt_40_23, gt_40_24, gt_40_25, gt_40_26, gt_40_27, gt_40_28, gt_40_29, gt_40_30, gt_40_31, gt_40_32, gt_40_33, gt_40_34, pt_40_34, gt_40_35, pt_40_35, gt_40_36, gt_40_37, gt_40_38, gt_40_39, gt_40_40, gt_40_41, pt_40_41, gt_40_42, pt_40_42, gt_40_43, pt_40_43, gt_40_44, pt_40_44, gt_40_45, pt_40_45, gt_40_46, pt_40_46, gt_40_47, ad_41, as_41, ad_42, as_42, ad_43, as_43, ad_44, as_44, List.cons_append, List.nil_append, List.append_nil, if_true, if_false, true_and, and_true, true_or, or_true, nm_b_some, gi_si, ga_sa, gi_sa, gi_sb, gi_sp, ga_si, ga_sb, ga_sp, gb_si, gb_sa, gb_sb, gb_sp, gp_si, gp_sa, gp_sb, gp_sp, if_true, if_false, ↓reduceIte, Nat.reduceEqDiff, c_in, b_0, h1, h2, h3, h4, h5, g1, g2, g3, hT, nI_s, nI_pred, and_self, not_true_eq_false]
  exact hQ
theorem c_Mthing_n {s : nm_S} {a b l c : Int32} {T : Nat} (hT : gi s 4001 = nI T) (hl : T ≤ 10) (h : ¬ okthing (gi s 4010) a b l c ∨ T = 10) : Runs 103 [.ref 40, .int a, .int b, .int l, .int c] s (-1) s := by
  intro Q hQ
  simp only [e_X9_thing, r_X9_thing_0, r_X9_thing_1, r_X9_thing_4, r_X9_thing_7, r_X9_thing_8, r_X9_thing_11, r_X9_thing_13, r_X9_thing_16, r_X9_thing_17, r_X9_thing_18, r_X9_thing_21, r_X9_thing_24, r_X9_thing_27, r_X9_thing_28, r_X9_thing_29, r_X9_thing_32, r_X9_thing_35, r_X9_thing_38, r_X9_thing_39, r_X9_thing_40, r_X9_thing_42, r_X9_thing_45, r_X9_thing_48, r_X9_thing_50, r_X9_thing_51, r_X9_thing_54, r_X9_thing_57, r_X9_thing_60, r_X9_thing_61, ob_40, gt_40_0, pt_40_0, gt_40_1, pt_40_1, gt_40_2, pt_40_2, gt_40_3, pt_40_3, gt_40_4, pt_40_4, gt_40_5, pt_40_5, gt_40_6, pt_40_6, gt_40_7, pt_40_7, gt_40_8, pt_40_8, gt_40_9, pt_40_9, gt_40_10, pt_40_10, gt_40_11, gt_40_12, gt_40_13, gt_40_14, gt_40_15, gt_40_16, gt_40_17, gt_40_18, gt_40_19, gt_40_20, gt_40_21, gt_40_22, pt_40_22, gt_40_23, gt_40_24, gt_40_25, gt_40_26, gt_40_27, gt_40_28, gt_40_29, gt_40_30, gt_40_31, gt_40_32, gt_40_33, gt_40_34, pt_40_34, gt_40_35, pt_40_35, gt_40_36, gt_40_37, gt_40_38, gt_40_39, gt_40_40, gt_40_41, pt_40_41, gt_40_42, pt_40_42, gt_40_43, pt_40_43, gt_40_44, pt_40_44, gt_40_45, pt_40_45, gt_40_46, pt_40_46, gt_40_47, List.cons_append, List.nil_append, List.append_nil, if_true, if_false, true_and, and_true, true_or, or_true, nm_b_some, gi_si, ga_sa, gi_sa, gi_sb, gi_sp, ga_si, ga_sb, ga_sp, gb_si, gb_sa, gb_sb, gb_sp, gp_si, gp_sa, gp_sb, gp_sp, if_true, if_false, ↓reduceIte, Nat.reduceEqDiff, c_in, b_0, hT]
  by_cases h1 : gi s 4010 = 0
  · by_cases hT2 : nI T = 10
    · simp only [h1, hT2, if_true]
      exact hQ
    · have h : ¬ okthing (gi s 4010) a b l c := by
        rcases h with h | h
        · exact h
        · subst h; exact absurd rfl hT2
      unfold okthing at h
      by_cases h2 : 0 ≤ a ∧ a ≤ 2000
      · by_cases h3 : a ≤ b ∧ b ≤ 2000
        · by_cases h4 : 1 ≤ l ∧ l ≤ 40
          · have h5 : ¬ (0 ≤ c ∧ c ≤ 1000) := fun z => h ⟨h1, h2, h3, h4, z⟩
            simp only [h1, hT2, h2, h3, h4, h5, and_self, not_true_eq_false, not_false_eq_true, if_true, if_false]
            exact hQ
          · simp only [h1, hT2, h2, h3, h4, and_self, not_true_eq_false, not_false_eq_true, if_true, if_false]
            exact hQ
        · simp only [h1, hT2, h2, h3, and_self, not_true_eq_false, not_false_eq_true, if_true, if_false]
          exact hQ
      · simp only [h1, hT2, h2, not_false_eq_true, if_true, if_false]
        exact hQ
  · simp only [h1, if_false]
    exact hQ
theorem bit_lt {S T : Nat} (h : S < 2 ^ T) : S.testBit T = false := Nat.testBit_lt_two_pow h
theorem bit_hi {S T : Nat} (h1 : 2 ^ T ≤ S) (h2 : S < 2 ^ T + 2 ^ T) : S.testBit T = true ∧ ∀ i, i < T → S.testBit i = (S - 2 ^ T).testBit i := by
  have h3 : S = 2 ^ T * 1 + (S - 2 ^ T) := by omega
  constructor
  · rw [h3, Nat.testBit_two_pow_mul_add _ (by omega)]
    simp
  · intro i hi
    rw [h3, Nat.testBit_two_pow_mul_add _ (by omega)]
    simp [hi]
theorem st_thing {s : nm_S} (a b l c : Int32) (hB : IvB s) (h : IvG s) : ∃ v s1 s2, Runs 69 [.ref 0, .int a, .int b, .int l, .int c] s v s1 ∧ Runs 103 [.ref 40, .int a, .int b, .int l, .int c] s1 v s2 ∧ Fr [1105, 104, 4001] [2, 3, 4, 5, 41, 42, 43, 44] s s2 ∧ IvG s2 ∧ Frgt s s2 := by
  obtain ⟨T, hT, h1, h2, h3, h4⟩ := h
  have hz : gi s 11 = gi s 4010 := hB.1.2.2.1
  by_cases hk : okthing (gi s 11) a b l c
  · by_cases hl : T < 10
    · have r1 := c_thing_y h1 hl hk
      have hpc := gst_is (2 ^ T) l c (ga s 4) (ga s 5)
      have hlen : lpf (gst (2 ^ T) l c) (2 ^ T) 0 (ga s 4, ga s 5) = lpf (gst (2 ^ T) l c) (2 ^ T) 0 (ga s 4, ga s 5) := rfl
      generalize lpf (gst (2 ^ T) l c) (2 ^ T) 0 (ga s 4, ga s 5) = A at r1 hpc
      generalize hs1 : si (sa (sa (sa (sa (si s 1105 0) 2 (upd (ga s 2) T a)) 3 (upd (ga s 3) T b)) 4 A.1) 5 A.2) 104 (nI (T + 1)) = s1 at r1
      have r2 := c_Mthing_y (s := s1) (a := a) (b := b) (l := l) (c := c) (T := T) (by rw [← hs1]; simp only [gi_si, ga_sa, gi_sa, gi_sb, gi_sp, ga_si, ga_sb, ga_sp, gb_si, gb_sa, gb_sb, gb_sp, gp_si, gp_sa, gp_sb, gp_sp, if_true, if_false, ↓reduceIte, Nat.reduceEqDiff]; exact h2) hl (by rw [← hs1]; simp only [gi_si, ga_sa, gi_sa, gi_sb, gi_sp, ga_si, ga_sb, ga_sp, gb_si, gb_sa, gb_sb, gb_sp, gp_si, gp_sa, gp_sb, gp_sp, if_true, if_false, ↓reduceIte, Nat.reduceEqDiff]; rw [← hz]; exact hk)
      refine ⟨_, _, _, r1, r2, ?_, ?_, Or.inr ⟨hk.1, by rw [← hs1]; simp only [gi_si, ga_sa, gi_sa, gi_sb, gi_sp, ga_si, ga_sb, ga_sp, gb_si, gb_sa, gb_sb, gb_sp, gp_si, gp_sa, gp_sb, gp_sp, if_true, if_false, ↓reduceIte, Nat.reduceEqDiff]⟩⟩
      · rw [← hs1]
        exact (((((((((((Fr.rf.si (by decide)).sa (by decide)).sa (by decide)).sa (by decide)).sa (by decide)).si (by decide)).sa (by decide)).sa (by decide)).sa (by decide)).sa (by decide)).si (by decide))
      · obtain ⟨k1, k2, k3, k4, k5⟩ := hk
        rw [i_le, i_le, i_l0, i_l2000] at k2
        rw [i_le, i_le, i_l2000] at k3
        rw [i_le, i_le, i_l1, i_l40] at k4
        rw [i_le, i_le, i_l0, i_l1000] at k5
        have el : l = nI l.toInt.toNat := i_of (by omega)
        have ec : c = nI c.toInt.toNat := i_of (by omega)
        rw [← hs1]
        refine ⟨T + 1, by omega, ?_, ?_, ?_, ?_⟩
        · simp only [gi_si, ga_sa, gi_sa, gi_sb, gi_sp, ga_si, ga_sb, ga_sp, gb_si, gb_sa, gb_sb, gb_sp, gp_si, gp_sa, gp_sb, gp_sp, if_true, if_false, ↓reduceIte, Nat.reduceEqDiff]
        · simp only [gi_si, ga_sa, gi_sa, gi_sb, gi_sp, ga_si, ga_sb, ga_sp, gb_si, gb_sa, gb_sb, gb_sp, gp_si, gp_sa, gp_sb, gp_sp, if_true, if_false, ↓reduceIte, Nat.reduceEqDiff]
        · intro i hi
          simp only [gi_si, ga_sa, gi_sa, gi_sb, gi_sp, ga_si, ga_sb, ga_sp, gb_si, gb_sa, gb_sb, gb_sp, gp_si, gp_sa, gp_sb, gp_sp, if_true, if_false, ↓reduceIte, Nat.reduceEqDiff]
          by_cases hiT : i = T
          · subst hiT
            simp only [upd_at]
            exact ⟨⟨trivial, trivial⟩, ⟨k2.1, k3.1, k3.2⟩, ⟨l.toInt.toNat, by omega, by omega, el⟩, ⟨c.toInt.toNat, by omega, ec⟩⟩
          · simp only [upd_ne hiT]
            exact h3 i (by omega)
        · intro S hS
          simp only [gi_si, ga_sa, gi_sa, gi_sb, gi_sp, ga_si, ga_sb, ga_sp, gb_si, gb_sa, gb_sb, gb_sp, gp_si, gp_sa, gp_sb, gp_sp, if_true, if_false, ↓reduceIte, Nat.reduceEqDiff]
          rw [Nat.pow_succ] at hS
          rw [(hpc S).1, (hpc S).2, sumS_s, sumS_s]
          simp only [upd_at]
          have cf : ∀ (g : Nat → Int32) (x : Int32) (S' : Nat), (∀ i, i < T → S.testBit i = S'.testBit i) → sumS (fun i => (upd g T x i).toNatClampNeg) T S = sumS (fun i => (g i).toNatClampNeg) T S' := fun g x S' hb => sumS_cong (fun i hi => ⟨by rw [upd_ne (by omega)], hb i hi⟩)
          by_cases hc : 2 ^ T ≤ S ∧ S < 2 ^ T + 2 ^ T
          · obtain ⟨b1, b2⟩ := bit_hi hc.1 hc.2
            obtain ⟨q1, q2⟩ := h4 (S - 2 ^ T) (by omega)
            rw [if_pos hc, if_pos hc, if_pos b1, if_pos b1, cf _ _ _ b2, cf _ _ _ b2, q1, q2]
            constructor
            · rw [el, nI_add, i_nIc (by omega)]
            · rw [ec, nI_add, i_nIc (by omega)]
          · obtain ⟨q1, q2⟩ := h4 S (by omega)
            have b1 : S.testBit T = false := bit_lt (by omega)
            rw [if_neg hc, if_neg hc, b1, if_neg (by decide), if_neg (by decide), cf _ _ S (fun _ _ => rfl), cf _ _ S (fun _ _ => rfl), q1, q2]
            exact ⟨rfl, rfl⟩
    · have hT10 : T = 10 := by omega
      subst hT10
      exact ⟨_, _, _, c_thing_f (by rw [h1]; decide), c_Mthing_n h2 hT (Or.inr rfl), Fr.rf, ⟨10, hT, h1, h2, h3, h4⟩, Or.inl rfl⟩
  · exact ⟨_, _, _, c_thing_n hk, c_Mthing_n h2 hT (Or.inl (by rw [← hz]; exact hk)), Fr.rf, ⟨T, hT, h1, h2, h3, h4⟩, Or.inl rfl⟩
