/-! The five commands on the road. -/
/-- what was decided: where each THING goes -/
def IvD (s : nm_S) : Prop := gi s 11 = 1 → ∃ T C : Nat, T ≤ 10 ∧ C ≤ 4 ∧ gi s 4001 = nI T ∧ gi s 4002 = nI C ∧ ∀ i, i < T → cofE (gb s) (nI i) = ga s 49 i ∧ (ga s 49 i = -1 ∨ ∃ c, c < C ∧ ga s 49 i = nI c)
theorem nIne {j : Nat} (h : j < 2147483648) : ¬ nI j = -1 := fun z => by
  rw [i_eq, i_nI h, i_lm1] at z
  omega
theorem m1_no {n : Nat} (hn : n < 2147483648) : ¬ ((0 : Int32) ≤ -1 ∧ (-1 : Int32) ≤ nI n - 1) := by
  rw [i_le, i_l0, i_lm1]
  omega
theorem idx_no {x : Int32} {n : Nat} (hn : n < 2147483648) (h : ¬ (0 ≤ x ∧ x ≤ nI n - 1)) : True := trivial
def oklate (z c m : Int32) (C : Nat) : Prop := z = 1 ∧ (0 ≤ c ∧ c ≤ nI C - 1) ∧ (1 ≤ m ∧ m ≤ 200)
theorem c_late_n {s : nm_S} {c m : Int32} {C : Nat} (hz : gi s 11 = 0 ∨ gi s 11 = 1) (hC : gi s 604 = nI C) (h : ¬ oklate (gi s 11) c m C) : Runs 75 [.ref 0, .int c, .int m] s 0 s := by
  intro Q hQ
  simp only [e_X8_late, r_X8_late_0, r_X8_late_1, r_X8_late_4, r_X8_late_7, r_X8_late_8, r_X8_late_9, r_X8_late_12, r_X8_late_15, r_X8_late_16, r_X8_late_17, r_X8_late_20, r_X8_late_23, r_X8_late_26, r_X8_late_27, r_X8_late_28, r_X8_late_29, r_X8_late_32, r_X8_late_33, r_X8_late_34, r_X8_late_35, r_X8_late_38, r_X8_late_41, ob_0, gt_0_0, gt_0_1, gt_0_2, gt_0_3, gt_0_4, gt_0_5, gt_0_6, gt_0_7, gt_0_8, gt_0_9, pt_0_9, gt_0_10, pt_0_10, gt_0_11, pt_0_11, List.cons_append, List.nil_append, List.append_nil, if_true, if_false, true_and, and_true, true_or, or_true, nm_b_some, c_isConvoy, c_within, b_0, hC]
  unfold oklate at h
  rcases hz with h1 | h1
  · simp only [h1, if_true]
    exact hQ
  · have h10 : ¬ (1 : Int32) = 0 := by decide
    simp only [h1, h10, if_false]
    by_cases h2 : 0 ≤ c ∧ c ≤ nI C - 1
    · have h3 : ¬ (1 ≤ m ∧ m ≤ 200) := fun z => h ⟨h1, h2, z⟩
      simp only [h2, h3, and_self, not_true_eq_false, not_false_eq_true, if_true, if_false]
      exact hQ
    · simp only [h2, not_false_eq_true, if_true]
      exact hQ
theorem c_Mlate_n {s : nm_S} {c m : Int32} {C : Nat} (hz : gi s 4010 = 0 ∨ gi s 4010 = 1) (hC : gi s 4002 = nI C) (h : ¬ oklate (gi s 4010) c m C) : Runs 115 [.ref 40, .int c, .int m] s 0 s := by
  intro Q hQ
  simp only [e_X9_late, r_X9_late_0, r_X9_late_1, r_X9_late_4, r_X9_late_7, r_X9_late_8, r_X9_late_9, r_X9_late_10, r_X9_late_13, r_X9_late_14, r_X9_late_15, r_X9_late_18, r_X9_late_21, r_X9_late_22, r_X9_late_23, r_X9_late_26, r_X9_late_29, r_X9_late_32, r_X9_late_33, r_X9_late_34, r_X9_late_35, r_X9_late_38, r_X9_late_41, r_X9_late_42, r_X9_late_45, r_X9_late_48, r_X9_late_49, r_X9_late_52, r_X9_late_54, r_X9_late_57, r_X9_late_58, ob_40, gt_40_0, pt_40_0, gt_40_1, pt_40_1, gt_40_2, pt_40_2, gt_40_3, pt_40_3, gt_40_4, pt_40_4, gt_40_5, pt_40_5, gt_40_6, pt_40_6, gt_40_7, pt_40_7, gt_40_8, pt_40_8, gt_40_9, pt_40_9, gt_40_10, pt_40_10, gt_40_11, gt_40_12, gt_40_13, gt_40_14, gt_40_15, gt_40_16, gt_40_17, gt_40_18, gt_40_19, gt_40_20, gt_40_21, gt_40_22, pt_40_22, gt_40_23, gt_40_24, gt_40_25, gt_40_26, gt_40_27, gt_40_28, gt_40_29, gt_40_30, gt_40_31, gt_40_32, gt_40_33, gt_40_34, pt_40_34, gt_40_35, pt_40_35, gt_40_36, gt_40_37, gt_40_38, gt_40_39, gt_40_40, gt_40_41, pt_40_41, gt_40_42, pt_40_42, gt_40_43, pt_40_43, gt_40_44, pt_40_44, gt_40_45, pt_40_45, gt_40_46, pt_40_46, gt_40_47, List.cons_append, List.nil_append, List.append_nil, if_true, if_false, true_and, and_true, true_or, or_true, nm_b_some, c_in, b_0, hC]
  unfold oklate at h
  rcases hz with h1 | h1
  · simp only [h1, if_true]
    exact hQ
  · have h10 : ¬ (1 : Int32) = 0 := by decide
    simp only [h1, h10, if_false]
    by_cases h2 : 0 ≤ c ∧ c ≤ nI C - 1
    · have h3 : ¬ (1 ≤ m ∧ m ≤ 200) := fun z => h ⟨h1, h2, z⟩
      simp only [h2, h3, and_self, not_true_eq_false, not_false_eq_true, if_true, if_false]
      exact hQ
    · simp only [h2, not_false_eq_true, if_true]
      exact hQ
theorem st_late {s : nm_S} (x m : Int32) (hB : IvB s) (hC : IvC s) (hL : IvL s) : ∃ v s1 s2, Runs 75 [.ref 0, .int x, .int m] s v s1 ∧ Runs 115 [.ref 40, .int x, .int m] s1 v s2 ∧ Fr [1407, 4003] [15, 16, 17, 18, 19, 20, 52, 53, 54] s s2 ∧ IvL s2 := by
  obtain ⟨n, C, o, hT⟩ := TrH.of hB hC hL
  have hT0 := hT
  obtain ⟨h1, h2, ⟨h3, h4⟩, ⟨h5, h6⟩, ⟨h7, h8⟩, h9, h10, h11, h12⟩ := hT
  have hz : gi s 11 = gi s 4010 := hB.1.2.2.1
  have hzz := hB.2.2.1
  have hnow : gi s 9 = gi s 4000 := hB.1.1
  by_cases hk : oklate (gi s 11) x m C
  · obtain ⟨k1, k2, k3⟩ := hk
    obtain ⟨c, hc, rfl⟩ := idx_of (by omega) k2
    obtain ⟨F, G, H, f1, f2, f3⟩ := hT0.fore (gi s 9)
    have h01 : ¬ (1 : Int32) = 0 := by decide
    have g3 : vp_in (nI c) 4 := vp_in' (by omega) (by omega)
    have g4 : (nI c).toNatClampNeg = c := i_nIc (by omega)
    have e11 : gi s 11 = 1 := k1
    have em : gi s 4010 = 1 := by rw [← hz]; exact k1
    by_cases hn60 : n < 60
    · have u1 : nI n < 60 := (nI_lt' (b := 60) (by omega) (by omega)).mpr hn60
      have u2 : ¬ nI n = 60 := fun z => by have := (nI_eq' (b := 60) (by omega) (by omega)).mp z; omega
      have u3 : vp_in (nI n) 60 := vp_in' (by omega) (by omega)
      have u4 : (nI n).toNatClampNeg = n := i_nIc (by omega)
      by_cases hlv : gi s 9 < LV s n c (gi s 9)
      · generalize hs1 : si (sa (sa (sa (sa (sa (sa s 15 F) 16 G) 17 H) 18 (upd (ga s 18) n (nI c))) 19 (upd (ga s 19) n m)) 20 (upd (ga s 20) n (gi s 9))) 1407 (nI (n + 1)) = s1
        have r1 : Runs 75 [.ref 0, .int (nI c), .int m] s 1 s1 := by
          intro Q hQ
          simp only [e_X8_late, r_X8_late_0, r_X8_late_1, r_X8_late_4, r_X8_late_7, r_X8_late_8, r_X8_late_9, r_X8_late_12, r_X8_late_15, r_X8_late_16, r_X8_late_17, r_X8_late_20, r_X8_late_23, r_X8_late_26, r_X8_late_27, r_X8_late_28, r_X8_late_29, r_X8_late_32, r_X8_late_33, r_X8_late_34, r_X8_late_35, r_X8_late_38, r_X8_late_41, e_X7_delay, r_X7_delay_0, r_X7_delay_1, r_X7_delay_2, ob_0, gt_0_0, gt_0_1, gt_0_2, gt_0_3, gt_0_4, gt_0_5, gt_0_6, gt_0_7, gt_0_8, gt_0_9, pt_0_9, gt_0_10, pt_0_10, gt_0_11, pt_0_11, ob_14, gt_14_0, gt_14_1, gt_14_2, gt_14_3, gt_14_4, gt_14_5, gt_14_6, gt_14_7, pt_14_7, List.cons_append, List.nil_append, List.append_nil, if_true, if_false, true_and, and_true, true_or, or_true, nm_b_some, c_isConvoy, c_within, b_0, h3, k1, k2, k3, h01, and_self, not_true_eq_false]
          refine f3 56 _ ?_
          simp only [r_X7_delay_5, r_X7_delay_6, r_X7_delay_9, r_X7_delay_11, r_X7_delay_14, r_X7_delay_15, r_X7_delay_18, r_X7_delay_19, r_X7_delay_20, r_X7_delay_21, r_X7_delay_24, r_X7_delay_25, r_X7_delay_26, r_X7_delay_27, r_X7_delay_30, r_X7_delay_31, r_X7_delay_34, r_X7_delay_35, r_X7_delay_36, r_X7_delay_37, r_X7_delay_40, r_X7_delay_41, r_X7_delay_44, r_X7_delay_45, r_X7_delay_46, r_X7_delay_47, r_X7_delay_50, r_X7_delay_51, r_X7_delay_54, r_X7_delay_55, r_X7_delay_56, r_X7_delay_57, r_X7_delay_58, r_X7_delay_61, r_X7_delay_62, r_X7_delay_63, r_X7_delay_66, r_X7_delay_67, r_X8_late_41, ob_14, gt_14_0, gt_14_1, gt_14_2, gt_14_3, gt_14_4, gt_14_5, gt_14_6, gt_14_7, pt_14_7, ad_15, as_15, ad_18, as_18, ad_19, as_19, ad_20, as_20, List.cons_append, List.nil_append, List.append_nil, if_true, if_false, true_and, and_true, true_or, or_true, nm_b_some, gi_si, ga_sa, gi_sa, gi_sb, gi_sp, ga_si, ga_sb, ga_sp, gb_si, gb_sa, gb_sb, gb_sp, gp_si, gp_sa, gp_sb, gp_sp, if_true, if_false, ↓reduceIte, Nat.reduceEqDiff, h5, g3, g4, u1, u3, u4, f1 c hc, hlv, nI_s]
          rw [← hs1] at hQ
          exact hQ
        have r2 : Runs 115 [.ref 40, .int (nI c), .int m] s1 1 (si (sa (sa (sa s1 52 (upd (ga s 52) n (nI c))) 53 (upd (ga s 53) n m)) 54 (upd (ga s 54) n (gi s 4000))) 4003 (nI (n + 1))) := by
          intro Q hQ
          have v1 : gi s1 4010 = 1 := by rw [← hs1]; simp only [gi_si, ga_sa, gi_sa, gi_sb, gi_sp, ga_si, ga_sb, ga_sp, gb_si, gb_sa, gb_sb, gb_sp, gp_si, gp_sa, gp_sb, gp_sp, if_true, if_false, ↓reduceIte, Nat.reduceEqDiff]; exact em
          have v2 : gi s1 4002 = nI C := by rw [← hs1]; simp only [gi_si, ga_sa, gi_sa, gi_sb, gi_sp, ga_si, ga_sb, ga_sp, gb_si, gb_sa, gb_sb, gb_sp, gp_si, gp_sa, gp_sb, gp_sp, if_true, if_false, ↓reduceIte, Nat.reduceEqDiff]; exact h4
          have v3 : gi s1 4003 = nI n := by rw [← hs1]; simp only [gi_si, ga_sa, gi_sa, gi_sb, gi_sp, ga_si, ga_sb, ga_sp, gb_si, gb_sa, gb_sb, gb_sp, gp_si, gp_sa, gp_sb, gp_sp, if_true, if_false, ↓reduceIte, Nat.reduceEqDiff]; exact h6
          have v4 : gi s1 4000 = gi s 4000 := by rw [← hs1]; simp only [gi_si, ga_sa, gi_sa, gi_sb, gi_sp, ga_si, ga_sb, ga_sp, gb_si, gb_sa, gb_sb, gb_sp, gp_si, gp_sa, gp_sb, gp_sp, if_true, if_false, ↓reduceIte, Nat.reduceEqDiff]
          have v5 : ga s1 45 = ga s 45 ∧ ga s1 52 = ga s 52 ∧ ga s1 53 = ga s 53 ∧ ga s1 54 = ga s 54 := by rw [← hs1]; simp only [gi_si, ga_sa, gi_sa, gi_sb, gi_sp, ga_si, ga_sb, ga_sp, gb_si, gb_sa, gb_sb, gb_sp, gp_si, gp_sa, gp_sb, gp_sp, if_true, if_false, ↓reduceIte, Nat.reduceEqDiff]; exact ⟨trivial, trivial, trivial, trivial⟩
          have v6 : gi s 4000 < lvM (ga s 45) (ga s 52) (ga s 53) (ga s 54) n c (gi s 4000) := by rw [← hnow]; exact hlv
          simp only [e_X9_late, r_X9_late_0, r_X9_late_1, r_X9_late_4, r_X9_late_7, r_X9_late_8, r_X9_late_9, r_X9_late_10, r_X9_late_13, r_X9_late_14, r_X9_late_15, r_X9_late_18, r_X9_late_21, r_X9_late_22, r_X9_late_23, r_X9_late_26, r_X9_late_29, r_X9_late_32, r_X9_late_33, r_X9_late_34, r_X9_late_35, r_X9_late_38, r_X9_late_41, r_X9_late_42, r_X9_late_45, r_X9_late_48, r_X9_late_49, r_X9_late_52, r_X9_late_54, r_X9_late_57, r_X9_late_58, r_X9_late_59, r_X9_late_60, r_X9_late_63, r_X9_late_64, r_X9_late_67, r_X9_late_68, r_X9_late_69, r_X9_late_70, r_X9_late_73, r_X9_late_74, r_X9_late_77, r_X9_late_78, r_X9_late_79, r_X9_late_80, r_X9_late_83, r_X9_late_84, r_X9_late_87, r_X9_late_88, r_X9_late_91, r_X9_late_92, r_X9_late_93, r_X9_late_94, r_X9_late_97, r_X9_late_98, r_X9_late_99, r_X9_late_102, r_X9_late_103, ob_40, gt_40_0, pt_40_0, gt_40_1, pt_40_1, gt_40_2, pt_40_2, gt_40_3, pt_40_3, gt_40_4, pt_40_4, gt_40_5, pt_40_5, gt_40_6, pt_40_6, gt_40_7, pt_40_7, gt_40_8, pt_40_8, gt_40_9, pt_40_9, gt_40_10, pt_40_10, gt_40_11, gt_40_12, gt_40_13, gt_40_14, gt_40_15, gt_40_16, gt_40_17, gt_40_18, gt_40_19, gt_40_20, gt_40_21, gt_40_22, pt_40_22, gt_40_23, gt_40_24, gt_40_25, gt_40_26, gt_40_27, gt_40_28, gt_40_29, gt_40_30, gt_40_31, gt_40_32, gt_40_33, gt_40_34, pt_40_34, gt_40_35, pt_40_35, gt_40_36, gt_40_37, gt_40_38, gt_40_39, gt_40_40, gt_40_41, pt_40_41, gt_40_42, pt_40_42, gt_40_43, pt_40_43, gt_40_44, pt_40_44, gt_40_45, pt_40_45, gt_40_46, pt_40_46, gt_40_47, ad_52, as_52, ad_53, as_53, ad_54, as_54, List.cons_append, List.nil_append, List.append_nil, if_true, if_false, true_and, and_true, true_or, or_true, nm_b_some, gi_si, ga_sa, gi_sa, gi_sb, gi_sp, ga_si, ga_sb, ga_sp, gb_si, gb_sa, gb_sb, gb_sp, gp_si, gp_sa, gp_sb, gp_sp, if_true, if_false, ↓reduceIte, Nat.reduceEqDiff, c_in, b_0, v1, v2, v3, v4, v5.1, v5.2.1, v5.2.2.1, v5.2.2.2, c_Mleaves h1 (show c < 4 by omega) v3, k2, k3, v6, h01, u2, u3, u4, and_self, not_true_eq_false, nI_s]
          exact hQ
        refine ⟨_, _, _, r1, r2, ?_, ?_⟩
        · rw [← hs1]
          exact ((((((((((Fr.rf.sa (by decide)).sa (by decide)).sa (by decide)).sa (by decide)).sa (by decide)).sa (by decide)).si (by decide)).sa (by decide)).sa (by decide)).sa (by decide)).si (by decide)
        · rw [← hs1]
          refine ⟨n + 1, C, by omega, ?_, ?_, ?_, h2, ?_, ?_⟩
          · simp only [gi_si, ga_sa, gi_sa, gi_sb, gi_sp, ga_si, ga_sb, ga_sp, gb_si, gb_sa, gb_sb, gb_sp, gp_si, gp_sa, gp_sb, gp_sp, if_true, if_false, ↓reduceIte, Nat.reduceEqDiff]
          · simp only [gi_si, ga_sa, gi_sa, gi_sb, gi_sp, ga_si, ga_sb, ga_sp, gb_si, gb_sa, gb_sb, gb_sp, gp_si, gp_sa, gp_sb, gp_sp, if_true, if_false, ↓reduceIte, Nat.reduceEqDiff]
          · simp only [gi_si, ga_sa, gi_sa, gi_sb, gi_sp, ga_si, ga_sb, ga_sp, gb_si, gb_sa, gb_sb, gb_sp, gp_si, gp_sa, gp_sb, gp_sp, if_true, if_false, ↓reduceIte, Nat.reduceEqDiff]; exact h4
          · simp only [gi_si, ga_sa, gi_sa, gi_sb, gi_sp, ga_si, ga_sb, ga_sp, gb_si, gb_sa, gb_sb, gb_sp, gp_si, gp_sa, gp_sb, gp_sp, if_true, if_false, ↓reduceIte, Nat.reduceEqDiff]
            rw [k1]
            intro z
            exact absurd z h01
          · intro k hk
            simp only [gi_si, ga_sa, gi_sa, gi_sb, gi_sp, ga_si, ga_sb, ga_sp, gb_si, gb_sa, gb_sb, gb_sp, gp_si, gp_sa, gp_sb, gp_sp, if_true, if_false, ↓reduceIte, Nat.reduceEqDiff]
            by_cases hkn : k = n
            · subst hkn
              simp only [upd_at]
              rw [i_le, i_le, i_l1, i_l200] at k3
              exact ⟨⟨trivial, trivial, hnow⟩, ⟨c, hc, rfl⟩, ⟨m.toInt.toNat, by omega, by omega, i_of (by omega)⟩⟩
            · simp only [upd_ne hkn]
              exact h11 k (by omega)
      · generalize hs1 : sa (sa (sa s 15 F) 16 G) 17 H = s1
        have r1 : Runs 75 [.ref 0, .int (nI c), .int m] s 0 s1 := by
          intro Q hQ
          simp only [e_X8_late, r_X8_late_0, r_X8_late_1, r_X8_late_4, r_X8_late_7, r_X8_late_8, r_X8_late_9, r_X8_late_12, r_X8_late_15, r_X8_late_16, r_X8_late_17, r_X8_late_20, r_X8_late_23, r_X8_late_26, r_X8_late_27, r_X8_late_28, r_X8_late_29, r_X8_late_32, r_X8_late_33, r_X8_late_34, r_X8_late_35, r_X8_late_38, r_X8_late_41, e_X7_delay, r_X7_delay_0, r_X7_delay_1, r_X7_delay_2, ob_0, gt_0_0, gt_0_1, gt_0_2, gt_0_3, gt_0_4, gt_0_5, gt_0_6, gt_0_7, gt_0_8, gt_0_9, pt_0_9, gt_0_10, pt_0_10, gt_0_11, pt_0_11, ob_14, gt_14_0, gt_14_1, gt_14_2, gt_14_3, gt_14_4, gt_14_5, gt_14_6, gt_14_7, pt_14_7, List.cons_append, List.nil_append, List.append_nil, if_true, if_false, true_and, and_true, true_or, or_true, nm_b_some, c_isConvoy, c_within, b_0, h3, k1, k2, k3, h01, and_self, not_true_eq_false]
          refine f3 56 _ ?_
          simp only [r_X7_delay_5, r_X7_delay_6, r_X7_delay_9, r_X7_delay_11, r_X7_delay_14, r_X7_delay_15, r_X7_delay_18, r_X7_delay_19, r_X7_delay_20, r_X7_delay_21, r_X7_delay_24, r_X7_delay_25, r_X7_delay_26, r_X7_delay_27, r_X7_delay_30, r_X7_delay_31, r_X7_delay_34, r_X7_delay_35, r_X7_delay_36, r_X7_delay_37, r_X7_delay_40, r_X7_delay_41, r_X7_delay_44, r_X7_delay_45, r_X7_delay_46, r_X7_delay_47, r_X7_delay_50, r_X7_delay_51, r_X7_delay_54, r_X7_delay_55, r_X7_delay_56, r_X7_delay_57, r_X7_delay_58, r_X7_delay_61, r_X7_delay_62, r_X7_delay_63, r_X7_delay_66, r_X7_delay_67, r_X8_late_41, ob_14, gt_14_0, gt_14_1, gt_14_2, gt_14_3, gt_14_4, gt_14_5, gt_14_6, gt_14_7, pt_14_7, ad_15, as_15, ad_18, as_18, ad_19, as_19, ad_20, as_20, List.cons_append, List.nil_append, List.append_nil, if_true, if_false, true_and, and_true, true_or, or_true, nm_b_some, gi_si, ga_sa, gi_sa, gi_sb, gi_sp, ga_si, ga_sb, ga_sp, gb_si, gb_sa, gb_sb, gb_sp, gp_si, gp_sa, gp_sb, gp_sp, if_true, if_false, ↓reduceIte, Nat.reduceEqDiff, h5, g3, g4, u1, u3, u4, f1 c hc, hlv, nI_s]
          rw [← hs1] at hQ
          exact hQ
        have r2 : Runs 115 [.ref 40, .int (nI c), .int m] s1 0 s1 := by
          intro Q hQ
          have v1 : gi s1 4010 = 1 := by rw [← hs1]; simp only [gi_si, ga_sa, gi_sa, gi_sb, gi_sp, ga_si, ga_sb, ga_sp, gb_si, gb_sa, gb_sb, gb_sp, gp_si, gp_sa, gp_sb, gp_sp, if_true, if_false, ↓reduceIte, Nat.reduceEqDiff]; exact em
          have v2 : gi s1 4002 = nI C := by rw [← hs1]; simp only [gi_si, ga_sa, gi_sa, gi_sb, gi_sp, ga_si, ga_sb, ga_sp, gb_si, gb_sa, gb_sb, gb_sp, gp_si, gp_sa, gp_sb, gp_sp, if_true, if_false, ↓reduceIte, Nat.reduceEqDiff]; exact h4
          have v3 : gi s1 4003 = nI n := by rw [← hs1]; simp only [gi_si, ga_sa, gi_sa, gi_sb, gi_sp, ga_si, ga_sb, ga_sp, gb_si, gb_sa, gb_sb, gb_sp, gp_si, gp_sa, gp_sb, gp_sp, if_true, if_false, ↓reduceIte, Nat.reduceEqDiff]; exact h6
          have v4 : gi s1 4000 = gi s 4000 := by rw [← hs1]; simp only [gi_si, ga_sa, gi_sa, gi_sb, gi_sp, ga_si, ga_sb, ga_sp, gb_si, gb_sa, gb_sb, gb_sp, gp_si, gp_sa, gp_sb, gp_sp, if_true, if_false, ↓reduceIte, Nat.reduceEqDiff]
          have v5 : ga s1 45 = ga s 45 ∧ ga s1 52 = ga s 52 ∧ ga s1 53 = ga s 53 ∧ ga s1 54 = ga s 54 := by rw [← hs1]; simp only [gi_si, ga_sa, gi_sa, gi_sb, gi_sp, ga_si, ga_sb, ga_sp, gb_si, gb_sa, gb_sb, gb_sp, gp_si, gp_sa, gp_sb, gp_sp, if_true, if_false, ↓reduceIte, Nat.reduceEqDiff]; exact ⟨trivial, trivial, trivial, trivial⟩
          have v6 : ¬ gi s 4000 < lvM (ga s 45) (ga s 52) (ga s 53) (ga s 54) n c (gi s 4000) := by rw [← hnow]; exact hlv
          simp only [e_X9_late, r_X9_late_0, r_X9_late_1, r_X9_late_4, r_X9_late_7, r_X9_late_8, r_X9_late_9, r_X9_late_10, r_X9_late_13, r_X9_late_14, r_X9_late_15, r_X9_late_18, r_X9_late_21, r_X9_late_22, r_X9_late_23, r_X9_late_26, r_X9_late_29, r_X9_late_32, r_X9_late_33, r_X9_late_34, r_X9_late_35, r_X9_late_38, r_X9_late_41, r_X9_late_42, r_X9_late_45, r_X9_late_48, r_X9_late_49, r_X9_late_52, r_X9_late_54, r_X9_late_57, r_X9_late_58, ob_40, gt_40_0, pt_40_0, gt_40_1, pt_40_1, gt_40_2, pt_40_2, gt_40_3, pt_40_3, gt_40_4, pt_40_4, gt_40_5, pt_40_5, gt_40_6, pt_40_6, gt_40_7, pt_40_7, gt_40_8, pt_40_8, gt_40_9, pt_40_9, gt_40_10, pt_40_10, gt_40_11, gt_40_12, gt_40_13, gt_40_14, gt_40_15, gt_40_16, gt_40_17, gt_40_18, gt_40_19, gt_40_20, gt_40_21, gt_40_22, pt_40_22, gt_40_23, gt_40_24, gt_40_25, gt_40_26, gt_40_27, gt_40_28, gt_40_29, gt_40_30, gt_40_31, gt_40_32, gt_40_33, gt_40_34, pt_40_34, gt_40_35, pt_40_35, gt_40_36, gt_40_37, gt_40_38, gt_40_39, gt_40_40, gt_40_41, pt_40_41, gt_40_42, pt_40_42, gt_40_43, pt_40_43, gt_40_44, pt_40_44, gt_40_45, pt_40_45, gt_40_46, pt_40_46, gt_40_47, List.cons_append, List.nil_append, List.append_nil, if_true, if_false, true_and, and_true, true_or, or_true, nm_b_some, gi_si, ga_sa, gi_sa, gi_sb, gi_sp, ga_si, ga_sb, ga_sp, gb_si, gb_sa, gb_sb, gb_sp, gp_si, gp_sa, gp_sb, gp_sp, if_true, if_false, ↓reduceIte, Nat.reduceEqDiff, c_in, b_0, v1, v2, v3, v4, v5.1, v5.2.1, v5.2.2.1, v5.2.2.2, c_Mleaves h1 (show c < 4 by omega) v3, k2, k3, v6, h01, and_self, not_true_eq_false]
          exact hQ
        refine ⟨_, _, _, r1, r2, ?_, ?_⟩
        · rw [← hs1]
          exact ((Fr.rf.sa (by decide)).sa (by decide)).sa (by decide)
        · rw [← hs1]
          exact IvL_reads s _ (fun k hk => by simp only [gi_si, ga_sa, gi_sa, gi_sb, gi_sp, ga_si, ga_sb, ga_sp, gb_si, gb_sa, gb_sb, gb_sp, gp_si, gp_sa, gp_sb, gp_sp, if_true, if_false, ↓reduceIte, Nat.reduceEqDiff]) (fun c hc => by simp at hc; rcases hc with rfl | rfl | rfl | rfl | rfl | rfl <;> simp only [gi_si, ga_sa, gi_sa, gi_sb, gi_sp, ga_si, ga_sb, ga_sp, gb_si, gb_sa, gb_sb, gb_sp, gp_si, gp_sa, gp_sb, gp_sp, if_true, if_false, ↓reduceIte, Nat.reduceEqDiff]) hL
    · have u1 : ¬ nI n < 60 := fun z => hn60 ((nI_lt' (b := 60) (by omega) (by omega)).mp z)
      have u2 : nI n = 60 := by rw [show n = 60 by omega]; rfl
      generalize hs1 : sa (sa (sa s 15 F) 16 G) 17 H = s1
      have r1 : Runs 75 [.ref 0, .int (nI c), .int m] s 0 s1 := by
        intro Q hQ
        simp only [e_X8_late, r_X8_late_0, r_X8_late_1, r_X8_late_4, r_X8_late_7, r_X8_late_8, r_X8_late_9, r_X8_late_12, r_X8_late_15, r_X8_late_16, r_X8_late_17, r_X8_late_20, r_X8_late_23, r_X8_late_26, r_X8_late_27, r_X8_late_28, r_X8_late_29, r_X8_late_32, r_X8_late_33, r_X8_late_34, r_X8_late_35, r_X8_late_38, r_X8_late_41, e_X7_delay, r_X7_delay_0, r_X7_delay_1, r_X7_delay_2, ob_0, gt_0_0, gt_0_1, gt_0_2, gt_0_3, gt_0_4, gt_0_5, gt_0_6, gt_0_7, gt_0_8, gt_0_9, pt_0_9, gt_0_10, pt_0_10, gt_0_11, pt_0_11, ob_14, gt_14_0, gt_14_1, gt_14_2, gt_14_3, gt_14_4, gt_14_5, gt_14_6, gt_14_7, pt_14_7, List.cons_append, List.nil_append, List.append_nil, if_true, if_false, true_and, and_true, true_or, or_true, nm_b_some, c_isConvoy, c_within, b_0, h3, k1, k2, k3, h01, and_self, not_true_eq_false]
        refine f3 56 _ ?_
        simp only [r_X7_delay_5, r_X7_delay_6, r_X7_delay_9, r_X7_delay_11, r_X7_delay_14, r_X7_delay_15, r_X7_delay_18, r_X7_delay_19, r_X7_delay_20, r_X7_delay_21, r_X7_delay_24, r_X7_delay_25, r_X8_late_41, ob_14, gt_14_0, gt_14_1, gt_14_2, gt_14_3, gt_14_4, gt_14_5, gt_14_6, gt_14_7, pt_14_7, ad_15, as_15, ad_18, as_18, ad_19, as_19, ad_20, as_20, List.cons_append, List.nil_append, List.append_nil, if_true, if_false, true_and, and_true, true_or, or_true, nm_b_some, gi_si, ga_sa, gi_sa, gi_sb, gi_sp, ga_si, ga_sb, ga_sp, gb_si, gb_sa, gb_sb, gb_sp, gp_si, gp_sa, gp_sb, gp_sp, if_true, if_false, ↓reduceIte, Nat.reduceEqDiff, h5, u1]
        rw [← hs1] at hQ
        exact hQ
      have r2 : Runs 115 [.ref 40, .int (nI c), .int m] s1 0 s1 := by
        intro Q hQ
        have v1 : gi s1 4010 = 1 := by rw [← hs1]; simp only [gi_si, ga_sa, gi_sa, gi_sb, gi_sp, ga_si, ga_sb, ga_sp, gb_si, gb_sa, gb_sb, gb_sp, gp_si, gp_sa, gp_sb, gp_sp, if_true, if_false, ↓reduceIte, Nat.reduceEqDiff]; exact em
        have v2 : gi s1 4002 = nI C := by rw [← hs1]; simp only [gi_si, ga_sa, gi_sa, gi_sb, gi_sp, ga_si, ga_sb, ga_sp, gb_si, gb_sa, gb_sb, gb_sp, gp_si, gp_sa, gp_sb, gp_sp, if_true, if_false, ↓reduceIte, Nat.reduceEqDiff]; exact h4
        have v3 : gi s1 4003 = nI n := by rw [← hs1]; simp only [gi_si, ga_sa, gi_sa, gi_sb, gi_sp, ga_si, ga_sb, ga_sp, gb_si, gb_sa, gb_sb, gb_sp, gp_si, gp_sa, gp_sb, gp_sp, if_true, if_false, ↓reduceIte, Nat.reduceEqDiff]; exact h6
        simp only [e_X9_late, r_X9_late_0, r_X9_late_1, r_X9_late_4, r_X9_late_7, r_X9_late_8, r_X9_late_9, r_X9_late_10, r_X9_late_13, r_X9_late_14, r_X9_late_15, r_X9_late_18, r_X9_late_21, r_X9_late_22, r_X9_late_23, r_X9_late_26, r_X9_late_29, r_X9_late_32, r_X9_late_33, r_X9_late_34, r_X9_late_35, r_X9_late_38, r_X9_late_41, r_X9_late_42, r_X9_late_45, r_X9_late_48, r_X9_late_49, r_X9_late_52, r_X9_late_54, r_X9_late_57, r_X9_late_58, ob_40, gt_40_0, pt_40_0, gt_40_1, pt_40_1, gt_40_2, pt_40_2, gt_40_3, pt_40_3, gt_40_4, pt_40_4, gt_40_5, pt_40_5, gt_40_6, pt_40_6, gt_40_7, pt_40_7, gt_40_8, pt_40_8, gt_40_9, pt_40_9, gt_40_10, pt_40_10, gt_40_11, gt_40_12, gt_40_13, gt_40_14, gt_40_15, gt_40_16, gt_40_17, gt_40_18, gt_40_19, gt_40_20, gt_40_21, gt_40_22, pt_40_22, gt_40_23, gt_40_24, gt_40_25, gt_40_26, gt_40_27, gt_40_28, gt_40_29, gt_40_30, gt_40_31, gt_40_32, gt_40_33, gt_40_34, pt_40_34, gt_40_35, pt_40_35, gt_40_36, gt_40_37, gt_40_38, gt_40_39, gt_40_40, gt_40_41, pt_40_41, gt_40_42, pt_40_42, gt_40_43, pt_40_43, gt_40_44, pt_40_44, gt_40_45, pt_40_45, gt_40_46, pt_40_46, gt_40_47, List.cons_append, List.nil_append, List.append_nil, if_true, if_false, true_and, and_true, true_or, or_true, nm_b_some, gi_si, ga_sa, gi_sa, gi_sb, gi_sp, ga_si, ga_sb, ga_sp, gb_si, gb_sa, gb_sb, gb_sp, gp_si, gp_sa, gp_sb, gp_sp, if_true, if_false, ↓reduceIte, Nat.reduceEqDiff, c_in, b_0, v1, v2, c_Mleaves h1 (show c < 4 by omega) v3, k2, k3, h01, and_self, not_true_eq_false]
        rw [v3]
        simp only [u2, if_true, ite_self]
        exact hQ
      refine ⟨_, _, _, r1, r2, ?_, ?_⟩
      · rw [← hs1]
        exact ((Fr.rf.sa (by decide)).sa (by decide)).sa (by decide)
      · rw [← hs1]
        exact IvL_reads s _ (fun k hk => by simp only [gi_si, ga_sa, gi_sa, gi_sb, gi_sp, ga_si, ga_sb, ga_sp, gb_si, gb_sa, gb_sb, gb_sp, gp_si, gp_sa, gp_sb, gp_sp, if_true, if_false, ↓reduceIte, Nat.reduceEqDiff]) (fun c hc => by simp at hc; rcases hc with rfl | rfl | rfl | rfl | rfl | rfl <;> simp only [gi_si, ga_sa, gi_sa, gi_sb, gi_sp, ga_si, ga_sb, ga_sp, gb_si, gb_sa, gb_sb, gb_sp, gp_si, gp_sa, gp_sb, gp_sp, if_true, if_false, ↓reduceIte, Nat.reduceEqDiff]) hL
  · exact ⟨_, _, _, c_late_n hzz h3 hk, c_Mlate_n (by rw [← hz]; exact hzz) h4 (by rw [← hz]; exact hk), Fr.rf, hL⟩
