/-! settle. -/
theorem st_settle {s : nm_S} (hB : IvB s) (hG : IvG s) (hC : IvC s) (hI : IvSh s) : ∃ v s1 s2, Runs 74 [.ref 0] s v s1 ∧ Runs 110 [.ref 40] s1 v s2 ∧ FrP [11, 1105, 4010, 4022] [48, 49, 50, 51] s s2 ∧ IvSh s2 ∧ IvB s2 ∧ (gi s2 11 = 1 ∨ s2 = s) := by
  have h10 : ¬ (1 : Int32) = 0 := by decide
  have hzs : gi s 11 = gi s 4010 := hB.1.2.2.1
  rcases hB.2.2.1 with hz | hz
  · obtain ⟨i1, i2, i3, T, C, ⟨i4, i5⟩, ⟨i6, i7⟩, i8⟩ := id hI
    obtain ⟨T', C', hF, hX⟩ := dat_is hB hG hC i1
    have eT : T' = T := by have := hF.2.1.1; rw [i6] at this; exact ((nI_eq' (by omega) (by have := hF.1.1; omega)).mp this).symm
    have eC : C' = C := by have := hF.2.1.2; rw [i7] at this; exact ((nI_eq' (by omega) (by have := hF.1.2; omega)).mp this).symm
    subst eT eC
    have hX1 : SX (si s 11 1) (dat (si s 11 1)) T' C' := by
      have e : dat (si s 11 1) = dat s := dat_eq (by simp only [gi_si, ga_sa, gi_sa, gi_sb, gi_sp, ga_si, ga_sb, ga_sp, gb_si, gb_sa, gb_sb, gb_sp, gp_si, gp_sa, gp_sb, gp_sp, if_true, if_false, ↓reduceIte, Nat.reduceEqDiff]) (fun c _ => by simp only [gi_si, ga_sa, gi_sa, gi_sb, gi_sp, ga_si, ga_sb, ga_sp, gb_si, gb_sa, gb_sb, gb_sp, gp_si, gp_sa, gp_sb, gp_sp, if_true, if_false, ↓reduceIte, Nat.reduceEqDiff])
      rw [e]
      unfold SX at hX ⊢
      simp only [gi_si, ga_sa, gi_sa, gi_sb, gi_sp, ga_si, ga_sb, ga_sp, gb_si, gb_sa, gb_sb, gb_sp, gp_si, gp_sa, gp_sb, gp_sp, if_true, if_false, ↓reduceIte, Nat.reduceEqDiff]
      exact hX
    have ed : dat (si s 11 1) = dat s := dat_eq (by simp only [gi_si, ga_sa, gi_sa, gi_sb, gi_sp, ga_si, ga_sb, ga_sp, gb_si, gb_sa, gb_sb, gb_sp, gp_si, gp_sa, gp_sb, gp_sp, if_true, if_false, ↓reduceIte, Nat.reduceEqDiff]) (fun c _ => by simp only [gi_si, ga_sa, gi_sa, gi_sb, gi_sp, ga_si, ga_sb, ga_sp, gb_si, gb_sa, gb_sb, gb_sp, gp_si, gp_sa, gp_sb, gp_sp, if_true, if_false, ↓reduceIte, Nat.reduceEqDiff])
    obtain ⟨t1, A, w1, w2, w3, w4, w5, w6⟩ := wk hX1 ⟨by simp only [gi_si, ga_sa, gi_sa, gi_sb, gi_sp, ga_si, ga_sb, ga_sp, gb_si, gb_sa, gb_sb, gb_sp, gp_si, gp_sa, gp_sb, gp_sp, if_true, if_false, ↓reduceIte, Nat.reduceEqDiff]; exact i2, fun h => by
      simp only [gi_si, ga_sa, gi_sa, gi_sb, gi_sp, ga_si, ga_sb, ga_sp, gb_si, gb_sa, gb_sb, gb_sp, gp_si, gp_sa, gp_sb, gp_sp, if_true, if_false, ↓reduceIte, Nat.reduceEqDiff] at h
      obtain ⟨A, a1, a2, a3, -⟩ := i8 h
      rw [ed]
      exact ⟨A, a1, a2, by simp only [gi_si, ga_sa, gi_sa, gi_sb, gi_sp, ga_si, ga_sb, ga_sp, gb_si, gb_sa, gb_sb, gb_sp, gp_si, gp_sa, gp_sb, gp_sp, if_true, if_false, ↓reduceIte, Nat.reduceEqDiff]; exact a3⟩⟩
    rw [ed] at w2 w3 w4
    have w7 : FrP [11, 1105] [] s t1 := ((Fr.rf (ks := [11, 1105]) (cs := []) (s := s)).si (k := 11) (x := 1) (by decide)).P.tr (w6.mono (by decide) (by simp))
    have hd : dat t1 = dat s := dat_eq (w7.1 4007 (by decide)) (fun c _ => w7.2 c (by simp))
    have hF1 : SF t1 (dat t1) T' C' := by
      rw [hd]
      unfold SF at hF ⊢
      rw [w7.1 4001 (by decide), w7.1 4002 (by decide), w7.1 4007 (by decide), w7.2 41 (by decide), w7.2 42 (by decide), w7.2 43 (by decide), w7.2 44 (by decide), w7.2 45 (by decide), w7.2 46 (by decide), w7.2 47 (by decide)]
      exact hF
    have hz1 : gi t1 4010 = 0 := by rw [w7.1 4010 (by decide), ← hzs]; exact hz
    obtain ⟨t2, B, f1, f2, f3, f4, f5, f6⟩ := fb hF1 (Or.inl hz1)
    rw [hd] at f2 f3 f5
    have hkk : ∀ t, t < T' → (dat s).2.2.1 t ≤ 1000 := fun t ht => (hX.2.2.2.1 t ht).2
    have hp := (price_lt i4 i5 hkk f2).2
    have hb : gb t1 = nL (price (dat s) T' B) := by rw [w4, min_eq' w2 w3 f2 f3]
    have hdc : (gb t1 >>> ((30 : Int32).toInt64 &&& 63)).toInt32 = nI (dcost (dat s) B T') := by rw [hb, dcost_of (by omega), price_cost i4 i5 hkk f2]
    have e11 : gi t1 11 = 1 := by rw [w6.1 11 (by decide)]; simp only [gi_si, ga_sa, gi_sa, gi_sb, gi_sp, ga_si, ga_sb, ga_sp, gb_si, gb_sa, gb_sb, gb_sp, gp_si, gp_sa, gp_sb, gp_sp, if_true, if_false, ↓reduceIte, Nat.reduceEqDiff]
    have hfr : FrP [11, 1105, 4010, 4022] [48, 49, 50, 51] s (si t2 4010 1) := (w7.mono (by decide) (by simp)).tr (((f6.mono (ks' := [11, 1105, 4010, 4022]) (cs' := [48, 49, 50, 51]) (by decide) (by decide)).si (k := 4010) (x := 1) (by decide)).P)
    have e11b : gi (si t2 4010 1) 11 = 1 := by simp only [gi_si, ga_sa, gi_sa, gi_sb, gi_sp, ga_si, ga_sb, ga_sp, gb_si, gb_sa, gb_sb, gb_sp, gp_si, gp_sa, gp_sb, gp_sp, if_true, if_false, ↓reduceIte, Nat.reduceEqDiff]; rw [f6.1 11 (by decide)]; exact e11
    have e1105 : gi (si t2 4010 1) 1105 = 1 := by simp only [gi_si, ga_sa, gi_sa, gi_sb, gi_sp, ga_si, ga_sb, ga_sp, gb_si, gb_sa, gb_sb, gb_sp, gp_si, gp_sa, gp_sb, gp_sp, if_true, if_false, ↓reduceIte, Nat.reduceEqDiff]; rw [f6.1 1105 (by decide)]; exact w5
    refine ⟨nI (dcost (dat s) B T'), t1, si t2 4010 1, ?_, ?_, hfr, ?_, ?_, Or.inl e11b⟩
    · intro Q hQ
      simp only [e_X8_settle, r_X8_settle_0, r_X8_settle_1, r_X8_settle_4, r_X8_settle_7, r_X8_settle_8, r_X8_settle_9, r_X8_settle_10, r_X8_settle_11, r_X8_settle_14, r_X8_settle_15, r_X8_settle_18, r_X8_settle_21, r_X8_settle_22, r_X8_settle_25, r_X8_settle_28, e_X4_doubledCost, r_X4_doubledCost_0, r_X4_doubledCost_1, r_X4_doubledCost_4, r_X4_doubledCost_6, r_X4_doubledCost_7, r_X4_doubledCost_8, ob_0, gt_0_0, gt_0_1, gt_0_2, gt_0_3, gt_0_4, gt_0_5, gt_0_6, gt_0_7, gt_0_8, gt_0_9, pt_0_9, gt_0_10, pt_0_10, gt_0_11, pt_0_11, ob_11, gt_11_0, gt_11_1, gt_11_2, gt_11_3, gt_11_4, pt_11_4, gt_11_5, pt_11_5, List.cons_append, List.nil_append, List.append_nil, if_true, if_false, true_and, and_true, true_or, or_true, nm_b_some, z1, hz, w1 52, hdc]
      exact hQ
    · intro Q hQ
      simp only [e_X9_settle, r_X9_settle_0, r_X9_settle_1, r_X9_settle_4, r_X9_settle_7, r_X9_settle_8, r_X9_settle_9, r_X9_settle_10, r_X9_settle_13, r_X9_settle_14, r_X9_settle_15, r_X9_settle_18, r_X9_settle_19, r_X9_settle_22, ob_40, gt_40_0, pt_40_0, gt_40_1, pt_40_1, gt_40_2, pt_40_2, gt_40_3, pt_40_3, gt_40_4, pt_40_4, gt_40_5, pt_40_5, gt_40_6, pt_40_6, gt_40_7, pt_40_7, gt_40_8, pt_40_8, gt_40_9, pt_40_9, gt_40_10, pt_40_10, gt_40_11, gt_40_12, gt_40_13, gt_40_14, gt_40_15, gt_40_16, gt_40_17, gt_40_18, gt_40_19, gt_40_20, gt_40_21, gt_40_22, pt_40_22, gt_40_23, gt_40_24, gt_40_25, gt_40_26, gt_40_27, gt_40_28, gt_40_29, gt_40_30, gt_40_31, gt_40_32, gt_40_33, gt_40_34, pt_40_34, gt_40_35, pt_40_35, gt_40_36, gt_40_37, gt_40_38, gt_40_39, gt_40_40, gt_40_41, pt_40_41, gt_40_42, pt_40_42, gt_40_43, pt_40_43, gt_40_44, pt_40_44, gt_40_45, pt_40_45, gt_40_46, pt_40_46, gt_40_47, List.cons_append, List.nil_append, List.append_nil, if_true, if_false, true_and, and_true, true_or, or_true, nm_b_some, gi_si, ga_sa, gi_sa, gi_sb, gi_sp, ga_si, ga_sb, ga_sp, gb_si, gb_sa, gb_sb, gb_sp, gp_si, gp_sa, gp_sb, gp_sp, if_true, if_false, ↓reduceIte, Nat.reduceEqDiff, z1, hz1, f1 47, f5]
      exact hQ
    · have hd2 : dat (si t2 4010 1) = dat s := dat_eq (hfr.1 4007 (by decide)) (fun c hc => hfr.2 c (by simp at hc; rcases hc with rfl | rfl | rfl | rfl | rfl | rfl | rfl <;> decide))
      refine ⟨by rw [hfr.2 12 (by decide)]; exact i1, Or.inr e1105, fun _ => e1105, T', C', ⟨i4, i5⟩, ⟨by rw [hfr.1 4001 (by decide)]; exact i6, by rw [hfr.1 4002 (by decide)]; exact i7⟩, fun _ => ⟨B, ?_⟩⟩
      rw [hd2]
      refine ⟨f2, f3, ?_, fun _ => ⟨fun k hk => ?_, ?_⟩⟩
      · show gb t2 = _
        rw [f6.2.2.1]
        exact hb
      · simp only [gi_si, ga_sa, gi_sa, gi_sb, gi_sp, ga_si, ga_sb, ga_sp, gb_si, gb_sa, gb_sb, gb_sp, gp_si, gp_sa, gp_sb, gp_sp, if_true, if_false, ↓reduceIte, Nat.reduceEqDiff]; exact f4 k hk
      · simp only [gi_si, ga_sa, gi_sa, gi_sb, gi_sp, ga_si, ga_sb, ga_sp, gb_si, gb_sa, gb_sb, gb_sp, gp_si, gp_sa, gp_sb, gp_sp, if_true, if_false, ↓reduceIte, Nat.reduceEqDiff]; exact f5
    · have e4010 : gi (si t2 4010 1) 4010 = 1 := by simp only [gi_si, ga_sa, gi_sa, gi_sb, gi_sp, ga_si, ga_sb, ga_sp, gb_si, gb_sa, gb_sb, gb_sp, gp_si, gp_sa, gp_sb, gp_sp, if_true, if_false, ↓reduceIte, Nat.reduceEqDiff]
      unfold IvB at hB ⊢
      rw [e11b, e4010, hfr.1 9 (by decide), hfr.1 4000 (by decide), hfr.1 10 (by decide), hfr.1 4009 (by decide), hfr.1 605 (by decide), hfr.1 4007 (by decide), hfr.1 606 (by decide), hfr.1 4008 (by decide)]
      exact ⟨⟨hB.1.1, hB.1.2.1, rfl, hB.1.2.2.2.1, hB.1.2.2.2.2⟩, hB.2.1, Or.inr rfl, hB.2.2.2⟩
  · have hz2 : gi s 4010 = 1 := by rw [← hzs]; exact hz
    refine ⟨-1, s, s, ?_, ?_, FrP.rf, hI, hB, Or.inr rfl⟩
    · intro Q hQ
      simp only [e_X8_settle, r_X8_settle_0, r_X8_settle_1, r_X8_settle_4, r_X8_settle_7, r_X8_settle_8, ob_0, gt_0_0, gt_0_1, gt_0_2, gt_0_3, gt_0_4, gt_0_5, gt_0_6, gt_0_7, gt_0_8, gt_0_9, pt_0_9, gt_0_10, pt_0_10, gt_0_11, pt_0_11, List.cons_append, List.nil_append, List.append_nil, if_true, if_false, true_and, and_true, true_or, or_true, nm_b_some, hz, h10]
      exact hQ
    · intro Q hQ
      simp only [e_X9_settle, r_X9_settle_0, r_X9_settle_1, r_X9_settle_4, r_X9_settle_7, r_X9_settle_8, ob_40, gt_40_0, pt_40_0, gt_40_1, pt_40_1, gt_40_2, pt_40_2, gt_40_3, pt_40_3, gt_40_4, pt_40_4, gt_40_5, pt_40_5, gt_40_6, pt_40_6, gt_40_7, pt_40_7, gt_40_8, pt_40_8, gt_40_9, pt_40_9, gt_40_10, pt_40_10, gt_40_11, gt_40_12, gt_40_13, gt_40_14, gt_40_15, gt_40_16, gt_40_17, gt_40_18, gt_40_19, gt_40_20, gt_40_21, gt_40_22, pt_40_22, gt_40_23, gt_40_24, gt_40_25, gt_40_26, gt_40_27, gt_40_28, gt_40_29, gt_40_30, gt_40_31, gt_40_32, gt_40_33, gt_40_34, pt_40_34, gt_40_35, pt_40_35, gt_40_36, gt_40_37, gt_40_38, gt_40_39, gt_40_40, gt_40_41, pt_40_41, gt_40_42, pt_40_42, gt_40_43, pt_40_43, gt_40_44, pt_40_44, gt_40_45, pt_40_45, gt_40_46, pt_40_46, gt_40_47, List.cons_append, List.nil_append, List.append_nil, if_true, if_false, true_and, and_true, true_or, or_true, nm_b_some, hz2, h10]
      exact hQ
/-- what is told anew is forgotten -/
theorem IvSh_forget {s t : nm_S} (hI : IvSh s) (hf : Frgt s t) (h12 : ga t 12 = ga s 12) (h11 : gi t 11 = gi s 11) (hG : IvG t) (hC : IvC t) : IvSh t := by
  rcases hf with rfl | ⟨z1, z2⟩
  · exact hI
  · obtain ⟨T, g1, -, g3, -⟩ := hG
    obtain ⟨C, c1, -, c3, -⟩ := hC
    have h10 : ¬ (0 : Int32) = 1 := by decide
    refine ⟨by rw [h12]; exact hI.1, Or.inl z2, fun h => ?_, T, C, ⟨g1, c1⟩, ⟨g3, c3⟩, fun h => ?_⟩
    · rw [h11, z1] at h; exact absurd h h10
    · rw [z2] at h; exact absurd h h10
