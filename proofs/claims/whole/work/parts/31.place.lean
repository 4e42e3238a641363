/-! place, lacks, many. -/
def plc (lv th m : Int32) : Int32 := if m < lv then 0 else if m < th then 1 else 2
/-- the class's placeOf, behind foresee -/
theorem c_placeOf {d : Nat} {s : nm_S} {Q : nm_K} {m : Int32} {C c : Nat} (hC : gi s 604 = nI C) (hC4 : C ≤ 4) (hc : c < C) : nm_call (d + 2) 67 [.ref 14, .int (nI c), .int m] (rep s) Q ↔ Q [.int (plc (ga s 15 c) (ga s 17 c) m)] (rep s) := by
  have g := (idx_iff (j := c) (n := C) (by omega) (by omega)).mpr hc
  have u3 : vp_in (nI c) 4 := vp_in' (by omega) (by omega)
  have u4 : (nI c).toNatClampNeg = c := i_nIc (by omega)
  simp only [e_X7_placeOf, r_X7_placeOf_0, r_X7_placeOf_1, r_X7_placeOf_2, r_X7_placeOf_3, r_X7_placeOf_6, r_X7_placeOf_9, r_X7_placeOf_10, r_X7_placeOf_11, r_X7_placeOf_14, r_X7_placeOf_17, r_X7_placeOf_18, r_X7_placeOf_19, r_X7_placeOf_20, r_X7_placeOf_21, r_X7_placeOf_24, r_X7_placeOf_25, r_X7_placeOf_26, r_X7_placeOf_29, r_X7_placeOf_30, r_X7_placeOf_31, r_X7_placeOf_32, r_X7_placeOf_33, r_X7_placeOf_36, r_X7_placeOf_37, r_X7_placeOf_38, r_X7_placeOf_41, r_X7_placeOf_42, r_X7_placeOf_45, r_X7_placeOf_46, ob_14, gt_14_0, gt_14_1, gt_14_2, gt_14_3, gt_14_4, gt_14_5, gt_14_6, gt_14_7, pt_14_7, ob_6, gt_6_0, gt_6_1, gt_6_2, gt_6_3, gt_6_4, pt_6_4, gt_6_5, pt_6_5, gt_6_6, pt_6_6, ad_15, as_15, ad_17, as_17, List.cons_append, List.nil_append, List.append_nil, if_true, if_false, true_and, and_true, true_or, or_true, nm_b_some, c_within, b_0, hC, g, u3, u4, and_self, not_true_eq_false]
  have h10 : ¬ (1 : Int32) = 0 := by decide
  unfold plc
  by_cases h1 : m < ga s 15 c
  · simp only [h1, h10, if_true, if_false]
  · by_cases h2 : m < ga s 17 c
    · simp only [h1, h2, h10, if_true, if_false]
    · simp only [h1, h2, h10, if_false]
theorem c_placeOf_n {d : Nat} {s : nm_S} {Q : nm_K} {m : Int32} {C : Nat} (hC : gi s 604 = nI C) (hC4 : C ≤ 4) : nm_call (d + 2) 67 [.ref 14, .int (-1), .int m] (rep s) Q ↔ Q [.int 3] (rep s) := by
  have g := m1_no (n := C) (by omega)
  simp only [e_X7_placeOf, r_X7_placeOf_0, r_X7_placeOf_1, r_X7_placeOf_2, r_X7_placeOf_3, r_X7_placeOf_6, r_X7_placeOf_9, r_X7_placeOf_10, r_X7_placeOf_11, r_X7_placeOf_14, r_X7_placeOf_17, r_X7_placeOf_18, ob_14, gt_14_0, gt_14_1, gt_14_2, gt_14_3, gt_14_4, gt_14_5, gt_14_6, gt_14_7, pt_14_7, ob_6, gt_6_0, gt_6_1, gt_6_2, gt_6_3, gt_6_4, pt_6_4, gt_6_5, pt_6_5, gt_6_6, pt_6_6, List.cons_append, List.nil_append, List.append_nil, if_true, if_false, true_and, and_true, true_or, or_true, nm_b_some, c_within, b_0, hC, g, not_false_eq_true]
/-- the settled state that the three commands ask -/
def Ask (s : nm_S) (n C T : Nat) (o : Nat → Nat) : Prop := TrH s n C o ∧ T ≤ 10 ∧ (gi s 104 = nI T ∧ gi s 4001 = nI T) ∧ (∀ i, i < T → ga s 3 i = ga s 42 i) ∧ ∀ i, i < T → cofE (gb s) (nI i) = ga s 49 i ∧ (ga s 49 i = -1 ∨ ∃ c, c < C ∧ ga s 49 i = nI c)
theorem Ask.of {s : nm_S} (hB : IvB s) (hG : IvG s) (hC : IvC s) (hL : IvL s) (hD : IvD s) (h1 : gi s 11 = 1) : ∃ n C T o, Ask s n C T o := by
  obtain ⟨n, C, o, hT⟩ := TrH.of hB hC hL
  obtain ⟨T, g1, g2, g3, g4, g5⟩ := hG
  obtain ⟨T', C', t1, t2, t3, t4, t5⟩ := hD h1
  have e1 : T' = T := by rw [g3] at t3; exact ((nI_eq' (by omega) (by omega)).mp t3).symm
  have e2 : C' = C := by
    have := hT.2.2.1.2
    rw [t4] at this
    exact (nI_eq' (by omega) (by have := hT.2.1; omega)).mp this
  subst e1 e2
  exact ⟨n, C', T', o, hT, g1, ⟨g2, g3⟩, fun i hi => (g4 i hi).1.2, t5⟩
theorem Ask.scr {s : nm_S} {n C T : Nat} {o : Nat → Nat} (h : Ask s n C T o) (F G H : Nat → Int32) : Ask (sa (sa (sa s 15 F) 16 G) 17 H) n C T o := by
  refine ⟨h.1.scr F G H, h.2.1, ?_⟩
  simp only [gi_si, ga_sa, gi_sa, gi_sb, gi_sp, ga_si, ga_sb, ga_sp, gb_si, gb_sa, gb_sb, gb_sp, gp_si, gp_sa, gp_sb, gp_sp, if_true, if_false, ↓reduceIte, Nat.reduceEqDiff]
  exact h.2.2
/-- where a THING is, as both sides say it -/
theorem both_place {s : nm_S} {n C T : Nat} {o : Nat → Nat} (h : Ask s n C T o) {F G H : Nat → Int32} {q : Int32} (f1 : ∀ c, c < C → F c = LV s n c q) (f2 : ∀ k, k < C → G (o k) = BR s n o q k ∧ H (o k) = BR s n o q k + gi s 4007 - gi s 4007 / 2) {i : Nat} (hi : i < T) (m : Int32) : ∃ v : Int32, (∀ (d : Nat) (Q : nm_K), nm_call (d + 2) 67 [.ref 14, .int (cofE (gb s) (nI i)), .int m] (rep (sa (sa (sa s 15 F) 16 G) 17 H)) Q ↔ Q [.int v] (rep (sa (sa (sa s 15 F) 16 G) 17 H))) ∧ ∀ (d : Nat) (Q : nm_K), nm_call (d + 8) 117 [.ref 40, .int (nI i), .int m, .int q] (rep (sa (sa (sa s 15 F) 16 G) 17 H)) Q ↔ Q [.int v] (rep (sa (sa (sa s 15 F) 16 G) 17 H)) := by
  have hS := h.scr F G H
  generalize hs1 : sa (sa (sa s 15 F) 16 G) 17 H = s1 at hS ⊢
  obtain ⟨hT, g1, g2, g3, g4⟩ := h
  have eg : ∀ j, gi s1 j = gi s j := fun j => by rw [← hs1]; rfl
  have ea : ga s1 45 = ga s 45 ∧ ga s1 52 = ga s 52 ∧ ga s1 53 = ga s 53 ∧ ga s1 54 = ga s 54 ∧ ga s1 49 = ga s 49 := by rw [← hs1]; simp only [gi_si, ga_sa, gi_sa, gi_sb, gi_sp, ga_si, ga_sb, ga_sp, gb_si, gb_sa, gb_sb, gb_sp, gp_si, gp_sa, gp_sb, gp_sp, if_true, if_false, ↓reduceIte, Nat.reduceEqDiff]; exact ⟨trivial, trivial, trivial, trivial, trivial⟩
  have e15 : ga s1 15 = F := by rw [← hs1]; simp only [gi_si, ga_sa, gi_sa, gi_sb, gi_sp, ga_si, ga_sb, ga_sp, gb_si, gb_sa, gb_sb, gb_sp, gp_si, gp_sa, gp_sb, gp_sp, if_true, if_false, ↓reduceIte, Nat.reduceEqDiff]
  have e17 : ga s1 17 = H := by rw [← hs1]; simp only [gi_si, ga_sa, gi_sa, gi_sb, gi_sp, ga_si, ga_sb, ga_sp, gb_si, gb_sa, gb_sb, gb_sp, gp_si, gp_sa, gp_sb, gp_sp, if_true, if_false, ↓reduceIte, Nat.reduceEqDiff]
  have hT1 := hS.1
  have u3 : vp_in (nI i) 10 := vp_in' (by omega) (by omega)
  have u4 : (nI i).toNatClampNeg = i := i_nIc (by omega)
  have hC4 := hT.2.1
  obtain ⟨a1, a2⟩ := g4 i hi
  rw [a1]
  rcases a2 with a2 | ⟨c, hc, a2⟩
  · refine ⟨3, fun d Q => ?_, fun d Q => ?_⟩
    · rw [a2]
      exact c_placeOf_n (by rw [eg]; exact hT.2.2.1.1) hC4
    · simp only [e_X9_placeOf, r_X9_placeOf_0, r_X9_placeOf_1, r_X9_placeOf_4, r_X9_placeOf_5, r_X9_placeOf_6, r_X9_placeOf_8, r_X9_placeOf_10, r_X9_placeOf_11, r_X9_placeOf_14, r_X9_placeOf_15, ob_40, gt_40_0, pt_40_0, gt_40_1, pt_40_1, gt_40_2, pt_40_2, gt_40_3, pt_40_3, gt_40_4, pt_40_4, gt_40_5, pt_40_5, gt_40_6, pt_40_6, gt_40_7, pt_40_7, gt_40_8, pt_40_8, gt_40_9, pt_40_9, gt_40_10, pt_40_10, gt_40_11, gt_40_12, gt_40_13, gt_40_14, gt_40_15, gt_40_16, gt_40_17, gt_40_18, gt_40_19, gt_40_20, gt_40_21, gt_40_22, pt_40_22, gt_40_23, gt_40_24, gt_40_25, gt_40_26, gt_40_27, gt_40_28, gt_40_29, gt_40_30, gt_40_31, gt_40_32, gt_40_33, gt_40_34, pt_40_34, gt_40_35, pt_40_35, gt_40_36, gt_40_37, gt_40_38, gt_40_39, gt_40_40, gt_40_41, pt_40_41, gt_40_42, pt_40_42, gt_40_43, pt_40_43, gt_40_44, pt_40_44, gt_40_45, pt_40_45, gt_40_46, pt_40_46, gt_40_47, ad_49, as_49, List.cons_append, List.nil_append, List.append_nil, if_true, if_false, true_and, and_true, true_or, or_true, nm_b_some, u3, u4, ea.2.2.2.2, a2]
  · obtain ⟨k, hkC, hok⟩ := hT.2.2.2.2.2.2.2.2.pos hc
    refine ⟨plc (LV s n c q) (BR s n o q k + gi s 4007 - gi s 4007 / 2) m, fun d Q => ?_, fun d Q => ?_⟩
    · rw [a2, c_placeOf (C := C) (by rw [eg]; exact hT.2.2.1.1) hC4 hc, e15, e17, f1 c hc]
      rw [show H c = H (o k) by rw [hok], (f2 k hkC).2]
    · have mt : ∀ Q : nm_K, nm_call (d + 7) 114 [.ref 40, .int (nI c), .int q] (rep s1) Q ↔ Q [.int (BR s n o q k + gi s 4007 - gi s 4007 / 2)] (rep s1) := by
        intro Q
        have := c_Mthere (s := s1) (q := q) hT1.1 hT1.2.1 hT1.2.2.1.2 hT1.2.2.2.1.2 hT1.2.2.2.2.2.2.2.2 k (d + 4 - k) Q hkC
        rw [show d + 4 - k + k + 3 = d + 7 by omega, hok] at this
        rw [this, ea.1, ea.2.1, ea.2.2.1, ea.2.2.2.1, eg, eg]
      have ml : ∀ Q : nm_K, nm_call (d + 7) 111 [.ref 40, .int (nI c), .int q] (rep s1) Q ↔ Q [.int (LV s n c q)] (rep s1) := by
        intro Q
        have := c_Mleaves (d := d + 6) (s := s1) (q := q) (Q := Q) hT1.1 (show c < 4 by omega) hT1.2.2.2.1.2
        rw [this, ea.1, ea.2.1, ea.2.2.1, ea.2.2.2.1]
      have hne := nIne (j := c) (by omega)
      simp only [e_X9_placeOf, r_X9_placeOf_0, r_X9_placeOf_1, r_X9_placeOf_4, r_X9_placeOf_5, r_X9_placeOf_6, r_X9_placeOf_8, r_X9_placeOf_10, r_X9_placeOf_11, r_X9_placeOf_14, r_X9_placeOf_15, r_X9_placeOf_16, r_X9_placeOf_17, r_X9_placeOf_18, r_X9_placeOf_20, r_X9_placeOf_21, r_X9_placeOf_24, r_X9_placeOf_27, r_X9_placeOf_28, r_X9_placeOf_31, r_X9_placeOf_32, r_X9_placeOf_33, r_X9_placeOf_35, r_X9_placeOf_36, r_X9_placeOf_39, r_X9_placeOf_42, r_X9_placeOf_43, r_X9_placeOf_46, r_X9_placeOf_47, ob_40, gt_40_0, pt_40_0, gt_40_1, pt_40_1, gt_40_2, pt_40_2, gt_40_3, pt_40_3, gt_40_4, pt_40_4, gt_40_5, pt_40_5, gt_40_6, pt_40_6, gt_40_7, pt_40_7, gt_40_8, pt_40_8, gt_40_9, pt_40_9, gt_40_10, pt_40_10, gt_40_11, gt_40_12, gt_40_13, gt_40_14, gt_40_15, gt_40_16, gt_40_17, gt_40_18, gt_40_19, gt_40_20, gt_40_21, gt_40_22, pt_40_22, gt_40_23, gt_40_24, gt_40_25, gt_40_26, gt_40_27, gt_40_28, gt_40_29, gt_40_30, gt_40_31, gt_40_32, gt_40_33, gt_40_34, pt_40_34, gt_40_35, pt_40_35, gt_40_36, gt_40_37, gt_40_38, gt_40_39, gt_40_40, gt_40_41, pt_40_41, gt_40_42, pt_40_42, gt_40_43, pt_40_43, gt_40_44, pt_40_44, gt_40_45, pt_40_45, gt_40_46, pt_40_46, gt_40_47, ad_49, as_49, List.cons_append, List.nil_append, List.append_nil, if_true, if_false, true_and, and_true, true_or, or_true, nm_b_some, u3, u4, ea.2.2.2.2, a2, hne, ml, mt]
      unfold plc
      by_cases h1 : m < LV s n c q
      · simp only [h1, if_true]
      · by_cases h2 : m < BR s n o q k + gi s 4007 - gi s 4007 / 2
        · simp only [h1, h2, if_true, if_false]
        · simp only [h1, h2, if_false]
def okask (z m q now : Int32) : Prop := z = 1 ∧ (0 ≤ m ∧ m ≤ 5000) ∧ (0 ≤ q ∧ q ≤ now)
theorem c_isAsked {d : Nat} {s : nm_S} {Q : nm_K} {m q : Int32} (hz : gi s 4010 = 0 ∨ gi s 4010 = 1) : nm_call (d + 2) 118 [.ref 40, .int m, .int q] (rep s) Q ↔ Q [.int (if gi s 4010 = 1 ∧ (0 ≤ m ∧ m ≤ 5000) ∧ (0 ≤ q ∧ q ≤ gi s 4000) then 1 else 0)] (rep s) := by
  have h10 : ¬ (1 : Int32) = 0 := by decide
  have h01 : ¬ (0 : Int32) = 1 := by decide
  simp only [e_X9_isAsked, r_X9_isAsked_0, r_X9_isAsked_1, r_X9_isAsked_4, r_X9_isAsked_7, r_X9_isAsked_8, r_X9_isAsked_9, r_X9_isAsked_12, r_X9_isAsked_15, r_X9_isAsked_18, r_X9_isAsked_19, r_X9_isAsked_20, r_X9_isAsked_21, r_X9_isAsked_24, r_X9_isAsked_27, r_X9_isAsked_30, r_X9_isAsked_31, r_X9_isAsked_34, r_X9_isAsked_35, ob_40, gt_40_0, pt_40_0, gt_40_1, pt_40_1, gt_40_2, pt_40_2, gt_40_3, pt_40_3, gt_40_4, pt_40_4, gt_40_5, pt_40_5, gt_40_6, pt_40_6, gt_40_7, pt_40_7, gt_40_8, pt_40_8, gt_40_9, pt_40_9, gt_40_10, pt_40_10, gt_40_11, gt_40_12, gt_40_13, gt_40_14, gt_40_15, gt_40_16, gt_40_17, gt_40_18, gt_40_19, gt_40_20, gt_40_21, gt_40_22, pt_40_22, gt_40_23, gt_40_24, gt_40_25, gt_40_26, gt_40_27, gt_40_28, gt_40_29, gt_40_30, gt_40_31, gt_40_32, gt_40_33, gt_40_34, pt_40_34, gt_40_35, pt_40_35, gt_40_36, gt_40_37, gt_40_38, gt_40_39, gt_40_40, gt_40_41, pt_40_41, gt_40_42, pt_40_42, gt_40_43, pt_40_43, gt_40_44, pt_40_44, gt_40_45, pt_40_45, gt_40_46, pt_40_46, gt_40_47, List.cons_append, List.nil_append, List.append_nil, if_true, if_false, true_and, and_true, true_or, or_true, nm_b_some, c_in, b_0]
  rcases hz with h1 | h1
  · simp only [h1, h01, false_and, if_true, if_false]
  · by_cases h2 : 0 ≤ m ∧ m ≤ 5000
    · by_cases h3 : 0 ≤ q ∧ q ≤ gi s 4000
      · simp only [h1, h2, h3, h10, and_self, not_true_eq_false, if_true, if_false]
      · simp only [h1, h2, h3, h10, and_false, and_self, not_true_eq_false, not_false_eq_true, if_true, if_false]
    · simp only [h1, h2, h10, false_and, and_false, not_false_eq_true, if_true, if_false]
theorem st_place {s : nm_S} (x m q : Int32) (hB : IvB s) (hG : IvG s) (hC : IvC s) (hL : IvL s) (hD : IvD s) : ∃ v s1 s2, Runs 77 [.ref 0, .int x, .int m, .int q] s v s1 ∧ Runs 119 [.ref 40, .int x, .int m, .int q] s1 v s2 ∧ Fr [] [15, 16, 17] s s2 := by
  have hz : gi s 11 = gi s 4010 := hB.1.2.2.1
  have hzz := hB.2.2.1
  have hzM : gi s 4010 = 0 ∨ gi s 4010 = 1 := by rw [← hz]; exact hzz
  have hnow : gi s 9 = gi s 4000 := hB.1.1
  have h10 : ¬ (1 : Int32) = 0 := by decide
  obtain ⟨T0, gg1, gg2, gg3, -, -⟩ := id hG
  by_cases hk : okask (gi s 11) m q (gi s 9) ∧ (0 ≤ x ∧ x ≤ nI T0 - 1)
  · obtain ⟨⟨k1, k2, k3⟩, k4⟩ := hk
    obtain ⟨n, C, T, o, hA⟩ := Ask.of hB hG hC hL hD k1
    have eT : T0 = T := by
      have := hA.2.2.1.1
      rw [gg2] at this
      exact (nI_eq' (by omega) (by have := hA.2.1; omega)).mp this
    subst eT
    obtain ⟨i, hi, rfl⟩ := idx_of (by omega) k4
    obtain ⟨F, G, H, f1, f2, f3⟩ := hA.1.fore q
    obtain ⟨v, p1, p2⟩ := both_place hA f1 f2 hi m
    have eb : gb (sa (sa (sa s 15 F) 16 G) 17 H) = gb s := rfl
    have k3M : 0 ≤ q ∧ q ≤ gi s 4000 := by rw [← hnow]; exact k3
    refine ⟨v, sa (sa (sa s 15 F) 16 G) 17 H, sa (sa (sa s 15 F) 16 G) 17 H, ?_, ?_, (((Fr.rf.sa (c := 15) (f := F) (by decide)).sa (c := 16) (f := G) (by decide)).sa (c := 17) (f := H) (by decide))⟩
    · intro Q hQ
      simp only [e_X8_place, r_X8_place_0, r_X8_place_1, r_X8_place_4, r_X8_place_7, r_X8_place_8, r_X8_place_9, r_X8_place_12, r_X8_place_15, r_X8_place_16, r_X8_place_17, r_X8_place_20, r_X8_place_23, r_X8_place_26, r_X8_place_27, r_X8_place_28, r_X8_place_31, r_X8_place_34, r_X8_place_35, r_X8_place_36, r_X8_place_37, r_X8_place_40, r_X8_place_41, ob_0, gt_0_0, gt_0_1, gt_0_2, gt_0_3, gt_0_4, gt_0_5, gt_0_6, gt_0_7, gt_0_8, gt_0_9, pt_0_9, gt_0_10, pt_0_10, gt_0_11, pt_0_11, List.cons_append, List.nil_append, List.append_nil, if_true, if_false, true_and, and_true, true_or, or_true, nm_b_some, c_isThing, c_isKnown, c_within, b_0, gg2, k1, k2, k3, k4, h10, and_self, not_true_eq_false, ob_14]
      refine f3 57 _ ?_
      simp only [r_X8_place_44, r_X8_place_45, r_X8_place_48, r_X8_place_49, r_X8_place_52, r_X8_place_53, r_X8_place_56, r_X8_place_57, r_X8_place_60, ob_0, gt_0_0, gt_0_1, gt_0_2, gt_0_3, gt_0_4, gt_0_5, gt_0_6, gt_0_7, gt_0_8, gt_0_9, pt_0_9, gt_0_10, pt_0_10, gt_0_11, pt_0_11, List.cons_append, List.nil_append, List.append_nil, if_true, if_false, true_and, and_true, true_or, or_true, nm_b_some, c_convoyOf, eb, p1, ob_14, ob_11]
      exact hQ
    · intro Q hQ
      have e4010 : gi (sa (sa (sa s 15 F) 16 G) 17 H) 4010 = 1 := by simp only [gi_si, ga_sa, gi_sa, gi_sb, gi_sp, ga_si, ga_sb, ga_sp, gb_si, gb_sa, gb_sb, gb_sp, gp_si, gp_sa, gp_sb, gp_sp, if_true, if_false, ↓reduceIte, Nat.reduceEqDiff]; rw [← hz]; exact k1
      simp only [e_X9_place, r_X9_place_0, r_X9_place_1, r_X9_place_2, r_X9_place_3, r_X9_place_6, r_X9_place_9, r_X9_place_10, r_X9_place_11, r_X9_place_12, r_X9_place_15, r_X9_place_16, r_X9_place_17, r_X9_place_20, r_X9_place_23, r_X9_place_24, r_X9_place_25, r_X9_place_26, r_X9_place_27, r_X9_place_30, r_X9_place_33, r_X9_place_34, ob_40, gt_40_0, pt_40_0, gt_40_1, pt_40_1, gt_40_2, pt_40_2, gt_40_3, pt_40_3, gt_40_4, pt_40_4, gt_40_5, pt_40_5, gt_40_6, pt_40_6, gt_40_7, pt_40_7, gt_40_8, pt_40_8, gt_40_9, pt_40_9, gt_40_10, pt_40_10, gt_40_11, gt_40_12, gt_40_13, gt_40_14, gt_40_15, gt_40_16, gt_40_17, gt_40_18, gt_40_19, gt_40_20, gt_40_21, gt_40_22, pt_40_22, gt_40_23, gt_40_24, gt_40_25, gt_40_26, gt_40_27, gt_40_28, gt_40_29, gt_40_30, gt_40_31, gt_40_32, gt_40_33, gt_40_34, pt_40_34, gt_40_35, pt_40_35, gt_40_36, gt_40_37, gt_40_38, gt_40_39, gt_40_40, gt_40_41, pt_40_41, gt_40_42, pt_40_42, gt_40_43, pt_40_43, gt_40_44, pt_40_44, gt_40_45, pt_40_45, gt_40_46, pt_40_46, gt_40_47, List.cons_append, List.nil_append, List.append_nil, if_true, if_false, true_and, and_true, true_or, or_true, nm_b_some, gi_si, ga_sa, gi_sa, gi_sb, gi_sp, ga_si, ga_sb, ga_sp, gb_si, gb_sa, gb_sb, gb_sp, gp_si, gp_sa, gp_sb, gp_sp, if_true, if_false, ↓reduceIte, Nat.reduceEqDiff, c_isAsked (Or.inr e4010), c_in, b_0, ← hz, k1, k2, k3M, k4, gg3, and_self, not_true_eq_false, p2]
      exact hQ
  · refine ⟨-1, s, s, ?_, ?_, Fr.rf⟩
    · intro Q hQ
      simp only [e_X8_place, r_X8_place_0, r_X8_place_1, r_X8_place_4, r_X8_place_7, r_X8_place_8, r_X8_place_9, r_X8_place_12, r_X8_place_15, r_X8_place_16, r_X8_place_17, r_X8_place_20, r_X8_place_23, r_X8_place_26, r_X8_place_27, r_X8_place_28, r_X8_place_31, r_X8_place_34, r_X8_place_35, ob_0, gt_0_0, gt_0_1, gt_0_2, gt_0_3, gt_0_4, gt_0_5, gt_0_6, gt_0_7, gt_0_8, gt_0_9, pt_0_9, gt_0_10, pt_0_10, gt_0_11, pt_0_11, List.cons_append, List.nil_append, List.append_nil, if_true, if_false, true_and, and_true, true_or, or_true, nm_b_some, c_isThing, c_isKnown, c_within, b_0, gg2]
      unfold okask at hk
      rcases hzz with h1 | h1
      · simp only [h1, if_true]
        exact hQ
      · simp only [h1, h10, if_false]
        by_cases a1 : 0 ≤ x ∧ x ≤ nI T0 - 1
        · by_cases a2 : 0 ≤ m ∧ m ≤ 5000
          · have a3 : ¬ (0 ≤ q ∧ q ≤ gi s 9) := fun z => hk ⟨⟨h1, a2, z⟩, a1⟩
            simp only [a1, a2, a3, and_self, not_true_eq_false, not_false_eq_true, if_true, if_false]
            exact hQ
          · simp only [a1, a2, and_self, not_true_eq_false, not_false_eq_true, if_true, if_false]
            exact hQ
        · simp only [a1, not_false_eq_true, if_true]
          exact hQ
    · intro Q hQ
      simp only [e_X9_place, r_X9_place_0, r_X9_place_1, r_X9_place_2, r_X9_place_3, r_X9_place_6, r_X9_place_9, r_X9_place_10, r_X9_place_11, r_X9_place_12, r_X9_place_15, r_X9_place_16, r_X9_place_17, r_X9_place_20, r_X9_place_23, r_X9_place_24, r_X9_place_25, r_X9_place_26, r_X9_place_27, r_X9_place_30, r_X9_place_33, r_X9_place_34, ob_40, gt_40_0, pt_40_0, gt_40_1, pt_40_1, gt_40_2, pt_40_2, gt_40_3, pt_40_3, gt_40_4, pt_40_4, gt_40_5, pt_40_5, gt_40_6, pt_40_6, gt_40_7, pt_40_7, gt_40_8, pt_40_8, gt_40_9, pt_40_9, gt_40_10, pt_40_10, gt_40_11, gt_40_12, gt_40_13, gt_40_14, gt_40_15, gt_40_16, gt_40_17, gt_40_18, gt_40_19, gt_40_20, gt_40_21, gt_40_22, pt_40_22, gt_40_23, gt_40_24, gt_40_25, gt_40_26, gt_40_27, gt_40_28, gt_40_29, gt_40_30, gt_40_31, gt_40_32, gt_40_33, gt_40_34, pt_40_34, gt_40_35, pt_40_35, gt_40_36, gt_40_37, gt_40_38, gt_40_39, gt_40_40, gt_40_41, pt_40_41, gt_40_42, pt_40_42, gt_40_43, pt_40_43, gt_40_44, pt_40_44, gt_40_45, pt_40_45, gt_40_46, pt_40_46, gt_40_47, List.cons_append, List.nil_append, List.append_nil, if_true, if_false, true_and, and_true, true_or, or_true, nm_b_some, c_isAsked hzM, c_in, b_0, gg3]
      unfold okask at hk
      rw [hz, hnow] at hk
      by_cases a1 : gi s 4010 = 1 ∧ (0 ≤ m ∧ m ≤ 5000) ∧ (0 ≤ q ∧ q ≤ gi s 4000)
      · have a2 : ¬ (0 ≤ x ∧ x ≤ nI T0 - 1) := fun z => hk ⟨a1, z⟩
        simp only [a1, a2, and_self, not_true_eq_false, not_false_eq_true, if_true, if_false]
        exact hQ
      · simp only [a1, not_false_eq_true, if_true]
        exact hQ
theorem st_many {s : nm_S} (x m q : Int32) (hB : IvB s) (hG : IvG s) (hC : IvC s) (hL : IvL s) (hD : IvD s) : ∃ v s1 s2, Runs 79 [.ref 0, .int x, .int m, .int q] s v s1 ∧ Runs 121 [.ref 40, .int x, .int m, .int q] s1 v s2 ∧ Fr [] [15, 16, 17] s s2 := by
  have hz : gi s 11 = gi s 4010 := hB.1.2.2.1
  have hzz := hB.2.2.1
  have hzM : gi s 4010 = 0 ∨ gi s 4010 = 1 := by rw [← hz]; exact hzz
  have hnow : gi s 9 = gi s 4000 := hB.1.1
  have h10 : ¬ (1 : Int32) = 0 := by decide
  by_cases hk : okask (gi s 11) m q (gi s 9) ∧ (0 ≤ x ∧ x ≤ 3)
  · obtain ⟨⟨k1, k2, k3⟩, k4⟩ := hk
    obtain ⟨n, C, T, o, hA⟩ := Ask.of hB hG hC hL hD k1
    obtain ⟨F, G, H, f1, f2, f3⟩ := hA.1.fore q
    have hp : ∃ V : Nat → Int32, ∀ i, i < T → (∀ (d : Nat) (Q : nm_K), nm_call (d + 2) 67 [.ref 14, .int (cofE (gb s) (nI i)), .int m] (rep (sa (sa (sa s 15 F) 16 G) 17 H)) Q ↔ Q [.int (V i)] (rep (sa (sa (sa s 15 F) 16 G) 17 H))) ∧ ∀ (d : Nat) (Q : nm_K), nm_call (d + 8) 117 [.ref 40, .int (nI i), .int m, .int q] (rep (sa (sa (sa s 15 F) 16 G) 17 H)) Q ↔ Q [.int (V i)] (rep (sa (sa (sa s 15 F) 16 G) 17 H)) := by
      refine ⟨fun i => if hi : i < T then (both_place hA f1 f2 hi m).choose else 0, fun i hi => ?_⟩
      dsimp only
      rw [dif_pos hi]
      exact (both_place hA f1 f2 hi m).choose_spec
    obtain ⟨V, hV⟩ := hp
    have eb : gb (sa (sa (sa s 15 F) 16 G) 17 H) = gb s := rfl
    have e104 : gi (sa (sa (sa s 15 F) 16 G) 17 H) 104 = nI T := by simp only [gi_si, ga_sa, gi_sa, gi_sb, gi_sp, ga_si, ga_sb, ga_sp, gb_si, gb_sa, gb_sb, gb_sp, gp_si, gp_sa, gp_sb, gp_sp, if_true, if_false, ↓reduceIte, Nat.reduceEqDiff]; exact hA.2.2.1.1
    have e4001 : gi (sa (sa (sa s 15 F) 16 G) 17 H) 4001 = nI T := by simp only [gi_si, ga_sa, gi_sa, gi_sb, gi_sp, ga_si, ga_sb, ga_sp, gb_si, gb_sa, gb_sb, gb_sp, gp_si, gp_sa, gp_sb, gp_sp, if_true, if_false, ↓reduceIte, Nat.reduceEqDiff]; exact hA.2.2.1.2
    have e4010 : gi (sa (sa (sa s 15 F) 16 G) 17 H) 4010 = 1 := by simp only [gi_si, ga_sa, gi_sa, gi_sb, gi_sp, ga_si, ga_sb, ga_sp, gb_si, gb_sa, gb_sb, gb_sp, gp_si, gp_sa, gp_sb, gp_sp, if_true, if_false, ↓reduceIte, Nat.reduceEqDiff]; rw [← hz]; exact k1
    have e4000 : 0 ≤ q ∧ q ≤ gi (sa (sa (sa s 15 F) 16 G) 17 H) 4000 := by simp only [gi_si, ga_sa, gi_sa, gi_sb, gi_sp, ga_si, ga_sb, ga_sp, gb_si, gb_sa, gb_sb, gb_sp, gp_si, gp_sa, gp_sb, gp_sp, if_true, if_false, ↓reduceIte, Nat.reduceEqDiff]; rw [← hnow]; exact k3
    have hT10 := hA.2.1
    refine ⟨lpf (fun i (a : Int32) => if V i = x then a + 1 else a) T 0 0, sa (sa (sa s 15 F) 16 G) 17 H, sa (sa (sa s 15 F) 16 G) 17 H, ?_, ?_, (((Fr.rf.sa (c := 15) (f := F) (by decide)).sa (c := 16) (f := G) (by decide)).sa (c := 17) (f := H) (by decide))⟩
    · intro Q hQ
      simp only [e_X8_many, r_X8_many_0, r_X8_many_1, r_X8_many_4, r_X8_many_7, r_X8_many_8, r_X8_many_9, r_X8_many_10, r_X8_many_13, r_X8_many_16, r_X8_many_17, r_X8_many_18, r_X8_many_19, r_X8_many_20, r_X8_many_23, r_X8_many_26, r_X8_many_29, r_X8_many_30, r_X8_many_31, r_X8_many_34, r_X8_many_37, r_X8_many_38, r_X8_many_39, r_X8_many_40, r_X8_many_43, r_X8_many_44, ob_0, gt_0_0, gt_0_1, gt_0_2, gt_0_3, gt_0_4, gt_0_5, gt_0_6, gt_0_7, gt_0_8, gt_0_9, pt_0_9, gt_0_10, pt_0_10, gt_0_11, pt_0_11, List.cons_append, List.nil_append, List.append_nil, if_true, if_false, true_and, and_true, true_or, or_true, nm_b_some, c_isKnown, c_within, b_0, k1, k2, k3, k4, h10, and_self, not_true_eq_false, ob_14]
      refine f3 57 _ ?_
      generalize sa (sa (sa s 15 F) 16 G) 17 H = s1 at *
      simp only [r_X8_many_47, r_X8_many_48, r_X8_many_50, r_X8_many_51, List.cons_append, List.nil_append, List.append_nil, if_true, if_false, true_and, and_true, true_or, or_true, nm_b_some]
      refine nm_loopI (fun i (a : Int32) => x_X8_many 59 Q 53 [.ref 0, .int x, .int m, .int q, .int a, .int (nI i)] [] (rep s1) 0 0) (fun a => Q [.int a] (rep s1)) (fun i a => if V i = x then a + 1 else a) (fun _ _ => True) (N := T) ?_ ?_ T 0 0 (by omega) trivial hQ
      · intro i a hi _
        refine ⟨trivial, fun hn => ?_⟩
        have g2 : nI i < nI T := (nI_lt' (by omega) (by omega)).mpr hi
        rw [r_X8_many_53]
        simp only [r_X8_many_55, r_X8_many_56, r_X8_many_59, r_X8_many_62, r_X8_many_65, r_X8_many_66, r_X8_many_69, r_X8_many_70, r_X8_many_73, r_X8_many_75, r_X8_many_78, r_X8_many_79, r_X8_many_82, r_X8_many_83, r_X8_many_86, r_X8_many_89, r_X8_many_92, ob_0, gt_0_0, gt_0_1, gt_0_2, gt_0_3, gt_0_4, gt_0_5, gt_0_6, gt_0_7, gt_0_8, gt_0_9, pt_0_9, gt_0_10, pt_0_10, gt_0_11, pt_0_11, ob_1, gt_1_0, gt_1_1, gt_1_2, gt_1_3, gt_1_4, pt_1_4, List.cons_append, List.nil_append, List.append_nil, if_true, if_false, true_and, and_true, true_or, or_true, nm_b_some, e104, g2, c_convoyOf, eb, (hV i hi).1, ob_14, ob_11, nI_s]
        by_cases hv : V i = x
        · simp only [hv, if_true] at hn ⊢
          exact hn
        · simp only [hv, if_false] at hn ⊢
          exact hn
      · intro a _ hr
        have g2 : ¬ nI T < nI T := by rw [nI_lt' (by omega) (by omega)]; omega
        rw [r_X8_many_53]
        simp only [r_X8_many_55, r_X8_many_56, r_X8_many_59, r_X8_many_62, r_X8_many_65, r_X8_many_66, r_X8_many_69, r_X8_many_70, r_X8_many_73, r_X8_many_75, r_X8_many_78, r_X8_many_79, r_X8_many_82, r_X8_many_83, r_X8_many_86, r_X8_many_89, r_X8_many_92, r_X8_many_95, r_X8_many_97, ob_0, gt_0_0, gt_0_1, gt_0_2, gt_0_3, gt_0_4, gt_0_5, gt_0_6, gt_0_7, gt_0_8, gt_0_9, pt_0_9, gt_0_10, pt_0_10, gt_0_11, pt_0_11, ob_1, gt_1_0, gt_1_1, gt_1_2, gt_1_3, gt_1_4, pt_1_4, List.cons_append, List.nil_append, List.append_nil, if_true, if_false, true_and, and_true, true_or, or_true, nm_b_some, e104, g2]
        exact hr
    · intro Q hQ
      generalize sa (sa (sa s 15 F) 16 G) 17 H = s1 at *
      simp only [e_X9_many, r_X9_many_0, r_X9_many_1, r_X9_many_2, r_X9_many_3, r_X9_many_6, r_X9_many_9, r_X9_many_10, r_X9_many_11, r_X9_many_12, r_X9_many_15, r_X9_many_18, r_X9_many_19, r_X9_many_20, r_X9_many_21, r_X9_many_23, r_X9_many_24, ob_40, gt_40_0, pt_40_0, gt_40_1, pt_40_1, gt_40_2, pt_40_2, gt_40_3, pt_40_3, gt_40_4, pt_40_4, gt_40_5, pt_40_5, gt_40_6, pt_40_6, gt_40_7, pt_40_7, gt_40_8, pt_40_8, gt_40_9, pt_40_9, gt_40_10, pt_40_10, gt_40_11, gt_40_12, gt_40_13, gt_40_14, gt_40_15, gt_40_16, gt_40_17, gt_40_18, gt_40_19, gt_40_20, gt_40_21, gt_40_22, pt_40_22, gt_40_23, gt_40_24, gt_40_25, gt_40_26, gt_40_27, gt_40_28, gt_40_29, gt_40_30, gt_40_31, gt_40_32, gt_40_33, gt_40_34, pt_40_34, gt_40_35, pt_40_35, gt_40_36, gt_40_37, gt_40_38, gt_40_39, gt_40_40, gt_40_41, pt_40_41, gt_40_42, pt_40_42, gt_40_43, pt_40_43, gt_40_44, pt_40_44, gt_40_45, pt_40_45, gt_40_46, pt_40_46, gt_40_47, List.cons_append, List.nil_append, List.append_nil, if_true, if_false, true_and, and_true, true_or, or_true, nm_b_some, c_isAsked (Or.inr e4010), c_in, b_0, e4010, k2, e4000, k4, and_self, not_true_eq_false]
      refine nm_loopI (fun i (a : Int32) => x_X9_many 59 Q 26 [.ref 40, .int x, .int m, .int q, .int a, .int (nI i)] [] (rep s1) 0 0) (fun a => Q [.int a] (rep s1)) (fun i a => if V i = x then a + 1 else a) (fun _ _ => True) (N := T) ?_ ?_ T 0 0 (by omega) trivial hQ
      · intro i a hi _
        refine ⟨trivial, fun hn => ?_⟩
        have g2 : nI i < nI T := (nI_lt' (by omega) (by omega)).mpr hi
        rw [r_X9_many_26]
        simp only [r_X9_many_28, r_X9_many_29, r_X9_many_32, r_X9_many_35, r_X9_many_37, r_X9_many_38, r_X9_many_40, r_X9_many_41, r_X9_many_42, r_X9_many_45, r_X9_many_46, r_X9_many_49, r_X9_many_50, r_X9_many_53, r_X9_many_54, r_X9_many_55, r_X9_many_57, r_X9_many_60, ob_40, gt_40_0, pt_40_0, gt_40_1, pt_40_1, gt_40_2, pt_40_2, gt_40_3, pt_40_3, gt_40_4, pt_40_4, gt_40_5, pt_40_5, gt_40_6, pt_40_6, gt_40_7, pt_40_7, gt_40_8, pt_40_8, gt_40_9, pt_40_9, gt_40_10, pt_40_10, gt_40_11, gt_40_12, gt_40_13, gt_40_14, gt_40_15, gt_40_16, gt_40_17, gt_40_18, gt_40_19, gt_40_20, gt_40_21, gt_40_22, pt_40_22, gt_40_23, gt_40_24, gt_40_25, gt_40_26, gt_40_27, gt_40_28, gt_40_29, gt_40_30, gt_40_31, gt_40_32, gt_40_33, gt_40_34, pt_40_34, gt_40_35, pt_40_35, gt_40_36, gt_40_37, gt_40_38, gt_40_39, gt_40_40, gt_40_41, pt_40_41, gt_40_42, pt_40_42, gt_40_43, pt_40_43, gt_40_44, pt_40_44, gt_40_45, pt_40_45, gt_40_46, pt_40_46, gt_40_47, List.cons_append, List.nil_append, List.append_nil, if_true, if_false, true_and, and_true, true_or, or_true, nm_b_some, e4001, g2, (hV i hi).2, nI_s]
        by_cases hv : V i = x
        · simp only [hv, if_true] at hn ⊢
          exact hn
        · simp only [hv, if_false] at hn ⊢
          simpa using hn
      · intro a _ hr
        have g2 : ¬ nI T < nI T := by rw [nI_lt' (by omega) (by omega)]; omega
        rw [r_X9_many_26]
        simp only [r_X9_many_28, r_X9_many_29, r_X9_many_32, r_X9_many_35, r_X9_many_37, r_X9_many_38, r_X9_many_40, r_X9_many_41, r_X9_many_42, r_X9_many_45, r_X9_many_46, r_X9_many_49, r_X9_many_50, r_X9_many_53, r_X9_many_54, r_X9_many_55, r_X9_many_57, r_X9_many_60, r_X9_many_63, r_X9_many_65, ob_40, gt_40_0, pt_40_0, gt_40_1, pt_40_1, gt_40_2, pt_40_2, gt_40_3, pt_40_3, gt_40_4, pt_40_4, gt_40_5, pt_40_5, gt_40_6, pt_40_6, gt_40_7, pt_40_7, gt_40_8, pt_40_8, gt_40_9, pt_40_9, gt_40_10, pt_40_10, gt_40_11, gt_40_12, gt_40_13, gt_40_14, gt_40_15, gt_40_16, gt_40_17, gt_40_18, gt_40_19, gt_40_20, gt_40_21, gt_40_22, pt_40_22, gt_40_23, gt_40_24, gt_40_25, gt_40_26, gt_40_27, gt_40_28, gt_40_29, gt_40_30, gt_40_31, gt_40_32, gt_40_33, gt_40_34, pt_40_34, gt_40_35, pt_40_35, gt_40_36, gt_40_37, gt_40_38, gt_40_39, gt_40_40, gt_40_41, pt_40_41, gt_40_42, pt_40_42, gt_40_43, pt_40_43, gt_40_44, pt_40_44, gt_40_45, pt_40_45, gt_40_46, pt_40_46, gt_40_47, List.cons_append, List.nil_append, List.append_nil, if_true, if_false, true_and, and_true, true_or, or_true, nm_b_some, e4001, g2]
        exact hr
  · refine ⟨-1, s, s, ?_, ?_, Fr.rf⟩
    · intro Q hQ
      simp only [e_X8_many, r_X8_many_0, r_X8_many_1, r_X8_many_4, r_X8_many_7, r_X8_many_8, r_X8_many_9, r_X8_many_10, r_X8_many_13, r_X8_many_16, r_X8_many_17, r_X8_many_18, r_X8_many_19, r_X8_many_20, r_X8_many_23, r_X8_many_26, r_X8_many_29, r_X8_many_30, r_X8_many_31, r_X8_many_34, r_X8_many_37, r_X8_many_38, ob_0, gt_0_0, gt_0_1, gt_0_2, gt_0_3, gt_0_4, gt_0_5, gt_0_6, gt_0_7, gt_0_8, gt_0_9, pt_0_9, gt_0_10, pt_0_10, gt_0_11, pt_0_11, List.cons_append, List.nil_append, List.append_nil, if_true, if_false, true_and, and_true, true_or, or_true, nm_b_some, c_isKnown, c_within, b_0]
      unfold okask at hk
      rcases hzz with h1 | h1
      · simp only [h1, if_true]
        exact hQ
      · simp only [h1, h10, if_false]
        by_cases a1 : 0 ≤ x ∧ x ≤ 3
        · by_cases a2 : 0 ≤ m ∧ m ≤ 5000
          · have a3 : ¬ (0 ≤ q ∧ q ≤ gi s 9) := fun z => hk ⟨⟨h1, a2, z⟩, a1⟩
            simp only [a1, a2, a3, and_self, not_true_eq_false, not_false_eq_true, if_true, if_false]
            exact hQ
          · simp only [a1, a2, and_self, not_true_eq_false, not_false_eq_true, if_true, if_false]
            exact hQ
        · simp only [a1, not_false_eq_true, if_true]
          exact hQ
    · intro Q hQ
      simp only [e_X9_many, r_X9_many_0, r_X9_many_1, r_X9_many_2, r_X9_many_3, r_X9_many_6, r_X9_many_9, r_X9_many_10, r_X9_many_11, r_X9_many_12, r_X9_many_15, r_X9_many_18, r_X9_many_19, ob_40, gt_40_0, pt_40_0, gt_40_1, pt_40_1, gt_40_2, pt_40_2, gt_40_3, pt_40_3, gt_40_4, pt_40_4, gt_40_5, pt_40_5, gt_40_6, pt_40_6, gt_40_7, pt_40_7, gt_40_8, pt_40_8, gt_40_9, pt_40_9, gt_40_10, pt_40_10, gt_40_11, gt_40_12, gt_40_13, gt_40_14, gt_40_15, gt_40_16, gt_40_17, gt_40_18, gt_40_19, gt_40_20, gt_40_21, gt_40_22, pt_40_22, gt_40_23, gt_40_24, gt_40_25, gt_40_26, gt_40_27, gt_40_28, gt_40_29, gt_40_30, gt_40_31, gt_40_32, gt_40_33, gt_40_34, pt_40_34, gt_40_35, pt_40_35, gt_40_36, gt_40_37, gt_40_38, gt_40_39, gt_40_40, gt_40_41, pt_40_41, gt_40_42, pt_40_42, gt_40_43, pt_40_43, gt_40_44, pt_40_44, gt_40_45, pt_40_45, gt_40_46, pt_40_46, gt_40_47, List.cons_append, List.nil_append, List.append_nil, if_true, if_false, true_and, and_true, true_or, or_true, nm_b_some, c_isAsked hzM, c_in, b_0]
      unfold okask at hk
      rw [hz, hnow] at hk
      by_cases a1 : gi s 4010 = 1 ∧ (0 ≤ m ∧ m ≤ 5000) ∧ (0 ≤ q ∧ q ≤ gi s 4000)
      · have a2 : ¬ (0 ≤ x ∧ x ≤ 3) := fun z => hk ⟨a1, z⟩
        simp only [a1, a2, and_self, not_true_eq_false, not_false_eq_true, if_true, if_false]
        exact hQ
      · simp only [a1, not_false_eq_true, if_true]
        exact hQ
theorem st_lacks {s : nm_S} (x q : Int32) (hB : IvB s) (hG : IvG s) (hC : IvC s) (hL : IvL s) (hD : IvD s) : ∃ v s1 s2, Runs 78 [.ref 0, .int x, .int q] s v s1 ∧ Runs 120 [.ref 40, .int x, .int q] s1 v s2 ∧ Fr [] [15, 16, 17] s s2 := by
  have hz : gi s 11 = gi s 4010 := hB.1.2.2.1
  have hzz := hB.2.2.1
  have hzM : gi s 4010 = 0 ∨ gi s 4010 = 1 := by rw [← hz]; exact hzz
  have hnow : gi s 9 = gi s 4000 := hB.1.1
  have h10 : ¬ (1 : Int32) = 0 := by decide
  have h05 : (0 : Int32) ≤ 0 ∧ (0 : Int32) ≤ 5000 := by decide
  obtain ⟨T0, gg1, gg2, gg3, -, -⟩ := id hG
  by_cases hk : (gi s 11 = 1 ∧ (0 ≤ q ∧ q ≤ gi s 9)) ∧ (0 ≤ x ∧ x ≤ nI T0 - 1)
  · obtain ⟨⟨k1, k3⟩, k4⟩ := hk
    obtain ⟨n, C, T, o, hA⟩ := Ask.of hB hG hC hL hD k1
    have eT : T0 = T := by
      have := hA.2.2.1.1
      rw [gg2] at this
      exact (nI_eq' (by omega) (by have := hA.2.1; omega)).mp this
    subst eT
    obtain ⟨i, hi, rfl⟩ := idx_of (by omega) k4
    have hC4 := hA.1.2.1
    have u3 : vp_in (nI i) 10 := vp_in' (by omega) (by omega)
    have u4 : (nI i).toNatClampNeg = i := i_nIc (by omega)
    have k3M : 0 ≤ q ∧ q ≤ gi s 4000 := by rw [← hnow]; exact k3
    obtain ⟨a1, a2⟩ := hA.2.2.2.2 i hi
    have h604 := hA.1.2.2.1.1
    rcases a2 with a2 | ⟨c, hc, a2⟩
    · refine ⟨0, s, s, ?_, ?_, Fr.rf⟩
      · intro Q hQ
        have hno := m1_no (n := C) (by omega)
        simp only [e_X8_lacks, r_X8_lacks_0, r_X8_lacks_1, r_X8_lacks_4, r_X8_lacks_7, r_X8_lacks_8, r_X8_lacks_9, r_X8_lacks_12, r_X8_lacks_15, r_X8_lacks_16, r_X8_lacks_17, r_X8_lacks_20, r_X8_lacks_23, r_X8_lacks_24, r_X8_lacks_25, r_X8_lacks_26, r_X8_lacks_29, r_X8_lacks_30, r_X8_lacks_33, r_X8_lacks_34, r_X8_lacks_35, r_X8_lacks_36, r_X8_lacks_39, r_X8_lacks_42, r_X8_lacks_43, ob_0, gt_0_0, gt_0_1, gt_0_2, gt_0_3, gt_0_4, gt_0_5, gt_0_6, gt_0_7, gt_0_8, gt_0_9, pt_0_9, gt_0_10, pt_0_10, gt_0_11, pt_0_11, List.cons_append, List.nil_append, List.append_nil, if_true, if_false, true_and, and_true, true_or, or_true, nm_b_some, c_isThing, c_isKnown, c_isConvoy, c_convoyOf, b_0, gg2, h604, k1, k3, k4, h10, a1, a2, hno, and_self, not_true_eq_false, not_false_eq_true, ob_11]
        exact hQ
      · intro Q hQ
        simp only [e_X9_lacks, r_X9_lacks_0, r_X9_lacks_1, r_X9_lacks_2, r_X9_lacks_3, r_X9_lacks_6, r_X9_lacks_9, r_X9_lacks_10, r_X9_lacks_11, r_X9_lacks_12, r_X9_lacks_15, r_X9_lacks_16, r_X9_lacks_17, r_X9_lacks_20, r_X9_lacks_23, r_X9_lacks_24, r_X9_lacks_25, r_X9_lacks_26, r_X9_lacks_29, r_X9_lacks_30, r_X9_lacks_31, r_X9_lacks_32, r_X9_lacks_35, r_X9_lacks_36, r_X9_lacks_39, r_X9_lacks_40, r_X9_lacks_41, r_X9_lacks_42, r_X9_lacks_45, r_X9_lacks_46, r_X9_lacks_47, r_X9_lacks_48, r_X9_lacks_51, r_X9_lacks_52, r_X9_lacks_55, r_X9_lacks_56, r_X9_lacks_57, r_X9_lacks_58, r_X9_lacks_61, ob_40, gt_40_0, pt_40_0, gt_40_1, pt_40_1, gt_40_2, pt_40_2, gt_40_3, pt_40_3, gt_40_4, pt_40_4, gt_40_5, pt_40_5, gt_40_6, pt_40_6, gt_40_7, pt_40_7, gt_40_8, pt_40_8, gt_40_9, pt_40_9, gt_40_10, pt_40_10, gt_40_11, gt_40_12, gt_40_13, gt_40_14, gt_40_15, gt_40_16, gt_40_17, gt_40_18, gt_40_19, gt_40_20, gt_40_21, gt_40_22, pt_40_22, gt_40_23, gt_40_24, gt_40_25, gt_40_26, gt_40_27, gt_40_28, gt_40_29, gt_40_30, gt_40_31, gt_40_32, gt_40_33, gt_40_34, pt_40_34, gt_40_35, pt_40_35, gt_40_36, gt_40_37, gt_40_38, gt_40_39, gt_40_40, gt_40_41, pt_40_41, gt_40_42, pt_40_42, gt_40_43, pt_40_43, gt_40_44, pt_40_44, gt_40_45, pt_40_45, gt_40_46, pt_40_46, gt_40_47, ad_49, as_49, List.cons_append, List.nil_append, List.append_nil, if_true, if_false, true_and, and_true, true_or, or_true, nm_b_some, c_isAsked hzM, c_in, b_0, ← hz, gg3, k1, k3M, k4, h05, u3, u4, a2, h10, and_self, not_true_eq_false]
        exact hQ
    · obtain ⟨F, G, H, f1, f2, f3⟩ := hA.1.fore q
      obtain ⟨k, hkC, hok⟩ := hA.1.2.2.2.2.2.2.2.2.pos hc
      have hin := (idx_iff (j := c) (n := C) (by omega) (by omega)).mpr hc
      have w3 : vp_in (nI c) 4 := vp_in' (by omega) (by omega)
      have w4 : (nI c).toNatClampNeg = c := i_nIc (by omega)
      have hS := hA.scr F G H
      refine ⟨if (0 : Int32) < BR s n o q k + gi s 4007 - gi s 4007 / 2 - ga s 42 i then BR s n o q k + gi s 4007 - gi s 4007 / 2 - ga s 42 i else 0, sa (sa (sa s 15 F) 16 G) 17 H, sa (sa (sa s 15 F) 16 G) 17 H, ?_, ?_, (((Fr.rf.sa (c := 15) (f := F) (by decide)).sa (c := 16) (f := G) (by decide)).sa (c := 17) (f := H) (by decide))⟩
      · intro Q hQ
        simp only [e_X8_lacks, r_X8_lacks_0, r_X8_lacks_1, r_X8_lacks_4, r_X8_lacks_7, r_X8_lacks_8, r_X8_lacks_9, r_X8_lacks_12, r_X8_lacks_15, r_X8_lacks_16, r_X8_lacks_17, r_X8_lacks_20, r_X8_lacks_23, r_X8_lacks_24, r_X8_lacks_25, r_X8_lacks_26, r_X8_lacks_29, r_X8_lacks_30, r_X8_lacks_33, r_X8_lacks_34, r_X8_lacks_35, r_X8_lacks_36, r_X8_lacks_39, r_X8_lacks_42, r_X8_lacks_43, r_X8_lacks_44, r_X8_lacks_45, r_X8_lacks_48, r_X8_lacks_49, ob_0, gt_0_0, gt_0_1, gt_0_2, gt_0_3, gt_0_4, gt_0_5, gt_0_6, gt_0_7, gt_0_8, gt_0_9, pt_0_9, gt_0_10, pt_0_10, gt_0_11, pt_0_11, List.cons_append, List.nil_append, List.append_nil, if_true, if_false, true_and, and_true, true_or, or_true, nm_b_some, c_isThing, c_isKnown, c_isConvoy, c_convoyOf, b_0, gg2, h604, k1, k3, k4, h10, a1, a2, hin, and_self, not_true_eq_false, not_false_eq_true, ob_11, ob_14]
        refine f3 57 _ ?_
        simp only [r_X8_lacks_52, r_X8_lacks_53, r_X8_lacks_54, r_X8_lacks_57, r_X8_lacks_60, r_X8_lacks_61, r_X8_lacks_62, r_X8_lacks_63, r_X8_lacks_66, r_X8_lacks_69, r_X8_lacks_70, r_X8_lacks_71, r_X8_lacks_72, r_X8_lacks_75, ob_0, gt_0_0, gt_0_1, gt_0_2, gt_0_3, gt_0_4, gt_0_5, gt_0_6, gt_0_7, gt_0_8, gt_0_9, pt_0_9, gt_0_10, pt_0_10, gt_0_11, pt_0_11, ob_1, gt_1_0, gt_1_1, gt_1_2, gt_1_3, gt_1_4, pt_1_4, ad_3, as_3, ob_14, gt_14_0, gt_14_1, gt_14_2, gt_14_3, gt_14_4, gt_14_5, gt_14_6, gt_14_7, pt_14_7, ad_17, as_17, List.cons_append, List.nil_append, List.append_nil, if_true, if_false, true_and, and_true, true_or, or_true, nm_b_some, gi_si, ga_sa, gi_sa, gi_sb, gi_sp, ga_si, ga_sb, ga_sp, gb_si, gb_sa, gb_sb, gb_sp, gp_si, gp_sa, gp_sb, gp_sp, if_true, if_false, ↓reduceIte, Nat.reduceEqDiff, u3, u4, w3, w4, hA.2.2.2.1 i hi]
        rw [show H c = H (o k) by rw [hok], (f2 k hkC).2]
        exact hQ
      · intro Q hQ
        generalize hs1 : sa (sa (sa s 15 F) 16 G) 17 H = s1 at *
        have eg : ∀ j, gi s1 j = gi s j := fun j => by rw [← hs1]; rfl
        have ea : ga s1 45 = ga s 45 ∧ ga s1 52 = ga s 52 ∧ ga s1 53 = ga s 53 ∧ ga s1 54 = ga s 54 ∧ ga s1 49 = ga s 49 ∧ ga s1 42 = ga s 42 := by rw [← hs1]; simp only [gi_si, ga_sa, gi_sa, gi_sb, gi_sp, ga_si, ga_sb, ga_sp, gb_si, gb_sa, gb_sb, gb_sp, gp_si, gp_sa, gp_sb, gp_sp, if_true, if_false, ↓reduceIte, Nat.reduceEqDiff]; exact ⟨trivial, trivial, trivial, trivial, trivial, trivial⟩
        have hT1 := hS.1
        have mt : ∀ Q : nm_K, nm_call 59 114 [.ref 40, .int (nI c), .int q] (rep s1) Q ↔ Q [.int (BR s n o q k + gi s 4007 - gi s 4007 / 2)] (rep s1) := by
          intro Q
          have := c_Mthere (s := s1) (q := q) hT1.1 hT1.2.1 hT1.2.2.1.2 hT1.2.2.2.1.2 hT1.2.2.2.2.2.2.2.2 k (56 - k) Q hkC
          rw [show 56 - k + k + 3 = 59 by omega, hok] at this
          rw [this, ea.1, ea.2.1, ea.2.2.1, ea.2.2.2.1, eg, eg]
        have hne := nIne (j := c) (by omega)
        simp only [e_X9_lacks, r_X9_lacks_0, r_X9_lacks_1, r_X9_lacks_2, r_X9_lacks_3, r_X9_lacks_6, r_X9_lacks_9, r_X9_lacks_10, r_X9_lacks_11, r_X9_lacks_12, r_X9_lacks_15, r_X9_lacks_16, r_X9_lacks_17, r_X9_lacks_20, r_X9_lacks_23, r_X9_lacks_24, r_X9_lacks_25, r_X9_lacks_26, r_X9_lacks_29, r_X9_lacks_30, r_X9_lacks_31, r_X9_lacks_32, r_X9_lacks_35, r_X9_lacks_36, r_X9_lacks_39, r_X9_lacks_40, r_X9_lacks_41, r_X9_lacks_42, r_X9_lacks_45, r_X9_lacks_46, r_X9_lacks_47, r_X9_lacks_48, r_X9_lacks_51, r_X9_lacks_52, r_X9_lacks_55, r_X9_lacks_56, r_X9_lacks_57, r_X9_lacks_58, r_X9_lacks_61, ob_40, gt_40_0, pt_40_0, gt_40_1, pt_40_1, gt_40_2, pt_40_2, gt_40_3, pt_40_3, gt_40_4, pt_40_4, gt_40_5, pt_40_5, gt_40_6, pt_40_6, gt_40_7, pt_40_7, gt_40_8, pt_40_8, gt_40_9, pt_40_9, gt_40_10, pt_40_10, gt_40_11, gt_40_12, gt_40_13, gt_40_14, gt_40_15, gt_40_16, gt_40_17, gt_40_18, gt_40_19, gt_40_20, gt_40_21, gt_40_22, pt_40_22, gt_40_23, gt_40_24, gt_40_25, gt_40_26, gt_40_27, gt_40_28, gt_40_29, gt_40_30, gt_40_31, gt_40_32, gt_40_33, gt_40_34, pt_40_34, gt_40_35, pt_40_35, gt_40_36, gt_40_37, gt_40_38, gt_40_39, gt_40_40, gt_40_41, pt_40_41, gt_40_42, pt_40_42, gt_40_43, pt_40_43, gt_40_44, pt_40_44, gt_40_45, pt_40_45, gt_40_46, pt_40_46, gt_40_47, ad_42, as_42, ad_49, as_49, List.cons_append, List.nil_append, List.append_nil, if_true, if_false, true_and, and_true, true_or, or_true, nm_b_some, c_isAsked (show gi s1 4010 = 0 ∨ gi s1 4010 = 1 by rw [eg]; exact hzM), c_in, b_0, eg, ← hz, gg3, k1, k3M, k4, h05, u3, u4, ea.2.2.2.2.1, ea.2.2.2.2.2, a2, hne, mt, h10, and_self, not_true_eq_false]
        exact hQ
  · refine ⟨-1, s, s, ?_, ?_, Fr.rf⟩
    · intro Q hQ
      simp only [e_X8_lacks, r_X8_lacks_0, r_X8_lacks_1, r_X8_lacks_4, r_X8_lacks_7, r_X8_lacks_8, r_X8_lacks_9, r_X8_lacks_12, r_X8_lacks_15, r_X8_lacks_16, r_X8_lacks_17, r_X8_lacks_20, r_X8_lacks_23, r_X8_lacks_24, ob_0, gt_0_0, gt_0_1, gt_0_2, gt_0_3, gt_0_4, gt_0_5, gt_0_6, gt_0_7, gt_0_8, gt_0_9, pt_0_9, gt_0_10, pt_0_10, gt_0_11, pt_0_11, List.cons_append, List.nil_append, List.append_nil, if_true, if_false, true_and, and_true, true_or, or_true, nm_b_some, c_isThing, c_isKnown, b_0, gg2]
      rcases hzz with h1 | h1
      · simp only [h1, if_true]
        exact hQ
      · simp only [h1, h10, if_false]
        by_cases a1 : 0 ≤ x ∧ x ≤ nI T0 - 1
        · have a3 : ¬ (0 ≤ q ∧ q ≤ gi s 9) := fun z => hk ⟨⟨h1, z⟩, a1⟩
          simp only [a1, a3, and_self, not_true_eq_false, not_false_eq_true, if_true, if_false]
          exact hQ
        · simp only [a1, not_false_eq_true, if_true]
          exact hQ
    · intro Q hQ
      simp only [e_X9_lacks, r_X9_lacks_0, r_X9_lacks_1, r_X9_lacks_2, r_X9_lacks_3, r_X9_lacks_6, r_X9_lacks_9, r_X9_lacks_10, r_X9_lacks_11, r_X9_lacks_12, r_X9_lacks_15, r_X9_lacks_16, r_X9_lacks_17, r_X9_lacks_20, r_X9_lacks_23, r_X9_lacks_24, ob_40, gt_40_0, pt_40_0, gt_40_1, pt_40_1, gt_40_2, pt_40_2, gt_40_3, pt_40_3, gt_40_4, pt_40_4, gt_40_5, pt_40_5, gt_40_6, pt_40_6, gt_40_7, pt_40_7, gt_40_8, pt_40_8, gt_40_9, pt_40_9, gt_40_10, pt_40_10, gt_40_11, gt_40_12, gt_40_13, gt_40_14, gt_40_15, gt_40_16, gt_40_17, gt_40_18, gt_40_19, gt_40_20, gt_40_21, gt_40_22, pt_40_22, gt_40_23, gt_40_24, gt_40_25, gt_40_26, gt_40_27, gt_40_28, gt_40_29, gt_40_30, gt_40_31, gt_40_32, gt_40_33, gt_40_34, pt_40_34, gt_40_35, pt_40_35, gt_40_36, gt_40_37, gt_40_38, gt_40_39, gt_40_40, gt_40_41, pt_40_41, gt_40_42, pt_40_42, gt_40_43, pt_40_43, gt_40_44, pt_40_44, gt_40_45, pt_40_45, gt_40_46, pt_40_46, gt_40_47, List.cons_append, List.nil_append, List.append_nil, if_true, if_false, true_and, and_true, true_or, or_true, nm_b_some, c_isAsked hzM, c_in, b_0, gg3]
      rw [hz, hnow] at hk
      by_cases a1 : gi s 4010 = 1 ∧ ((0 : Int32) ≤ 0 ∧ (0 : Int32) ≤ 5000) ∧ (0 ≤ q ∧ q ≤ gi s 4000)
      · have a2 : ¬ (0 ≤ x ∧ x ≤ nI T0 - 1) := fun z => hk ⟨⟨a1.1, a1.2.2⟩, z⟩
        simp only [a1, a2, and_self, not_true_eq_false, not_false_eq_true, if_true, if_false]
        exact hQ
      · simp only [a1, not_false_eq_true, if_true]
        exact hQ
