/-! The class's READER walks so. -/
def rdv (s : nm_S) : rE := fun l => if l = 108 then gi s 3700 else if l = 110 then gi s 3701 else if l = 102 then gi s 3702 else gi s 3703
def FrR (s t : nm_S) : Prop := Fr [3706, 3707, 3708, 3709, 3710, 3711] [38, 39] s t
theorem rdv_fr {s t : nm_S} (h : FrR s t) : rdv t = rdv s := by
  unfold rdv
  rw [h.1 3700 (by decide), h.1 3701 (by decide), h.1 3702 (by decide), h.1 3703 (by decide)]
def RdR (s : nm_S) (a : rA) : Prop := gi s 3706 = nI a.1 ∧ a.1 ≤ 8 ∧ gi s 3707 = nI a.2.1 ∧ a.2.1 ≤ 4 ∧ gi s 3708 = a.2.2.1 ∧ gi s 3709 = a.2.2.2.1 ∧ gi s 3710 = a.2.2.2.2.1 ∧ gi s 3711 = a.2.2.2.2.2.1 ∧ (∀ i, a.2.2.2.2.2.2.1 i = decide (¬ ga s 38 i = 0)) ∧ (∀ i, a.2.2.2.2.2.2.2 i = decide (¬ ga s 39 i = 0))
theorem rd_upd {U : Nat → Bool} {f : Nat → Int32} {k : Nat} {b : Bool} {x : Int32} (h : ∀ i, U i = decide (¬ f i = 0)) (hb : b = decide (¬ x = 0)) : ∀ i, updB U k b i = decide (¬ upd f k x i = 0) := by
  intro i
  by_cases hi : i = k
  · subst hi
    rw [updB_at, upd_at, hb]
  · rw [updB_ne hi, upd_ne hi, h i]
theorem c_isDigit {d : Nat} {w : nm_W} {Q : nm_K} {c : Int32} : nm_call (d + 1) 26 [.int c] w Q ↔ Q [.int (if dgt c then 1 else 0)] w := by
  simp only [e_X3_isDigit, r_X3_isDigit_0, r_X3_isDigit_1, r_X3_isDigit_3, r_X3_isDigit_6, r_X3_isDigit_7, r_X3_isDigit_9, r_X3_isDigit_12, r_X3_isDigit_13, r_X3_isDigit_16, r_X3_isDigit_17, List.cons_append, List.nil_append, List.append_nil, if_true, if_false, true_and, and_true, true_or, or_true, nm_b_some]
  by_cases h1 : c < 48
  · simp only [h1, dgt, not_true_eq_false, false_and, if_true, if_false, z0, true_and]
  · by_cases h2 : 57 < c
    · simp only [h1, h2, dgt, not_true_eq_false, not_false_eq_true, and_false, if_true, if_false, z0, true_and]
    · simp only [h1, h2, dgt, not_true_eq_false, not_false_eq_true, and_self, if_true, if_false, z1, true_and]
theorem c_valueOf {d : Nat} {s : nm_S} {Q : nm_K} {l : Int32} : nm_call (d + 1) 24 [.ref 37, .int l] (rep s) Q ↔ Q [.int (rdv s l)] (rep s) := by
  simp only [e_X3_valueOf, r_X3_valueOf_0, r_X3_valueOf_1, r_X3_valueOf_3, r_X3_valueOf_6, r_X3_valueOf_7, r_X3_valueOf_10, r_X3_valueOf_11, r_X3_valueOf_12, r_X3_valueOf_14, r_X3_valueOf_17, r_X3_valueOf_18, r_X3_valueOf_21, r_X3_valueOf_22, r_X3_valueOf_23, r_X3_valueOf_25, r_X3_valueOf_28, r_X3_valueOf_29, r_X3_valueOf_32, r_X3_valueOf_35, r_X3_valueOf_36, r_X3_valueOf_39, ob_37, gt_37_0, pt_37_0, gt_37_1, pt_37_1, gt_37_2, pt_37_2, gt_37_3, pt_37_3, gt_37_4, gt_37_5, gt_37_6, pt_37_6, gt_37_7, pt_37_7, gt_37_8, pt_37_8, gt_37_9, pt_37_9, gt_37_10, pt_37_10, gt_37_11, pt_37_11, List.cons_append, List.nil_append, List.append_nil, if_true, if_false, true_and, and_true, true_or, or_true, nm_b_some, rdv]
  by_cases h1 : l = 108
  · simp only [h1, if_true]
  · by_cases h2 : l = 110
    · simp only [h1, h2, if_true, if_false]
      simp
    · by_cases h3 : l = 102
      · simp only [h1, h2, h3, if_true, if_false]
        simp
      · simp only [h1, h2, h3, if_true, if_false]
theorem c_cmpH {d : Nat} {s : nm_S} {Q : nm_K} {v : Int32} : nm_call (d + 1) 25 [.ref 37, .int v] (rep s) Q ↔ Q [.int (if cmpv (gi s 3709) v (gi s 3710) = true then 1 else 0)] (rep s) := by
  simp only [e_X3_comparisonHolds, r_X3_comparisonHolds_0, r_X3_comparisonHolds_1, r_X3_comparisonHolds_4, r_X3_comparisonHolds_6, r_X3_comparisonHolds_9, r_X3_comparisonHolds_10, r_X3_comparisonHolds_11, r_X3_comparisonHolds_14, r_X3_comparisonHolds_17, r_X3_comparisonHolds_18, r_X3_comparisonHolds_21, r_X3_comparisonHolds_22, r_X3_comparisonHolds_23, r_X3_comparisonHolds_24, r_X3_comparisonHolds_27, r_X3_comparisonHolds_29, r_X3_comparisonHolds_32, r_X3_comparisonHolds_33, r_X3_comparisonHolds_34, r_X3_comparisonHolds_37, r_X3_comparisonHolds_40, r_X3_comparisonHolds_41, r_X3_comparisonHolds_44, r_X3_comparisonHolds_45, r_X3_comparisonHolds_48, r_X3_comparisonHolds_49, r_X3_comparisonHolds_50, r_X3_comparisonHolds_53, r_X3_comparisonHolds_56, r_X3_comparisonHolds_57, r_X3_comparisonHolds_60, r_X3_comparisonHolds_61, ob_37, gt_37_0, pt_37_0, gt_37_1, pt_37_1, gt_37_2, pt_37_2, gt_37_3, pt_37_3, gt_37_4, gt_37_5, gt_37_6, pt_37_6, gt_37_7, pt_37_7, gt_37_8, pt_37_8, gt_37_9, pt_37_9, gt_37_10, pt_37_10, gt_37_11, pt_37_11, List.cons_append, List.nil_append, List.append_nil, if_true, if_false, true_and, and_true, true_or, or_true, nm_b_some, cmpv]
  by_cases h1 : gi s 3709 = 60
  · simp only [h1, if_true, decide_eq_true_eq]
    by_cases h : v < gi s 3710
    · simp only [h, if_true, z1, true_and]
    · simp only [h, if_false, z0, true_and]
  · by_cases h2 : gi s 3709 = 62
    · simp only [h1, h2, if_true, if_false, decide_eq_true_eq]
      by_cases h : gi s 3710 < v
      · simp [h]
      · simp [h]
    · simp only [h1, h2, if_false, decide_eq_true_eq]
      by_cases h : v = gi s 3710
      · simp only [h, if_true, z1, true_and]
      · simp only [h, if_false, z0, true_and]
theorem c_openTests {d : Nat} {s : nm_S} {Q : nm_K} {dp : Nat} (hd : gi s 3706 = nI dp) (h8 : dp ≤ 8) : nm_call (d + 1) 20 [.ref 37] (rep s) Q ↔ Q [] (rep (sa (sa s 38 (upd (ga s 38) dp 0)) 39 (upd (ga s 39) dp 1))) := by
  have h2 : vp_in (nI dp) 9 := vp_in' (by omega) (by omega)
  have h3 : (nI dp).toNatClampNeg = dp := i_nIc (by omega)
  have h4 : (0 : Int32) &&& 1 = 0 := by decide
  have h5 : (1 : Int32) &&& 1 = 1 := by decide
  simp only [e_X3_openTests, r_X3_openTests_0, r_X3_openTests_1, r_X3_openTests_4, r_X3_openTests_5, r_X3_openTests_8, r_X3_openTests_9, r_X3_openTests_10, r_X3_openTests_11, r_X3_openTests_14, r_X3_openTests_15, r_X3_openTests_18, r_X3_openTests_19, r_X3_openTests_20, ob_37, gt_37_0, pt_37_0, gt_37_1, pt_37_1, gt_37_2, pt_37_2, gt_37_3, pt_37_3, gt_37_4, gt_37_5, gt_37_6, pt_37_6, gt_37_7, pt_37_7, gt_37_8, pt_37_8, gt_37_9, pt_37_9, gt_37_10, pt_37_10, gt_37_11, pt_37_11, ad_38, as_38, ad_39, as_39, List.cons_append, List.nil_append, List.append_nil, if_true, if_false, true_and, and_true, true_or, or_true, nm_b_some, gi_si, ga_sa, gi_sa, gi_sb, gi_sp, ga_si, ga_sb, ga_sp, gb_si, gb_sa, gb_sb, gb_sp, gp_si, gp_sa, gp_sb, gp_sp, if_true, if_false, ↓reduceIte, Nat.reduceEqDiff, hd, h2, h3, h4, h5]
theorem c_testsHold {d : Nat} {s : nm_S} {Q : nm_K} {a : rA} (hR : RdR s a) : nm_call (d + 1) 21 [.ref 37] (rep s) Q ↔ Q [.int (if (a.2.2.2.2.2.2.1 a.1 || a.2.2.2.2.2.2.2 a.1) = true then 1 else 0)] (rep s) := by
  obtain ⟨r1, r2, r3, r4, r5, r6, r7, r8, r9, r10⟩ := hR
  have h2 : vp_in (nI a.1) 9 := vp_in' (by omega) (by omega)
  have h3 : (nI a.1).toNatClampNeg = a.1 := i_nIc (by omega)
  simp only [e_X3_testsHold, r_X3_testsHold_0, r_X3_testsHold_1, r_X3_testsHold_4, r_X3_testsHold_5, r_X3_testsHold_8, r_X3_testsHold_9, r_X3_testsHold_12, r_X3_testsHold_13, r_X3_testsHold_16, r_X3_testsHold_17, r_X3_testsHold_20, r_X3_testsHold_21, r_X3_testsHold_24, r_X3_testsHold_25, r_X3_testsHold_28, r_X3_testsHold_29, ob_37, gt_37_0, pt_37_0, gt_37_1, pt_37_1, gt_37_2, pt_37_2, gt_37_3, pt_37_3, gt_37_4, gt_37_5, gt_37_6, pt_37_6, gt_37_7, pt_37_7, gt_37_8, pt_37_8, gt_37_9, pt_37_9, gt_37_10, pt_37_10, gt_37_11, pt_37_11, ad_38, as_38, ad_39, as_39, List.cons_append, List.nil_append, List.append_nil, if_true, if_false, true_and, and_true, true_or, or_true, nm_b_some, r1, h2, h3, r9, r10]
  by_cases h4 : ga s 38 a.1 = 0
  · by_cases h5 : ga s 39 a.1 = 0
    · simp [h4, h5]
    · simp [h4, h5]
  · simp [h4]
theorem c_endUnit {d : Nat} {s : nm_S} {Q : nm_K} {x : Int32} {dp : Nat} (hd : gi s 3706 = nI dp) (h8 : dp ≤ 8) : nm_call (d + 1) 23 [.ref 37, .int x] (rep s) Q ↔ Q [] (rep (si (sa s 39 (upd (ga s 39) dp (if ¬ ga s 39 dp = 0 ∧ ¬ x = 0 then 1 else 0))) 3707 4)) := by
  have h2 : vp_in (nI dp) 9 := vp_in' (by omega) (by omega)
  have h3 : (nI dp).toNatClampNeg = dp := i_nIc (by omega)
  have h4 : (0 : Int32) &&& 1 = 0 := by decide
  have h5 : (1 : Int32) &&& 1 = 1 := by decide
  simp only [e_X3_endUnit, r_X3_endUnit_0, r_X3_endUnit_1, r_X3_endUnit_4, r_X3_endUnit_5, r_X3_endUnit_8, r_X3_endUnit_9, r_X3_endUnit_12, r_X3_endUnit_13, r_X3_endUnit_16, r_X3_endUnit_17, r_X3_endUnit_20, r_X3_endUnit_21, r_X3_endUnit_24, r_X3_endUnit_25, r_X3_endUnit_28, r_X3_endUnit_29, r_X3_endUnit_30, r_X3_endUnit_31, r_X3_endUnit_32, r_X3_endUnit_35, ob_37, gt_37_0, pt_37_0, gt_37_1, pt_37_1, gt_37_2, pt_37_2, gt_37_3, pt_37_3, gt_37_4, gt_37_5, gt_37_6, pt_37_6, gt_37_7, pt_37_7, gt_37_8, pt_37_8, gt_37_9, pt_37_9, gt_37_10, pt_37_10, gt_37_11, pt_37_11, ad_39, as_39, List.cons_append, List.nil_append, List.append_nil, if_true, if_false, true_and, and_true, true_or, or_true, nm_b_some, gi_si, ga_sa, gi_sa, gi_sb, gi_sp, ga_si, ga_sb, ga_sp, gb_si, gb_sa, gb_sb, gb_sp, gp_si, gp_sa, gp_sb, gp_sp, if_true, if_false, ↓reduceIte, Nat.reduceEqDiff, hd, h2, h3]
  by_cases h6 : ga s 39 dp = 0
  · simp only [h6, if_true, h4, not_true_eq_false, false_and, if_false]
  · by_cases h7 : x = 0
    · simp only [h6, h7, if_true, h4, not_true_eq_false, and_false, if_false]
    · simp only [h6, h7, if_false, h5, not_false_eq_true, and_self, if_true]
theorem b_iff {b : Bool} : (¬ (if b = true then 1 else 0 : Int32) = 0) ↔ b = true := by cases b <;> decide
theorem RdR_eU {s : nm_S} {a : rA} {b : Bool} (hR : RdR s a) : RdR (si (sa s 39 (upd (ga s 39) a.1 (if ¬ ga s 39 a.1 = 0 ∧ b = true then 1 else 0))) 3707 4) (eU a b) := by
  obtain ⟨r1, r2, r3, r4, r5, r6, r7, r8, r9, r10⟩ := hR
  refine ⟨?_, r2, ?_, Nat.le_refl 4, ?_, ?_, ?_, ?_, ?_, ?_⟩
  · simp only [gi_si, ga_sa, gi_sa, gi_sb, gi_sp, ga_si, ga_sb, ga_sp, gb_si, gb_sa, gb_sb, gb_sp, gp_si, gp_sa, gp_sb, gp_sp, if_true, if_false, ↓reduceIte, Nat.reduceEqDiff]; exact r1
  · simp only [gi_si, ga_sa, gi_sa, gi_sb, gi_sp, ga_si, ga_sb, ga_sp, gb_si, gb_sa, gb_sb, gb_sp, gp_si, gp_sa, gp_sb, gp_sp, if_true, if_false, ↓reduceIte, Nat.reduceEqDiff]; rfl
  · simp only [gi_si, ga_sa, gi_sa, gi_sb, gi_sp, ga_si, ga_sb, ga_sp, gb_si, gb_sa, gb_sb, gb_sp, gp_si, gp_sa, gp_sb, gp_sp, if_true, if_false, ↓reduceIte, Nat.reduceEqDiff]; exact r5
  · simp only [gi_si, ga_sa, gi_sa, gi_sb, gi_sp, ga_si, ga_sb, ga_sp, gb_si, gb_sa, gb_sb, gb_sp, gp_si, gp_sa, gp_sb, gp_sp, if_true, if_false, ↓reduceIte, Nat.reduceEqDiff]; exact r6
  · simp only [gi_si, ga_sa, gi_sa, gi_sb, gi_sp, ga_si, ga_sb, ga_sp, gb_si, gb_sa, gb_sb, gb_sp, gp_si, gp_sa, gp_sb, gp_sp, if_true, if_false, ↓reduceIte, Nat.reduceEqDiff]; exact r7
  · simp only [gi_si, ga_sa, gi_sa, gi_sb, gi_sp, ga_si, ga_sb, ga_sp, gb_si, gb_sa, gb_sb, gb_sp, gp_si, gp_sa, gp_sb, gp_sp, if_true, if_false, ↓reduceIte, Nat.reduceEqDiff]; exact r8
  · simp only [gi_si, ga_sa, gi_sa, gi_sb, gi_sp, ga_si, ga_sb, ga_sp, gb_si, gb_sa, gb_sb, gb_sp, gp_si, gp_sa, gp_sb, gp_sp, if_true, if_false, ↓reduceIte, Nat.reduceEqDiff]; exact r9
  · simp only [gi_si, ga_sa, gi_sa, gi_sb, gi_sp, ga_si, ga_sb, ga_sp, gb_si, gb_sa, gb_sb, gb_sp, gp_si, gp_sa, gp_sb, gp_sp, if_true, if_false, ↓reduceIte, Nat.reduceEqDiff]
    refine rd_upd r10 ?_
    rw [r10]
    by_cases h1 : ga s 39 a.1 = 0 <;> cases b <;> simp [h1]
theorem FrR_eU {s : nm_S} {f : Nat → Int32} : FrR s (si (sa s 39 f) 3707 4) := (Fr.rf.sa (by decide)).si (by decide)
theorem c_endNumber {d : Nat} {s : nm_S} {Q : nm_K} {a : rA} (hR : RdR s a) (hQ : ∀ t, RdR t (eN (rdv s) a) → FrR s t → Q [] (rep t)) : nm_call (d + 2) 22 [.ref 37] (rep s) Q := by
  have hR' := hR
  obtain ⟨r1, r2, r3, r4, r5, r6, r7, r8, r9, r10⟩ := hR
  have hu := fun (x : Int32) (Q : nm_K) => c_endUnit (d := d) (s := s) (Q := Q) (x := x) r1 r2
  simp only [e_X3_endNumber, r_X3_endNumber_0, r_X3_endNumber_1, r_X3_endNumber_2, r_X3_endNumber_3, r_X3_endNumber_4, r_X3_endNumber_7, r_X3_endNumber_10, r_X3_endNumber_13, r_X3_endNumber_16, ob_37, gt_37_0, pt_37_0, gt_37_1, pt_37_1, gt_37_2, pt_37_2, gt_37_3, pt_37_3, gt_37_4, gt_37_5, gt_37_6, pt_37_6, gt_37_7, pt_37_7, gt_37_8, pt_37_8, gt_37_9, pt_37_9, gt_37_10, pt_37_10, gt_37_11, pt_37_11, List.cons_append, List.nil_append, List.append_nil, if_true, if_false, true_and, and_true, true_or, or_true, nm_b_some, c_valueOf, c_cmpH, hu, b_iff]
  refine hQ _ ?_ FrR_eU
  rw [r5, r6, r7]
  exact RdR_eU hR'
def TkS (s : nm_S) (r : Option rA) (Q : nm_K) : Prop := (∀ b t, r = some b → RdR t b → FrR s t → Q [.int 1] (rep t)) ∧ (r = none → ∀ t, FrR s t → Q [.int 0] (rep t))
theorem TkS_fr {s t : nm_S} {r : Option rA} {Q : nm_K} (h : TkS s r Q) (hf : FrR s t) : TkS t r Q := ⟨fun b u hb hR hu => h.1 b u hb hR (hf.tr hu), fun hr u hu => h.2 hr u (hf.tr hu)⟩
theorem c_takesUnit {d : Nat} {s : nm_S} {Q : nm_K} {a : rA} {c : Int32} (hR : RdR s a) (hc : 0 ≤ c ∧ c ≤ 65535) (h : TkS s (tU c a) Q) : nm_call (d + 2) 16 [.ref 37, .int c] (rep s) Q := by
  obtain ⟨r1, r2, r3, r4, r5, r6, r7, r8, r9, r10⟩ := hR
  simp only [e_X3_takesUnit, r_X3_takesUnit_0, r_X3_takesUnit_1, r_X3_takesUnit_3, r_X3_takesUnit_6, r_X3_takesUnit_7, r_X3_takesUnit_10, r_X3_takesUnit_12, r_X3_takesUnit_15, r_X3_takesUnit_16, r_X3_takesUnit_17, r_X3_takesUnit_20, r_X3_takesUnit_21, r_X3_takesUnit_22, r_X3_takesUnit_25, r_X3_takesUnit_26, r_X3_takesUnit_29, r_X3_takesUnit_30, r_X3_takesUnit_31, r_X3_takesUnit_32, r_X3_takesUnit_33, r_X3_takesUnit_36, r_X3_takesUnit_37, r_X3_takesUnit_38, r_X3_takesUnit_41, r_X3_takesUnit_42, r_X3_takesUnit_44, r_X3_takesUnit_47, r_X3_takesUnit_48, r_X3_takesUnit_50, r_X3_takesUnit_53, r_X3_takesUnit_54, r_X3_takesUnit_56, r_X3_takesUnit_59, r_X3_takesUnit_60, r_X3_takesUnit_62, r_X3_takesUnit_65, r_X3_takesUnit_66, r_X3_takesUnit_69, r_X3_takesUnit_70, ob_37, gt_37_0, pt_37_0, gt_37_1, pt_37_1, gt_37_2, pt_37_2, gt_37_3, pt_37_3, gt_37_4, gt_37_5, gt_37_6, pt_37_6, gt_37_7, pt_37_7, gt_37_8, pt_37_8, gt_37_9, pt_37_9, gt_37_10, pt_37_10, gt_37_11, pt_37_11, List.cons_append, List.nil_append, List.append_nil, if_true, if_false, true_and, and_true, true_or, or_true, nm_b_some, gi_si, ga_sa, gi_sa, gi_sb, gi_sp, ga_si, ga_sb, ga_sp, gb_si, gb_sa, gb_sb, gb_sp, gp_si, gp_sa, gp_sb, gp_sp, if_true, if_false, ↓reduceIte, Nat.reduceEqDiff, r1, nI_s]
  by_cases h40 : c = 40 ∧ a.1 < 8
  · have h8 : nI a.1 < 8 := (nI_lt' (b := 8) (by omega) (by omega)).mpr h40.2
    have ho := fun (Q : nm_K) => c_openTests (d := d) (s := si s 3706 (nI (a.1 + 1))) (Q := Q) (dp := a.1 + 1) (by simp only [gi_si, ga_sa, gi_sa, gi_sb, gi_sp, ga_si, ga_sb, ga_sp, gb_si, gb_sa, gb_sb, gb_sp, gp_si, gp_sa, gp_sb, gp_sp, if_true, if_false, ↓reduceIte, Nat.reduceEqDiff]) (by omega)
    simp only [h40.1, h8, if_true, ho, z1, r_X3_takesUnit_29, r_X3_takesUnit_30, gi_si, ga_sa, gi_sa, gi_sb, gi_sp, ga_si, ga_sb, ga_sp, gb_si, gb_sa, gb_sb, gb_sp, gp_si, gp_sa, gp_sb, gp_sp, if_true, if_false, ↓reduceIte, Nat.reduceEqDiff, List.cons_append, List.nil_append, List.append_nil, if_true, if_false, true_and, and_true, true_or, or_true, nm_b_some]
    simp only [tU, h40, and_self, if_true] at h
    refine h.1 _ _ rfl ⟨?_, ?_, ?_, r4, ?_, ?_, ?_, ?_, ?_, ?_⟩ ?_
    · simp only [gi_si, ga_sa, gi_sa, gi_sb, gi_sp, ga_si, ga_sb, ga_sp, gb_si, gb_sa, gb_sb, gb_sp, gp_si, gp_sa, gp_sb, gp_sp, if_true, if_false, ↓reduceIte, Nat.reduceEqDiff]
    · show a.1 + 1 ≤ 8; omega
    · simp only [gi_si, ga_sa, gi_sa, gi_sb, gi_sp, ga_si, ga_sb, ga_sp, gb_si, gb_sa, gb_sb, gb_sp, gp_si, gp_sa, gp_sb, gp_sp, if_true, if_false, ↓reduceIte, Nat.reduceEqDiff]; exact r3
    · simp only [gi_si, ga_sa, gi_sa, gi_sb, gi_sp, ga_si, ga_sb, ga_sp, gb_si, gb_sa, gb_sb, gb_sp, gp_si, gp_sa, gp_sb, gp_sp, if_true, if_false, ↓reduceIte, Nat.reduceEqDiff]; exact r5
    · simp only [gi_si, ga_sa, gi_sa, gi_sb, gi_sp, ga_si, ga_sb, ga_sp, gb_si, gb_sa, gb_sb, gb_sp, gp_si, gp_sa, gp_sb, gp_sp, if_true, if_false, ↓reduceIte, Nat.reduceEqDiff]; exact r6
    · simp only [gi_si, ga_sa, gi_sa, gi_sb, gi_sp, ga_si, ga_sb, ga_sp, gb_si, gb_sa, gb_sb, gb_sp, gp_si, gp_sa, gp_sb, gp_sp, if_true, if_false, ↓reduceIte, Nat.reduceEqDiff]; exact r7
    · simp only [gi_si, ga_sa, gi_sa, gi_sb, gi_sp, ga_si, ga_sb, ga_sp, gb_si, gb_sa, gb_sb, gb_sp, gp_si, gp_sa, gp_sb, gp_sp, if_true, if_false, ↓reduceIte, Nat.reduceEqDiff]; exact r8
    · simp only [gi_si, ga_sa, gi_sa, gi_sb, gi_sp, ga_si, ga_sb, ga_sp, gb_si, gb_sa, gb_sb, gb_sp, gp_si, gp_sa, gp_sb, gp_sp, if_true, if_false, ↓reduceIte, Nat.reduceEqDiff]; exact rd_upd r9 (by decide)
    · simp only [gi_si, ga_sa, gi_sa, gi_sb, gi_sp, ga_si, ga_sb, ga_sp, gb_si, gb_sa, gb_sb, gb_sp, gp_si, gp_sa, gp_sb, gp_sp, if_true, if_false, ↓reduceIte, Nat.reduceEqDiff]; exact rd_upd r10 (by decide)
    · exact ((Fr.rf.si (by decide)).sa (by decide)).sa (by decide)
  · have key : (0 ≤ c ∧ c ≤ 65535) ∧ (if c = 108 then Q [.int 1] (rep (si (si s 3708 c) 3707 1)) else if c = 110 then Q [.int 1] (rep (si (si s 3708 c) 3707 1)) else if c = 102 then Q [.int 1] (rep (si (si s 3708 c) 3707 1)) else if c = 100 then Q [.int 1] (rep (si (si s 3708 c) 3707 1)) else Q [.int 0] (rep (si (si s 3708 c) 3707 1))) := by
      refine ⟨hc, ?_⟩
      have hfr : FrR s (si (si s 3708 c) 3707 1) := (Fr.rf.si (by decide)).si (by decide)
      by_cases hl : lett c
      · simp only [tU, h40, hl, if_true, if_false] at h
        have := h.1 _ (si (si s 3708 c) 3707 1) rfl ⟨by simp only [gi_si, ga_sa, gi_sa, gi_sb, gi_sp, ga_si, ga_sb, ga_sp, gb_si, gb_sa, gb_sb, gb_sp, gp_si, gp_sa, gp_sb, gp_sp, if_true, if_false, ↓reduceIte, Nat.reduceEqDiff]; exact r1, r2, by simp only [gi_si, ga_sa, gi_sa, gi_sb, gi_sp, ga_si, ga_sb, ga_sp, gb_si, gb_sa, gb_sb, gb_sp, gp_si, gp_sa, gp_sb, gp_sp, if_true, if_false, ↓reduceIte, Nat.reduceEqDiff]; rfl, by show 1 ≤ 4; omega, by simp only [gi_si, ga_sa, gi_sa, gi_sb, gi_sp, ga_si, ga_sb, ga_sp, gb_si, gb_sa, gb_sb, gb_sp, gp_si, gp_sa, gp_sb, gp_sp, if_true, if_false, ↓reduceIte, Nat.reduceEqDiff], by simp only [gi_si, ga_sa, gi_sa, gi_sb, gi_sp, ga_si, ga_sb, ga_sp, gb_si, gb_sa, gb_sb, gb_sp, gp_si, gp_sa, gp_sb, gp_sp, if_true, if_false, ↓reduceIte, Nat.reduceEqDiff]; exact r6, by simp only [gi_si, ga_sa, gi_sa, gi_sb, gi_sp, ga_si, ga_sb, ga_sp, gb_si, gb_sa, gb_sb, gb_sp, gp_si, gp_sa, gp_sb, gp_sp, if_true, if_false, ↓reduceIte, Nat.reduceEqDiff]; exact r7, by simp only [gi_si, ga_sa, gi_sa, gi_sb, gi_sp, ga_si, ga_sb, ga_sp, gb_si, gb_sa, gb_sb, gb_sp, gp_si, gp_sa, gp_sb, gp_sp, if_true, if_false, ↓reduceIte, Nat.reduceEqDiff]; exact r8, by simp only [gi_si, ga_sa, gi_sa, gi_sb, gi_sp, ga_si, ga_sb, ga_sp, gb_si, gb_sa, gb_sb, gb_sp, gp_si, gp_sa, gp_sb, gp_sp, if_true, if_false, ↓reduceIte, Nat.reduceEqDiff]; exact r9, by simp only [gi_si, ga_sa, gi_sa, gi_sb, gi_sp, ga_si, ga_sb, ga_sp, gb_si, gb_sa, gb_sb, gb_sp, gp_si, gp_sa, gp_sb, gp_sp, if_true, if_false, ↓reduceIte, Nat.reduceEqDiff]; exact r10⟩ hfr
        simp only [this]
        rcases hl with rfl | rfl | rfl | rfl <;> simp
      · have := h.2 (by simp only [tU, h40, hl, if_false]) _ hfr
        have hl' : ¬ c = 108 ∧ ¬ c = 110 ∧ ¬ c = 102 ∧ ¬ c = 100 := ⟨fun z => hl (Or.inl z), fun z => hl (Or.inr (Or.inl z)), fun z => hl (Or.inr (Or.inr (Or.inl z))), fun z => hl (Or.inr (Or.inr (Or.inr z)))⟩
        simp only [this, hl'.1, hl'.2.1, hl'.2.2.1, hl'.2.2.2, if_false]
    by_cases hc40 : c = 40
    · have h8 : ¬ nI a.1 < 8 := fun z => h40 ⟨hc40, (nI_lt' (b := 8) (by omega) (by omega)).mp z⟩
      simp only [hc40, h8, if_true, if_false, z0, z1, List.cons_append, List.nil_append, List.append_nil, if_true, if_false, true_and, and_true, true_or, or_true, nm_b_some] at key ⊢
      exact key
    · simp only [hc40, if_false, z0, z1, List.cons_append, List.nil_append, List.append_nil, if_true, if_false, true_and, and_true, true_or, or_true, nm_b_some]
      exact key
theorem c_takesSign {d : Nat} {s : nm_S} {Q : nm_K} {a : rA} {c : Int32} (hR : RdR s a) (hc : 0 ≤ c ∧ c ≤ 65535) (h : TkS s (tS c a) Q) : nm_call (d + 1) 17 [.ref 37, .int c] (rep s) Q := by
  obtain ⟨r1, r2, r3, r4, r5, r6, r7, r8, r9, r10⟩ := hR
  simp only [e_X3_takesSign, r_X3_takesSign_0, r_X3_takesSign_1, r_X3_takesSign_2, r_X3_takesSign_5, r_X3_takesSign_6, r_X3_takesSign_7, r_X3_takesSign_10, r_X3_takesSign_11, r_X3_takesSign_12, r_X3_takesSign_15, r_X3_takesSign_16, r_X3_takesSign_17, r_X3_takesSign_20, r_X3_takesSign_21, r_X3_takesSign_23, r_X3_takesSign_26, r_X3_takesSign_27, r_X3_takesSign_29, r_X3_takesSign_32, r_X3_takesSign_33, r_X3_takesSign_35, r_X3_takesSign_38, r_X3_takesSign_39, r_X3_takesSign_42, r_X3_takesSign_43, ob_37, gt_37_0, pt_37_0, gt_37_1, pt_37_1, gt_37_2, pt_37_2, gt_37_3, pt_37_3, gt_37_4, gt_37_5, gt_37_6, pt_37_6, gt_37_7, pt_37_7, gt_37_8, pt_37_8, gt_37_9, pt_37_9, gt_37_10, pt_37_10, gt_37_11, pt_37_11, List.cons_append, List.nil_append, List.append_nil, if_true, if_false, true_and, and_true, true_or, or_true, nm_b_some, gi_si, ga_sa, gi_sa, gi_sb, gi_sp, ga_si, ga_sb, ga_sp, gb_si, gb_sa, gb_sb, gb_sp, gp_si, gp_sa, gp_sb, gp_sp, if_true, if_false, ↓reduceIte, Nat.reduceEqDiff, z0, z1]
  refine ⟨hc, ?_⟩
  have hfr : FrR s (si (si (si (si s 3709 c) 3707 2) 3710 0) 3711 0) := (((Fr.rf.si (by decide)).si (by decide)).si (by decide)).si (by decide)
  by_cases hl : sgn c
  · simp only [tS, hl, if_true] at h
    have := h.1 _ (si (si (si (si s 3709 c) 3707 2) 3710 0) 3711 0) rfl ⟨by simp only [gi_si, ga_sa, gi_sa, gi_sb, gi_sp, ga_si, ga_sb, ga_sp, gb_si, gb_sa, gb_sb, gb_sp, gp_si, gp_sa, gp_sb, gp_sp, if_true, if_false, ↓reduceIte, Nat.reduceEqDiff]; exact r1, r2, by simp only [gi_si, ga_sa, gi_sa, gi_sb, gi_sp, ga_si, ga_sb, ga_sp, gb_si, gb_sa, gb_sb, gb_sp, gp_si, gp_sa, gp_sb, gp_sp, if_true, if_false, ↓reduceIte, Nat.reduceEqDiff]; rfl, by show 2 ≤ 4; omega, by simp only [gi_si, ga_sa, gi_sa, gi_sb, gi_sp, ga_si, ga_sb, ga_sp, gb_si, gb_sa, gb_sb, gb_sp, gp_si, gp_sa, gp_sb, gp_sp, if_true, if_false, ↓reduceIte, Nat.reduceEqDiff]; exact r5, by simp only [gi_si, ga_sa, gi_sa, gi_sb, gi_sp, ga_si, ga_sb, ga_sp, gb_si, gb_sa, gb_sb, gb_sp, gp_si, gp_sa, gp_sb, gp_sp, if_true, if_false, ↓reduceIte, Nat.reduceEqDiff], by simp only [gi_si, ga_sa, gi_sa, gi_sb, gi_sp, ga_si, ga_sb, ga_sp, gb_si, gb_sa, gb_sb, gb_sp, gp_si, gp_sa, gp_sb, gp_sp, if_true, if_false, ↓reduceIte, Nat.reduceEqDiff], by simp only [gi_si, ga_sa, gi_sa, gi_sb, gi_sp, ga_si, ga_sb, ga_sp, gb_si, gb_sa, gb_sb, gb_sp, gp_si, gp_sa, gp_sb, gp_sp, if_true, if_false, ↓reduceIte, Nat.reduceEqDiff], by simp only [gi_si, ga_sa, gi_sa, gi_sb, gi_sp, ga_si, ga_sb, ga_sp, gb_si, gb_sa, gb_sb, gb_sp, gp_si, gp_sa, gp_sb, gp_sp, if_true, if_false, ↓reduceIte, Nat.reduceEqDiff]; exact r9, by simp only [gi_si, ga_sa, gi_sa, gi_sb, gi_sp, ga_si, ga_sb, ga_sp, gb_si, gb_sa, gb_sb, gb_sp, gp_si, gp_sa, gp_sb, gp_sp, if_true, if_false, ↓reduceIte, Nat.reduceEqDiff]; exact r10⟩ hfr
    simp only [this]
    rcases hl with rfl | rfl | rfl <;> simp
  · have := h.2 (by simp only [tS, hl, if_false]) _ hfr
    have hl' : ¬ c = 61 ∧ ¬ c = 60 ∧ ¬ c = 62 := ⟨fun z => hl (Or.inl z), fun z => hl (Or.inr (Or.inl z)), fun z => hl (Or.inr (Or.inr z))⟩
    simp only [this, hl'.1, hl'.2.1, hl'.2.2, if_false]
theorem c_takesDigit {d : Nat} {s : nm_S} {Q : nm_K} {a : rA} {c : Int32} (hR : RdR s a) (h : TkS s (tD c a) Q) : nm_call (d + 2) 18 [.ref 37, .int c] (rep s) Q := by
  obtain ⟨r1, r2, r3, r4, r5, r6, r7, r8, r9, r10⟩ := hR
  simp only [e_X3_takesDigit, r_X3_takesDigit_0, r_X3_takesDigit_1, r_X3_takesDigit_4, r_X3_takesDigit_7, r_X3_takesDigit_8, r_X3_takesDigit_11, r_X3_takesDigit_12, r_X3_takesDigit_15, r_X3_takesDigit_16, r_X3_takesDigit_17, r_X3_takesDigit_18, r_X3_takesDigit_19, r_X3_takesDigit_22, r_X3_takesDigit_24, r_X3_takesDigit_25, r_X3_takesDigit_26, r_X3_takesDigit_28, r_X3_takesDigit_29, r_X3_takesDigit_30, r_X3_takesDigit_33, r_X3_takesDigit_34, r_X3_takesDigit_35, r_X3_takesDigit_38, r_X3_takesDigit_39, r_X3_takesDigit_40, r_X3_takesDigit_43, r_X3_takesDigit_44, r_X3_takesDigit_45, r_X3_takesDigit_48, r_X3_takesDigit_49, ob_37, gt_37_0, pt_37_0, gt_37_1, pt_37_1, gt_37_2, pt_37_2, gt_37_3, pt_37_3, gt_37_4, gt_37_5, gt_37_6, pt_37_6, gt_37_7, pt_37_7, gt_37_8, pt_37_8, gt_37_9, pt_37_9, gt_37_10, pt_37_10, gt_37_11, pt_37_11, List.cons_append, List.nil_append, List.append_nil, if_true, if_false, true_and, and_true, true_or, or_true, nm_b_some, gi_si, ga_sa, gi_sa, gi_sb, gi_sp, ga_si, ga_sb, ga_sp, gb_si, gb_sa, gb_sb, gb_sp, gp_si, gp_sa, gp_sb, gp_sp, if_true, if_false, ↓reduceIte, Nat.reduceEqDiff, c_isDigit, r7, r8, b_0]
  by_cases hd : dgt c ∧ a.2.2.2.2.2.1 < 4
  · have hfr : FrR s (si (si (si s 3710 (a.2.2.2.2.1 * 10 + (c - 48))) 3711 (a.2.2.2.2.2.1 + 1)) 3707 3) := ((Fr.rf.si (by decide)).si (by decide)).si (by decide)
    rw [tD, if_pos hd] at h
    have := h.1 _ (si (si (si s 3710 (a.2.2.2.2.1 * 10 + (c - 48))) 3711 (a.2.2.2.2.2.1 + 1)) 3707 3) rfl ⟨by simp only [gi_si, ga_sa, gi_sa, gi_sb, gi_sp, ga_si, ga_sb, ga_sp, gb_si, gb_sa, gb_sb, gb_sp, gp_si, gp_sa, gp_sb, gp_sp, if_true, if_false, ↓reduceIte, Nat.reduceEqDiff]; exact r1, r2, by simp only [gi_si, ga_sa, gi_sa, gi_sb, gi_sp, ga_si, ga_sb, ga_sp, gb_si, gb_sa, gb_sb, gb_sp, gp_si, gp_sa, gp_sb, gp_sp, if_true, if_false, ↓reduceIte, Nat.reduceEqDiff]; rfl, by show 3 ≤ 4; omega, by simp only [gi_si, ga_sa, gi_sa, gi_sb, gi_sp, ga_si, ga_sb, ga_sp, gb_si, gb_sa, gb_sb, gb_sp, gp_si, gp_sa, gp_sb, gp_sp, if_true, if_false, ↓reduceIte, Nat.reduceEqDiff]; exact r5, by simp only [gi_si, ga_sa, gi_sa, gi_sb, gi_sp, ga_si, ga_sb, ga_sp, gb_si, gb_sa, gb_sb, gb_sp, gp_si, gp_sa, gp_sb, gp_sp, if_true, if_false, ↓reduceIte, Nat.reduceEqDiff]; exact r6, by simp only [gi_si, ga_sa, gi_sa, gi_sb, gi_sp, ga_si, ga_sb, ga_sp, gb_si, gb_sa, gb_sb, gb_sp, gp_si, gp_sa, gp_sb, gp_sp, if_true, if_false, ↓reduceIte, Nat.reduceEqDiff], by simp only [gi_si, ga_sa, gi_sa, gi_sb, gi_sp, ga_si, ga_sb, ga_sp, gb_si, gb_sa, gb_sb, gb_sp, gp_si, gp_sa, gp_sb, gp_sp, if_true, if_false, ↓reduceIte, Nat.reduceEqDiff], by simp only [gi_si, ga_sa, gi_sa, gi_sb, gi_sp, ga_si, ga_sb, ga_sp, gb_si, gb_sa, gb_sb, gb_sp, gp_si, gp_sa, gp_sb, gp_sp, if_true, if_false, ↓reduceIte, Nat.reduceEqDiff]; exact r9, by simp only [gi_si, ga_sa, gi_sa, gi_sb, gi_sp, ga_si, ga_sb, ga_sp, gb_si, gb_sa, gb_sb, gb_sp, gp_si, gp_sa, gp_sb, gp_sp, if_true, if_false, ↓reduceIte, Nat.reduceEqDiff]; exact r10⟩ hfr
    rw [if_neg (fun z => z hd.1)]
    simp only [hd.2, if_true, z1, true_and]
    exact this
  · have := h.2 (by rw [tD, if_neg hd]) _ Fr.rf
    by_cases hd1 : dgt c
    · have hd2 : ¬ a.2.2.2.2.2.1 < 4 := fun z => hd ⟨hd1, z⟩
      rw [if_neg (fun z => z hd1)]
      simp only [hd2, if_false, z0, true_and]
      exact this
    · rw [if_pos hd1]
      exact this
theorem c_takesAfter {d : Nat} {s : nm_S} {Q : nm_K} {a : rA} {c : Int32} (hR : RdR s a) (h : TkS s (tA c a) Q) : nm_call (d + 2) 19 [.ref 37, .int c] (rep s) Q := by
  have hR' := hR
  obtain ⟨r1, r2, r3, r4, r5, r6, r7, r8, r9, r10⟩ := hR
  have ht := fun (Q : nm_K) => c_testsHold (d := d) (Q := Q) hR'
  have h2 : vp_in (nI a.1) 9 := vp_in' (by omega) (by omega)
  have h3 : (nI a.1).toNatClampNeg = a.1 := i_nIc (by omega)
  have h4 : ∀ b : Bool, (if b = true then 1 else 0 : Int32) &&& 1 = if b = true then 1 else 0 := by decide
  have h5 : (1 : Int32) &&& 1 = 1 := by decide
  have hb : ∀ b : Bool, ((if b = true then 1 else 0 : Int32) = 0 ∨ (if b = true then 1 else 0 : Int32) = 1) ↔ True := by decide
  have hpos : (0 : Int32) < nI a.1 ↔ 0 < a.1 := by rw [i_lt, i_l0, i_nI (by omega)]; omega
  simp only [e_X3_takesAfterUnit, r_X3_takesAfterUnit_0, r_X3_takesAfterUnit_1, r_X3_takesAfterUnit_3, r_X3_takesAfterUnit_6, r_X3_takesAfterUnit_7, r_X3_takesAfterUnit_10, r_X3_takesAfterUnit_13, r_X3_takesAfterUnit_14, r_X3_takesAfterUnit_17, r_X3_takesAfterUnit_18, r_X3_takesAfterUnit_19, r_X3_takesAfterUnit_20, r_X3_takesAfterUnit_23, r_X3_takesAfterUnit_24, r_X3_takesAfterUnit_25, r_X3_takesAfterUnit_28, r_X3_takesAfterUnit_29, r_X3_takesAfterUnit_30, r_X3_takesAfterUnit_33, r_X3_takesAfterUnit_34, r_X3_takesAfterUnit_35, r_X3_takesAfterUnit_36, r_X3_takesAfterUnit_38, r_X3_takesAfterUnit_41, r_X3_takesAfterUnit_42, r_X3_takesAfterUnit_45, r_X3_takesAfterUnit_46, r_X3_takesAfterUnit_49, r_X3_takesAfterUnit_50, r_X3_takesAfterUnit_53, r_X3_takesAfterUnit_54, r_X3_takesAfterUnit_55, r_X3_takesAfterUnit_58, r_X3_takesAfterUnit_59, r_X3_takesAfterUnit_62, r_X3_takesAfterUnit_63, r_X3_takesAfterUnit_64, r_X3_takesAfterUnit_65, r_X3_takesAfterUnit_66, r_X3_takesAfterUnit_69, r_X3_takesAfterUnit_70, r_X3_takesAfterUnit_72, r_X3_takesAfterUnit_75, r_X3_takesAfterUnit_76, r_X3_takesAfterUnit_78, r_X3_takesAfterUnit_81, r_X3_takesAfterUnit_82, r_X3_takesAfterUnit_85, r_X3_takesAfterUnit_86, ob_37, gt_37_0, pt_37_0, gt_37_1, pt_37_1, gt_37_2, pt_37_2, gt_37_3, pt_37_3, gt_37_4, gt_37_5, gt_37_6, pt_37_6, gt_37_7, pt_37_7, gt_37_8, pt_37_8, gt_37_9, pt_37_9, gt_37_10, pt_37_10, gt_37_11, pt_37_11, ad_38, as_38, ad_39, as_39, List.cons_append, List.nil_append, List.append_nil, if_true, if_false, true_and, and_true, true_or, or_true, nm_b_some, gi_si, ga_sa, gi_sa, gi_sb, gi_sp, ga_si, ga_sb, ga_sp, gb_si, gb_sa, gb_sb, gb_sp, gp_si, gp_sa, gp_sb, gp_sp, if_true, if_false, ↓reduceIte, Nat.reduceEqDiff, r1, ht, h2, h3, h4, h5, hpos]
  by_cases h41 : c = 41 ∧ 0 < a.1
  · have hs1 : nI a.1 - 1 = nI (a.1 - 1) := by
      have := nI_pred (a.1 - 1)
      rw [show a.1 - 1 + 1 = a.1 by omega] at this
      exact this
    have hu := fun (x : Int32) (Q : nm_K) => c_endUnit (d := d) (s := si s 3706 (nI (a.1 - 1))) (Q := Q) (x := x) (dp := a.1 - 1) (by simp only [gi_si, ga_sa, gi_sa, gi_sb, gi_sp, ga_si, ga_sb, ga_sp, gb_si, gb_sa, gb_sb, gb_sp, gp_si, gp_sa, gp_sb, gp_sp, if_true, if_false, ↓reduceIte, Nat.reduceEqDiff]) (by omega)
    simp only [h41.1, h41.2, if_true, hs1, hu, b_iff, z1, r_X3_takesAfterUnit_33, r_X3_takesAfterUnit_34, List.cons_append, List.nil_append, List.append_nil, if_true, if_false, true_and, and_true, true_or, or_true, nm_b_some, gi_si, ga_sa, gi_sa, gi_sb, gi_sp, ga_si, ga_sb, ga_sp, gb_si, gb_sa, gb_sb, gb_sp, gp_si, gp_sa, gp_sb, gp_sp, if_true, if_false, ↓reduceIte, Nat.reduceEqDiff]
    simp only [tA, h41, and_self, if_true] at h
    refine h.1 _ _ rfl ?_ ?_
    · have hR2 : RdR (si s 3706 (nI (a.1 - 1))) (a.1 - 1, a.2) := ⟨by simp only [gi_si, ga_sa, gi_sa, gi_sb, gi_sp, ga_si, ga_sb, ga_sp, gb_si, gb_sa, gb_sb, gb_sp, gp_si, gp_sa, gp_sb, gp_sp, if_true, if_false, ↓reduceIte, Nat.reduceEqDiff], by show a.1 - 1 ≤ 8; omega, by simp only [gi_si, ga_sa, gi_sa, gi_sb, gi_sp, ga_si, ga_sb, ga_sp, gb_si, gb_sa, gb_sb, gb_sp, gp_si, gp_sa, gp_sb, gp_sp, if_true, if_false, ↓reduceIte, Nat.reduceEqDiff]; exact r3, r4, by simp only [gi_si, ga_sa, gi_sa, gi_sb, gi_sp, ga_si, ga_sb, ga_sp, gb_si, gb_sa, gb_sb, gb_sp, gp_si, gp_sa, gp_sb, gp_sp, if_true, if_false, ↓reduceIte, Nat.reduceEqDiff]; exact r5, by simp only [gi_si, ga_sa, gi_sa, gi_sb, gi_sp, ga_si, ga_sb, ga_sp, gb_si, gb_sa, gb_sb, gb_sp, gp_si, gp_sa, gp_sb, gp_sp, if_true, if_false, ↓reduceIte, Nat.reduceEqDiff]; exact r6, by simp only [gi_si, ga_sa, gi_sa, gi_sb, gi_sp, ga_si, ga_sb, ga_sp, gb_si, gb_sa, gb_sb, gb_sp, gp_si, gp_sa, gp_sb, gp_sp, if_true, if_false, ↓reduceIte, Nat.reduceEqDiff]; exact r7, by simp only [gi_si, ga_sa, gi_sa, gi_sb, gi_sp, ga_si, ga_sb, ga_sp, gb_si, gb_sa, gb_sb, gb_sp, gp_si, gp_sa, gp_sb, gp_sp, if_true, if_false, ↓reduceIte, Nat.reduceEqDiff]; exact r8, by simp only [gi_si, ga_sa, gi_sa, gi_sb, gi_sp, ga_si, ga_sb, ga_sp, gb_si, gb_sa, gb_sb, gb_sp, gp_si, gp_sa, gp_sb, gp_sp, if_true, if_false, ↓reduceIte, Nat.reduceEqDiff]; exact r9, by simp only [gi_si, ga_sa, gi_sa, gi_sb, gi_sp, ga_si, ga_sb, ga_sp, gb_si, gb_sa, gb_sb, gb_sp, gp_si, gp_sa, gp_sb, gp_sp, if_true, if_false, ↓reduceIte, Nat.reduceEqDiff]; exact r10⟩
      have := RdR_eU (b := (a.2.2.2.2.2.2.1 a.1 || a.2.2.2.2.2.2.2 a.1)) hR2
      simp only [gi_si, ga_sa, gi_sa, gi_sb, gi_sp, ga_si, ga_sb, ga_sp, gb_si, gb_sa, gb_sb, gb_sp, gp_si, gp_sa, gp_sb, gp_sp, if_true, if_false, ↓reduceIte, Nat.reduceEqDiff] at this
      exact this
    · exact ((Fr.rf.si (by decide)).sa (by decide)).si (by decide)
  · have key : (if c = 124 then Q [.int 1] (rep (si (sa (sa s 38 (upd (ga s 38) a.1 (if (a.2.2.2.2.2.2.1 a.1 || a.2.2.2.2.2.2.2 a.1) = true then 1 else 0))) 39 (upd (ga s 39) a.1 1)) 3707 0)) else if c = 38 then Q [.int 1] (rep (si s 3707 0)) else Q [.int 0] (rep (si s 3707 0))) := by
      by_cases h124 : c = 124
      · rw [if_pos h124]
        simp only [tA, h124] at h
        refine h.1 _ _ (by simp; rfl) ⟨?_, ?_, ?_, ?_, ?_, ?_, ?_, ?_, ?_, ?_⟩ ?_
        · simp only [gi_si, ga_sa, gi_sa, gi_sb, gi_sp, ga_si, ga_sb, ga_sp, gb_si, gb_sa, gb_sb, gb_sp, gp_si, gp_sa, gp_sb, gp_sp, if_true, if_false, ↓reduceIte, Nat.reduceEqDiff]; exact r1
        · exact r2
        · simp only [gi_si, ga_sa, gi_sa, gi_sb, gi_sp, ga_si, ga_sb, ga_sp, gb_si, gb_sa, gb_sb, gb_sp, gp_si, gp_sa, gp_sb, gp_sp, if_true, if_false, ↓reduceIte, Nat.reduceEqDiff]; rfl
        · exact Nat.zero_le 4
        · simp only [gi_si, ga_sa, gi_sa, gi_sb, gi_sp, ga_si, ga_sb, ga_sp, gb_si, gb_sa, gb_sb, gb_sp, gp_si, gp_sa, gp_sb, gp_sp, if_true, if_false, ↓reduceIte, Nat.reduceEqDiff]; exact r5
        · simp only [gi_si, ga_sa, gi_sa, gi_sb, gi_sp, ga_si, ga_sb, ga_sp, gb_si, gb_sa, gb_sb, gb_sp, gp_si, gp_sa, gp_sb, gp_sp, if_true, if_false, ↓reduceIte, Nat.reduceEqDiff]; exact r6
        · simp only [gi_si, ga_sa, gi_sa, gi_sb, gi_sp, ga_si, ga_sb, ga_sp, gb_si, gb_sa, gb_sb, gb_sp, gp_si, gp_sa, gp_sb, gp_sp, if_true, if_false, ↓reduceIte, Nat.reduceEqDiff]; exact r7
        · simp only [gi_si, ga_sa, gi_sa, gi_sb, gi_sp, ga_si, ga_sb, ga_sp, gb_si, gb_sa, gb_sb, gb_sp, gp_si, gp_sa, gp_sb, gp_sp, if_true, if_false, ↓reduceIte, Nat.reduceEqDiff]; exact r8
        · simp only [gi_si, ga_sa, gi_sa, gi_sb, gi_sp, ga_si, ga_sb, ga_sp, gb_si, gb_sa, gb_sb, gb_sp, gp_si, gp_sa, gp_sb, gp_sp, if_true, if_false, ↓reduceIte, Nat.reduceEqDiff]
          refine rd_upd r9 ?_
          generalize (a.2.2.2.2.2.2.1 a.1 || a.2.2.2.2.2.2.2 a.1) = bb
          cases bb <;> decide
        · simp only [gi_si, ga_sa, gi_sa, gi_sb, gi_sp, ga_si, ga_sb, ga_sp, gb_si, gb_sa, gb_sb, gb_sp, gp_si, gp_sa, gp_sb, gp_sp, if_true, if_false, ↓reduceIte, Nat.reduceEqDiff]; exact rd_upd r10 (by decide)
        · exact ((Fr.rf.sa (by decide)).sa (by decide)).si (by decide)
      · rw [if_neg h124]
        simp only [tA, h41, h124, if_false] at h
        by_cases h38 : c = 38
        · rw [if_pos h38]
          simp only [h38, if_true] at h
          exact h.1 _ _ rfl ⟨by simp only [gi_si, ga_sa, gi_sa, gi_sb, gi_sp, ga_si, ga_sb, ga_sp, gb_si, gb_sa, gb_sb, gb_sp, gp_si, gp_sa, gp_sb, gp_sp, if_true, if_false, ↓reduceIte, Nat.reduceEqDiff]; exact r1, r2, by simp only [gi_si, ga_sa, gi_sa, gi_sb, gi_sp, ga_si, ga_sb, ga_sp, gb_si, gb_sa, gb_sb, gb_sp, gp_si, gp_sa, gp_sb, gp_sp, if_true, if_false, ↓reduceIte, Nat.reduceEqDiff]; rfl, Nat.zero_le 4, by simp only [gi_si, ga_sa, gi_sa, gi_sb, gi_sp, ga_si, ga_sb, ga_sp, gb_si, gb_sa, gb_sb, gb_sp, gp_si, gp_sa, gp_sb, gp_sp, if_true, if_false, ↓reduceIte, Nat.reduceEqDiff]; exact r5, by simp only [gi_si, ga_sa, gi_sa, gi_sb, gi_sp, ga_si, ga_sb, ga_sp, gb_si, gb_sa, gb_sb, gb_sp, gp_si, gp_sa, gp_sb, gp_sp, if_true, if_false, ↓reduceIte, Nat.reduceEqDiff]; exact r6, by simp only [gi_si, ga_sa, gi_sa, gi_sb, gi_sp, ga_si, ga_sb, ga_sp, gb_si, gb_sa, gb_sb, gb_sp, gp_si, gp_sa, gp_sb, gp_sp, if_true, if_false, ↓reduceIte, Nat.reduceEqDiff]; exact r7, by simp only [gi_si, ga_sa, gi_sa, gi_sb, gi_sp, ga_si, ga_sb, ga_sp, gb_si, gb_sa, gb_sb, gb_sp, gp_si, gp_sa, gp_sb, gp_sp, if_true, if_false, ↓reduceIte, Nat.reduceEqDiff]; exact r8, by simp only [gi_si, ga_sa, gi_sa, gi_sb, gi_sp, ga_si, ga_sb, ga_sp, gb_si, gb_sa, gb_sb, gb_sp, gp_si, gp_sa, gp_sb, gp_sp, if_true, if_false, ↓reduceIte, Nat.reduceEqDiff]; exact r9, by simp only [gi_si, ga_sa, gi_sa, gi_sb, gi_sp, ga_si, ga_sb, ga_sp, gb_si, gb_sa, gb_sb, gb_sp, gp_si, gp_sa, gp_sb, gp_sp, if_true, if_false, ↓reduceIte, Nat.reduceEqDiff]; exact r10⟩ (Fr.rf.si (by decide))
        · rw [if_neg h38]
          simp only [h38, if_false] at h
          exact h.2 rfl _ (Fr.rf.si (by decide))
    by_cases hc41 : c = 41
    · have hz : ¬ 0 < a.1 := fun z => h41 ⟨hc41, z⟩
      simp only [hc41, hz, if_true, if_false, z0, z1, List.cons_append, List.nil_append, List.append_nil, if_true, if_false, true_and, and_true, true_or, or_true, nm_b_some] at key ⊢
      simpa using key
    · simp only [hc41, if_false, z0, z1, List.cons_append, List.nil_append, List.append_nil, if_true, if_false, true_and, and_true, true_or, or_true, nm_b_some]
      by_cases h124 : c = 124
      · simp only [h124, if_true] at key ⊢
        exact key
      · simp only [h124, if_false] at key ⊢
        exact key
theorem c_takes {d : Nat} {s : nm_S} {Q : nm_K} {a : rA} {c : Int32} (hR : RdR s a) (hc : 1 ≤ c ∧ c ≤ 255) (h : TkS s (stp (rdv s) c a) Q) : nm_call (d + 4) 15 [.ref 37, .int c] (rep s) Q := by
  have hc' : 0 ≤ c ∧ c ≤ 65535 := by
    have h1 := hc.1
    have h2 := hc.2
    rw [i_le] at h1 h2
    rw [i_le, i_le, i_l0, i_l65535]
    rw [i_l1] at h1
    rw [i_l255] at h2
    omega
  have main : ∀ (t : nm_S) (b : rA), RdR t b → TkS t (tkA c b) Q → x_X3_takes (d + 3) Q 19 [.ref 37, .int c] [] (rep t) 0 0 := by
    intro t b hb ht
    have hb' := hb
    obtain ⟨r1, r2, r3, r4, -⟩ := hb
    simp only [r_X3_takes_19, r_X3_takes_20, r_X3_takes_22, r_X3_takes_25, r_X3_takes_26, r_X3_takes_27, r_X3_takes_28, ob_37, gt_37_0, pt_37_0, gt_37_1, pt_37_1, gt_37_2, pt_37_2, gt_37_3, pt_37_3, gt_37_4, gt_37_5, gt_37_6, pt_37_6, gt_37_7, pt_37_7, gt_37_8, pt_37_8, gt_37_9, pt_37_9, gt_37_10, pt_37_10, gt_37_11, pt_37_11, List.cons_append, List.nil_append, List.append_nil, if_true, if_false, true_and, and_true, true_or, or_true, nm_b_some, z1]
    by_cases h32 : c = 32
    · simp only [tkA, h32, if_true] at ht
      simp only [h32, if_true]
      exact ht.1 _ _ rfl hb' Fr.rf
    · rw [if_neg h32]
      simp only [tkA, h32, if_false] at ht
      rw [r_X3_takes_31, r3]
      rcases (by omega : b.2.1 = 0 ∨ b.2.1 = 1 ∨ b.2.1 = 2 ∨ b.2.1 = 3 ∨ b.2.1 = 4) with hx | hx | hx | hx | hx
      · rw [hx] at ht ⊢
        rw [show nm_swt 0 [64, 70, 82, 82, 76] 82 (nI 0) = 64 by decide]
        simp only [if_true] at ht
        simp only [r_X3_takes_64, r_X3_takes_65, r_X3_takes_66, r_X3_takes_69, ob_37, gt_37_0, pt_37_0, gt_37_1, pt_37_1, gt_37_2, pt_37_2, gt_37_3, pt_37_3, gt_37_4, gt_37_5, gt_37_6, pt_37_6, gt_37_7, pt_37_7, gt_37_8, pt_37_8, gt_37_9, pt_37_9, gt_37_10, pt_37_10, gt_37_11, pt_37_11, List.cons_append, List.nil_append, List.append_nil, if_true, if_false, true_and, and_true, true_or, or_true, nm_b_some]
        refine c_takesUnit hb' hc' ⟨fun b u e1 e2 e3 => ?_, fun e1 u e2 => ?_⟩
        · simp only [r_X3_takes_64, r_X3_takes_65, r_X3_takes_66, r_X3_takes_69, List.cons_append, List.nil_append, List.append_nil, if_true, if_false, true_and, and_true, true_or, or_true, nm_b_some, z1]
          exact ht.1 b u e1 e2 e3
        · simp only [r_X3_takes_64, r_X3_takes_65, r_X3_takes_66, r_X3_takes_69, List.cons_append, List.nil_append, List.append_nil, if_true, if_false, true_and, and_true, true_or, or_true, nm_b_some, z0]
          exact ht.2 e1 u e2
      · rw [hx] at ht ⊢
        rw [show nm_swt 0 [64, 70, 82, 82, 76] 82 (nI 1) = 70 by decide]
        rw [if_neg (by decide), if_pos rfl] at ht
        simp only [r_X3_takes_70, r_X3_takes_71, r_X3_takes_72, r_X3_takes_75, ob_37, gt_37_0, pt_37_0, gt_37_1, pt_37_1, gt_37_2, pt_37_2, gt_37_3, pt_37_3, gt_37_4, gt_37_5, gt_37_6, pt_37_6, gt_37_7, pt_37_7, gt_37_8, pt_37_8, gt_37_9, pt_37_9, gt_37_10, pt_37_10, gt_37_11, pt_37_11, List.cons_append, List.nil_append, List.append_nil, if_true, if_false, true_and, and_true, true_or, or_true, nm_b_some]
        refine c_takesSign hb' hc' ⟨fun b u e1 e2 e3 => ?_, fun e1 u e2 => ?_⟩
        · simp only [r_X3_takes_70, r_X3_takes_71, r_X3_takes_72, r_X3_takes_75, List.cons_append, List.nil_append, List.append_nil, if_true, if_false, true_and, and_true, true_or, or_true, nm_b_some, z1]
          exact ht.1 b u e1 e2 e3
        · simp only [r_X3_takes_70, r_X3_takes_71, r_X3_takes_72, r_X3_takes_75, List.cons_append, List.nil_append, List.append_nil, if_true, if_false, true_and, and_true, true_or, or_true, nm_b_some, z0]
          exact ht.2 e1 u e2
      · rw [hx] at ht ⊢
        rw [show nm_swt 0 [64, 70, 82, 82, 76] 82 (nI 2) = 82 by decide]
        rw [if_neg (by decide), if_neg (by decide), if_neg (by decide)] at ht
        simp only [r_X3_takes_82, r_X3_takes_83, r_X3_takes_84, r_X3_takes_87, ob_37, gt_37_0, pt_37_0, gt_37_1, pt_37_1, gt_37_2, pt_37_2, gt_37_3, pt_37_3, gt_37_4, gt_37_5, gt_37_6, pt_37_6, gt_37_7, pt_37_7, gt_37_8, pt_37_8, gt_37_9, pt_37_9, gt_37_10, pt_37_10, gt_37_11, pt_37_11, List.cons_append, List.nil_append, List.append_nil, if_true, if_false, true_and, and_true, true_or, or_true, nm_b_some]
        refine c_takesDigit hb' ⟨fun b u e1 e2 e3 => ?_, fun e1 u e2 => ?_⟩
        · simp only [r_X3_takes_82, r_X3_takes_83, r_X3_takes_84, r_X3_takes_87, List.cons_append, List.nil_append, List.append_nil, if_true, if_false, true_and, and_true, true_or, or_true, nm_b_some, z1]
          exact ht.1 b u e1 e2 e3
        · simp only [r_X3_takes_82, r_X3_takes_83, r_X3_takes_84, r_X3_takes_87, List.cons_append, List.nil_append, List.append_nil, if_true, if_false, true_and, and_true, true_or, or_true, nm_b_some, z0]
          exact ht.2 e1 u e2
      · rw [hx] at ht ⊢
        rw [show nm_swt 0 [64, 70, 82, 82, 76] 82 (nI 3) = 82 by decide]
        rw [if_neg (by decide), if_neg (by decide), if_neg (by decide)] at ht
        simp only [r_X3_takes_82, r_X3_takes_83, r_X3_takes_84, r_X3_takes_87, ob_37, gt_37_0, pt_37_0, gt_37_1, pt_37_1, gt_37_2, pt_37_2, gt_37_3, pt_37_3, gt_37_4, gt_37_5, gt_37_6, pt_37_6, gt_37_7, pt_37_7, gt_37_8, pt_37_8, gt_37_9, pt_37_9, gt_37_10, pt_37_10, gt_37_11, pt_37_11, List.cons_append, List.nil_append, List.append_nil, if_true, if_false, true_and, and_true, true_or, or_true, nm_b_some]
        refine c_takesDigit hb' ⟨fun b u e1 e2 e3 => ?_, fun e1 u e2 => ?_⟩
        · simp only [r_X3_takes_82, r_X3_takes_83, r_X3_takes_84, r_X3_takes_87, List.cons_append, List.nil_append, List.append_nil, if_true, if_false, true_and, and_true, true_or, or_true, nm_b_some, z1]
          exact ht.1 b u e1 e2 e3
        · simp only [r_X3_takes_82, r_X3_takes_83, r_X3_takes_84, r_X3_takes_87, List.cons_append, List.nil_append, List.append_nil, if_true, if_false, true_and, and_true, true_or, or_true, nm_b_some, z0]
          exact ht.2 e1 u e2
      · rw [hx] at ht ⊢
        rw [show nm_swt 0 [64, 70, 82, 82, 76] 82 (nI 4) = 76 by decide]
        rw [if_neg (by decide), if_neg (by decide), if_pos rfl] at ht
        simp only [r_X3_takes_76, r_X3_takes_77, r_X3_takes_78, r_X3_takes_81, ob_37, gt_37_0, pt_37_0, gt_37_1, pt_37_1, gt_37_2, pt_37_2, gt_37_3, pt_37_3, gt_37_4, gt_37_5, gt_37_6, pt_37_6, gt_37_7, pt_37_7, gt_37_8, pt_37_8, gt_37_9, pt_37_9, gt_37_10, pt_37_10, gt_37_11, pt_37_11, List.cons_append, List.nil_append, List.append_nil, if_true, if_false, true_and, and_true, true_or, or_true, nm_b_some]
        refine c_takesAfter hb' ⟨fun b u e1 e2 e3 => ?_, fun e1 u e2 => ?_⟩
        · simp only [r_X3_takes_76, r_X3_takes_77, r_X3_takes_78, r_X3_takes_81, List.cons_append, List.nil_append, List.append_nil, if_true, if_false, true_and, and_true, true_or, or_true, nm_b_some, z1]
          exact ht.1 b u e1 e2 e3
        · simp only [r_X3_takes_76, r_X3_takes_77, r_X3_takes_78, r_X3_takes_81, List.cons_append, List.nil_append, List.append_nil, if_true, if_false, true_and, and_true, true_or, or_true, nm_b_some, z0]
          exact ht.2 e1 u e2
  have hr3 := hR.2.2.1
  have hr4 := hR.2.2.2.1
  have h3 : gi s 3707 = 3 ↔ a.2.1 = 3 := by
    rw [hr3]
    exact nI_eq' (b := 3) (by omega) (by omega)
  simp only [e_X3_takes, r_X3_takes_0, r_X3_takes_1, r_X3_takes_4, r_X3_takes_5, r_X3_takes_8, r_X3_takes_9, r_X3_takes_12, r_X3_takes_15, r_X3_takes_16, ob_37, gt_37_0, pt_37_0, gt_37_1, pt_37_1, gt_37_2, pt_37_2, gt_37_3, pt_37_3, gt_37_4, gt_37_5, gt_37_6, pt_37_6, gt_37_7, pt_37_7, gt_37_8, pt_37_8, gt_37_9, pt_37_9, gt_37_10, pt_37_10, gt_37_11, pt_37_11, List.cons_append, List.nil_append, List.append_nil, if_true, if_false, true_and, and_true, true_or, or_true, nm_b_some, h3, c_isDigit, b_0]
  unfold stp prA at h
  by_cases hx : a.2.1 = 3
  · rw [if_pos hx]
    by_cases hd : dgt c
    · rw [if_neg (fun z => z hd)]
      rw [if_neg (fun z => z.2 hd)] at h
      exact main s a hR h
    · rw [if_pos hd]
      rw [if_pos ⟨hx, hd⟩] at h
      refine c_endNumber hR (fun t e1 e2 => ?_)
      exact main t _ e1 (TkS_fr h e2)
  · rw [if_neg hx]
    rw [if_neg (fun z => hx z.1)] at h
    exact main s a hR h
