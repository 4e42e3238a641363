/-! road, place, lacks, many: both sides. -/
theorem swt_in {ts : List Nat} {d j : Nat} (hj : j < 2147483648) : nm_swt 0 ts d (nI j) = ts.getD j d := by
  unfold nm_swt
  rw [i_nI hj, if_neg (by omega)]
  congr 1
theorem swt_out {ts : List Nat} {d : Nat} {x : Int32} (h : x.toInt < 0 ∨ (ts.length : Int) ≤ x.toInt) : nm_swt 0 ts d x = d := by
  unfold nm_swt
  split
  · rfl
  · rw [List.getD_eq_getElem?_getD, List.getElem?_eq_none (by omega)]
    rfl
theorem sw_cases (x : Int32) (n : Nat) : (∃ j, j < n ∧ x = nI j) ∨ (x.toInt < 0 ∨ (n : Int) ≤ x.toInt) := by
  by_cases h : 0 ≤ x.toInt ∧ x.toInt < n
  · exact Or.inl ⟨x.toInt.toNat, by omega, i_of h.1⟩
  · exact Or.inr (by omega)
/-- the numbers of the M side in a state that differs in the class's scratch rows alone -/
theorem TrH.scr {s : nm_S} {n C : Nat} {o : Nat → Nat} (h : TrH s n C o) (F G H : Nat → Int32) : TrH (sa (sa (sa s 15 F) 16 G) 17 H) n C o := by
  unfold TrH at h ⊢
  simp only [gi_si, ga_sa, gi_sa, gi_sb, gi_sp, ga_si, ga_sb, ga_sp, gb_si, gb_sa, gb_sb, gb_sp, gp_si, gp_sa, gp_sb, gp_sp, if_true, if_false, ↓reduceIte, Nat.reduceEqDiff]
  exact h
def okroad (z c q now : Int32) (C : Nat) : Prop := z = 1 ∧ (0 ≤ c ∧ c ≤ nI C - 1) ∧ (0 ≤ q ∧ q ≤ now)
theorem Ord.pos {f g : Nat → Int32} {C : Nat} {o : Nat → Nat} (h : Ord f g C o) {c : Nat} (hc : c < C) : ∃ k, k < C ∧ o k = c := h.2.2 c hc
theorem c_road_n {s : nm_S} {c q x : Int32} {C : Nat} (hz : gi s 11 = 0 ∨ gi s 11 = 1) (hC : gi s 604 = nI C) (h : ¬ okroad (gi s 11) c q (gi s 9) C) : Runs 76 [.ref 0, .int c, .int q, .int x] s (-1) s := by
  intro Q hQ
  simp only [e_X8_road, r_X8_road_0, r_X8_road_1, r_X8_road_4, r_X8_road_7, r_X8_road_8, r_X8_road_9, r_X8_road_12, r_X8_road_15, r_X8_road_16, r_X8_road_17, r_X8_road_20, r_X8_road_23, r_X8_road_24, ob_0, gt_0_0, gt_0_1, gt_0_2, gt_0_3, gt_0_4, gt_0_5, gt_0_6, gt_0_7, gt_0_8, gt_0_9, pt_0_9, gt_0_10, pt_0_10, gt_0_11, pt_0_11, List.cons_append, List.nil_append, List.append_nil, if_true, if_false, true_and, and_true, true_or, or_true, nm_b_some, c_isConvoy, c_isKnown, b_0, hC]
  unfold okroad at h
  rcases hz with h1 | h1
  · simp only [h1, if_true]
    exact hQ
  · have h10 : ¬ (1 : Int32) = 0 := by decide
    simp only [h1, h10, if_false]
    by_cases h2 : 0 ≤ c ∧ c ≤ nI C - 1
    · have h3 : ¬ (0 ≤ q ∧ q ≤ gi s 9) := fun z => h ⟨h1, h2, z⟩
      simp only [h2, h3, and_self, not_true_eq_false, not_false_eq_true, if_true, if_false]
      exact hQ
    · simp only [h2, not_false_eq_true, if_true]
      exact hQ
theorem c_Mroad_n {s : nm_S} {c q x : Int32} {C : Nat} (hz : gi s 4010 = 0 ∨ gi s 4010 = 1) (hC : gi s 4002 = nI C) (h : ¬ okroad (gi s 4010) c q (gi s 4000) C) : Runs 116 [.ref 40, .int c, .int q, .int x] s (-1) s := by
  intro Q hQ
  simp only [e_X9_road, r_X9_road_0, r_X9_road_1, r_X9_road_4, r_X9_road_7, r_X9_road_8, r_X9_road_9, r_X9_road_10, r_X9_road_13, r_X9_road_14, r_X9_road_15, r_X9_road_18, r_X9_road_21, r_X9_road_22, r_X9_road_23, r_X9_road_24, r_X9_road_27, r_X9_road_30, r_X9_road_33, r_X9_road_34, ob_40, gt_40_0, pt_40_0, gt_40_1, pt_40_1, gt_40_2, pt_40_2, gt_40_3, pt_40_3, gt_40_4, pt_40_4, gt_40_5, pt_40_5, gt_40_6, pt_40_6, gt_40_7, pt_40_7, gt_40_8, pt_40_8, gt_40_9, pt_40_9, gt_40_10, pt_40_10, gt_40_11, gt_40_12, gt_40_13, gt_40_14, gt_40_15, gt_40_16, gt_40_17, gt_40_18, gt_40_19, gt_40_20, gt_40_21, gt_40_22, pt_40_22, gt_40_23, gt_40_24, gt_40_25, gt_40_26, gt_40_27, gt_40_28, gt_40_29, gt_40_30, gt_40_31, gt_40_32, gt_40_33, gt_40_34, pt_40_34, gt_40_35, pt_40_35, gt_40_36, gt_40_37, gt_40_38, gt_40_39, gt_40_40, gt_40_41, pt_40_41, gt_40_42, pt_40_42, gt_40_43, pt_40_43, gt_40_44, pt_40_44, gt_40_45, pt_40_45, gt_40_46, pt_40_46, gt_40_47, List.cons_append, List.nil_append, List.append_nil, if_true, if_false, true_and, and_true, true_or, or_true, nm_b_some, c_in, b_0, hC]
  unfold okroad at h
  rcases hz with h1 | h1
  · simp only [h1, if_true]
    exact hQ
  · have h10 : ¬ (1 : Int32) = 0 := by decide
    simp only [h1, h10, if_false]
    by_cases h2 : 0 ≤ c ∧ c ≤ nI C - 1
    · have h3 : ¬ (0 ≤ q ∧ q ≤ gi s 4000) := fun z => h ⟨h1, h2, z⟩
      simp only [h2, h3, and_self, not_true_eq_false, not_false_eq_true, if_true, if_false]
      exact hQ
    · simp only [h2, not_false_eq_true, if_true]
      exact hQ
/-- the loop of road: how many, and their load -/
theorem c_Mroad_l {s : nm_S} {c : Nat} {q x : Int32} {Q : nm_K} {T C : Nat} (hC : gi s 4002 = nI C) (hT : gi s 4001 = nI T) (hT10 : T ≤ 10) (h : okroad (gi s 4010) (nI c) q (gi s 4000) C) (hl : ∀ i, i < T → ∃ l, ga s 43 i = nI l) (hr : ∀ z : Value, x_X9_road 59 Q 107 [.ref 40, .int (nI c), .int q, .int x, .int (nI (cnt (fun i => decide (ga s 49 i = nI c)) T)), .int (nI (sumS (fun i => (ga s 43 i).toNatClampNeg) T (mask (fun i => decide (ga s 49 i = nI c)) T))), z] [] (rep s) 0 0) (hb : ∀ i, i < T → ∃ l, l ≤ 40 ∧ ga s 43 i = nI l) : nm_call 60 116 [.ref 40, .int (nI c), .int q, .int x] (rep s) Q := by
  obtain ⟨h1, h2, h3⟩ := h
  have h01 : ¬ (1 : Int32) = 0 := by decide
  rw [show (60 : Nat) = 59 + 1 from rfl, e_X9_road]
  simp only [r_X9_road_0, r_X9_road_1, r_X9_road_4, r_X9_road_7, r_X9_road_8, r_X9_road_9, r_X9_road_10, r_X9_road_13, r_X9_road_14, r_X9_road_15, r_X9_road_18, r_X9_road_21, r_X9_road_22, r_X9_road_23, r_X9_road_24, r_X9_road_27, r_X9_road_30, r_X9_road_33, r_X9_road_34, r_X9_road_35, r_X9_road_36, r_X9_road_38, r_X9_road_39, r_X9_road_41, r_X9_road_42, ob_40, gt_40_0, pt_40_0, gt_40_1, pt_40_1, gt_40_2, pt_40_2, gt_40_3, pt_40_3, gt_40_4, pt_40_4, gt_40_5, pt_40_5, gt_40_6, pt_40_6, gt_40_7, pt_40_7, gt_40_8, pt_40_8, gt_40_9, pt_40_9, gt_40_10, pt_40_10, gt_40_11, gt_40_12, gt_40_13, gt_40_14, gt_40_15, gt_40_16, gt_40_17, gt_40_18, gt_40_19, gt_40_20, gt_40_21, gt_40_22, pt_40_22, gt_40_23, gt_40_24, gt_40_25, gt_40_26, gt_40_27, gt_40_28, gt_40_29, gt_40_30, gt_40_31, gt_40_32, gt_40_33, gt_40_34, pt_40_34, gt_40_35, pt_40_35, gt_40_36, gt_40_37, gt_40_38, gt_40_39, gt_40_40, gt_40_41, pt_40_41, gt_40_42, pt_40_42, gt_40_43, pt_40_43, gt_40_44, pt_40_44, gt_40_45, pt_40_45, gt_40_46, pt_40_46, gt_40_47, List.cons_append, List.nil_append, List.append_nil, if_true, if_false, true_and, and_true, true_or, or_true, nm_b_some, c_in, b_0, hC, h1, h2, h3, h01, and_self, not_true_eq_false]
  refine nm_loopI (fun t (a : Int32 × Int32) => x_X9_road 59 Q 44 [.ref 40, .int (nI c), .int q, .int x, .int a.1, .int a.2, .int (nI t)] [] (rep s) 0 0) (fun a => ∀ z : Value, x_X9_road 59 Q 107 [.ref 40, .int (nI c), .int q, .int x, .int a.1, .int a.2, z] [] (rep s) 0 0) (fun t a => if ga s 49 t = nI c then (a.1 + 1, a.2 + ga s 43 t) else (a.1 + 0, a.2 + 0)) (fun _ _ => True) (N := T) ?_ ?_ T 0 (0, 0) (by omega) trivial ?_
  · intro t a ht _
    refine ⟨trivial, fun hn => ?_⟩
    have g2 : nI t < nI T := (nI_lt' (by omega) (by omega)).mpr ht
    have g3 : vp_in (nI t) 10 := vp_in' (by omega) (by omega)
    have g4 : (nI t).toNatClampNeg = t := i_nIc (by omega)
    rw [r_X9_road_44]
    simp only [r_X9_road_46, r_X9_road_47, r_X9_road_50, r_X9_road_53, r_X9_road_55, r_X9_road_56, r_X9_road_59, r_X9_road_61, r_X9_road_62, r_X9_road_63, r_X9_road_66, r_X9_road_67, r_X9_road_70, r_X9_road_71, r_X9_road_72, r_X9_road_74, r_X9_road_76, r_X9_road_77, r_X9_road_80, r_X9_road_82, r_X9_road_83, r_X9_road_84, r_X9_road_87, r_X9_road_88, r_X9_road_91, r_X9_road_93, r_X9_road_94, r_X9_road_97, r_X9_road_98, r_X9_road_99, r_X9_road_101, r_X9_road_104, ob_40, gt_40_0, pt_40_0, gt_40_1, pt_40_1, gt_40_2, pt_40_2, gt_40_3, pt_40_3, gt_40_4, pt_40_4, gt_40_5, pt_40_5, gt_40_6, pt_40_6, gt_40_7, pt_40_7, gt_40_8, pt_40_8, gt_40_9, pt_40_9, gt_40_10, pt_40_10, gt_40_11, gt_40_12, gt_40_13, gt_40_14, gt_40_15, gt_40_16, gt_40_17, gt_40_18, gt_40_19, gt_40_20, gt_40_21, gt_40_22, pt_40_22, gt_40_23, gt_40_24, gt_40_25, gt_40_26, gt_40_27, gt_40_28, gt_40_29, gt_40_30, gt_40_31, gt_40_32, gt_40_33, gt_40_34, pt_40_34, gt_40_35, pt_40_35, gt_40_36, gt_40_37, gt_40_38, gt_40_39, gt_40_40, gt_40_41, pt_40_41, gt_40_42, pt_40_42, gt_40_43, pt_40_43, gt_40_44, pt_40_44, gt_40_45, pt_40_45, gt_40_46, pt_40_46, gt_40_47, ad_43, as_43, ad_49, as_49, List.cons_append, List.nil_append, List.append_nil, if_true, if_false, true_and, and_true, true_or, or_true, nm_b_some, hT, g2, g3, g4, nI_s]
    by_cases hv : ga s 49 t = nI c
    · simp only [hv, if_true] at hn ⊢
      exact hn
    · simp only [hv, if_false] at hn ⊢
      exact hn
  · intro a _ hr2
    have g2 : ¬ nI T < nI T := by rw [nI_lt' (by omega) (by omega)]; omega
    rw [r_X9_road_44]
    simp only [r_X9_road_46, r_X9_road_47, r_X9_road_50, ob_40, gt_40_0, pt_40_0, gt_40_1, pt_40_1, gt_40_2, pt_40_2, gt_40_3, pt_40_3, gt_40_4, pt_40_4, gt_40_5, pt_40_5, gt_40_6, pt_40_6, gt_40_7, pt_40_7, gt_40_8, pt_40_8, gt_40_9, pt_40_9, gt_40_10, pt_40_10, gt_40_11, gt_40_12, gt_40_13, gt_40_14, gt_40_15, gt_40_16, gt_40_17, gt_40_18, gt_40_19, gt_40_20, gt_40_21, gt_40_22, pt_40_22, gt_40_23, gt_40_24, gt_40_25, gt_40_26, gt_40_27, gt_40_28, gt_40_29, gt_40_30, gt_40_31, gt_40_32, gt_40_33, gt_40_34, pt_40_34, gt_40_35, pt_40_35, gt_40_36, gt_40_37, gt_40_38, gt_40_39, gt_40_40, gt_40_41, pt_40_41, gt_40_42, pt_40_42, gt_40_43, pt_40_43, gt_40_44, pt_40_44, gt_40_45, pt_40_45, gt_40_46, pt_40_46, gt_40_47, ad_43, as_43, ad_49, as_49, List.cons_append, List.nil_append, List.append_nil, if_true, if_false, true_and, and_true, true_or, or_true, nm_b_some, hT, g2]
    exact hr2 _
  · have e := lpf_ind (step := fun t (a : Int32 × Int32) => if ga s 49 t = nI c then (a.1 + 1, a.2 + ga s 43 t) else (a.1 + 0, a.2 + 0)) (fun i a => a = (nI (cnt (fun i => decide (ga s 49 i = nI c)) i), nI (sumS (fun i => (ga s 43 i).toNatClampNeg) i (mask (fun i => decide (ga s 49 i = nI c)) T)))) (N := T) (by
      intro i a hi ha
      subst ha
      obtain ⟨l, hl40, hl⟩ := hb i hi
      rw [cnt_s, sumS_s, mask_bit]
      by_cases hv : ga s 49 i = nI c
      · simp only [hv, if_true, hi, decide_true, Bool.and_self]
        rw [hl, nI_s, nI_add, i_nIc (by omega)]
      · simp [hv, hi]) T 0 (0, 0) (by omega) rfl
    rw [e]
    exact hr
theorem mask_eq {p q : Nat → Prop} [DecidablePred p] [DecidablePred q] {n : Nat} (h : ∀ i, i < n → (p i ↔ q i)) : mask (fun i => decide (p i)) n = mask (fun i => decide (q i)) n := mask_cong (fun i hi => by rw [decide_eq_decide]; exact h i hi)
theorem cnt_eq {p q : Nat → Prop} [DecidablePred p] [DecidablePred q] {n : Nat} (h : ∀ i, i < n → (p i ↔ q i)) : cnt (fun i => decide (p i)) n = cnt (fun i => decide (q i)) n := cnt_cong (fun i hi => by rw [decide_eq_decide]; exact h i hi)
theorem st_road {s : nm_S} (x q y : Int32) (hB : IvB s) (hG : IvG s) (hC : IvC s) (hL : IvL s) (hD : IvD s) : ∃ v s1 s2, Runs 76 [.ref 0, .int x, .int q, .int y] s v s1 ∧ Runs 116 [.ref 40, .int x, .int q, .int y] s1 v s2 ∧ Fr [] [15, 16, 17] s s2 := by
  obtain ⟨n, C, o, hT⟩ := TrH.of hB hC hL
  have hT0 := hT
  obtain ⟨h1, h2, ⟨h3, h4⟩, ⟨h5, h6⟩, ⟨h7, h8⟩, h9, h10, h11, h12⟩ := hT
  have hz : gi s 11 = gi s 4010 := hB.1.2.2.1
  have hzz := hB.2.2.1
  have hnow : gi s 9 = gi s 4000 := hB.1.1
  by_cases hk : okroad (gi s 11) x q (gi s 9) C
  · have hkM : okroad (gi s 4010) x q (gi s 4000) C := by rw [← hz, ← hnow]; exact hk
    obtain ⟨k1, k2, k3⟩ := hk
    obtain ⟨c, hc, rfl⟩ := idx_of (by omega) k2
    obtain ⟨k, hkC, hok⟩ := h12.pos hc
    obtain ⟨F, G, H, f1, f2, f3⟩ := hT0.fore q
    obtain ⟨T, g1, g2, g3, g4, g5⟩ := hG
    have h01 : ¬ (1 : Int32) = 0 := by decide
    have u3 : vp_in (nI c) 4 := vp_in' (by omega) (by omega)
    have u4 : (nI c).toNatClampNeg = c := i_nIc (by omega)
    obtain ⟨T', C', t1, t2, t3, t4, t5⟩ := hD k1
    have : T' = T := by rw [g3] at t3; exact ((nI_eq' (by omega) (by omega)).mp t3).symm
    subst this
    have hmask : mask (fun i => decide (cofE (gb s) (nI i) = nI c)) T' = mask (fun i => decide (ga s 49 i = nI c)) T' := mask_eq (fun i hi => by rw [(t5 i hi).1])
    have hcnt : cnt (fun i => decide (cofE (gb s) (nI i) = nI c)) T' = cnt (fun i => decide (ga s 49 i = nI c)) T' := cnt_eq (fun i hi => by rw [(t5 i hi).1])
    generalize hs1 : sa (sa (sa s 15 F) 16 G) 17 H = s1
    have hT1 : TrH s1 n C o := by rw [← hs1]; exact hT0.scr F G H
    have eg : ∀ j, gi s1 j = gi s j := fun j => by rw [← hs1]; rfl
    have ea : ga s1 45 = ga s 45 ∧ ga s1 52 = ga s 52 ∧ ga s1 53 = ga s 53 ∧ ga s1 54 = ga s 54 ∧ ga s1 49 = ga s 49 ∧ ga s1 43 = ga s 43 := by rw [← hs1]; simp only [gi_si, ga_sa, gi_sa, gi_sb, gi_sp, ga_si, ga_sb, ga_sp, gb_si, gb_sa, gb_sb, gb_sp, gp_si, gp_sa, gp_sb, gp_sp, if_true, if_false, ↓reduceIte, Nat.reduceEqDiff]; exact ⟨trivial, trivial, trivial, trivial, trivial, trivial⟩
    have rX : ∀ (v : Int32), (∀ Q : nm_K, Q [.int v] (rep s1) → x_X8_road 59 Q 34 [.ref 0, .int (nI c), .int q, .int y] [.int y] (rep s1) 0 0) → Runs 76 [.ref 0, .int (nI c), .int q, .int y] s v s1 := by
      intro v hv Q hQ
      simp only [e_X8_road, r_X8_road_0, r_X8_road_1, r_X8_road_4, r_X8_road_7, r_X8_road_8, r_X8_road_9, r_X8_road_12, r_X8_road_15, r_X8_road_16, r_X8_road_17, r_X8_road_20, r_X8_road_23, r_X8_road_24, r_X8_road_25, r_X8_road_26, r_X8_road_29, r_X8_road_30, ob_0, gt_0_0, gt_0_1, gt_0_2, gt_0_3, gt_0_4, gt_0_5, gt_0_6, gt_0_7, gt_0_8, gt_0_9, pt_0_9, gt_0_10, pt_0_10, gt_0_11, pt_0_11, List.cons_append, List.nil_append, List.append_nil, if_true, if_false, true_and, and_true, true_or, or_true, nm_b_some, c_isConvoy, c_isKnown, b_0, h3, k1, k2, k3, h01, and_self, not_true_eq_false, ob_14]
      refine f3 57 _ ?_
      rw [hs1]
      simp only [r_X8_road_33, List.cons_append, List.nil_append, List.append_nil, if_true, if_false, true_and, and_true, true_or, or_true, nm_b_some]
      exact hv Q hQ
    have rM : ∀ (v : Int32), (∀ (Q : nm_K) (z : Value), Q [.int v] (rep s1) → x_X9_road 59 Q 108 [.ref 40, .int (nI c), .int q, .int y, .int (nI (cnt (fun i => decide (ga s 49 i = nI c)) T')), .int (nI (sumS (fun i => (ga s 43 i).toNatClampNeg) T' (mask (fun i => decide (ga s 49 i = nI c)) T'))), z] [.int y] (rep s1) 0 0) → Runs 116 [.ref 40, .int (nI c), .int q, .int y] s1 v s1 := by
      intro v hv Q hQ
      refine c_Mroad_l (T := T') (C := C) (by rw [eg]; exact h4) (by rw [eg]; exact g3) g1 (by rw [eg, eg]; exact hkM) (fun i hi => by obtain ⟨l, -, -, e⟩ := (g4 i hi).2.2.1; exact ⟨l, by rw [ea.2.2.2.2.2]; exact e⟩) ?_ (fun i hi => by obtain ⟨l, -, e2, e⟩ := (g4 i hi).2.2.1; exact ⟨l, e2, by rw [ea.2.2.2.2.2]; exact e⟩)
      intro z
      rw [ea.2.2.2.2.1, ea.2.2.2.2.2]
      simp only [r_X9_road_107]
      exact hv Q z hQ
    refine Exists.elim (show ∃ v, Runs 76 [.ref 0, .int (nI c), .int q, .int y] s v s1 ∧ Runs 116 [.ref 40, .int (nI c), .int q, .int y] s1 v s1 from ?_) (fun v hv => ⟨v, s1, s1, hv.1, hv.2, by rw [← hs1]; exact ((Fr.rf.sa (by decide)).sa (by decide)).sa (by decide)⟩)
    have el : ga s1 15 c = LV s n c q ∧ ga s1 16 c = BR s n o q k ∧ ga s1 17 c = BR s n o q k + gi s 4007 - gi s 4007 / 2 := by
      rw [← hs1]
      simp only [gi_si, ga_sa, gi_sa, gi_sb, gi_sp, ga_si, ga_sb, ga_sp, gb_si, gb_sa, gb_sb, gb_sp, gp_si, gp_sa, gp_sb, gp_sp, if_true, if_false, ↓reduceIte, Nat.reduceEqDiff]
      rw [← hok]
      exact ⟨f1 _ (by rw [hok]; exact hc), (f2 k hkC).1, (f2 k hkC).2⟩
    have mb : ∀ Q : nm_K, nm_call 59 113 [.ref 40, .int (nI c), .int q] (rep s1) Q ↔ Q [.int (BR s n o q k)] (rep s1) := by
      intro Q
      have := c_Mbridge (s := s1) (q := q) hT1.1 hT1.2.1 hT1.2.2.1.2 hT1.2.2.2.1.2 hT1.2.2.2.2.2.2.2.2 k (57 - k) Q hkC
      rw [show 57 - k + k + 2 = 59 by omega, hok] at this
      rw [this, ea.1, ea.2.1, ea.2.2.1, ea.2.2.2.1, eg, eg]
    have mt : ∀ Q : nm_K, nm_call 59 114 [.ref 40, .int (nI c), .int q] (rep s1) Q ↔ Q [.int (BR s n o q k + gi s 4007 - gi s 4007 / 2)] (rep s1) := by
      intro Q
      have := c_Mthere (s := s1) (q := q) hT1.1 hT1.2.1 hT1.2.2.1.2 hT1.2.2.2.1.2 hT1.2.2.2.2.2.2.2.2 k (56 - k) Q hkC
      rw [show 56 - k + k + 3 = 59 by omega, hok] at this
      rw [this, ea.1, ea.2.1, ea.2.2.1, ea.2.2.2.1, eg, eg]
    have ml : ∀ Q : nm_K, nm_call 59 111 [.ref 40, .int (nI c), .int q] (rep s1) Q ↔ Q [.int (LV s n c q)] (rep s1) := by
      intro Q
      have := c_Mleaves (d := 58) (s := s1) (q := q) (Q := Q) hT1.1 (show c < 4 by omega) hT1.2.2.2.1.2
      rw [this, ea.1, ea.2.1, ea.2.2.1, ea.2.2.2.1]
    rcases sw_cases y 5 with ⟨j, hj, rfl⟩ | hy
    · match j, hj with
      | 0, _ =>
        refine ⟨LV s n c q, rX _ (fun Q hQ => ?_), rM _ (fun Q z hQ => ?_)⟩
        · rw [r_X8_road_34, swt_in (by omega)]
          simp only [List.getD_cons_zero, r_X8_road_68, r_X8_road_69, r_X8_road_72, r_X8_road_75, r_X8_road_76, r_X8_road_77, ob_0, gt_0_0, gt_0_1, gt_0_2, gt_0_3, gt_0_4, gt_0_5, gt_0_6, gt_0_7, gt_0_8, gt_0_9, pt_0_9, gt_0_10, pt_0_10, gt_0_11, pt_0_11, ob_14, gt_14_0, gt_14_1, gt_14_2, gt_14_3, gt_14_4, gt_14_5, gt_14_6, gt_14_7, pt_14_7, ad_15, as_15, List.cons_append, List.nil_append, List.append_nil, if_true, if_false, true_and, and_true, true_or, or_true, nm_b_some, u3, u4, el.1]
          exact hQ
        · rw [r_X9_road_108, swt_in (by omega)]
          simp only [List.getD_cons_zero, r_X9_road_144, r_X9_road_145, r_X9_road_146, r_X9_road_147, r_X9_road_150, ob_40, List.cons_append, List.nil_append, List.append_nil, if_true, if_false, true_and, and_true, true_or, or_true, nm_b_some, ml]
          exact hQ
      | 1, _ =>
        refine ⟨BR s n o q k, rX _ (fun Q hQ => ?_), rM _ (fun Q z hQ => ?_)⟩
        · rw [r_X8_road_34, swt_in (by omega)]
          simp only [List.getD_cons_zero, List.getD_cons_succ, r_X8_road_78, r_X8_road_79, r_X8_road_82, r_X8_road_85, r_X8_road_86, r_X8_road_87, ob_0, gt_0_0, gt_0_1, gt_0_2, gt_0_3, gt_0_4, gt_0_5, gt_0_6, gt_0_7, gt_0_8, gt_0_9, pt_0_9, gt_0_10, pt_0_10, gt_0_11, pt_0_11, ob_14, gt_14_0, gt_14_1, gt_14_2, gt_14_3, gt_14_4, gt_14_5, gt_14_6, gt_14_7, pt_14_7, ad_16, as_16, List.cons_append, List.nil_append, List.append_nil, if_true, if_false, true_and, and_true, true_or, or_true, nm_b_some, u3, u4, el.2.1]
          exact hQ
        · rw [r_X9_road_108, swt_in (by omega)]
          simp only [List.getD_cons_zero, List.getD_cons_succ, r_X9_road_151, r_X9_road_152, r_X9_road_153, r_X9_road_154, r_X9_road_157, ob_40, List.cons_append, List.nil_append, List.append_nil, if_true, if_false, true_and, and_true, true_or, or_true, nm_b_some, mb]
          exact hQ
      | 2, _ =>
        refine ⟨BR s n o q k + gi s 4007 - gi s 4007 / 2, rX _ (fun Q hQ => ?_), rM _ (fun Q z hQ => ?_)⟩
        · rw [r_X8_road_34, swt_in (by omega)]
          simp only [List.getD_cons_zero, List.getD_cons_succ, r_X8_road_88, r_X8_road_89, r_X8_road_92, r_X8_road_95, r_X8_road_96, r_X8_road_97, ob_0, gt_0_0, gt_0_1, gt_0_2, gt_0_3, gt_0_4, gt_0_5, gt_0_6, gt_0_7, gt_0_8, gt_0_9, pt_0_9, gt_0_10, pt_0_10, gt_0_11, pt_0_11, ob_14, gt_14_0, gt_14_1, gt_14_2, gt_14_3, gt_14_4, gt_14_5, gt_14_6, gt_14_7, pt_14_7, ad_17, as_17, List.cons_append, List.nil_append, List.append_nil, if_true, if_false, true_and, and_true, true_or, or_true, nm_b_some, u3, u4, el.2.2]
          exact hQ
        · rw [r_X9_road_108, swt_in (by omega)]
          simp only [List.getD_cons_zero, List.getD_cons_succ, r_X9_road_158, r_X9_road_159, r_X9_road_160, r_X9_road_161, r_X9_road_164, ob_40, List.cons_append, List.nil_append, List.append_nil, if_true, if_false, true_and, and_true, true_or, or_true, nm_b_some, mt]
          exact hQ
      | 3, _ =>
        refine ⟨nI (cnt (fun i => decide (ga s 49 i = nI c)) T'), rX _ (fun Q hQ => ?_), rM _ (fun Q z hQ => ?_)⟩
        · rw [r_X8_road_34, swt_in (by omega)]
          simp only [List.getD_cons_zero, List.getD_cons_succ, r_X8_road_98, r_X8_road_99, r_X8_road_102, r_X8_road_103, r_X8_road_106, r_X8_road_109, ob_0, gt_0_0, gt_0_1, gt_0_2, gt_0_3, gt_0_4, gt_0_5, gt_0_6, gt_0_7, gt_0_8, gt_0_9, pt_0_9, gt_0_10, pt_0_10, gt_0_11, pt_0_11, ob_11, List.cons_append, List.nil_append, List.append_nil, if_true, if_false, true_and, and_true, true_or, or_true, nm_b_some, c_goodsOf (s := s1) (T := T') (by rw [eg]; exact g2) g1, c_countMask g1]
          rw [show gb s1 = gb s by rw [← hs1]; rfl, hcnt]
          exact hQ
        · rw [r_X9_road_108, swt_in (by omega)]
          simp only [List.getD_cons_zero, List.getD_cons_succ, r_X9_road_165, r_X9_road_167]
          exact hQ
      | 4, _ =>
        have hml := mask_lt (fun i => decide (ga s 49 i = nI c)) T'
        have hp := pow_le_1024 g1
        have w1 : vp_in (nI (mask (fun i => decide (ga s 49 i = nI c)) T')) 1024 := vp_in' (by omega) (by omega)
        have w2 : (nI (mask (fun i => decide (ga s 49 i = nI c)) T')).toNatClampNeg = mask (fun i => decide (ga s 49 i = nI c)) T' := i_nIc (by omega)
        refine ⟨nI (sumS (fun i => (ga s 43 i).toNatClampNeg) T' (mask (fun i => decide (ga s 49 i = nI c)) T')), rX _ (fun Q hQ => ?_), rM _ (fun Q z hQ => ?_)⟩
        · rw [r_X8_road_34, swt_in (by omega)]
          simp only [List.getD_cons_zero, List.getD_cons_succ, r_X8_road_110, r_X8_road_111, r_X8_road_114, r_X8_road_117, r_X8_road_118, r_X8_road_121, r_X8_road_122, r_X8_road_125, ob_0, gt_0_0, gt_0_1, gt_0_2, gt_0_3, gt_0_4, gt_0_5, gt_0_6, gt_0_7, gt_0_8, gt_0_9, pt_0_9, gt_0_10, pt_0_10, gt_0_11, pt_0_11, ob_1, gt_1_0, gt_1_1, gt_1_2, gt_1_3, gt_1_4, pt_1_4, ob_11, List.cons_append, List.nil_append, List.append_nil, if_true, if_false, true_and, and_true, true_or, or_true, nm_b_some, c_goodsOf (s := s1) (T := T') (by rw [eg]; exact g2) g1]
          rw [show gb s1 = gb s by rw [← hs1]; rfl, hmask]
          simp only [ad_4, w1, w2, r_X8_road_126, List.cons_append, List.nil_append, List.append_nil, if_true, if_false, true_and, and_true, true_or, or_true, nm_b_some]
          rw [show ga s1 4 = ga s 4 by rw [← hs1]; simp only [gi_si, ga_sa, gi_sa, gi_sb, gi_sp, ga_si, ga_sb, ga_sp, gb_si, gb_sa, gb_sb, gb_sp, gp_si, gp_sa, gp_sb, gp_sp, if_true, if_false, ↓reduceIte, Nat.reduceEqDiff], (g5 _ hml).1]
          exact hQ
        · rw [r_X9_road_108, swt_in (by omega)]
          simp only [List.getD_cons_zero, List.getD_cons_succ, r_X9_road_168, r_X9_road_170]
          exact hQ
    · refine ⟨-1, rX _ (fun Q hQ => ?_), rM _ (fun Q z hQ => ?_)⟩
      · rw [r_X8_road_34, swt_out (by simpa using hy)]
        simp only [r_X8_road_127, r_X8_road_128]
        exact hQ
      · rw [r_X9_road_108, swt_out (by simpa using hy)]
        simp only [r_X9_road_171, r_X9_road_172]
        exact hQ
  · exact ⟨_, _, _, c_road_n hzz h3 hk, c_Mroad_n (by rw [← hz]; exact hzz) h4 (by rw [← hz, ← hnow]; exact hk), Fr.rf⟩
