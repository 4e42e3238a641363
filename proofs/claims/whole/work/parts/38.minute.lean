/-! The reference's minute and tick. -/
def fmi1 (now : Int32) (du pt : Nat → Int32) (i : Nat) (a : (Nat → Int32) × Int32) : (Nat → Int32) × Int32 := if a.1 i = 1 ∧ du i = now then (upd a.1 i 2, if a.2 = 0 then (if pt i = 0 then 0 else 1) else 1) else a
theorem fmi1_is (now : Int32) (du pt f : Nat → Int32) (N : Nat) : (∀ j, (lpf (fmi1 now du pt) N 0 (f, 0)).1 j = if j < N ∧ f j = 1 ∧ du j = now then 2 else f j) ∧ ((lpf (fmi1 now du pt) N 0 (f, 0)).2 = 0 ↔ ∀ j, j < N → f j = 1 → du j = now → pt j = 0) := by
  have h10 : ¬ (1 : Int32) = 0 := by decide
  refine lpf_ind (step := fmi1 now du pt) (fun i a => (∀ j, a.1 j = if j < i ∧ f j = 1 ∧ du j = now then 2 else f j) ∧ (a.2 = 0 ↔ ∀ j, j < i → f j = 1 → du j = now → pt j = 0)) (N := N) ?_ N 0 (f, 0) (by omega) ⟨fun j => by rw [if_neg (by omega)], ⟨fun _ j hj => by omega, fun _ => rfl⟩⟩
  intro i a hi ha
  obtain ⟨h1, h2⟩ := ha
  have hi0 : a.1 i = f i := by rw [h1 i, if_neg (by omega)]
  unfold fmi1
  rw [hi0]
  by_cases hc : f i = 1 ∧ du i = now
  · rw [if_pos hc]
    refine ⟨fun j => ?_, ?_⟩
    · dsimp only
      by_cases hj : j = i
      · subst hj
        rw [upd_at, if_pos ⟨by omega, hc⟩]
      · rw [upd_ne hj, h1 j]
        by_cases hd : j < i ∧ f j = 1 ∧ du j = now
        · rw [if_pos hd, if_pos ⟨by omega, hd.2⟩]
        · rw [if_neg hd, if_neg (fun z => hd ⟨by omega, z.2⟩)]
    · dsimp only
      by_cases hz : a.2 = 0
      · rw [if_pos hz]
        by_cases hp : pt i = 0
        · rw [if_pos hp]
          refine ⟨fun _ j hj q1 q2 => ?_, fun _ => rfl⟩
          by_cases e : j = i
          · subst e; exact hp
          · exact h2.mp hz j (by omega) q1 q2
        · rw [if_neg hp]
          exact ⟨fun z => absurd z h10, fun z => absurd (z i (by omega) hc.1 hc.2) hp⟩
      · rw [if_neg hz]
        exact ⟨fun z => absurd z h10, fun z => absurd (h2.mpr (fun j hj => z j (by omega))) hz⟩
  · rw [if_neg hc]
    refine ⟨fun j => ?_, ?_⟩
    · rw [h1 j]
      by_cases hj : j = i
      · subst hj
        rw [if_neg (by omega), if_neg (fun z => hc z.2)]
      · by_cases hd : j < i ∧ f j = 1 ∧ du j = now
        · rw [if_pos hd, if_pos ⟨by omega, hd.2⟩]
        · rw [if_neg hd, if_neg (fun z => hd ⟨by omega, z.2⟩)]
    · rw [h2]
      refine ⟨fun z j hj q1 q2 => ?_, fun z j hj => z j (by omega)⟩
      by_cases e : j = i
      · subst e; exact absurd ⟨q1, q2⟩ hc
      · exact z j (by omega) q1 q2
def fmi2 (f : Nat → Int32) (i : Nat) (k : Nat → Int32) : Nat → Int32 := upd k i (if k i = 0 then (if f i = 2 then 1 else 0) else 1)
theorem fmi2_is (f k : Nat → Int32) (N : Nat) : ∀ j, lpf (fmi2 f) N 0 k j = if j < N then (if k j = 0 then (if f j = 2 then 1 else 0) else 1) else k j := by
  refine lpf_ind (step := fmi2 f) (fun i a => ∀ j, a j = if j < i then (if k j = 0 then (if f j = 2 then 1 else 0) else 1) else k j) (N := N) ?_ N 0 k (by omega) (fun j => by rw [if_neg (by omega)])
  intro i a hi ha j
  unfold fmi2
  by_cases hj : j = i
  · subst hj
    have e : a j = k j := by rw [ha j, if_neg (Nat.lt_irrefl j)]
    rw [upd_at, if_pos (show j < j + 1 by omega), e]
  · rw [upd_ne hj, ha j]
    by_cases h : j < i
    · rw [if_pos h, if_pos (show j < i + 1 by omega)]
    · rw [if_neg h, if_neg (show ¬ j < i + 1 by omega)]
theorem c_min2 {d : Nat} {t : nm_S} {Q : nm_K} {N : Nat} (hN : N ≤ 10) (h1 : gi t 4004 = nI N) (hQ : ∀ t' : nm_S, (∀ j, ga t' 59 j = if j < N ∧ ga t 59 j = 1 ∧ ga t 60 j + ga t 55 j = gi t 4000 then 2 else ga t 59 j) → ((∃ p, p < N ∧ ga t 59 p = 1 ∧ ga t 60 p + ga t 55 p = gi t 4000 ∧ ¬ ga t 58 p = 0) → ∀ j, ga t' 61 j = if j < N then (if ga t 61 j = 0 then (if ga t' 59 j = 2 then 1 else 0) else 1) else ga t 61 j) → ((¬ ∃ p, p < N ∧ ga t 59 p = 1 ∧ ga t 60 p + ga t 55 p = gi t 4000 ∧ ¬ ga t 58 p = 0) → ga t' 61 = ga t 61) → Fr [] [59, 61] t t' → Q [] (rep t')) : ∀ z1 z2 : Value, x_X9_minute d Q 31 [.ref 40, z1, z2] [] (rep t) 0 0 := by
  intro z1 z2
  have h10 : ¬ (1 : Int32) = 0 := by decide
  have h11 : (1 : Int32) &&& 1 = 1 := by decide
  have h01 : (0 : Int32) &&& 1 = 0 := by decide
  have hs0 : rep t = rep (sa t 59 (ga t 59)) := by rw [sa_self]
  simp only [r_X9_minute_31, r_X9_minute_32, r_X9_minute_33, r_X9_minute_34]
  rw [hs0]
  obtain ⟨u1, u2⟩ := fmi1_is (gi t 4000) (fun i => ga t 60 i + ga t 55 i) (ga t 58) (ga t 59) N
  refine nm_loopI (fun i (a : (Nat → Int32) × Int32) => x_X9_minute d Q 35 [.ref 40, .int a.2, .int (nI i)] [] (rep (sa t 59 a.1)) 0 0) (fun a => ∀ z : Value, x_X9_minute d Q 105 [.ref 40, .int a.2, z] [] (rep (sa t 59 a.1)) 0 0) (fmi1 (gi t 4000) (fun i => ga t 60 i + ga t 55 i) (ga t 58)) (fun _ _ => True) (N := N) ?_ ?_ N 0 (ga t 59, 0) (by omega) trivial ?_
  · intro i a hi _
    refine ⟨trivial, fun hnx => ?_⟩
    have g1 : nI i < nI N := (nI_lt' (by omega) (by omega)).mpr hi
    have g2 : vp_in (nI i) 10 := vp_in' (by omega) (by omega)
    have g3 : (nI i).toNatClampNeg = i := i_nIc (by omega)
    rw [r_X9_minute_35]
    simp only [r_X9_minute_36, r_X9_minute_37, r_X9_minute_40, r_X9_minute_43, r_X9_minute_44, r_X9_minute_47, r_X9_minute_48, r_X9_minute_49, r_X9_minute_50, r_X9_minute_53, r_X9_minute_54, r_X9_minute_57, r_X9_minute_58, r_X9_minute_59, r_X9_minute_60, r_X9_minute_63, r_X9_minute_64, r_X9_minute_65, r_X9_minute_66, r_X9_minute_67, r_X9_minute_70, r_X9_minute_73, r_X9_minute_74, r_X9_minute_77, r_X9_minute_78, r_X9_minute_79, r_X9_minute_80, r_X9_minute_81, r_X9_minute_84, r_X9_minute_85, r_X9_minute_88, r_X9_minute_89, r_X9_minute_90, r_X9_minute_93, r_X9_minute_94, r_X9_minute_97, r_X9_minute_98, r_X9_minute_99, r_X9_minute_102, ob_40, gt_40_0, pt_40_0, gt_40_1, pt_40_1, gt_40_2, pt_40_2, gt_40_3, pt_40_3, gt_40_4, pt_40_4, gt_40_5, pt_40_5, gt_40_6, pt_40_6, gt_40_7, pt_40_7, gt_40_8, pt_40_8, gt_40_9, pt_40_9, gt_40_10, pt_40_10, gt_40_11, gt_40_12, gt_40_13, gt_40_14, gt_40_15, gt_40_16, gt_40_17, gt_40_18, gt_40_19, gt_40_20, gt_40_21, gt_40_22, pt_40_22, gt_40_23, gt_40_24, gt_40_25, gt_40_26, gt_40_27, gt_40_28, gt_40_29, gt_40_30, gt_40_31, gt_40_32, gt_40_33, gt_40_34, pt_40_34, gt_40_35, pt_40_35, gt_40_36, gt_40_37, gt_40_38, gt_40_39, gt_40_40, gt_40_41, pt_40_41, gt_40_42, pt_40_42, gt_40_43, pt_40_43, gt_40_44, pt_40_44, gt_40_45, pt_40_45, gt_40_46, pt_40_46, gt_40_47, ad_55, as_55, ad_58, as_58, ad_59, as_59, ad_60, as_60, List.cons_append, List.nil_append, List.append_nil, if_true, if_false, true_and, and_true, true_or, or_true, nm_b_some, gi_si, ga_sa, gi_sa, gi_sb, gi_sp, ga_si, ga_sb, ga_sp, gb_si, gb_sa, gb_sb, gb_sp, gp_si, gp_sa, gp_sb, gp_sp, if_true, if_false, ↓reduceIte, Nat.reduceEqDiff, h1, g1, g2, g3, nI_s, sa_sa]
    unfold fmi1 at hnx
    by_cases c1 : a.1 i = 1
    · by_cases c2 : ga t 60 i + ga t 55 i = gi t 4000
      · simp only [c1, c2, and_self, if_true] at hnx ⊢
        by_cases c3 : a.2 = 0
        · by_cases c4 : ga t 58 i = 0
          · simp only [c3, c4, if_true] at hnx ⊢
            exact hnx
          · simp only [c3, c4, if_true, if_false] at hnx ⊢
            exact hnx
        · simp only [c3, if_false] at hnx ⊢
          exact hnx
      · simp only [c1, c2, and_false, if_false, if_true] at hnx ⊢
        exact hnx
    · simp only [c1, false_and, if_false] at hnx ⊢
      exact hnx
  · intro a _ hr
    have g1 : ¬ nI N < nI N := by rw [nI_lt' (by omega) (by omega)]; omega
    rw [r_X9_minute_35]
    simp only [r_X9_minute_36, r_X9_minute_37, r_X9_minute_40, ob_40, gt_40_0, pt_40_0, gt_40_1, pt_40_1, gt_40_2, pt_40_2, gt_40_3, pt_40_3, gt_40_4, pt_40_4, gt_40_5, pt_40_5, gt_40_6, pt_40_6, gt_40_7, pt_40_7, gt_40_8, pt_40_8, gt_40_9, pt_40_9, gt_40_10, pt_40_10, gt_40_11, gt_40_12, gt_40_13, gt_40_14, gt_40_15, gt_40_16, gt_40_17, gt_40_18, gt_40_19, gt_40_20, gt_40_21, gt_40_22, pt_40_22, gt_40_23, gt_40_24, gt_40_25, gt_40_26, gt_40_27, gt_40_28, gt_40_29, gt_40_30, gt_40_31, gt_40_32, gt_40_33, gt_40_34, pt_40_34, gt_40_35, pt_40_35, gt_40_36, gt_40_37, gt_40_38, gt_40_39, gt_40_40, gt_40_41, pt_40_41, gt_40_42, pt_40_42, gt_40_43, pt_40_43, gt_40_44, pt_40_44, gt_40_45, pt_40_45, gt_40_46, pt_40_46, gt_40_47, List.cons_append, List.nil_append, List.append_nil, if_true, if_false, true_and, and_true, true_or, or_true, nm_b_some, gi_si, ga_sa, gi_sa, gi_sb, gi_sp, ga_si, ga_sb, ga_sp, gb_si, gb_sa, gb_sb, gb_sp, gp_si, gp_sa, gp_sb, gp_sp, if_true, if_false, ↓reduceIte, Nat.reduceEqDiff, h1, g1]
    exact hr _
  · generalize lpf (fmi1 (gi t 4000) (fun i => ga t 60 i + ga t 55 i) (ga t 58)) N 0 (ga t 59, 0) = a at u1 u2
    obtain ⟨f', pv⟩ := a
    dsimp only at u1 u2
    intro z
    dsimp only
    by_cases hp : pv = 0
    · have hno : ¬ ∃ p, p < N ∧ ga t 59 p = 1 ∧ ga t 60 p + ga t 55 p = gi t 4000 ∧ ¬ ga t 58 p = 0 := by
        rintro ⟨p, p1, p2, p3, p4⟩
        exact p4 (u2.mp hp p p1 p2 p3)
      simp only [r_X9_minute_105, r_X9_minute_106]
      rw [r_X9_minute_107]
      simp only [r_X9_minute_108, r_X9_minute_109, r_X9_minute_112, r_X9_minute_115, r_X9_minute_116, r_X9_minute_155, ob_40, gt_40_0, pt_40_0, gt_40_1, pt_40_1, gt_40_2, pt_40_2, gt_40_3, pt_40_3, gt_40_4, pt_40_4, gt_40_5, pt_40_5, gt_40_6, pt_40_6, gt_40_7, pt_40_7, gt_40_8, pt_40_8, gt_40_9, pt_40_9, gt_40_10, pt_40_10, gt_40_11, gt_40_12, gt_40_13, gt_40_14, gt_40_15, gt_40_16, gt_40_17, gt_40_18, gt_40_19, gt_40_20, gt_40_21, gt_40_22, pt_40_22, gt_40_23, gt_40_24, gt_40_25, gt_40_26, gt_40_27, gt_40_28, gt_40_29, gt_40_30, gt_40_31, gt_40_32, gt_40_33, gt_40_34, pt_40_34, gt_40_35, pt_40_35, gt_40_36, gt_40_37, gt_40_38, gt_40_39, gt_40_40, gt_40_41, pt_40_41, gt_40_42, pt_40_42, gt_40_43, pt_40_43, gt_40_44, pt_40_44, gt_40_45, pt_40_45, gt_40_46, pt_40_46, gt_40_47, List.cons_append, List.nil_append, List.append_nil, if_true, if_false, true_and, and_true, true_or, or_true, nm_b_some, gi_si, ga_sa, gi_sa, gi_sb, gi_sp, ga_si, ga_sb, ga_sp, gb_si, gb_sa, gb_sb, gb_sp, gp_si, gp_sa, gp_sb, gp_sp, if_true, if_false, ↓reduceIte, Nat.reduceEqDiff, h1, hp]
      by_cases g1 : (0 : Int32) < nI N
      · simp only [g1, if_true]
        refine hQ _ (fun j => ?_) (fun z => absurd z hno) (fun _ => ?_) (Fr.rf.sa (by decide))
        · simp only [gi_si, ga_sa, gi_sa, gi_sb, gi_sp, ga_si, ga_sb, ga_sp, gb_si, gb_sa, gb_sb, gb_sp, gp_si, gp_sa, gp_sb, gp_sp, if_true, if_false, ↓reduceIte, Nat.reduceEqDiff]; exact u1 j
        · simp only [gi_si, ga_sa, gi_sa, gi_sb, gi_sp, ga_si, ga_sb, ga_sp, gb_si, gb_sa, gb_sb, gb_sp, gp_si, gp_sa, gp_sb, gp_sp, if_true, if_false, ↓reduceIte, Nat.reduceEqDiff]
      · simp only [g1, if_false]
        refine hQ _ (fun j => ?_) (fun z => absurd z hno) (fun _ => ?_) (Fr.rf.sa (by decide))
        · simp only [gi_si, ga_sa, gi_sa, gi_sb, gi_sp, ga_si, ga_sb, ga_sp, gb_si, gb_sa, gb_sb, gb_sp, gp_si, gp_sa, gp_sb, gp_sp, if_true, if_false, ↓reduceIte, Nat.reduceEqDiff]; exact u1 j
        · simp only [gi_si, ga_sa, gi_sa, gi_sb, gi_sp, ga_si, ga_sb, ga_sp, gb_si, gb_sa, gb_sb, gb_sp, gp_si, gp_sa, gp_sb, gp_sp, if_true, if_false, ↓reduceIte, Nat.reduceEqDiff]
    · have hyes : ∃ p, p < N ∧ ga t 59 p = 1 ∧ ga t 60 p + ga t 55 p = gi t 4000 ∧ ¬ ga t 58 p = 0 := by
        refine Classical.byContradiction fun hn => hp (u2.mpr fun j j1 j2 j3 => Classical.byContradiction fun j4 => hn ⟨j, j1, j2, j3, j4⟩)
      simp only [r_X9_minute_105, r_X9_minute_106]
      have hs1 : rep (sa t 59 f') = rep (sa (sa t 59 f') 61 (ga t 61)) := by
        congr 1
        have := sa_self (sa t 59 f') 61
        simp only [gi_si, ga_sa, gi_sa, gi_sb, gi_sp, ga_si, ga_sb, ga_sp, gb_si, gb_sa, gb_sb, gb_sp, gp_si, gp_sa, gp_sb, gp_sp, if_true, if_false, ↓reduceIte, Nat.reduceEqDiff] at this
        exact this.symm
      rw [hs1]
      refine nm_loopI (fun i (k : Nat → Int32) => x_X9_minute d Q 107 [.ref 40, .int pv, .int (nI i)] [] (rep (sa (sa t 59 f') 61 k)) 0 0) (fun k => Q [] (rep (sa (sa t 59 f') 61 k))) (fmi2 f') (fun _ _ => True) (N := N) ?_ ?_ N 0 (ga t 61) (by omega) trivial ?_
      · intro i k hi _
        refine ⟨trivial, fun hnx => ?_⟩
        have g1 : nI i < nI N := (nI_lt' (by omega) (by omega)).mpr hi
        have g2 : vp_in (nI i) 10 := vp_in' (by omega) (by omega)
        have g3 : (nI i).toNatClampNeg = i := i_nIc (by omega)
        rw [r_X9_minute_107]
        simp only [r_X9_minute_108, r_X9_minute_109, r_X9_minute_112, r_X9_minute_115, r_X9_minute_116, r_X9_minute_119, r_X9_minute_120, r_X9_minute_123, r_X9_minute_124, r_X9_minute_125, r_X9_minute_128, r_X9_minute_129, r_X9_minute_130, r_X9_minute_133, r_X9_minute_134, r_X9_minute_137, r_X9_minute_138, r_X9_minute_139, r_X9_minute_140, r_X9_minute_143, r_X9_minute_144, r_X9_minute_147, r_X9_minute_148, r_X9_minute_149, r_X9_minute_152, ob_40, gt_40_0, pt_40_0, gt_40_1, pt_40_1, gt_40_2, pt_40_2, gt_40_3, pt_40_3, gt_40_4, pt_40_4, gt_40_5, pt_40_5, gt_40_6, pt_40_6, gt_40_7, pt_40_7, gt_40_8, pt_40_8, gt_40_9, pt_40_9, gt_40_10, pt_40_10, gt_40_11, gt_40_12, gt_40_13, gt_40_14, gt_40_15, gt_40_16, gt_40_17, gt_40_18, gt_40_19, gt_40_20, gt_40_21, gt_40_22, pt_40_22, gt_40_23, gt_40_24, gt_40_25, gt_40_26, gt_40_27, gt_40_28, gt_40_29, gt_40_30, gt_40_31, gt_40_32, gt_40_33, gt_40_34, pt_40_34, gt_40_35, pt_40_35, gt_40_36, gt_40_37, gt_40_38, gt_40_39, gt_40_40, gt_40_41, pt_40_41, gt_40_42, pt_40_42, gt_40_43, pt_40_43, gt_40_44, pt_40_44, gt_40_45, pt_40_45, gt_40_46, pt_40_46, gt_40_47, ad_59, as_59, ad_61, as_61, List.cons_append, List.nil_append, List.append_nil, if_true, if_false, true_and, and_true, true_or, or_true, nm_b_some, gi_si, ga_sa, gi_sa, gi_sb, gi_sp, ga_si, ga_sb, ga_sp, gb_si, gb_sa, gb_sb, gb_sp, gp_si, gp_sa, gp_sb, gp_sp, if_true, if_false, ↓reduceIte, Nat.reduceEqDiff, h1, g1, g2, g3, nI_s, sa_sa, hp, h11, h01]
        unfold fmi2 at hnx
        by_cases c1 : k i = 0
        · by_cases c2 : f' i = 2
          · simp only [c1, c2, if_true] at hnx ⊢
            exact hnx
          · simp only [c1, c2, if_true, if_false] at hnx ⊢
            exact hnx
        · simp only [c1, if_false] at hnx ⊢
          exact hnx
      · intro k _ hr
        have g1 : ¬ nI N < nI N := by rw [nI_lt' (by omega) (by omega)]; omega
        rw [r_X9_minute_107]
        simp only [r_X9_minute_108, r_X9_minute_109, r_X9_minute_112, r_X9_minute_155, ob_40, gt_40_0, pt_40_0, gt_40_1, pt_40_1, gt_40_2, pt_40_2, gt_40_3, pt_40_3, gt_40_4, pt_40_4, gt_40_5, pt_40_5, gt_40_6, pt_40_6, gt_40_7, pt_40_7, gt_40_8, pt_40_8, gt_40_9, pt_40_9, gt_40_10, pt_40_10, gt_40_11, gt_40_12, gt_40_13, gt_40_14, gt_40_15, gt_40_16, gt_40_17, gt_40_18, gt_40_19, gt_40_20, gt_40_21, gt_40_22, pt_40_22, gt_40_23, gt_40_24, gt_40_25, gt_40_26, gt_40_27, gt_40_28, gt_40_29, gt_40_30, gt_40_31, gt_40_32, gt_40_33, gt_40_34, pt_40_34, gt_40_35, pt_40_35, gt_40_36, gt_40_37, gt_40_38, gt_40_39, gt_40_40, gt_40_41, pt_40_41, gt_40_42, pt_40_42, gt_40_43, pt_40_43, gt_40_44, pt_40_44, gt_40_45, pt_40_45, gt_40_46, pt_40_46, gt_40_47, List.cons_append, List.nil_append, List.append_nil, if_true, if_false, true_and, and_true, true_or, or_true, nm_b_some, gi_si, ga_sa, gi_sa, gi_sb, gi_sp, ga_si, ga_sb, ga_sp, gb_si, gb_sa, gb_sb, gb_sp, gp_si, gp_sa, gp_sb, gp_sp, if_true, if_false, ↓reduceIte, Nat.reduceEqDiff, h1, g1]
        exact hr
      · refine hQ _ (fun j => ?_) (fun _ j => ?_) (fun z => absurd hyes z) ((Fr.rf.sa (by decide)).sa (by decide))
        · simp only [gi_si, ga_sa, gi_sa, gi_sb, gi_sp, ga_si, ga_sb, ga_sp, gb_si, gb_sa, gb_sb, gb_sp, gp_si, gp_sa, gp_sb, gp_sp, if_true, if_false, ↓reduceIte, Nat.reduceEqDiff]; exact u1 j
        · simp only [gi_si, ga_sa, gi_sa, gi_sb, gi_sp, ga_si, ga_sb, ga_sp, gb_si, gb_sa, gb_sb, gb_sp, gp_si, gp_sa, gp_sb, gp_sp, if_true, if_false, ↓reduceIte, Nat.reduceEqDiff]; exact fmi2_is f' (ga t 61) N j
