/-! begin on the other side; stage. -/
/-- the first that is wanting -/
theorem c_Mbegin_loop {d : Nat} {s : nm_S} {Q : nm_K} {N i : Nat} {st nd : Nat → Nat} (hN : N ≤ 10) (hi : i < N) (h1 : gi s 4004 = nI N) (hst : ∀ k, k < N → ga s 59 k = nI (st k) ∧ st k < 2147483648) (hnd : ga s 56 i = nI (nd i)) (hnd2 : nd i < 65536) (hy : (∀ k, k < N → (nd i).testBit k = true → st k = 2) → ∀ z : Value, x_X9_begin d Q 68 [.ref 40, .int (nI i), z] [] (rep s) 0 0) (hn : (¬ ∀ k, k < N → (nd i).testBit k = true → st k = 2) → Q [.int 0] (rep s)) : ∀ m k, k + m = N → (∀ j, j < k → (nd i).testBit j = true → st j = 2) → x_X9_begin d Q 28 [.ref 40, .int (nI i), .int (nI k)] [] (rep s) 0 0
  | 0, k, hk, hb => by
    have : k = N := by omega
    subst this
    have g1 : ¬ nI k < nI k := by rw [nI_lt' (by omega) (by omega)]; omega
    rw [r_X9_begin_28]
    simp only [r_X9_begin_29, r_X9_begin_30, r_X9_begin_33, r_X9_begin_36, r_X9_begin_37, r_X9_begin_40, r_X9_begin_41, r_X9_begin_42, r_X9_begin_43, r_X9_begin_44, r_X9_begin_45, r_X9_begin_46, r_X9_begin_47, r_X9_begin_50, r_X9_begin_51, r_X9_begin_54, r_X9_begin_55, r_X9_begin_56, r_X9_begin_57, r_X9_begin_60, r_X9_begin_61, r_X9_begin_62, r_X9_begin_65, ob_40, gt_40_0, pt_40_0, gt_40_1, pt_40_1, gt_40_2, pt_40_2, gt_40_3, pt_40_3, gt_40_4, pt_40_4, gt_40_5, pt_40_5, gt_40_6, pt_40_6, gt_40_7, pt_40_7, gt_40_8, pt_40_8, gt_40_9, pt_40_9, gt_40_10, pt_40_10, gt_40_11, gt_40_12, gt_40_13, gt_40_14, gt_40_15, gt_40_16, gt_40_17, gt_40_18, gt_40_19, gt_40_20, gt_40_21, gt_40_22, pt_40_22, gt_40_23, gt_40_24, gt_40_25, gt_40_26, gt_40_27, gt_40_28, gt_40_29, gt_40_30, gt_40_31, gt_40_32, gt_40_33, gt_40_34, pt_40_34, gt_40_35, pt_40_35, gt_40_36, gt_40_37, gt_40_38, gt_40_39, gt_40_40, gt_40_41, pt_40_41, gt_40_42, pt_40_42, gt_40_43, pt_40_43, gt_40_44, pt_40_44, gt_40_45, pt_40_45, gt_40_46, pt_40_46, gt_40_47, ad_56, as_56, ad_59, as_59, List.cons_append, List.nil_append, List.append_nil, if_true, if_false, true_and, and_true, true_or, or_true, nm_b_some, h1, g1]
    exact hy hb _
  | m + 1, k, hk, hb => by
    have hkN : k < N := by omega
    have g1 : nI k < nI N := (nI_lt' (by omega) (by omega)).mpr hkN
    have g2 : vp_in (nI k) 10 := vp_in' (by omega) (by omega)
    have g3 : (nI k).toNatClampNeg = k := i_nIc (by omega)
    have u3 : vp_in (nI i) 10 := vp_in' (by omega) (by omega)
    have u4 : (nI i).toNatClampNeg = i := i_nIc (by omega)
    have g4 := need_bit (nd i) k hnd2 (by omega)
    have g5 : nI (st k) = 2 ↔ st k = 2 := by rw [show (2 : Int32) = nI 2 from rfl, nI_eq' (hst k hkN).2 (by omega)]
    rw [r_X9_begin_28]
    simp only [r_X9_begin_29, r_X9_begin_30, r_X9_begin_33, r_X9_begin_36, r_X9_begin_37, r_X9_begin_40, r_X9_begin_41, r_X9_begin_42, r_X9_begin_43, r_X9_begin_44, r_X9_begin_45, r_X9_begin_46, r_X9_begin_47, r_X9_begin_50, r_X9_begin_51, r_X9_begin_54, r_X9_begin_55, r_X9_begin_56, r_X9_begin_57, r_X9_begin_60, r_X9_begin_61, r_X9_begin_62, r_X9_begin_65, ob_40, gt_40_0, pt_40_0, gt_40_1, pt_40_1, gt_40_2, pt_40_2, gt_40_3, pt_40_3, gt_40_4, pt_40_4, gt_40_5, pt_40_5, gt_40_6, pt_40_6, gt_40_7, pt_40_7, gt_40_8, pt_40_8, gt_40_9, pt_40_9, gt_40_10, pt_40_10, gt_40_11, gt_40_12, gt_40_13, gt_40_14, gt_40_15, gt_40_16, gt_40_17, gt_40_18, gt_40_19, gt_40_20, gt_40_21, gt_40_22, pt_40_22, gt_40_23, gt_40_24, gt_40_25, gt_40_26, gt_40_27, gt_40_28, gt_40_29, gt_40_30, gt_40_31, gt_40_32, gt_40_33, gt_40_34, pt_40_34, gt_40_35, pt_40_35, gt_40_36, gt_40_37, gt_40_38, gt_40_39, gt_40_40, gt_40_41, pt_40_41, gt_40_42, pt_40_42, gt_40_43, pt_40_43, gt_40_44, pt_40_44, gt_40_45, pt_40_45, gt_40_46, pt_40_46, gt_40_47, ad_56, as_56, ad_59, as_59, List.cons_append, List.nil_append, List.append_nil, if_true, if_false, true_and, and_true, true_or, or_true, nm_b_some, h1, g1, g2, g3, u3, u4, hnd, (hst k hkN).1, g4, g5, nI_s]
    have ih := c_Mbegin_loop hN hi h1 hst hnd hnd2 hy hn m (k + 1) (by omega)
    by_cases hbit : (nd i).testBit k = true
    · by_cases h2 : st k = 2
      · simp only [hbit, h2, if_true]
        refine ih (fun j hj hb2 => ?_)
        by_cases e : j = k
        · subst e; exact h2
        · exact hb j (by omega) hb2
      · simp only [hbit, h2, if_true, if_false]
        exact hn (fun z => h2 (z k hkN hbit))
    · simp only [hbit, if_false]
      refine ih (fun j hj hb2 => ?_)
      by_cases e : j = k
      · subst e; exact absurd hb2 hbit
      · exact hb j (by omega) hb2
theorem c_Mbegin {s : nm_S} {N T i : Nat} {st bg mi nd bk : Nat → Nat} {pt sf : Nat → Bool} {r : Nat} {ro en : Nat → Nat} (hN : N ≤ 10) (hM : MR s N st bg mi nd bk pt sf) (hW : WF N T st bg mi nd bk sf) (hr : r ≤ 10) (hB : gi s 4034 = nI r) (hi : i < N) : (okbeg N i st nd r → Runs 124 [.ref 40, .int (nI i)] s 1 (sa (sa s 59 (upd (ga s 59) i 1)) 60 (upd (ga s 60) i (gi s 4000)))) ∧ (¬ okbeg N i st nd r → Runs 124 [.ref 40, .int (nI i)] s 0 s) := by
  obtain ⟨hm1, hm2, hm3⟩ := hM
  have g := (idx_iff (j := i) (n := N) (by omega) (by omega)).mpr hi
  have u3 : vp_in (nI i) 10 := vp_in' (by omega) (by omega)
  have u4 : (nI i).toNatClampNeg = i := i_nIc (by omega)
  have h10 : ¬ (1 : Int32) = 0 := by decide
  obtain ⟨a1, a2, a3, a4, a5, a6, a7⟩ := hm2 i hi
  have hst : ∀ k, k < N → st k < 2147483648 := fun k hk => by have := (hW k hk).2.2.2.1; omega
  have z0 : nI (st i) = 0 ↔ st i = 0 := nI_z (hst i hi)
  have zr : (0 : Int32) < nI r ↔ ¬ r = 0 := by rw [show (0 : Int32) = nI 0 from rfl, nI_lt' (by omega) (by omega)]; omega
  constructor
  · rintro ⟨k1, k2, k3⟩ Q hQ
    simp only [e_X9_begin, r_X9_begin_0, r_X9_begin_1, r_X9_begin_2, r_X9_begin_5, r_X9_begin_8, r_X9_begin_9, r_X9_begin_12, r_X9_begin_13, r_X9_begin_14, r_X9_begin_17, r_X9_begin_18, r_X9_begin_21, r_X9_begin_24, r_X9_begin_25, r_X9_begin_26, r_X9_begin_27, ob_40, gt_40_0, pt_40_0, gt_40_1, pt_40_1, gt_40_2, pt_40_2, gt_40_3, pt_40_3, gt_40_4, pt_40_4, gt_40_5, pt_40_5, gt_40_6, pt_40_6, gt_40_7, pt_40_7, gt_40_8, pt_40_8, gt_40_9, pt_40_9, gt_40_10, pt_40_10, gt_40_11, gt_40_12, gt_40_13, gt_40_14, gt_40_15, gt_40_16, gt_40_17, gt_40_18, gt_40_19, gt_40_20, gt_40_21, gt_40_22, pt_40_22, gt_40_23, gt_40_24, gt_40_25, gt_40_26, gt_40_27, gt_40_28, gt_40_29, gt_40_30, gt_40_31, gt_40_32, gt_40_33, gt_40_34, pt_40_34, gt_40_35, pt_40_35, gt_40_36, gt_40_37, gt_40_38, gt_40_39, gt_40_40, gt_40_41, pt_40_41, gt_40_42, pt_40_42, gt_40_43, pt_40_43, gt_40_44, pt_40_44, gt_40_45, pt_40_45, gt_40_46, pt_40_46, gt_40_47, ad_59, as_59, List.cons_append, List.nil_append, List.append_nil, if_true, if_false, true_and, and_true, true_or, or_true, nm_b_some, c_MisStage, b_0, hm1, g, u3, u4, a1, z0.mpr k1, hB, zr, k2, and_self, not_true_eq_false]
    refine c_Mbegin_loop (st := st) (nd := nd) hN hi hm1 (fun k hk => ⟨(hm2 k hk).1, hst k hk⟩) a5 (nd_small (by omega) (hW i hi).2.1) (fun _ z => ?_) (fun z => absurd k3 z) N 0 (by omega) (fun j hj => by omega)
    simp only [r_X9_begin_68, r_X9_begin_69, r_X9_begin_72, r_X9_begin_73, r_X9_begin_74, r_X9_begin_75, r_X9_begin_76, r_X9_begin_79, r_X9_begin_80, r_X9_begin_81, r_X9_begin_84, r_X9_begin_85, r_X9_begin_86, ob_40, gt_40_0, pt_40_0, gt_40_1, pt_40_1, gt_40_2, pt_40_2, gt_40_3, pt_40_3, gt_40_4, pt_40_4, gt_40_5, pt_40_5, gt_40_6, pt_40_6, gt_40_7, pt_40_7, gt_40_8, pt_40_8, gt_40_9, pt_40_9, gt_40_10, pt_40_10, gt_40_11, gt_40_12, gt_40_13, gt_40_14, gt_40_15, gt_40_16, gt_40_17, gt_40_18, gt_40_19, gt_40_20, gt_40_21, gt_40_22, pt_40_22, gt_40_23, gt_40_24, gt_40_25, gt_40_26, gt_40_27, gt_40_28, gt_40_29, gt_40_30, gt_40_31, gt_40_32, gt_40_33, gt_40_34, pt_40_34, gt_40_35, pt_40_35, gt_40_36, gt_40_37, gt_40_38, gt_40_39, gt_40_40, gt_40_41, pt_40_41, gt_40_42, pt_40_42, gt_40_43, pt_40_43, gt_40_44, pt_40_44, gt_40_45, pt_40_45, gt_40_46, pt_40_46, gt_40_47, ad_59, as_59, ad_60, as_60, List.cons_append, List.nil_append, List.append_nil, if_true, if_false, true_and, and_true, true_or, or_true, nm_b_some, gi_si, ga_sa, gi_sa, gi_sb, gi_sp, ga_si, ga_sb, ga_sp, gb_si, gb_sa, gb_sb, gb_sp, gp_si, gp_sa, gp_sb, gp_sp, if_true, if_false, ↓reduceIte, Nat.reduceEqDiff, u3, u4]
    exact hQ
  · intro hno Q hQ
    unfold okbeg at hno
    simp only [e_X9_begin, r_X9_begin_0, r_X9_begin_1, r_X9_begin_2, r_X9_begin_5, r_X9_begin_8, r_X9_begin_9, r_X9_begin_12, r_X9_begin_13, r_X9_begin_14, r_X9_begin_17, r_X9_begin_18, r_X9_begin_21, r_X9_begin_24, r_X9_begin_25, r_X9_begin_26, r_X9_begin_27, ob_40, gt_40_0, pt_40_0, gt_40_1, pt_40_1, gt_40_2, pt_40_2, gt_40_3, pt_40_3, gt_40_4, pt_40_4, gt_40_5, pt_40_5, gt_40_6, pt_40_6, gt_40_7, pt_40_7, gt_40_8, pt_40_8, gt_40_9, pt_40_9, gt_40_10, pt_40_10, gt_40_11, gt_40_12, gt_40_13, gt_40_14, gt_40_15, gt_40_16, gt_40_17, gt_40_18, gt_40_19, gt_40_20, gt_40_21, gt_40_22, pt_40_22, gt_40_23, gt_40_24, gt_40_25, gt_40_26, gt_40_27, gt_40_28, gt_40_29, gt_40_30, gt_40_31, gt_40_32, gt_40_33, gt_40_34, pt_40_34, gt_40_35, pt_40_35, gt_40_36, gt_40_37, gt_40_38, gt_40_39, gt_40_40, gt_40_41, pt_40_41, gt_40_42, pt_40_42, gt_40_43, pt_40_43, gt_40_44, pt_40_44, gt_40_45, pt_40_45, gt_40_46, pt_40_46, gt_40_47, ad_59, as_59, List.cons_append, List.nil_append, List.append_nil, if_true, if_false, true_and, and_true, true_or, or_true, nm_b_some, c_MisStage, b_0, hm1, g, u3, u4, a1, hB, zr, and_self, not_true_eq_false, z0]
    by_cases k1 : st i = 0
    · by_cases k2 : r = 0
      · have k3 : ¬ ∀ k, k < N → (nd i).testBit k = true → st k = 2 := fun z => hno ⟨k1, k2, z⟩
        simp only [k1, k2, not_true_eq_false, if_true, if_false]
        exact c_Mbegin_loop (st := st) (nd := nd) hN hi hm1 (fun k hk => ⟨(hm2 k hk).1, hst k hk⟩) a5 (nd_small (by omega) (hW i hi).2.1) (fun z => absurd z k3) (fun _ => hQ) N 0 (by omega) (fun j hj => by omega)
      · simp only [k1, k2, not_false_eq_true, if_true]
        exact hQ
    · simp only [k1, if_false]
      exact hQ
theorem eb_ne {st bg : Nat → Nat} {i j : Nat} {v w : Nat} (h : j ≠ i) : eb (fun k => if k = i then v else st k) (fun k => if k = i then w else bg k) j = eb st bg j := by
  simp [eb, h]
theorem eb_eq {st bg : Nat → Nat} {i : Nat} {v w : Nat} (h : v ≠ 0) : eb (fun k => if k = i then v else st k) (fun k => if k = i then w else bg k) i = nI w := by
  simp [eb, h]
theorem st_begin {s : nm_S} (x : Int32) (h : IvS s) : ∃ v s1 s2, Runs 81 [.ref 0, .int x] s v s1 ∧ Runs 124 [.ref 40, .int x] s1 v s2 ∧ Fr [] [22, 23, 59, 60] s s2 ∧ IvS s2 := by
  have hI := h
  obtain ⟨N, T, r, st, bg, mi, nd, bk, pt, sf, ro, en, ⟨h1, h2⟩, ⟨h3, h4⟩, h5, hX, hM, hW, hB, hMB, hXB⟩ := h
  by_cases hx : 0 ≤ x ∧ x ≤ nI N - 1
  · obtain ⟨i, hi, rfl⟩ := idx_of (by omega) hx
    by_cases hk : okbeg N i st nd r
    · have r1 := (c_begin h1 hX hW hB hi).1 hk
      have hM1 : MR (sa (sa s 22 (upd (ga s 22) i 1)) 23 (upd (ga s 23) i (gi s 9))) N st bg mi nd bk pt sf := by
        unfold MR at hM ⊢
        simp only [gi_si, ga_sa, gi_sa, gi_sb, gi_sp, ga_si, ga_sb, ga_sp, gb_si, gb_sa, gb_sb, gb_sp, gp_si, gp_sa, gp_sb, gp_sp, if_true, if_false, ↓reduceIte, Nat.reduceEqDiff]
        exact hM
      have r2 := (c_Mbegin (ro := ro) (en := en) (r := r) h1 hM1 hW (by have := hB.1; omega) (by simp only [gi_si, ga_sa, gi_sa, gi_sb, gi_sp, ga_si, ga_sb, ga_sp, gb_si, gb_sa, gb_sb, gb_sp, gp_si, gp_sa, gp_sb, gp_sp, if_true, if_false, ↓reduceIte, Nat.reduceEqDiff]; exact hMB.1) hi).1 hk
      simp only [gi_si, ga_sa, gi_sa, gi_sb, gi_sp, ga_si, ga_sb, ga_sp, gb_si, gb_sa, gb_sb, gb_sp, gp_si, gp_sa, gp_sb, gp_sp, if_true, if_false, ↓reduceIte, Nat.reduceEqDiff] at r2
      refine ⟨_, _, _, r1, r2, (((Fr.rf.sa (by decide)).sa (by decide)).sa (by decide)).sa (by decide), ?_⟩
      obtain ⟨k1, k2, k3⟩ := hk
      refine ⟨N, T, r, fun k => if k = i then 1 else st k, fun k => if k = i then T else bg k, mi, nd, bk, pt, sf, ro, en, ⟨h1, h2⟩, ?_, ?_, ?_, ?_, ?_, ?_, ?_, ?_⟩
      · simp only [gi_si, ga_sa, gi_sa, gi_sb, gi_sp, ga_si, ga_sb, ga_sp, gb_si, gb_sa, gb_sb, gb_sp, gp_si, gp_sa, gp_sb, gp_sp, if_true, if_false, ↓reduceIte, Nat.reduceEqDiff]; exact ⟨h3, h4⟩
      · simp only [gi_si, ga_sa, gi_sa, gi_sb, gi_sp, ga_si, ga_sb, ga_sp, gb_si, gb_sa, gb_sb, gb_sp, gp_si, gp_sa, gp_sb, gp_sp, if_true, if_false, ↓reduceIte, Nat.reduceEqDiff]; exact h5
      · refine ⟨by simp only [gi_si, ga_sa, gi_sa, gi_sb, gi_sp, ga_si, ga_sb, ga_sp, gb_si, gb_sa, gb_sb, gb_sp, gp_si, gp_sa, gp_sb, gp_sp, if_true, if_false, ↓reduceIte, Nat.reduceEqDiff]; exact hX.1, fun j hj => ?_⟩
        simp only [gi_si, ga_sa, gi_sa, gi_sb, gi_sp, ga_si, ga_sb, ga_sp, gb_si, gb_sa, gb_sb, gb_sp, gp_si, gp_sa, gp_sb, gp_sp, if_true, if_false, ↓reduceIte, Nat.reduceEqDiff]
        obtain ⟨a1, a2, a3, a4, a5, a6, a7⟩ := hX.2 j hj
        by_cases e : j = i
        · subst e
          rw [upd_at, upd_at, eb_eq (by decide), h3]
          simp only [if_true]
          exact ⟨rfl, trivial, a3, a4, a5, a6, a7⟩
        · rw [upd_ne e, upd_ne e, eb_ne e, if_neg e]
          exact ⟨a1, a2, a3, a4, a5, a6, a7⟩
      · refine ⟨by simp only [gi_si, ga_sa, gi_sa, gi_sb, gi_sp, ga_si, ga_sb, ga_sp, gb_si, gb_sa, gb_sb, gb_sp, gp_si, gp_sa, gp_sb, gp_sp, if_true, if_false, ↓reduceIte, Nat.reduceEqDiff]; exact hM.1, fun j hj => ?_, fun j hj hj2 => ?_⟩
        · simp only [gi_si, ga_sa, gi_sa, gi_sb, gi_sp, ga_si, ga_sb, ga_sp, gb_si, gb_sa, gb_sb, gb_sp, gp_si, gp_sa, gp_sb, gp_sp, if_true, if_false, ↓reduceIte, Nat.reduceEqDiff]
          obtain ⟨a1, a2, a3, a4, a5, a6, a7⟩ := hM.2.1 j hj
          by_cases e : j = i
          · subst e
            rw [upd_at, upd_at, eb_eq (by decide), h4]
            simp only [if_true]
            exact ⟨rfl, trivial, a3, a4, a5, a6, a7⟩
          · rw [upd_ne e, upd_ne e, eb_ne e, if_neg e]
            exact ⟨a1, a2, a3, a4, a5, a6, a7⟩
        · simp only [gi_si, ga_sa, gi_sa, gi_sb, gi_sp, ga_si, ga_sb, ga_sp, gb_si, gb_sa, gb_sb, gb_sp, gp_si, gp_sa, gp_sb, gp_sp, if_true, if_false, ↓reduceIte, Nat.reduceEqDiff]
          rw [upd_ne (by omega)]
          exact hM.2.2 j hj hj2
      · intro j hj
        obtain ⟨a1, a2, a3, a4, a5, a6, a7, a8⟩ := hW j hj
        dsimp only
        by_cases e : j = i
        · subst e
          simp only [if_true]
          refine ⟨a1, a2, a3, by omega, fun _ => ⟨by omega, by omega⟩, fun z => by omega, fun z => by omega, fun z => ?_⟩
          have := a8 z
          omega
        · simp only [e, if_false]
          exact ⟨a1, a2, a3, a4, a5, a6, a7, a8⟩
      · subst k2
        refine ⟨Nat.zero_le _, fun k hk => by omega, fun k hk => by omega, fun j k _ hk => by omega, fun j hj hs => ?_, fun z => by omega⟩
        dsimp only at hs
        by_cases e : j = i
        · rw [if_pos e] at hs; cases hs
        · rw [if_neg e] at hs
          obtain ⟨k, hk, -⟩ := hB.2.2.2.2.1 j hj hs
          omega
      · unfold MB at hMB ⊢
        simp only [gi_si, ga_sa, gi_sa, gi_sb, gi_sp, ga_si, ga_sb, ga_sp, gb_si, gb_sa, gb_sb, gb_sp, gp_si, gp_sa, gp_sb, gp_sp, if_true, if_false, ↓reduceIte, Nat.reduceEqDiff]
        exact hMB
      · unfold XB at hXB ⊢
        simp only [gi_si, ga_sa, gi_sa, gi_sb, gi_sp, ga_si, ga_sb, ga_sp, gb_si, gb_sa, gb_sb, gb_sp, gp_si, gp_sa, gp_sb, gp_sp, if_true, if_false, ↓reduceIte, Nat.reduceEqDiff]
        exact hXB
    · have r1 := (c_begin h1 hX hW hB hi).2 hk
      have r2 := (c_Mbegin (ro := ro) (en := en) (r := r) h1 hM hW (by have := hB.1; omega) hMB.1 hi).2 hk
      exact ⟨_, _, _, r1, r2, Fr.rf, hI⟩
  · refine ⟨0, s, s, ?_, ?_, Fr.rf, hI⟩
    · intro Q hQ
      simp only [e_X8_begin, r_X8_begin_0, r_X8_begin_1, r_X8_begin_2, r_X8_begin_5, r_X8_begin_8, r_X8_begin_9, r_X8_begin_12, r_X8_begin_13, r_X8_begin_14, r_X8_begin_17, r_X8_begin_20, r_X8_begin_23, r_X8_begin_24, r_X8_begin_27, r_X8_begin_28, ob_0, gt_0_0, gt_0_1, gt_0_2, gt_0_3, gt_0_4, gt_0_5, gt_0_6, gt_0_7, gt_0_8, gt_0_9, pt_0_9, gt_0_10, pt_0_10, gt_0_11, pt_0_11, List.cons_append, List.nil_append, List.append_nil, if_true, if_false, true_and, and_true, true_or, or_true, nm_b_some, c_isStage, b_0, hX.1, hx, not_false_eq_true]
      exact hQ
    · intro Q hQ
      simp only [e_X9_begin, r_X9_begin_0, r_X9_begin_1, r_X9_begin_2, r_X9_begin_5, r_X9_begin_8, r_X9_begin_9, r_X9_begin_12, r_X9_begin_13, r_X9_begin_14, r_X9_begin_17, r_X9_begin_18, r_X9_begin_21, r_X9_begin_24, r_X9_begin_25, ob_40, gt_40_0, pt_40_0, gt_40_1, pt_40_1, gt_40_2, pt_40_2, gt_40_3, pt_40_3, gt_40_4, pt_40_4, gt_40_5, pt_40_5, gt_40_6, pt_40_6, gt_40_7, pt_40_7, gt_40_8, pt_40_8, gt_40_9, pt_40_9, gt_40_10, pt_40_10, gt_40_11, gt_40_12, gt_40_13, gt_40_14, gt_40_15, gt_40_16, gt_40_17, gt_40_18, gt_40_19, gt_40_20, gt_40_21, gt_40_22, pt_40_22, gt_40_23, gt_40_24, gt_40_25, gt_40_26, gt_40_27, gt_40_28, gt_40_29, gt_40_30, gt_40_31, gt_40_32, gt_40_33, gt_40_34, pt_40_34, gt_40_35, pt_40_35, gt_40_36, gt_40_37, gt_40_38, gt_40_39, gt_40_40, gt_40_41, pt_40_41, gt_40_42, pt_40_42, gt_40_43, pt_40_43, gt_40_44, pt_40_44, gt_40_45, pt_40_45, gt_40_46, pt_40_46, gt_40_47, List.cons_append, List.nil_append, List.append_nil, if_true, if_false, true_and, and_true, true_or, or_true, nm_b_some, c_MisStage, b_0, hM.1, hx, not_false_eq_true]
      exact hQ
/-! stage -/
def okstg (N : Nat) (st : Nat → Nat) (m n b : Int32) : Prop := N < 10 ∧ (∀ i, i < N → st i = 0) ∧ (1 ≤ m ∧ m ≤ 60) ∧ (0 ≤ n ∧ n ≤ nI (2 ^ N) - 1) ∧ (0 ≤ b ∧ b ≤ 60)
theorem ushr_0 (n : Int32) (N : Nat) (hN : N < 10) : ((n.toUInt32 >>> ((nI N).toUInt32 &&& Int32.toUInt32 31)).toInt32 = 0) ↔ (0 ≤ n ∧ n ≤ nI (2 ^ N) - 1) := by
  have e : ∀ k, k < 16 → (((nI k).toUInt32 &&& Int32.toUInt32 31).toBitVec % 32).toNat = k := by decide +kernel
  have h1 := pk_ushr n (nI N) N (e N (by omega))
  have h2 := bv_of n
  have hlt : n.toBitVec.toNat < 4294967296 := n.toBitVec.isLt
  have hp : 2 ^ N ≤ 1024 := pow_le_1024 (by omega)
  have hp0 : 0 < 2 ^ N := Nat.pow_pos (by decide)
  rw [i_le, i_le, i_l0, nI_sub1 (by omega)]
  constructor
  · intro h
    rw [h] at h1
    have h3 : n.toBitVec.toNat / 2 ^ N = 0 := by rw [← h1]; rfl
    have h4 := (Nat.div_eq_zero_iff_lt hp0).mp h3
    rw [h2]
    split <;> omega
  · intro h
    rw [h2] at h
    have h4 : n.toBitVec.toNat < 2 ^ N := by
      split at h <;> omega
    have h3 : n.toBitVec.toNat / 2 ^ N = 0 := Nat.div_eq_of_lt h4
    rw [h3] at h1
    apply Int32.toBitVec_inj.1
    apply BitVec.eq_of_toNat_eq
    rw [h1]
    rfl
theorem b01v {p : Int32} (h : p = 0 ∨ p = 1) : p &&& 1 = p := nm_bool_and h
theorem c_stage {s : nm_S} {m n b p : Int32} {N T : Nat} {st bg mi nd bk : Nat → Nat} {pt sf : Nat → Bool} (hN : N ≤ 10) (hX : XR s N st bg mi nd bk pt sf) (hW : WF N T st bg mi nd bk sf) (hp : p = 0 ∨ p = 1) : (okstg N st m n b → Runs 80 [.ref 0, .int m, .int n, .int b, .int p] s (nI N) (sa (sa (sa (sa (si (sa (sa (sa (sa s 25 (upd (ga s 25) N m)) 26 (upd (ga s 26) N n)) 27 (upd (ga s 27) N b)) 28 (upd (ga s 28) N p)) 2103 (nI (N + 1))) 22 (upd (ga s 22) N 0)) 23 (upd (ga s 23) N (-1))) 29 (upd (ga s 29) N (-1))) 24 (upd (ga s 24) N 0))) ∧ (¬ okstg N st m n b → Runs 80 [.ref 0, .int m, .int n, .int b, .int p] s (-1) s) := by
  obtain ⟨hx1, hx2⟩ := hX
  have h10 : ¬ (1 : Int32) = 0 := by decide
  have hst : ∀ k, k < N → st k < 2147483648 := fun k hk => by have := (hW k hk).2.2.2.1; omega
  have hsb : N < 10 → (nI (mask (fun i => decide (ga s 22 i = 0)) N) = (1 : Int32) <<< (nI N &&& 31) - 1 ↔ ∀ i, i < N → st i = 0) := by
    intro hl
    have hp0 : 0 < 2 ^ N := Nat.pow_pos (by decide)
    have hp1 : 2 ^ N ≤ 1024 := pow_le_1024 (by omega)
    have e1 : nI (2 ^ N) - 1 = nI (2 ^ N - 1) := by
      rw [i_eq, nI_sub1 (by omega), i_nI (by omega)]
      omega
    rw [shl1 N (by omega), e1, nI_eq' (by have := mask_small (fun i => decide (ga s 22 i = 0)) (show N ≤ 16 by omega); omega) (by omega), mask_full]
    constructor
    · intro h i hi
      have := h i hi
      rw [decide_eq_true_eq, (hx2 i hi).1, nI_z (hst i hi)] at this
      exact this
    · intro h i hi
      rw [decide_eq_true_eq, (hx2 i hi).1, nI_z (hst i hi)]
      exact h i hi
  have hlt : nI N < 10 ↔ N < 10 := nI_lt' (b := 10) (by omega) (by omega)
  constructor
  · rintro ⟨k0, k1, k2, k3, k4⟩ Q hQ
    have u3 : vp_in (nI N) 10 := vp_in' k0 (by omega)
    have u4 : (nI N).toNatClampNeg = N := i_nIc (by omega)
    simp only [e_X8_stage, r_X8_stage_0, r_X8_stage_1, r_X8_stage_2, r_X8_stage_4, r_X8_stage_7, r_X8_stage_10, r_X8_stage_11, r_X8_stage_12, r_X8_stage_14, r_X8_stage_17, r_X8_stage_20, r_X8_stage_21, r_X8_stage_22, r_X8_stage_23, r_X8_stage_26, r_X8_stage_27, r_X8_stage_28, r_X8_stage_29, r_X8_stage_31, r_X8_stage_34, e_X5_add, r_X5_add_0, r_X5_add_1, r_X5_add_4, r_X5_add_6, r_X5_add_9, r_X5_add_10, r_X5_add_11, r_X5_add_14, r_X5_add_15, r_X5_add_18, r_X5_add_19, r_X5_add_22, r_X5_add_25, r_X5_add_26, r_X5_add_27, r_X5_add_28, r_X5_add_31, r_X5_add_32, r_X5_add_35, r_X5_add_36, r_X5_add_37, r_X5_add_38, r_X5_add_41, r_X5_add_42, r_X5_add_45, r_X5_add_46, r_X5_add_47, r_X5_add_48, r_X5_add_51, r_X5_add_52, r_X5_add_55, r_X5_add_56, r_X5_add_57, r_X5_add_58, r_X5_add_61, r_X5_add_62, r_X5_add_65, r_X5_add_67, r_X5_add_68, r_X5_add_69, r_X5_add_70, r_X5_add_73, r_X5_add_74, r_X5_add_75, r_X5_add_78, r_X5_add_79, r_X5_add_80, r_X5_add_83, r_X5_add_84, r_X5_add_85, r_X5_add_88, r_X5_add_89, r_X5_add_92, r_X5_add_93, r_X5_add_94, e_X5_someHasBegun, r_X5_someHasBegun_0, r_X5_someHasBegun_1, r_X5_someHasBegun_2, r_X5_someHasBegun_5, r_X5_someHasBegun_6, r_X5_someHasBegun_7, r_X5_someHasBegun_10, r_X5_someHasBegun_11, r_X5_someHasBegun_12, r_X5_someHasBegun_13, r_X5_someHasBegun_16, r_X5_someHasBegun_17, r_X5_someHasBegun_20, r_X5_someHasBegun_21, ob_0, gt_0_0, gt_0_1, gt_0_2, gt_0_3, gt_0_4, gt_0_5, gt_0_6, gt_0_7, gt_0_8, gt_0_9, pt_0_9, gt_0_10, pt_0_10, gt_0_11, pt_0_11, ob_21, gt_21_0, gt_21_1, gt_21_2, gt_21_3, pt_21_3, gt_21_4, pt_21_4, gt_21_5, gt_21_6, gt_21_7, gt_21_8, gt_21_9, gt_21_10, ad_25, as_25, ad_26, as_26, ad_27, as_27, ad_28, as_28, List.cons_append, List.nil_append, List.append_nil, if_true, if_false, true_and, and_true, true_or, or_true, nm_b_some, gi_si, ga_sa, gi_sa, gi_sb, gi_sp, ga_si, ga_sb, ga_sp, gb_si, gb_sa, gb_sb, gb_sp, gp_si, gp_sa, gp_sb, gp_sp, if_true, if_false, ↓reduceIte, Nat.reduceEqDiff, c_within, c_allThat hx1 hN, c_clear k0, b_0, hx1, hlt.mpr k0, (ushr_0 n N k0).mpr k3, (hsb k0).mpr k1, k2, k4, u3, u4, nI_s, nI_pred, b01v hp, h10, and_self, not_true_eq_false]
    exact hQ
  · intro hno Q hQ
    unfold okstg at hno
    simp only [e_X8_stage, r_X8_stage_0, r_X8_stage_1, r_X8_stage_2, r_X8_stage_4, r_X8_stage_7, r_X8_stage_10, r_X8_stage_11, r_X8_stage_12, r_X8_stage_14, r_X8_stage_17, r_X8_stage_20, r_X8_stage_21, r_X8_stage_22, r_X8_stage_23, r_X8_stage_26, r_X8_stage_27, r_X8_stage_28, r_X8_stage_29, r_X8_stage_31, r_X8_stage_34, ob_0, gt_0_0, gt_0_1, gt_0_2, gt_0_3, gt_0_4, gt_0_5, gt_0_6, gt_0_7, gt_0_8, gt_0_9, pt_0_9, gt_0_10, pt_0_10, gt_0_11, pt_0_11, List.cons_append, List.nil_append, List.append_nil, if_true, if_false, true_and, and_true, true_or, or_true, nm_b_some, c_within, b_0]
    by_cases k2 : 1 ≤ m ∧ m ≤ 60
    · by_cases k4 : 0 ≤ b ∧ b ≤ 60
      · simp only [k2, k4, and_self, not_true_eq_false, if_true, if_false, r_X8_stage_34, e_X5_add, r_X5_add_0, r_X5_add_1, r_X5_add_4, r_X5_add_6, r_X5_add_9, r_X5_add_10, r_X5_add_11, r_X5_add_14, r_X5_add_15, r_X5_add_18, r_X5_add_19, r_X5_add_22, r_X5_add_25, r_X5_add_26, e_X5_someHasBegun, r_X5_someHasBegun_0, r_X5_someHasBegun_1, r_X5_someHasBegun_2, r_X5_someHasBegun_5, r_X5_someHasBegun_6, r_X5_someHasBegun_7, r_X5_someHasBegun_10, r_X5_someHasBegun_11, r_X5_someHasBegun_12, r_X5_someHasBegun_13, r_X5_someHasBegun_16, r_X5_someHasBegun_17, r_X5_someHasBegun_20, r_X5_someHasBegun_21, ob_21, gt_21_0, gt_21_1, gt_21_2, gt_21_3, pt_21_3, gt_21_4, pt_21_4, gt_21_5, gt_21_6, gt_21_7, gt_21_8, gt_21_9, gt_21_10, List.cons_append, List.nil_append, List.append_nil, if_true, if_false, true_and, and_true, true_or, or_true, nm_b_some, c_allThat hx1 hN, hx1, hlt]
        by_cases k0 : N < 10
        · rw [if_pos k0]
          simp only [ushr_0 n N k0, hsb k0]
          by_cases k3 : 0 ≤ n ∧ n ≤ nI (2 ^ N) - 1
          · have k1 : ¬ ∀ i, i < N → st i = 0 := fun z => hno ⟨k0, z, k2, k3, k4⟩
            simp only [k3, k1, and_self, if_true, if_false, h10]
            exact hQ
          · simp only [k3, if_false]
            exact hQ
        · rw [if_neg k0]
          exact hQ
      · simp only [k2, k4, and_self, not_true_eq_false, not_false_eq_true, if_true, if_false]
        exact hQ
    · simp only [k2, not_false_eq_true, if_true]
      exact hQ
theorem c_Mstage {s : nm_S} {m n b p : Int32} {N T : Nat} {st bg mi nd bk : Nat → Nat} {pt sf : Nat → Bool} (hN : N ≤ 10) (hM : MR s N st bg mi nd bk pt sf) (hW : WF N T st bg mi nd bk sf) (hp : p = 0 ∨ p = 1) : (okstg N st m n b → Runs 122 [.ref 40, .int m, .int n, .int b, .int p] s (nI N) (si (sa (sa (sa (sa (sa s 55 (upd (ga s 55) N m)) 56 (upd (ga s 56) N n)) 57 (upd (ga s 57) N b)) 58 (upd (ga s 58) N p)) 60 (upd (ga s 60) N (-1))) 4004 (nI (N + 1)))) ∧ (¬ okstg N st m n b → Runs 122 [.ref 40, .int m, .int n, .int b, .int p] s (-1) s) := by
  obtain ⟨hm1, hm2, hm3⟩ := hM
  have h10 : ¬ (1 : Int32) = 0 := by decide
  have hst : ∀ k, k < N → st k < 2147483648 := fun k hk => by have := (hW k hk).2.2.2.1; omega
  have hp1 : 2 ^ N ≤ 1024 := pow_le_1024 hN
  have hl10 : nI N = 10 ↔ N = 10 := nI_eq' (b := 10) (by omega) (by omega)
  have loop : ∀ Q : nm_K, (∀ z : Value, x_X9_stage 59 Q 43 [.ref 40, .int m, .int n, .int b, .int p, .int (if ∀ i, i < N → st i = 0 then 0 else 1), z] [] (rep s) 0 0) → nm_call 60 122 [.ref 40, .int m, .int n, .int b, .int p] (rep s) Q := by
    intro Q hr
    rw [show (60 : Nat) = 59 + 1 from rfl, e_X9_stage]
    simp only [r_X9_stage_0, r_X9_stage_1, r_X9_stage_3, r_X9_stage_4]
    have key := lpf_ind (step := fun i (a : Int32) => if a = 0 then (if nI (st i) = 0 then (0 : Int32) else 1) else 1) (fun k a => a = if ∀ i, i < k → st i = 0 then 0 else 1) (N := N) (by
      intro k a hk ha
      subst ha
      by_cases hz : ∀ i, i < k → st i = 0
      · rw [if_pos hz, if_pos rfl]
        by_cases h0 : st k = 0
        · rw [if_pos ((nI_z (hst k hk)).mpr h0), if_pos (fun i hi => by
            by_cases e : i = k
            · subst e; exact h0
            · exact hz i (by omega))]
        · rw [if_neg (fun z => h0 ((nI_z (hst k hk)).mp z)), if_neg (fun z => h0 (z k (by omega)))]
      · rw [if_neg hz, if_neg h10, if_neg (fun z => hz (fun i hi => z i (by omega)))]) N 0 0 (by omega) (by rw [if_pos (fun i hi => by omega)])
    refine nm_loopI (fun i (a : Int32) => x_X9_stage 59 Q 6 [.ref 40, .int m, .int n, .int b, .int p, .int a, .int (nI i)] [] (rep s) 0 0) (fun a => ∀ z : Value, x_X9_stage 59 Q 43 [.ref 40, .int m, .int n, .int b, .int p, .int a, z] [] (rep s) 0 0) (fun i (a : Int32) => if a = 0 then (if nI (st i) = 0 then (0 : Int32) else 1) else 1) (fun _ _ => True) (N := N) ?_ ?_ N 0 0 (by omega) trivial (by rw [key]; exact hr)
    · intro i a hi _
      refine ⟨trivial, fun hnx => ?_⟩
      have g1 : nI i < nI N := (nI_lt' (by omega) (by omega)).mpr hi
      have g2 : vp_in (nI i) 10 := vp_in' (by omega) (by omega)
      have g3 : (nI i).toNatClampNeg = i := i_nIc (by omega)
      rw [r_X9_stage_6]
      simp only [r_X9_stage_8, r_X9_stage_9, r_X9_stage_12, r_X9_stage_15, r_X9_stage_17, r_X9_stage_20, r_X9_stage_21, r_X9_stage_24, r_X9_stage_26, r_X9_stage_27, r_X9_stage_30, r_X9_stage_31, r_X9_stage_34, r_X9_stage_35, r_X9_stage_37, r_X9_stage_40, ob_40, gt_40_0, pt_40_0, gt_40_1, pt_40_1, gt_40_2, pt_40_2, gt_40_3, pt_40_3, gt_40_4, pt_40_4, gt_40_5, pt_40_5, gt_40_6, pt_40_6, gt_40_7, pt_40_7, gt_40_8, pt_40_8, gt_40_9, pt_40_9, gt_40_10, pt_40_10, gt_40_11, gt_40_12, gt_40_13, gt_40_14, gt_40_15, gt_40_16, gt_40_17, gt_40_18, gt_40_19, gt_40_20, gt_40_21, gt_40_22, pt_40_22, gt_40_23, gt_40_24, gt_40_25, gt_40_26, gt_40_27, gt_40_28, gt_40_29, gt_40_30, gt_40_31, gt_40_32, gt_40_33, gt_40_34, pt_40_34, gt_40_35, pt_40_35, gt_40_36, gt_40_37, gt_40_38, gt_40_39, gt_40_40, gt_40_41, pt_40_41, gt_40_42, pt_40_42, gt_40_43, pt_40_43, gt_40_44, pt_40_44, gt_40_45, pt_40_45, gt_40_46, pt_40_46, gt_40_47, ad_59, as_59, List.cons_append, List.nil_append, List.append_nil, if_true, if_false, true_and, and_true, true_or, or_true, nm_b_some, hm1, g1, g2, g3, (hm2 i hi).1, nI_s]
      by_cases h1 : a = 0
      · by_cases h2 : nI (st i) = 0
        · simp only [h1, h2, if_true] at hnx ⊢
          exact hnx
        · simp only [h1, h2, if_true, if_false] at hnx ⊢
          exact hnx
      · simp only [h1, if_false] at hnx ⊢
        exact hnx
    · intro a _ hr2
      have g1 : ¬ nI N < nI N := by rw [nI_lt' (by omega) (by omega)]; omega
      rw [r_X9_stage_6]
      simp only [r_X9_stage_8, r_X9_stage_9, r_X9_stage_12, r_X9_stage_15, r_X9_stage_17, r_X9_stage_20, r_X9_stage_21, r_X9_stage_24, r_X9_stage_26, r_X9_stage_27, r_X9_stage_30, r_X9_stage_31, r_X9_stage_34, r_X9_stage_35, r_X9_stage_37, r_X9_stage_40, ob_40, gt_40_0, pt_40_0, gt_40_1, pt_40_1, gt_40_2, pt_40_2, gt_40_3, pt_40_3, gt_40_4, pt_40_4, gt_40_5, pt_40_5, gt_40_6, pt_40_6, gt_40_7, pt_40_7, gt_40_8, pt_40_8, gt_40_9, pt_40_9, gt_40_10, pt_40_10, gt_40_11, gt_40_12, gt_40_13, gt_40_14, gt_40_15, gt_40_16, gt_40_17, gt_40_18, gt_40_19, gt_40_20, gt_40_21, gt_40_22, pt_40_22, gt_40_23, gt_40_24, gt_40_25, gt_40_26, gt_40_27, gt_40_28, gt_40_29, gt_40_30, gt_40_31, gt_40_32, gt_40_33, gt_40_34, pt_40_34, gt_40_35, pt_40_35, gt_40_36, gt_40_37, gt_40_38, gt_40_39, gt_40_40, gt_40_41, pt_40_41, gt_40_42, pt_40_42, gt_40_43, pt_40_43, gt_40_44, pt_40_44, gt_40_45, pt_40_45, gt_40_46, pt_40_46, gt_40_47, ad_59, as_59, List.cons_append, List.nil_append, List.append_nil, if_true, if_false, true_and, and_true, true_or, or_true, nm_b_some, hm1, g1]
      exact hr2 _
  constructor
  · rintro ⟨k0, k1, k2, k3, k4⟩ Q hQ
    have u3 : vp_in (nI N) 10 := vp_in' k0 (by omega)
    have u4 : (nI N).toNatClampNeg = N := i_nIc (by omega)
    have hne : ¬ N = 10 := by omega
    refine loop Q (fun z => ?_)
    rw [if_pos k1]
    simp only [r_X9_stage_43, r_X9_stage_45, r_X9_stage_48, r_X9_stage_49, r_X9_stage_52, r_X9_stage_54, r_X9_stage_57, r_X9_stage_58, r_X9_stage_59, r_X9_stage_61, r_X9_stage_64, r_X9_stage_67, r_X9_stage_68, r_X9_stage_69, r_X9_stage_70, r_X9_stage_71, r_X9_stage_74, r_X9_stage_75, r_X9_stage_76, r_X9_stage_77, r_X9_stage_80, r_X9_stage_83, r_X9_stage_84, r_X9_stage_85, r_X9_stage_87, r_X9_stage_90, r_X9_stage_93, r_X9_stage_94, r_X9_stage_95, r_X9_stage_96, r_X9_stage_99, r_X9_stage_100, r_X9_stage_103, r_X9_stage_104, r_X9_stage_105, r_X9_stage_106, r_X9_stage_109, r_X9_stage_110, r_X9_stage_113, r_X9_stage_114, r_X9_stage_115, r_X9_stage_116, r_X9_stage_119, r_X9_stage_120, r_X9_stage_123, r_X9_stage_124, r_X9_stage_125, r_X9_stage_126, r_X9_stage_129, r_X9_stage_130, r_X9_stage_133, r_X9_stage_135, r_X9_stage_136, r_X9_stage_137, r_X9_stage_140, r_X9_stage_141, r_X9_stage_144, r_X9_stage_145, r_X9_stage_146, r_X9_stage_147, r_X9_stage_148, r_X9_stage_151, r_X9_stage_152, r_X9_stage_153, r_X9_stage_156, r_X9_stage_157, r_X9_stage_160, r_X9_stage_161, r_X9_stage_162, ob_40, gt_40_0, pt_40_0, gt_40_1, pt_40_1, gt_40_2, pt_40_2, gt_40_3, pt_40_3, gt_40_4, pt_40_4, gt_40_5, pt_40_5, gt_40_6, pt_40_6, gt_40_7, pt_40_7, gt_40_8, pt_40_8, gt_40_9, pt_40_9, gt_40_10, pt_40_10, gt_40_11, gt_40_12, gt_40_13, gt_40_14, gt_40_15, gt_40_16, gt_40_17, gt_40_18, gt_40_19, gt_40_20, gt_40_21, gt_40_22, pt_40_22, gt_40_23, gt_40_24, gt_40_25, gt_40_26, gt_40_27, gt_40_28, gt_40_29, gt_40_30, gt_40_31, gt_40_32, gt_40_33, gt_40_34, pt_40_34, gt_40_35, pt_40_35, gt_40_36, gt_40_37, gt_40_38, gt_40_39, gt_40_40, gt_40_41, pt_40_41, gt_40_42, pt_40_42, gt_40_43, pt_40_43, gt_40_44, pt_40_44, gt_40_45, pt_40_45, gt_40_46, pt_40_46, gt_40_47, ad_55, as_55, ad_56, as_56, ad_57, as_57, ad_58, as_58, ad_60, as_60, List.cons_append, List.nil_append, List.append_nil, if_true, if_false, true_and, and_true, true_or, or_true, nm_b_some, gi_si, ga_sa, gi_sa, gi_sb, gi_sp, ga_si, ga_sb, ga_sp, gb_si, gb_sa, gb_sb, gb_sp, gp_si, gp_sa, gp_sb, gp_sp, if_true, if_false, ↓reduceIte, Nat.reduceEqDiff, c_in, b_0, hm1, hl10, hne, shl1 N (by omega), k2, k3, k4, u3, u4, nI_s, nI_pred, b01v hp, and_self, not_true_eq_false]
    exact hQ
  · intro hno Q hQ
    unfold okstg at hno
    refine loop Q (fun z => ?_)
    by_cases k1 : ∀ i, i < N → st i = 0
    · rw [if_pos k1]
      by_cases k0 : N = 10
      · simp only [r_X9_stage_43, r_X9_stage_45, r_X9_stage_48, r_X9_stage_49, r_X9_stage_52, r_X9_stage_54, r_X9_stage_57, r_X9_stage_58, r_X9_stage_59, r_X9_stage_61, r_X9_stage_64, r_X9_stage_67, r_X9_stage_68, r_X9_stage_69, r_X9_stage_70, r_X9_stage_71, r_X9_stage_74, r_X9_stage_75, r_X9_stage_76, r_X9_stage_77, r_X9_stage_80, r_X9_stage_83, r_X9_stage_84, r_X9_stage_85, r_X9_stage_87, r_X9_stage_90, r_X9_stage_93, r_X9_stage_94, ob_40, gt_40_0, pt_40_0, gt_40_1, pt_40_1, gt_40_2, pt_40_2, gt_40_3, pt_40_3, gt_40_4, pt_40_4, gt_40_5, pt_40_5, gt_40_6, pt_40_6, gt_40_7, pt_40_7, gt_40_8, pt_40_8, gt_40_9, pt_40_9, gt_40_10, pt_40_10, gt_40_11, gt_40_12, gt_40_13, gt_40_14, gt_40_15, gt_40_16, gt_40_17, gt_40_18, gt_40_19, gt_40_20, gt_40_21, gt_40_22, pt_40_22, gt_40_23, gt_40_24, gt_40_25, gt_40_26, gt_40_27, gt_40_28, gt_40_29, gt_40_30, gt_40_31, gt_40_32, gt_40_33, gt_40_34, pt_40_34, gt_40_35, pt_40_35, gt_40_36, gt_40_37, gt_40_38, gt_40_39, gt_40_40, gt_40_41, pt_40_41, gt_40_42, pt_40_42, gt_40_43, pt_40_43, gt_40_44, pt_40_44, gt_40_45, pt_40_45, gt_40_46, pt_40_46, gt_40_47, List.cons_append, List.nil_append, List.append_nil, if_true, if_false, true_and, and_true, true_or, or_true, nm_b_some, c_in, b_0, hm1, hl10, k0, if_true]
        exact hQ
      · simp only [r_X9_stage_43, r_X9_stage_45, r_X9_stage_48, r_X9_stage_49, r_X9_stage_52, r_X9_stage_54, r_X9_stage_57, r_X9_stage_58, r_X9_stage_59, r_X9_stage_61, r_X9_stage_64, r_X9_stage_67, r_X9_stage_68, r_X9_stage_69, r_X9_stage_70, r_X9_stage_71, r_X9_stage_74, r_X9_stage_75, r_X9_stage_76, r_X9_stage_77, r_X9_stage_80, r_X9_stage_83, r_X9_stage_84, r_X9_stage_85, r_X9_stage_87, r_X9_stage_90, r_X9_stage_93, r_X9_stage_94, ob_40, gt_40_0, pt_40_0, gt_40_1, pt_40_1, gt_40_2, pt_40_2, gt_40_3, pt_40_3, gt_40_4, pt_40_4, gt_40_5, pt_40_5, gt_40_6, pt_40_6, gt_40_7, pt_40_7, gt_40_8, pt_40_8, gt_40_9, pt_40_9, gt_40_10, pt_40_10, gt_40_11, gt_40_12, gt_40_13, gt_40_14, gt_40_15, gt_40_16, gt_40_17, gt_40_18, gt_40_19, gt_40_20, gt_40_21, gt_40_22, pt_40_22, gt_40_23, gt_40_24, gt_40_25, gt_40_26, gt_40_27, gt_40_28, gt_40_29, gt_40_30, gt_40_31, gt_40_32, gt_40_33, gt_40_34, pt_40_34, gt_40_35, pt_40_35, gt_40_36, gt_40_37, gt_40_38, gt_40_39, gt_40_40, gt_40_41, pt_40_41, gt_40_42, pt_40_42, gt_40_43, pt_40_43, gt_40_44, pt_40_44, gt_40_45, pt_40_45, gt_40_46, pt_40_46, gt_40_47, List.cons_append, List.nil_append, List.append_nil, if_true, if_false, true_and, and_true, true_or, or_true, nm_b_some, c_in, b_0, hm1, hl10, k0, if_false, shl1 N (by omega)]
        by_cases k2 : 1 ≤ m ∧ m ≤ 60
        · by_cases k3 : 0 ≤ n ∧ n ≤ nI (2 ^ N) - 1
          · have k4 : ¬ (0 ≤ b ∧ b ≤ 60) := fun z => hno ⟨by omega, k1, k2, k3, z⟩
            simp only [k2, k3, k4, and_self, not_true_eq_false, not_false_eq_true, if_true, if_false]
            exact hQ
          · simp only [k2, k3, and_self, not_true_eq_false, not_false_eq_true, if_true, if_false]
            exact hQ
        · simp only [k2, not_false_eq_true, if_true]
          exact hQ
    · rw [if_neg k1]
      simp only [r_X9_stage_43, r_X9_stage_45, r_X9_stage_48, r_X9_stage_49, r_X9_stage_52, r_X9_stage_54, r_X9_stage_57, r_X9_stage_58, r_X9_stage_59, r_X9_stage_61, r_X9_stage_64, r_X9_stage_67, r_X9_stage_68, r_X9_stage_69, r_X9_stage_70, r_X9_stage_71, r_X9_stage_74, r_X9_stage_75, r_X9_stage_76, r_X9_stage_77, r_X9_stage_80, r_X9_stage_83, r_X9_stage_84, r_X9_stage_85, r_X9_stage_87, r_X9_stage_90, r_X9_stage_93, r_X9_stage_94, List.cons_append, List.nil_append, List.append_nil, if_true, if_false, true_and, and_true, true_or, or_true, nm_b_some, h10, if_false]
      exact hQ
theorem st_stage {s : nm_S} (m n b p : Int32) (hp : p = 0 ∨ p = 1) (h : IvS s) : ∃ v s1 s2, Runs 80 [.ref 0, .int m, .int n, .int b, .int p] s v s1 ∧ Runs 122 [.ref 40, .int m, .int n, .int b, .int p] s1 v s2 ∧ Fr [2103, 4004] [22, 23, 24, 25, 26, 27, 28, 29, 55, 56, 57, 58, 60] s s2 ∧ IvS s2 := by
  have hI := h
  obtain ⟨N, T, r, st, bg, mi, nd, bk, pt, sf, ro, en, ⟨h1, h2⟩, ⟨h3, h4⟩, h5, hX, hM, hW, hB, hMB, hXB⟩ := h
  by_cases hk : okstg N st m n b
  · have r1 := (c_stage (T := T) (p := p) h1 hX hW hp).1 hk
    generalize hs1 : sa (sa (sa (sa (si (sa (sa (sa (sa s 25 (upd (ga s 25) N m)) 26 (upd (ga s 26) N n)) 27 (upd (ga s 27) N b)) 28 (upd (ga s 28) N p)) 2103 (nI (N + 1))) 22 (upd (ga s 22) N 0)) 23 (upd (ga s 23) N (-1))) 29 (upd (ga s 29) N (-1))) 24 (upd (ga s 24) N 0) = s1 at r1
    have hM1 : MR s1 N st bg mi nd bk pt sf := by
      rw [← hs1]
      unfold MR at hM ⊢
      simp only [gi_si, ga_sa, gi_sa, gi_sb, gi_sp, ga_si, ga_sb, ga_sp, gb_si, gb_sa, gb_sb, gb_sp, gp_si, gp_sa, gp_sb, gp_sp, if_true, if_false, ↓reduceIte, Nat.reduceEqDiff]
      exact hM
    have r2 := (c_Mstage (s := s1) (T := T) (p := p) h1 hM1 hW hp).1 hk
    refine ⟨_, _, _, r1, r2, ?_, ?_⟩
    · rw [← hs1]
      exact ((((((((((((((Fr.rf.sa (by decide)).sa (by decide)).sa (by decide)).sa (by decide)).si (by decide)).sa (by decide)).sa (by decide)).sa (by decide)).sa (by decide)).sa (by decide)).sa (by decide)).sa (by decide)).sa (by decide)).sa (by decide)).si (by decide)
    · obtain ⟨k0, k1, k2, k3, k4⟩ := hk
      have hp1 : 2 ^ N ≤ 1024 := pow_le_1024 h1
      rw [i_le, i_le, i_l1, i_l60] at k2
      rw [i_le, i_le, i_l0, nI_sub1 (by omega)] at k3
      rw [i_le, i_le, i_l0, i_l60] at k4
      have hr0 : r = 0 := by
        rcases Nat.eq_zero_or_pos r with z | z
        · exact z
        · obtain ⟨q1, q2, -⟩ := hB.2.1 0 z
          rw [k1 _ q1] at q2; cases q2
      subst hr0
      have hpb : p = b2 (decide (p = 1)) := by rcases hp with rfl | rfl <;> decide
      rw [← hs1]
      refine ⟨N + 1, T, 0, fun k => if k = N then 0 else st k, bg, fun k => if k = N then m.toInt.toNat else mi k, fun k => if k = N then n.toInt.toNat else nd k, fun k => if k = N then b.toInt.toNat else bk k, fun k => if k = N then decide (p = 1) else pt k, fun k => if k = N then false else sf k, ro, en, ⟨by omega, h2⟩, ?_, ?_, ?_, ?_, ?_, ?_, ?_, ?_⟩
      · simp only [gi_si, ga_sa, gi_sa, gi_sb, gi_sp, ga_si, ga_sb, ga_sp, gb_si, gb_sa, gb_sb, gb_sp, gp_si, gp_sa, gp_sb, gp_sp, if_true, if_false, ↓reduceIte, Nat.reduceEqDiff]; exact ⟨h3, h4⟩
      · simp only [gi_si, ga_sa, gi_sa, gi_sb, gi_sp, ga_si, ga_sb, ga_sp, gb_si, gb_sa, gb_sb, gb_sp, gp_si, gp_sa, gp_sb, gp_sp, if_true, if_false, ↓reduceIte, Nat.reduceEqDiff]; exact h5
      · refine ⟨by simp only [gi_si, ga_sa, gi_sa, gi_sb, gi_sp, ga_si, ga_sb, ga_sp, gb_si, gb_sa, gb_sb, gb_sp, gp_si, gp_sa, gp_sb, gp_sp, if_true, if_false, ↓reduceIte, Nat.reduceEqDiff], fun j hj => ?_⟩
        simp only [gi_si, ga_sa, gi_sa, gi_sb, gi_sp, ga_si, ga_sb, ga_sp, gb_si, gb_sa, gb_sb, gb_sp, gp_si, gp_sa, gp_sb, gp_sp, if_true, if_false, ↓reduceIte, Nat.reduceEqDiff]
        by_cases e : j = N
        · subst e
          simp only [upd_at, if_true, eb]
          exact ⟨rfl, trivial, rfl, i_of (by omega), i_of (by omega), i_of (by omega), hpb⟩
        · simp only [upd_ne e, e, if_false, eb]
          exact hX.2 j (by omega)
      · refine ⟨by simp only [gi_si, ga_sa, gi_sa, gi_sb, gi_sp, ga_si, ga_sb, ga_sp, gb_si, gb_sa, gb_sb, gb_sp, gp_si, gp_sa, gp_sb, gp_sp, if_true, if_false, ↓reduceIte, Nat.reduceEqDiff], fun j hj => ?_, fun j hj hj2 => ?_⟩
        · simp only [gi_si, ga_sa, gi_sa, gi_sb, gi_sp, ga_si, ga_sb, ga_sp, gb_si, gb_sa, gb_sb, gb_sp, gp_si, gp_sa, gp_sb, gp_sp, if_true, if_false, ↓reduceIte, Nat.reduceEqDiff]
          by_cases e : j = N
          · subst e
            obtain ⟨q1, q2⟩ := hM.2.2 j (Nat.le_refl j) (by omega)
            simp only [upd_at, if_true, eb, q1, q2]
            exact ⟨rfl, trivial, rfl, i_of (by omega), i_of (by omega), i_of (by omega), hpb⟩
          · simp only [upd_ne e, e, if_false, eb]
            exact hM.2.1 j (by omega)
        · simp only [gi_si, ga_sa, gi_sa, gi_sb, gi_sp, ga_si, ga_sb, ga_sp, gb_si, gb_sa, gb_sb, gb_sp, gp_si, gp_sa, gp_sb, gp_sp, if_true, if_false, ↓reduceIte, Nat.reduceEqDiff]
          exact hM.2.2 j (by omega) hj2
      · intro j hj
        dsimp only
        by_cases e : j = N
        · subst e
          simp only [if_true]
          exact ⟨by omega, by omega, by omega, by omega, fun z => by omega, fun z => by omega, fun z => by omega, fun z => by cases z⟩
        · simp only [e, if_false]
          exact hW j (by omega)
      · refine ⟨Nat.zero_le _, fun k hk => by omega, fun k hk => by omega, fun j k _ hk => by omega, fun j hj hs => ?_, fun z => by omega⟩
        dsimp only at hs
        by_cases e : j = N
        · rw [if_pos e] at hs; cases hs
        · rw [if_neg e, k1 j (by omega)] at hs; cases hs
      · unfold MB at hMB ⊢
        simp only [gi_si, ga_sa, gi_sa, gi_sb, gi_sp, ga_si, ga_sb, ga_sp, gb_si, gb_sa, gb_sb, gb_sp, gp_si, gp_sa, gp_sb, gp_sp, if_true, if_false, ↓reduceIte, Nat.reduceEqDiff]
        exact hMB
      · intro k hk
        omega
  · exact ⟨_, _, _, (c_stage (T := T) (p := p) h1 hX hW hp).2 hk, (c_Mstage (T := T) (p := p) h1 hM hW hp).2 hk, Fr.rf, hI⟩
