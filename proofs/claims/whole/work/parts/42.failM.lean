/-! fail on the other side. -/
theorem c_Msel {d : Nat} {t : nm_S} {Q : nm_K} {N : Nat} {fv : Int32} (hN : N ≤ 10) (h1 : gi t 4004 = nI N) (hQ : ∀ z1 z2 : Value, x_X9_fail d Q 116 [.ref 40, .int fv, .int (oenc (sel (fun i => decide (ga t 59 i = 1 ∨ (ga t 59 i = 2 ∧ ga t 61 i = 0))) (ga t 60) N)), z1, z2] [] (rep t) 0 0) : ∀ z1 z2 z3 : Value, x_X9_fail d Q 35 [.ref 40, .int fv, z1, z2, z3] [] (rep t) 0 0 := by
  intro z1 z2 z3
  have h10 : ¬ (1 : Int32) = 0 := by decide
  simp only [r_X9_fail_35, r_X9_fail_36, r_X9_fail_37, r_X9_fail_38]
  refine nm_loopI (fun i (a : Option Nat) => ∀ z : Value, x_X9_fail d Q 39 [.ref 40, .int fv, .int (oenc a), .int (nI i), z] [] (rep t) 0 0) (fun a => ∀ z1 z2 : Value, x_X9_fail d Q 116 [.ref 40, .int fv, .int (oenc a), z1, z2] [] (rep t) 0 0) (sel1 (fun i => decide (ga t 59 i = 1 ∨ (ga t 59 i = 2 ∧ ga t 61 i = 0))) (ga t 60)) (fun i a => ∀ j, a = some j → j < i) (N := N) ?_ ?_ N 0 none (by omega) (fun j hj => by cases hj) hQ z3
  · intro i a hi ha
    have g1 : nI i < nI N := (nI_lt' (by omega) (by omega)).mpr hi
    have g2 : vp_in (nI i) 10 := vp_in' (by omega) (by omega)
    have g3 : (nI i).toNatClampNeg = i := i_nIc (by omega)
    constructor
    · intro j hj
      cases a with
      | none =>
        simp only [sel1] at hj
        split at hj
        · have := Option.some.inj hj; omega
        · cases hj
      | some k =>
        have := ha k rfl
        simp only [sel1] at hj
        split at hj
        · have := Option.some.inj hj; omega
        · have := Option.some.inj hj; omega
    · intro hnx z
      rw [r_X9_fail_39]
      simp only [r_X9_fail_40, r_X9_fail_41, r_X9_fail_44, r_X9_fail_47, r_X9_fail_48, r_X9_fail_51, r_X9_fail_52, r_X9_fail_53, r_X9_fail_54, r_X9_fail_57, r_X9_fail_58, r_X9_fail_61, r_X9_fail_62, r_X9_fail_63, r_X9_fail_64, r_X9_fail_67, r_X9_fail_68, r_X9_fail_71, r_X9_fail_72, r_X9_fail_73, r_X9_fail_76, r_X9_fail_77, r_X9_fail_80, r_X9_fail_81, r_X9_fail_83, r_X9_fail_85, r_X9_fail_88, r_X9_fail_89, r_X9_fail_90, r_X9_fail_93, r_X9_fail_94, r_X9_fail_97, r_X9_fail_98, r_X9_fail_99, r_X9_fail_100, r_X9_fail_103, r_X9_fail_104, r_X9_fail_105, r_X9_fail_108, r_X9_fail_109, r_X9_fail_110, r_X9_fail_113, ob_40, gt_40_0, pt_40_0, gt_40_1, pt_40_1, gt_40_2, pt_40_2, gt_40_3, pt_40_3, gt_40_4, pt_40_4, gt_40_5, pt_40_5, gt_40_6, pt_40_6, gt_40_7, pt_40_7, gt_40_8, pt_40_8, gt_40_9, pt_40_9, gt_40_10, pt_40_10, gt_40_11, gt_40_12, gt_40_13, gt_40_14, gt_40_15, gt_40_16, gt_40_17, gt_40_18, gt_40_19, gt_40_20, gt_40_21, gt_40_22, pt_40_22, gt_40_23, gt_40_24, gt_40_25, gt_40_26, gt_40_27, gt_40_28, gt_40_29, gt_40_30, gt_40_31, gt_40_32, gt_40_33, gt_40_34, pt_40_34, gt_40_35, pt_40_35, gt_40_36, gt_40_37, gt_40_38, gt_40_39, gt_40_40, gt_40_41, pt_40_41, gt_40_42, pt_40_42, gt_40_43, pt_40_43, gt_40_44, pt_40_44, gt_40_45, pt_40_45, gt_40_46, pt_40_46, gt_40_47, ad_59, as_59, ad_60, as_60, ad_61, as_61, List.cons_append, List.nil_append, List.append_nil, if_true, if_false, true_and, and_true, true_or, or_true, nm_b_some, h1, g1, g2, g3, nI_s]
      -- from the test on
      have tail : ∀ b : Int32, (b = 0 ↔ ¬ (ga t 59 i = 1 ∨ (ga t 59 i = 2 ∧ ga t 61 i = 0))) → x_X9_fail d Q 81 [.ref 40, .int fv, .int (oenc a), .int (nI i), z] [.int b] (rep t) 0 0 := by
        intro b hb
        simp only [r_X9_fail_81, r_X9_fail_83, r_X9_fail_85, r_X9_fail_88, r_X9_fail_89, r_X9_fail_90, r_X9_fail_93, r_X9_fail_94, r_X9_fail_97, r_X9_fail_98, r_X9_fail_99, r_X9_fail_100, r_X9_fail_103, r_X9_fail_104, r_X9_fail_105, r_X9_fail_108, r_X9_fail_109, r_X9_fail_110, r_X9_fail_113, ob_40, gt_40_0, pt_40_0, gt_40_1, pt_40_1, gt_40_2, pt_40_2, gt_40_3, pt_40_3, gt_40_4, pt_40_4, gt_40_5, pt_40_5, gt_40_6, pt_40_6, gt_40_7, pt_40_7, gt_40_8, pt_40_8, gt_40_9, pt_40_9, gt_40_10, pt_40_10, gt_40_11, gt_40_12, gt_40_13, gt_40_14, gt_40_15, gt_40_16, gt_40_17, gt_40_18, gt_40_19, gt_40_20, gt_40_21, gt_40_22, pt_40_22, gt_40_23, gt_40_24, gt_40_25, gt_40_26, gt_40_27, gt_40_28, gt_40_29, gt_40_30, gt_40_31, gt_40_32, gt_40_33, gt_40_34, pt_40_34, gt_40_35, pt_40_35, gt_40_36, gt_40_37, gt_40_38, gt_40_39, gt_40_40, gt_40_41, pt_40_41, gt_40_42, pt_40_42, gt_40_43, pt_40_43, gt_40_44, pt_40_44, gt_40_45, pt_40_45, gt_40_46, pt_40_46, gt_40_47, ad_60, as_60, List.cons_append, List.nil_append, List.append_nil, if_true, if_false, true_and, and_true, true_or, or_true, nm_b_some, g2, g3, nI_s]
        by_cases hp : ga t 59 i = 1 ∨ (ga t 59 i = 2 ∧ ga t 61 i = 0)
        · have hb' : ¬ b = 0 := fun z => hb.mp z hp
          cases a with
          | none =>
            simp only [sel1, hp, decide_true, if_true] at hnx
            simp only [hb', if_false, oenc, if_true] at hnx ⊢
            exact hnx _
          | some j =>
            have hj := ha j rfl
            have k1 := nIne (j := j) (by omega)
            have k2 : vp_in (nI j) 10 := vp_in' (by omega) (by omega)
            have k3 : (nI j).toNatClampNeg = j := i_nIc (by omega)
            simp only [sel1, hp, decide_true, true_and] at hnx
            simp only [hb', if_false, oenc, k1, k2, k3, true_and] at hnx ⊢
            by_cases hlt : ga t 60 i < ga t 60 j
            · simp only [hlt, not_true_eq_false, if_true, if_false] at hnx ⊢
              exact hnx _
            · simp only [hlt, not_false_eq_true, if_true, if_false] at hnx ⊢
              exact hnx _
        · have hb' : b = 0 := hb.mpr hp
          have e0 : sel1 (fun i => decide (ga t 59 i = 1 ∨ (ga t 59 i = 2 ∧ ga t 61 i = 0))) (ga t 60) i a = a := by
            cases a with
            | none => simp only [sel1, hp, decide_false]; simp
            | some j => simp only [sel1, hp, decide_false]; simp
          rw [e0] at hnx
          simp only [hb', if_true]
          exact hnx _
      have t1 := tail 1 
      have t0 := tail 0
      simp only [r_X9_fail_81, r_X9_fail_83, r_X9_fail_85, r_X9_fail_88, r_X9_fail_89, r_X9_fail_90, r_X9_fail_93, r_X9_fail_94, r_X9_fail_97, r_X9_fail_98, r_X9_fail_99, r_X9_fail_100, r_X9_fail_103, r_X9_fail_104, r_X9_fail_105, r_X9_fail_108, r_X9_fail_109, r_X9_fail_110, r_X9_fail_113, ob_40, gt_40_0, pt_40_0, gt_40_1, pt_40_1, gt_40_2, pt_40_2, gt_40_3, pt_40_3, gt_40_4, pt_40_4, gt_40_5, pt_40_5, gt_40_6, pt_40_6, gt_40_7, pt_40_7, gt_40_8, pt_40_8, gt_40_9, pt_40_9, gt_40_10, pt_40_10, gt_40_11, gt_40_12, gt_40_13, gt_40_14, gt_40_15, gt_40_16, gt_40_17, gt_40_18, gt_40_19, gt_40_20, gt_40_21, gt_40_22, pt_40_22, gt_40_23, gt_40_24, gt_40_25, gt_40_26, gt_40_27, gt_40_28, gt_40_29, gt_40_30, gt_40_31, gt_40_32, gt_40_33, gt_40_34, pt_40_34, gt_40_35, pt_40_35, gt_40_36, gt_40_37, gt_40_38, gt_40_39, gt_40_40, gt_40_41, pt_40_41, gt_40_42, pt_40_42, gt_40_43, pt_40_43, gt_40_44, pt_40_44, gt_40_45, pt_40_45, gt_40_46, pt_40_46, gt_40_47, ad_60, as_60, List.cons_append, List.nil_append, List.append_nil, if_true, if_false, true_and, and_true, true_or, or_true, nm_b_some, g2, g3, nI_s] at t1 t0
      by_cases c1 : ga t 59 i = 1
      · simp only [c1, if_true]
        exact t1 ⟨fun z => absurd z h10, fun z => absurd (Or.inl c1) z⟩
      · by_cases c2 : ga t 59 i = 2
        · by_cases c3 : ga t 61 i = 0
          · simp only [c1, c2, c3, if_true, if_false]
            have c4 : ¬ (2 : Int32) = 1 := by decide
            simp only [c4, if_false]
            exact t1 ⟨fun z => absurd z h10, fun z => absurd (Or.inr ⟨c2, c3⟩) z⟩
          · have c4 : ¬ (2 : Int32) = 1 := by decide
            simp only [c2, c3, c4, if_true, if_false]
            exact t0 ⟨fun _ z => by rcases z with z | z; exact c1 z; exact c3 z.2, fun _ => trivial⟩
        · simp only [c1, c2, if_false]
          exact t0 ⟨fun _ z => by rcases z with z | z; exact c1 z; exact c2 z.1, fun _ => trivial⟩
  · intro a _ hr z
    have g1 : ¬ nI N < nI N := by rw [nI_lt' (by omega) (by omega)]; omega
    rw [r_X9_fail_39]
    simp only [r_X9_fail_40, r_X9_fail_41, r_X9_fail_44, ob_40, gt_40_0, pt_40_0, gt_40_1, pt_40_1, gt_40_2, pt_40_2, gt_40_3, pt_40_3, gt_40_4, pt_40_4, gt_40_5, pt_40_5, gt_40_6, pt_40_6, gt_40_7, pt_40_7, gt_40_8, pt_40_8, gt_40_9, pt_40_9, gt_40_10, pt_40_10, gt_40_11, gt_40_12, gt_40_13, gt_40_14, gt_40_15, gt_40_16, gt_40_17, gt_40_18, gt_40_19, gt_40_20, gt_40_21, gt_40_22, pt_40_22, gt_40_23, gt_40_24, gt_40_25, gt_40_26, gt_40_27, gt_40_28, gt_40_29, gt_40_30, gt_40_31, gt_40_32, gt_40_33, gt_40_34, pt_40_34, gt_40_35, pt_40_35, gt_40_36, gt_40_37, gt_40_38, gt_40_39, gt_40_40, gt_40_41, pt_40_41, gt_40_42, pt_40_42, gt_40_43, pt_40_43, gt_40_44, pt_40_44, gt_40_45, pt_40_45, gt_40_46, pt_40_46, gt_40_47, List.cons_append, List.nil_append, List.append_nil, if_true, if_false, true_and, and_true, true_or, or_true, nm_b_some, h1, g1]
    exact hr _ _
def notK (f k : Nat → Int32) (i : Nat) : Bool := decide (f i = 1 ∨ (f i = 2 ∧ k i = 0))
theorem c_MfailLoop {d : Nat} {s : nm_S} {Q : nm_K} {N : Nat} {lv fv : Int32} (hN : N ≤ 10) (hN1 : gi s 4004 = nI N) (hQ : ∀ f w : Nat → Int32, (∀ i, ((∃ j, j < cnt (notK (ga s 59) (ga s 61)) N ∧ rho (ga s 60) N (notK (ga s 59) (ga s 61)) j = i) → f i = 3) ∧ ((¬ ∃ j, j < cnt (notK (ga s 59) (ga s 61)) N ∧ rho (ga s 60) N (notK (ga s 59) (ga s 61)) j = i) → f i = ga s 59 i)) → (∀ j, j < cnt (notK (ga s 59) (ga s 61)) N → w j = nI (rho (ga s 60) N (notK (ga s 59) (ga s 61)) j)) → ∀ z1 z2 z3 : Value, x_X9_fail d Q 154 [.ref 40, .int fv, z1, z2, z3] [] (rep (mS s f (ga s 60) w (nI (cnt (notK (ga s 59) (ga s 61)) N)) lv)) 0 0) : ∀ (m k : Nat) (f w : Nat → Int32) (z1 z2 z3 : Value), k + m = cnt (notK (ga s 59) (ga s 61)) N → (∀ i, ((∃ j, j < k ∧ rho (ga s 60) N (notK (ga s 59) (ga s 61)) j = i) → f i = 3) ∧ ((¬ ∃ j, j < k ∧ rho (ga s 60) N (notK (ga s 59) (ga s 61)) j = i) → f i = ga s 59 i)) → (∀ j, j < k → w j = nI (rho (ga s 60) N (notK (ga s 59) (ga s 61)) j)) → x_X9_fail d Q 35 [.ref 40, .int fv, z1, z2, z3] [] (rep (mS s f (ga s 60) w (nI k) lv)) 0 0
  | m, k, f, w, z1, z2, z3, hk, hf, hw => by
    have hcn := cnt_le (notK (ga s 59) (ga s 61)) N
    have hps : ∀ i, i < N → decide (f i = 1 ∨ (f i = 2 ∧ ga s 61 i = 0)) = pset (ga s 60) N (notK (ga s 59) (ga s 61)) k i := by
      intro i hi
      have hm := pk_mem (g := ga s 60) (N := N) (p := notK (ga s 59) (ga s 61)) k (by omega) i
      by_cases hc : ∃ j, j < k ∧ rho (ga s 60) N (notK (ga s 59) (ga s 61)) j = i
      · have e1 : pset (ga s 60) N (notK (ga s 59) (ga s 61)) k i = false := by
          cases hb : pset (ga s 60) N (notK (ga s 59) (ga s 61)) k i with
          | false => rfl
          | true =>
            obtain ⟨j, j1, j2⟩ := hc
            exact absurd j2 ((hm.mp hb).2 j j1)
        rw [e1, (hf i).1 hc]
        have a1 : ¬ (3 : Int32) = 1 := by decide
        have a2 : ¬ (3 : Int32) = 2 := by decide
        simp [a1, a2]
      · rw [(hf i).2 hc]
        have e2 : pset (ga s 60) N (notK (ga s 59) (ga s 61)) k i = notK (ga s 59) (ga s 61) i := by
          cases hb : notK (ga s 59) (ga s 61) i with
          | false =>
            cases hb2 : pset (ga s 60) N (notK (ga s 59) (ga s 61)) k i with
            | false => rfl
            | true =>
              have := (hm.mp hb2).1
              rw [hb] at this; cases this
          | true => exact hm.mpr ⟨hb, fun j hj z => hc ⟨j, hj, z⟩⟩
        rw [e2]
        rfl
    have hsel : sel (fun i => decide (f i = 1 ∨ (f i = 2 ∧ ga s 61 i = 0))) (ga s 60) N = sel (pset (ga s 60) N (notK (ga s 59) (ga s 61)) k) (ga s 60) N := sel_cong (fun i hi => ⟨hps i hi, rfl⟩)
    refine c_Msel (N := N) (t := mS s f (ga s 60) w (nI k) lv) hN (by rw [gi_mS]; simp only [gi_si, ga_sa, gi_sa, gi_sb, gi_sp, ga_si, ga_sb, ga_sp, gb_si, gb_sa, gb_sb, gb_sp, gp_si, gp_sa, gp_sb, gp_sp, if_true, if_false, ↓reduceIte, Nat.reduceEqDiff]; exact hN1) (fun y1 y2 => ?_) z1 z2 z3
    simp only [ga_mS, gi_si, ga_sa, gi_sa, gi_sb, gi_sp, ga_si, ga_sb, ga_sp, gb_si, gb_sa, gb_sb, gb_sp, gp_si, gp_sa, gp_sb, gp_sp, if_true, if_false, ↓reduceIte, Nat.reduceEqDiff]
    rw [hsel]
    match m, hk with
    | 0, hk =>
      have hke : k = cnt (notK (ga s 59) (ga s 61)) N := by omega
      have hc := pk_cnt (g := ga s 60) (p := notK (ga s 59) (ga s 61)) (N := N) _ (Nat.le_refl _)
      rw [Nat.sub_self, ← hke] at hc
      have e : sel (pset (ga s 60) N (notK (ga s 59) (ga s 61)) k) (ga s 60) N = none := by
        have hs := sel_is (pset (ga s 60) N (notK (ga s 59) (ga s 61)) k) (ga s 60) N
        cases he : sel (pset (ga s 60) N (notK (ga s 59) (ga s 61)) k) (ga s 60) N with
        | none => rfl
        | some j =>
          rw [he] at hs
          have := (cnt_pos _ N).mp hc j hs.1
          exact absurd (this.symm.trans hs.2.1) (by decide)
      rw [e]
      simp only [r_X9_fail_116, r_X9_fail_117, r_X9_fail_118, r_X9_fail_121, List.cons_append, List.nil_append, List.append_nil, if_true, if_false, true_and, and_true, true_or, or_true, nm_b_some, oenc]
      subst hke
      exact hQ f w hf hw _ _ _
    | m + 1, hk =>
      have hkc : k < cnt (notK (ga s 59) (ga s 61)) N := by omega
      obtain ⟨q1, q2, q3⟩ := pk_is (g := ga s 60) (p := notK (ga s 59) (ga s 61)) (N := N) hkc
      rw [pk_sel hkc]
      have g3 : vp_in (nI (rho (ga s 60) N (notK (ga s 59) (ga s 61)) k)) 10 := vp_in' (by omega) (by omega)
      have g4 : (nI (rho (ga s 60) N (notK (ga s 59) (ga s 61)) k)).toNatClampNeg = rho (ga s 60) N (notK (ga s 59) (ga s 61)) k := i_nIc (by omega)
      have g5 : vp_in (nI k) 10 := vp_in' (by omega) (by omega)
      have g6 : (nI k).toNatClampNeg = k := i_nIc (by omega)
      have g7 := nIne (j := rho (ga s 60) N (notK (ga s 59) (ga s 61)) k) (by omega)
      simp only [r_X9_fail_116, r_X9_fail_117, r_X9_fail_118, r_X9_fail_124, r_X9_fail_125, r_X9_fail_128, r_X9_fail_129, r_X9_fail_130, r_X9_fail_131, r_X9_fail_132, r_X9_fail_135, r_X9_fail_136, r_X9_fail_139, r_X9_fail_140, r_X9_fail_141, r_X9_fail_142, r_X9_fail_143, r_X9_fail_146, r_X9_fail_147, r_X9_fail_148, r_X9_fail_151, ob_40, gt_40_0, pt_40_0, gt_40_1, pt_40_1, gt_40_2, pt_40_2, gt_40_3, pt_40_3, gt_40_4, pt_40_4, gt_40_5, pt_40_5, gt_40_6, pt_40_6, gt_40_7, pt_40_7, gt_40_8, pt_40_8, gt_40_9, pt_40_9, gt_40_10, pt_40_10, gt_40_11, gt_40_12, gt_40_13, gt_40_14, gt_40_15, gt_40_16, gt_40_17, gt_40_18, gt_40_19, gt_40_20, gt_40_21, gt_40_22, pt_40_22, gt_40_23, gt_40_24, gt_40_25, gt_40_26, gt_40_27, gt_40_28, gt_40_29, gt_40_30, gt_40_31, gt_40_32, gt_40_33, gt_40_34, pt_40_34, gt_40_35, pt_40_35, gt_40_36, gt_40_37, gt_40_38, gt_40_39, gt_40_40, gt_40_41, pt_40_41, gt_40_42, pt_40_42, gt_40_43, pt_40_43, gt_40_44, pt_40_44, gt_40_45, pt_40_45, gt_40_46, pt_40_46, gt_40_47, ad_59, as_59, ad_62, as_62, List.cons_append, List.nil_append, List.append_nil, if_true, if_false, true_and, and_true, true_or, or_true, nm_b_some, oenc, gi_mS, ga_mS, mS_59, mS_62, mS_r, gi_si, ga_sa, gi_sa, gi_sb, gi_sp, ga_si, ga_sb, ga_sp, gb_si, gb_sa, gb_sb, gb_sp, gp_si, gp_sa, gp_sb, gp_sp, if_true, if_false, ↓reduceIte, Nat.reduceEqDiff, g3, g4, g5, g6, g7, nI_s]
      refine c_MfailLoop hN hN1 hQ m (k + 1) _ _ _ _ _ (by omega) (fun i => ?_) (fun j hj => ?_)
      · by_cases e : i = rho (ga s 60) N (notK (ga s 59) (ga s 61)) k
        · subst e
          rw [upd_at]
          exact ⟨fun _ => rfl, fun z => absurd ⟨k, by omega, rfl⟩ z⟩
        · rw [upd_ne e]
          refine ⟨fun ⟨j, j1, j2⟩ => (hf i).1 ⟨j, ?_, j2⟩, fun z => (hf i).2 (fun ⟨j, j1, j2⟩ => z ⟨j, by omega, j2⟩)⟩
          rcases Nat.lt_or_ge j k with y | y
          · exact y
          · have : j = k := by omega
            subst this
            exact absurd j2.symm e
      · by_cases e : j = k
        · subst e
          rw [upd_at]
        · rw [upd_ne e]
          exact hw j (by omega)
termination_by m => m
