/-! leastPrice, workOut. -/
theorem dcost_le {D : ShD} {T : Nat} {A : Nat → Nat} (hT : T ≤ 10) (hk : ∀ t, t < T → D.2.2.1 t ≤ 1000) : dcost D A T ≤ 10000 := by
  have h := sumP_le (p := inCv A 4) (f := D.2.2.1) (B := 1000) (n := T) hk
  have h2 : T * 1000 ≤ 10000 := by omega
  exact Nat.le_trans h h2
theorem price_lt {D : ShD} {T C : Nat} {A : Nat → Nat} (hT : T ≤ 10) (hC : C ≤ 4) (hk : ∀ t, t < T → D.2.2.1 t ≤ 1000) (h : Pf D C A T) : cw A T < 1073741824 ∧ price D T A < 20000000000000 := by
  have h4 : ∀ t, t < T → A t ≤ 4 := fun t ht => by rcases h.1 t ht with z | z <;> omega
  have a := cw_le T hT h4
  have b : 0 < 8 ^ (10 - T) := Nat.pow_pos (by decide)
  have c : cw A T < 1073741824 := by
    generalize 8 ^ (10 - T) = z at a b
    omega
  have d := dcost_le (A := A) hT hk
  refine ⟨c, ?_⟩
  unfold price
  omega
theorem c_leastPrice {d : Nat} {s : nm_S} {Q : nm_K} {D : ShD} {T C : Nat} {f : Nat → Int64} {v A : Nat → Nat} (hS : SX s D T C) (hA : Pf D C A T) (hmin : ∀ B, Pf D C B T → price D T A ≤ price D T B) (hv : RV T f v) (hsd : Snd D T C (2 ^ T) v) (hcp : Cpl T C A v) (hQ : Q [.long (nL (price D T A))] (rep (sp s f))) : nm_call (d + 1) 39 [.ref 11, .int (nI (2 ^ T - 1))] (rep (sp s f)) Q := by
  obtain ⟨⟨s1, s2⟩, ⟨s3, s4⟩, s5, s6, s7, s8, s9⟩ := hS
  have hp := pow_1024 s1
  have hp0 : 0 < 2 ^ T := Nat.pow_pos (by decide)
  have lit : (1152921504606846976 : Int64) = nL 1152921504606846976 := rfl
  have lit4 : (4 : Int64) = nL 4 := rfl
  have hpr := (price_lt s1 s2 (fun t ht => (s6 t ht).2) hA).2
  -- what a reached price stands for
  have hcost : ∀ S B, Part D T C S B → sumS D.2.2.1 T S = dcost D B T := by
    intro S B hB
    refine sumS_P T (fun t ht => ?_)
    have := hB.2 t ht
    unfold inCv
    cases hb : S.testBit t with
    | true => rw [hb] at this; simp [this.mp rfl]
    | false =>
      rw [hb] at this
      have e : ¬ B t = 4 := fun z => by have := this.mpr z; cases this
      simp [e]
  have hbest : v (opA T C A) + (sumS D.2.2.1 T (opA T C A) * 1073741824 + 4 * cdS (opA T C A)) ≤ price D T A := by
    unfold Cpl at hcp
    have e1 : cw (trA C A) T = cw A T := cw_cong (fun t ht => by
      unfold trA
      rcases hA.1 t ht with z | z
      · rw [if_pos z.1]
      · rw [if_neg (by omega), z])
    have e2 : sumS D.2.2.1 T (opA T C A) = dcost D A T := by
      refine sumS_P T (fun t ht => ?_)
      have b := opA_bit T C A t
      unfold inCv
      cases hb : (opA T C A).testBit t with
      | true =>
        rw [hb] at b
        have := (b.mp rfl).2
        have e4 : A t = 4 := by rcases hA.1 t ht with z | z <;> omega
        simp [e4]
      | false =>
        rw [hb] at b
        have e4 : ¬ A t = 4 := fun z => by have := b.mpr ⟨ht, by omega⟩; cases this
        simp [e4]
    rw [e1] at hcp
    rw [e2]
    unfold price
    omega
  have loop : ∀ (m o l : Nat) (z1 z2 : Value), o + m = 2 ^ T → (l = 1152921504606846976 ∨ ∃ B, Pf D C B T ∧ l = price D T B) → (opA T C A < o → l ≤ price D T A) → x_X4_leastPrice d Q 7 [.ref 11, .int (nI (2 ^ T - 1)), .long (nL l), .null, .int (nI o), z1, z2] [] (rep (sp s f)) 0 0 := by
    intro m
    induction m with
    | zero =>
      intro o l y1 y2 ho h1 h2
      have g1 : nI (2 ^ T - 1) < nI o := (nI_lt' (by omega) (by omega)).mpr (by omega)
      have h3 := h2 (by have := opA_lt T C A; omega)
      have hl : l = price D T A := by
        rcases h1 with z | ⟨B, z1, z2⟩
        · omega
        · have := hmin B z1; omega
      rw [r_X4_leastPrice_7]
      simp only [r_X4_leastPrice_9, r_X4_leastPrice_10, r_X4_leastPrice_77, r_X4_leastPrice_78, List.cons_append, List.nil_append, List.append_nil, if_true, if_false, true_and, and_true, true_or, or_true, nm_b_some, g1, hl]
      exact hQ
    | succ m ih =>
      intro o l y1 y2 ho h1 h2
      have hoT : o < 2 ^ T := by omega
      have hlb : l ≤ 1152921504606846976 := by
        rcases h1 with z | ⟨B, z1, z2⟩
        · omega
        · have := (price_lt s1 s2 (fun t ht => (s6 t ht).2) z1).2; omega
      have g1 : ¬ nI (2 ^ T - 1) < nI o := by rw [nI_lt' (by omega) (by omega)]; omega
      have g2 : vp_in (nI o) 1024 := vp_in' (by omega) (by omega)
      have g3 : (nI o).toNatClampNeg = o := i_nIc (by omega)
      obtain ⟨w1, w2⟩ := hv o hoT
      have hcmp : lg_cmp (nL (v o)) (nL 1152921504606846976) < 0 ↔ v o < 1152921504606846976 := by
        rw [lg_cmp_lt, nL_lt (by omega) (by omega)]
      have hsc : sumS D.2.2.1 T o ≤ 10000 := by
        have := sumS_le (f := D.2.2.1) (c := 1000) (S := o) (n := T) (fun i hi => (s6 i hi).2)
        omega
      have hcd := cdS_le (S := o) (by omega)
      have e1 : (nI (sumS D.2.2.1 T o)).toInt64 = nL (sumS D.2.2.1 T o) := nI_L (by omega)
      have e2 : (nI (cdS o)).toInt64 = nL (cdS o) := nI_L (by omega)
      have e3 : (if nL (v o + (sumS D.2.2.1 T o * 1073741824 + 4 * cdS o)) < nL l then nL (v o + (sumS D.2.2.1 T o * 1073741824 + 4 * cdS o)) else nL l) = nL (min l (v o + (sumS D.2.2.1 T o * 1073741824 + 4 * cdS o))) := lmin' (by omega) (by omega)
      rw [r_X4_leastPrice_7]
      simp only [r_X4_leastPrice_9, r_X4_leastPrice_10, r_X4_leastPrice_13, r_X4_leastPrice_14, r_X4_leastPrice_17, r_X4_leastPrice_19, r_X4_leastPrice_20, r_X4_leastPrice_23, r_X4_leastPrice_24, r_X4_leastPrice_27, r_X4_leastPrice_28, r_X4_leastPrice_31, r_X4_leastPrice_34, r_X4_leastPrice_36, r_X4_leastPrice_37, r_X4_leastPrice_38, r_X4_leastPrice_40, r_X4_leastPrice_41, r_X4_leastPrice_44, r_X4_leastPrice_45, r_X4_leastPrice_48, r_X4_leastPrice_50, r_X4_leastPrice_51, r_X4_leastPrice_52, r_X4_leastPrice_53, r_X4_leastPrice_54, r_X4_leastPrice_56, r_X4_leastPrice_57, r_X4_leastPrice_58, r_X4_leastPrice_61, r_X4_leastPrice_63, r_X4_leastPrice_64, r_X4_leastPrice_66, r_X4_leastPrice_67, r_X4_leastPrice_70, r_X4_leastPrice_71, r_X4_leastPrice_74, ob_11, gt_11_0, gt_11_1, gt_11_2, gt_11_3, gt_11_4, pt_11_4, gt_11_5, pt_11_5, ob_1, gt_1_0, gt_1_1, gt_1_2, gt_1_3, gt_1_4, pt_1_4, ad_5, as_5, ad_12, as_12, ad_13, as_13, List.cons_append, List.nil_append, List.append_nil, if_true, if_false, true_and, and_true, true_or, or_true, nm_b_some, gi_si, ga_sa, gi_sa, gi_sb, gi_sp, ga_si, ga_sb, ga_sp, gb_si, gb_sa, gb_sb, gb_sp, gp_si, gp_sa, gp_sb, gp_sp, if_true, if_false, ↓reduceIte, Nat.reduceEqDiff, g1, g2, g3, w1, lit, lit4, hcmp, (s5 o hoT).2, s8 o (by omega), e1, e2, nL_shl, nL_ml, nL_ad, e3, nI_s]
      by_cases hlt : v o < 1152921504606846976
      · simp only [hlt, if_true]
        refine ih (o + 1) _ _ _ (by omega) ?_ (fun h => ?_)
        · by_cases hm : l ≤ v o + (sumS D.2.2.1 T o * 1073741824 + 4 * cdS o)
          · rw [Nat.min_eq_left hm]; exact h1
          · rw [Nat.min_eq_right (by omega)]
            rcases hsd o hoT hoT with z | ⟨B, z1, z2⟩
            · omega
            · refine Or.inr ⟨B, z1.1, ?_⟩
              rw [hcost o B z1]
              unfold price
              omega
        · by_cases e : opA T C A = o
          · rw [e] at hbest; omega
          · have := h2 (by omega); omega
      · simp only [hlt, if_false]
        refine ih (o + 1) l _ _ (by omega) h1 (fun h => ?_)
        by_cases e : opA T C A = o
        · rw [e] at hbest; omega
        · exact h2 (by omega)
  rw [e_X4_leastPrice]
  simp only [r_X4_leastPrice_0, r_X4_leastPrice_3, r_X4_leastPrice_4, r_X4_leastPrice_5, lit]
  exact loop (2 ^ T) 0 _ .null .null (by omega) (Or.inl rfl) (fun h => by omega)
theorem c_workOut {d : Nat} {s : nm_S} {Q : nm_K} {D : ShD} {T C : Nat} {A : Nat → Nat} (hS : SX s D T C) (hkn : gi s 1105 = 0) (hA : Pf D C A T) (hmin : ∀ B, Pf D C B T → price D T A ≤ price D T B) (hQ : ∀ f, Q [] (rep (si (sb (sp s f) (nL (price D T A))) 1105 1))) : nm_call (d + 7) 33 [.ref 11] (rep s) Q := by
  have hS0 := hS
  obtain ⟨⟨s1, s2⟩, ⟨s3, s4⟩, s5, s6, s7, s8, s9⟩ := hS
  have hp := pow_1024 s1
  have hp0 : 0 < 2 ^ T := Nat.pow_pos (by decide)
  have lit : (1152921504606846976 : Int64) = nL 1152921504606846976 := rfl
  have lit0 : (0 : Int64) = nL 0 := rfl
  have hall : (1 : Int32) <<< (nI T &&& 31) - 1 = nI (2 ^ T - 1) := by
    rw [shl1 T (by omega), show (2 : Nat) ^ T = (2 ^ T - 1) + 1 by omega, nI_pred]
    rfl
  have g2 : vp_in (nI (2 ^ T - 1)) 1024 := vp_in' (by omega) (by omega)
  have g3 : (nI (2 ^ T - 1)).toNatClampNeg = 2 ^ T - 1 := i_nIc (by omega)
  -- the convoys, one after the other
  have loop2 : ∀ (m c : Nat) (f : Nat → Int64) (v : Nat → Nat), c + m = C → RV T f v → Snd D T c (2 ^ T) v → Cpl T c A v → x_X4_workOut (d + 6) Q 47 [.ref 11, .int (nI (2 ^ T - 1)), .int (nI c)] [] (rep (sp s f)) 0 0 := by
    intro m
    induction m with
    | zero =>
      intro c f v hc a1 a2 a3
      have hcC : c = C := by omega
      subst hcC
      have k1 : ¬ nI c < nI c := by rw [nI_lt' (by omega) (by omega)]; omega
      rw [r_X4_workOut_47]
      simp only [r_X4_workOut_48, r_X4_workOut_49, r_X4_workOut_52, r_X4_workOut_55, r_X4_workOut_70, r_X4_workOut_71, r_X4_workOut_72, r_X4_workOut_73, ob_11, gt_11_0, gt_11_1, gt_11_2, gt_11_3, gt_11_4, pt_11_4, gt_11_5, pt_11_5, ob_6, gt_6_0, gt_6_1, gt_6_2, gt_6_3, gt_6_4, pt_6_4, gt_6_5, pt_6_5, gt_6_6, pt_6_6, List.cons_append, List.nil_append, List.append_nil, if_true, if_false, true_and, and_true, true_or, or_true, nm_b_some, gi_si, ga_sa, gi_sa, gi_sb, gi_sp, ga_si, ga_sb, ga_sp, gb_si, gb_sa, gb_sb, gb_sp, gp_si, gp_sa, gp_sb, gp_sp, if_true, if_false, ↓reduceIte, Nat.reduceEqDiff, s4, k1]
      refine c_leastPrice hS0 hA hmin a1 a2 a3 ?_
      simp only [r_X4_workOut_76, r_X4_workOut_79, r_X4_workOut_80, r_X4_workOut_81, r_X4_workOut_84, ob_11, gt_11_0, gt_11_1, gt_11_2, gt_11_3, gt_11_4, pt_11_4, gt_11_5, pt_11_5, List.cons_append, List.nil_append, List.append_nil, if_true, if_false, true_and, and_true, true_or, or_true, nm_b_some, gi_si, ga_sa, gi_sa, gi_sb, gi_sp, ga_si, ga_sb, ga_sp, gb_si, gb_sa, gb_sb, gb_sp, gp_si, gp_sa, gp_sb, gp_sp, if_true, if_false, ↓reduceIte, Nat.reduceEqDiff, z1]
      exact hQ f
    | succ m ih =>
      intro c f v hc a1 a2 a3
      have k1 : nI c < nI C := (nI_lt' (by omega) (by omega)).mpr (by omega)
      rw [r_X4_workOut_47]
      simp only [r_X4_workOut_48, r_X4_workOut_49, r_X4_workOut_52, r_X4_workOut_55, r_X4_workOut_58, r_X4_workOut_59, r_X4_workOut_60, r_X4_workOut_61, r_X4_workOut_64, r_X4_workOut_67, ob_11, gt_11_0, gt_11_1, gt_11_2, gt_11_3, gt_11_4, pt_11_4, gt_11_5, pt_11_5, ob_6, gt_6_0, gt_6_1, gt_6_2, gt_6_3, gt_6_4, pt_6_4, gt_6_5, pt_6_5, gt_6_6, pt_6_6, List.cons_append, List.nil_append, List.append_nil, if_true, if_false, true_and, and_true, true_or, or_true, nm_b_some, gi_si, ga_sa, gi_sa, gi_sb, gi_sp, ga_si, ga_sb, ga_sp, gb_si, gb_sa, gb_sb, gb_sp, gp_si, gp_sa, gp_sb, gp_sp, if_true, if_false, ↓reduceIte, Nat.reduceEqDiff, s4, k1, nI_s]
      exact c_loadConvoy hS0 (by omega) hA hmin a1 a2 a3 (fun f' v' b1 b2 b3 => ih (c + 1) f' v' (by omega) b1 b2 b3)
  -- all as yet unreached
  have loop1 : ∀ (m o : Nat) (f : Nat → Int64), o + m = 2 ^ T → (∀ S, S < o → f S = nL 1152921504606846976) → x_X4_workOut (d + 6) Q 18 [.ref 11, .int (nI (2 ^ T - 1)), .int (nI o)] [] (rep (sp s f)) 0 0 := by
    intro m
    induction m with
    | zero =>
      intro o f ho hf
      have k1 : nI (2 ^ T - 1) < nI o := (nI_lt' (by omega) (by omega)).mpr (by omega)
      rw [r_X4_workOut_18]
      simp only [r_X4_workOut_19, r_X4_workOut_20, r_X4_workOut_38, r_X4_workOut_39, r_X4_workOut_42, r_X4_workOut_43, r_X4_workOut_44, r_X4_workOut_45, r_X4_workOut_46, ob_11, gt_11_0, gt_11_1, gt_11_2, gt_11_3, gt_11_4, pt_11_4, gt_11_5, pt_11_5, ad_13, as_13, List.cons_append, List.nil_append, List.append_nil, if_true, if_false, true_and, and_true, true_or, or_true, nm_b_some, gi_si, ga_sa, gi_sa, gi_sb, gi_sp, ga_si, ga_sb, ga_sp, gb_si, gb_sa, gb_sb, gb_sp, gp_si, gp_sa, gp_sb, gp_sp, if_true, if_false, ↓reduceIte, Nat.reduceEqDiff, k1, g2, g3, lit0, sp_sp]
      refine loop2 C 0 _ (fun S => if S = 2 ^ T - 1 then 0 else 1152921504606846976) (by omega) ?_ ?_ ?_
      · intro S hS1
        try dsimp only
        by_cases e : S = 2 ^ T - 1
        · rw [e, updL_at, if_pos rfl]; exact ⟨rfl, by omega⟩
        · rw [updL_ne e, if_neg e]; exact ⟨hf S (by omega), Nat.le_refl _⟩
      · intro S hS1 hS2
        try dsimp only
        by_cases e : S = 2 ^ T - 1
        · rw [if_pos e]
          refine Or.inr ⟨fun _ => 4, by rw [e]; exact Pf_4, ?_⟩
          rw [Nat.zero_add, cw_4 (S := S) T (fun t ht => ⟨by rw [e, Nat.testBit_two_pow_sub_one]; simp [ht], rfl⟩), cdS_T s1 hS2]
        · rw [if_neg e]; exact Or.inl rfl
      · unfold Cpl
        have e : opA T 0 A = 2 ^ T - 1 := by
          unfold opA
          exact (mask_full _ T).mpr (fun i hi => by simp)
        rw [e]
        dsimp only
        rw [if_pos rfl, Nat.zero_add, cw_4 (S := 2 ^ T - 1) T (fun t ht => ⟨by rw [Nat.testBit_two_pow_sub_one]; simp [ht], by unfold trA; rw [if_neg (by omega)]⟩), cdS_T s1 (by omega)]
        exact Nat.le_refl _
    | succ m ih =>
      intro o f ho hf
      have k1 : ¬ nI (2 ^ T - 1) < nI o := by rw [nI_lt' (by omega) (by omega)]; omega
      have k2 : vp_in (nI o) 1024 := vp_in' (by omega) (by omega)
      have k3 : (nI o).toNatClampNeg = o := i_nIc (by omega)
      rw [r_X4_workOut_18]
      simp only [r_X4_workOut_19, r_X4_workOut_20, r_X4_workOut_23, r_X4_workOut_24, r_X4_workOut_27, r_X4_workOut_28, r_X4_workOut_31, r_X4_workOut_32, r_X4_workOut_35, ob_11, gt_11_0, gt_11_1, gt_11_2, gt_11_3, gt_11_4, pt_11_4, gt_11_5, pt_11_5, ad_13, as_13, List.cons_append, List.nil_append, List.append_nil, if_true, if_false, true_and, and_true, true_or, or_true, nm_b_some, gi_si, ga_sa, gi_sa, gi_sb, gi_sp, ga_si, ga_sb, ga_sp, gb_si, gb_sa, gb_sb, gb_sp, gp_si, gp_sa, gp_sb, gp_sp, if_true, if_false, ↓reduceIte, Nat.reduceEqDiff, k1, k2, k3, lit, nI_s, sp_sp]
      refine ih (o + 1) _ (by omega) (fun S hS1 => ?_)
      by_cases e : S = o
      · subst e; rw [updL_at]
      · rw [updL_ne e]; exact hf S (by omega)
  rw [e_X4_workOut]
  simp only [r_X4_workOut_0, r_X4_workOut_1, r_X4_workOut_4, r_X4_workOut_7, r_X4_workOut_8, r_X4_workOut_9, r_X4_workOut_12, r_X4_workOut_15, r_X4_workOut_16, r_X4_workOut_17, e_X2_all, r_X2_all_0, r_X2_all_1, r_X2_all_2, r_X2_all_5, r_X2_all_6, r_X2_all_7, r_X2_all_8, ob_11, gt_11_0, gt_11_1, gt_11_2, gt_11_3, gt_11_4, pt_11_4, gt_11_5, pt_11_5, ob_1, gt_1_0, gt_1_1, gt_1_2, gt_1_3, gt_1_4, pt_1_4, List.cons_append, List.nil_append, List.append_nil, if_true, if_false, true_and, and_true, true_or, or_true, nm_b_some, gi_si, ga_sa, gi_sa, gi_sb, gi_sp, ga_si, ga_sb, ga_sp, gb_si, gb_sa, gb_sb, gb_sp, gp_si, gp_sa, gp_sb, gp_sp, if_true, if_false, ↓reduceIte, Nat.reduceEqDiff, hkn, s3, hall]
  exact loop1 (2 ^ T) 0 (gp s) (by omega) (fun S h => by omega)
theorem c_workOut_k {d : Nat} {s : nm_S} {Q : nm_K} (hkn : gi s 1105 = 1) : nm_call (d + 7) 33 [.ref 11] (rep s) Q ↔ Q [] (rep s) := by
  have h10 : ¬ (1 : Int32) = 0 := by decide
  simp only [e_X4_workOut, r_X4_workOut_0, r_X4_workOut_1, r_X4_workOut_4, r_X4_workOut_7, ob_11, gt_11_0, gt_11_1, gt_11_2, gt_11_3, gt_11_4, pt_11_4, gt_11_5, pt_11_5, List.cons_append, List.nil_append, List.append_nil, if_true, if_false, true_and, and_true, true_or, or_true, nm_b_some, hkn, h10]
