theorem aft_ee {D E : Nat → Nat} {m U : Nat} : ∀ {n : Nat}, (∀ i, i < n → D i = E i ∨ (D i ≤ U ∧ E i ≤ U)) → aft D m U n = aft E m U n
  | 0, _ => rfl
  | n + 1, h => by
    have ih := aft_ee (m := m) (fun i hi => h i (Nat.lt_succ_of_lt hi))
    have g := aft_ge E m U n
    unfold aft
    rw [ih]
    rcases h n (by omega) with e | e
    · rw [e]
    · split
      · omega
      · rfl
theorem c_Mneeds {d : Nat} {s : nm_S} {Q : nm_K} {i U m : Nat} {D : Nat → Nat} {mv : Int32} (hi : i < 10) (hU : U ≤ 4000) (hm : m < 65536) (h56 : ga s 56 i = nI m) (hD : ∀ k, k < i → ga s 63 k = nI (D k) ∧ D k ≤ 4000) (hQ : ∀ z : Value, x_X9_ready d Q 127 [.ref 40, .int mv, .int (nI U), .int (nI i), .int (nI (aft D m U i)), z] [] (rep s) 0 0) : ∀ z1 z2 : Value, x_X9_ready d Q 75 [.ref 40, .int mv, .int (nI U), .int (nI i), z1, z2] [] (rep s) 0 0 := by
  intro z1 z2
  simp only [r_X9_ready_75, r_X9_ready_76, r_X9_ready_78, r_X9_ready_79]
  have e := lpf_ind (step := fun k (a : Int32) => if m.testBit k = true then (if a < ga s 63 k then ga s 63 k else a) else a) (fun k a => a = nI (aft D m U k)) (N := i) (by
    intro k a hk ha
    subst ha
    have hb := aft_le (D := D) (m := m) (U := U) (B := 4000) hU k (fun j hj => (hD j (by omega)).2)
    have hd := hD k hk
    try dsimp only
    show _ = nI (if m.testBit k = true then max (aft D m U k) (D k) else aft D m U k)
    cases hbit : m.testBit k with
    | false => rfl
    | true =>
      rw [if_pos rfl, if_pos rfl, hd.1, imax (by omega) (by omega)]) i 0 (nI U) (by omega) rfl
  refine nm_loopI (fun k (a : Int32) => x_X9_ready d Q 81 [.ref 40, .int mv, .int (nI U), .int (nI i), .int a, .int (nI k)] [] (rep s) 0 0) (fun a => ∀ z : Value, x_X9_ready d Q 127 [.ref 40, .int mv, .int (nI U), .int (nI i), .int a, z] [] (rep s) 0 0) (fun k (a : Int32) => if m.testBit k = true then (if a < ga s 63 k then ga s 63 k else a) else a) (fun _ _ => True) (N := i) ?_ ?_ i 0 (nI U) (by omega) trivial (by rw [e]; exact hQ)
  · intro k a hk _
    refine ⟨trivial, fun hnx => ?_⟩
    have g1 : nI k < nI i := (nI_lt' (by omega) (by omega)).mpr hk
    have g2 : vp_in (nI k) 10 := vp_in' (by omega) (by omega)
    have g3 : (nI k).toNatClampNeg = k := i_nIc (by omega)
    have g4 : vp_in (nI i) 10 := vp_in' (by omega) (by omega)
    have g5 : (nI i).toNatClampNeg = i := i_nIc (by omega)
    have g6 := need_bit m k hm (by omega)
    rw [r_X9_ready_81]
    simp only [r_X9_ready_83, r_X9_ready_84, r_X9_ready_87, r_X9_ready_88, r_X9_ready_91, r_X9_ready_92, r_X9_ready_93, r_X9_ready_95, r_X9_ready_96, r_X9_ready_97, r_X9_ready_98, r_X9_ready_99, r_X9_ready_102, r_X9_ready_104, r_X9_ready_105, r_X9_ready_108, r_X9_ready_110, r_X9_ready_111, r_X9_ready_114, r_X9_ready_117, r_X9_ready_119, r_X9_ready_121, r_X9_ready_124, ob_40, gt_40_0, pt_40_0, gt_40_1, pt_40_1, gt_40_2, pt_40_2, gt_40_3, pt_40_3, gt_40_4, pt_40_4, gt_40_5, pt_40_5, gt_40_6, pt_40_6, gt_40_7, pt_40_7, gt_40_8, pt_40_8, gt_40_9, pt_40_9, gt_40_10, pt_40_10, gt_40_11, gt_40_12, gt_40_13, gt_40_14, gt_40_15, gt_40_16, gt_40_17, gt_40_18, gt_40_19, gt_40_20, gt_40_21, gt_40_22, pt_40_22, gt_40_23, gt_40_24, gt_40_25, gt_40_26, gt_40_27, gt_40_28, gt_40_29, gt_40_30, gt_40_31, gt_40_32, gt_40_33, gt_40_34, pt_40_34, gt_40_35, pt_40_35, gt_40_36, gt_40_37, gt_40_38, gt_40_39, gt_40_40, gt_40_41, pt_40_41, gt_40_42, pt_40_42, gt_40_43, pt_40_43, gt_40_44, pt_40_44, gt_40_45, pt_40_45, gt_40_46, pt_40_46, gt_40_47, ad_56, as_56, ad_63, as_63, List.cons_append, List.nil_append, List.append_nil, if_true, if_false, true_and, and_true, true_or, or_true, nm_b_some, h56, g1, g2, g3, g4, g5, g6, nI_s]
    by_cases h1 : m.testBit k = true
    · rw [if_pos h1] at hnx ⊢
      exact hnx
    · rw [if_neg h1] at hnx ⊢
      exact hnx
  · intro a _ hr
    have g1 : ¬ nI i < nI i := by rw [nI_lt' (by omega) (by omega)]; omega
    rw [r_X9_ready_81]
    simp only [r_X9_ready_83, r_X9_ready_84, List.cons_append, List.nil_append, List.append_nil, if_true, if_false, true_and, and_true, true_or, or_true, nm_b_some, g1]
    exact hr _
theorem c_Mready {d : Nat} {s : nm_S} {Q : nm_K} {N T r : Nat} {st bg mi nd bk : Nat → Nat} {pt sf : Nat → Bool} {ro en : Nat → Nat} (hN : N ≤ 10) (hT : T ≤ 2000) (h4 : gi s 4000 = nI T) (hM : MR s N st bg mi nd bk pt sf) (hW : WF N T st bg mi nd bk sf) (hB : BK N T r st bg bk ro en) (hMB : MB s T r ro en) (hQ : ∀ h, Q [.int (nI (lat T (dn (unt T r en) st bg mi nd) N))] (rep (sa s 63 h))) : nm_call (d + 2) 132 [.ref 40] (rep s) Q := by
  obtain ⟨hU1, hU2⟩ := unt_le hT hB
  have hst : ∀ k, k < N → st k < 2147483648 := fun k hk => by have := (hW k hk).2.2.2.1; omega
  have hdl := dn_le hT hU2 hW N (Nat.le_refl _)
  rw [e_X9_ready]
  simp only [r_X9_ready_0, r_X9_ready_1, r_X9_ready_4, r_X9_ready_5, r_X9_ready_6, r_X9_ready_9, r_X9_ready_10, r_X9_ready_11, ob_40, gt_40_0, pt_40_0, gt_40_1, pt_40_1, gt_40_2, pt_40_2, gt_40_3, pt_40_3, gt_40_4, pt_40_4, gt_40_5, pt_40_5, gt_40_6, pt_40_6, gt_40_7, pt_40_7, gt_40_8, pt_40_8, gt_40_9, pt_40_9, gt_40_10, pt_40_10, gt_40_11, gt_40_12, gt_40_13, gt_40_14, gt_40_15, gt_40_16, gt_40_17, gt_40_18, gt_40_19, gt_40_20, gt_40_21, gt_40_22, pt_40_22, gt_40_23, gt_40_24, gt_40_25, gt_40_26, gt_40_27, gt_40_28, gt_40_29, gt_40_30, gt_40_31, gt_40_32, gt_40_33, gt_40_34, pt_40_34, gt_40_35, pt_40_35, gt_40_36, gt_40_37, gt_40_38, gt_40_39, gt_40_40, gt_40_41, pt_40_41, gt_40_42, pt_40_42, gt_40_43, pt_40_43, gt_40_44, pt_40_44, gt_40_45, pt_40_45, gt_40_46, pt_40_46, gt_40_47, List.cons_append, List.nil_append, List.append_nil, if_true, if_false, true_and, and_true, true_or, or_true, nm_b_some, c_Mwhole hN hT h4 hM hB hMB, h4]
  obtain ⟨hm1, hm2, -⟩ := hM
  generalize unt T r en = U at *
  have hs0 : rep s = rep (sa s 63 (ga s 63)) := by rw [sa_self]
  rw [hs0]
  have hdone : ∀ k, k < N → st k = 2 → dn U st bg mi nd k ≤ T := by
    intro k hk h2
    rw [dn_is, if_pos (Or.inr h2)]
    exact (hW k hk).2.2.2.2.2.1 h2
  have loop : ∀ (m k : Nat) (h : Nat → Int32) (y1 y2 : Value), k + m = N → (∀ j, j < k → h j = nI (if st j = 2 then T else dn U st bg mi nd j)) → x_X9_ready (d + 1) Q 12 [.ref 40, .int (nI (lat T (dn U st bg mi nd) k)), .int (nI U), .int (nI k), y1, y2] [] (rep (sa s 63 h)) 0 0 := by
    intro m
    induction m with
    | zero =>
      intro k h y1 y2 hk hh
      have : k = N := by omega
      subst this
      have g1 : ¬ nI k < nI k := by rw [nI_lt' (by omega) (by omega)]; omega
      rw [r_X9_ready_12]
      simp only [r_X9_ready_13, r_X9_ready_14, r_X9_ready_17, r_X9_ready_159, r_X9_ready_160, ob_40, gt_40_0, pt_40_0, gt_40_1, pt_40_1, gt_40_2, pt_40_2, gt_40_3, pt_40_3, gt_40_4, pt_40_4, gt_40_5, pt_40_5, gt_40_6, pt_40_6, gt_40_7, pt_40_7, gt_40_8, pt_40_8, gt_40_9, pt_40_9, gt_40_10, pt_40_10, gt_40_11, gt_40_12, gt_40_13, gt_40_14, gt_40_15, gt_40_16, gt_40_17, gt_40_18, gt_40_19, gt_40_20, gt_40_21, gt_40_22, pt_40_22, gt_40_23, gt_40_24, gt_40_25, gt_40_26, gt_40_27, gt_40_28, gt_40_29, gt_40_30, gt_40_31, gt_40_32, gt_40_33, gt_40_34, pt_40_34, gt_40_35, pt_40_35, gt_40_36, gt_40_37, gt_40_38, gt_40_39, gt_40_40, gt_40_41, pt_40_41, gt_40_42, pt_40_42, gt_40_43, pt_40_43, gt_40_44, pt_40_44, gt_40_45, pt_40_45, gt_40_46, pt_40_46, gt_40_47, List.cons_append, List.nil_append, List.append_nil, if_true, if_false, true_and, and_true, true_or, or_true, nm_b_some, gi_si, ga_sa, gi_sa, gi_sb, gi_sp, ga_si, ga_sb, ga_sp, gb_si, gb_sa, gb_sb, gb_sp, gp_si, gp_sa, gp_sb, gp_sp, if_true, if_false, ↓reduceIte, Nat.reduceEqDiff, hm1, g1]
      exact hQ h
    | succ m ih =>
      intro k h y1 y2 hk hh
      have hkN : k < N := by omega
      have g1 : nI k < nI N := (nI_lt' (by omega) (by omega)).mpr hkN
      have g2 : vp_in (nI k) 10 := vp_in' (by omega) (by omega)
      have g3 : (nI k).toNatClampNeg = k := i_nIc (by omega)
      obtain ⟨a1, a2, a3, a4, a5, a6, a7⟩ := hm2 k hkN
      have w := hW k hkN
      have e1 : nI (st k) = 1 ↔ st k = 1 := by rw [nI_1', nI_eq' (hst k hkN) (by omega)]
      have e2 : nI (st k) = 2 ↔ st k = 2 := by rw [nI_2', nI_eq' (hst k hkN) (by omega)]
      have hlt := lat_le (T := T) (B := 4000) (D := dn U st bg mi nd) (by omega) k (fun j hj => by have := hdl j (by omega); omega)
      have hlg := lat_ge T (dn U st bg mi nd) k
      have hdk := hdl k hkN
      -- the end of a turn
      have hnx : ∀ y1 y2 : Value, x_X9_ready (d + 1) Q 142 [.ref 40, .int (nI (lat T (dn U st bg mi nd) k)), .int (nI U), .int (nI k), y1, y2] [] (rep (sa s 63 (upd h k (nI (if st k = 2 then T else dn U st bg mi nd k))))) 0 0 := by
        intro y1 y2
        have hmx : (if nI (lat T (dn U st bg mi nd) k) < nI (if st k = 2 then T else dn U st bg mi nd k) then nI (if st k = 2 then T else dn U st bg mi nd k) else nI (lat T (dn U st bg mi nd) k)) = nI (lat T (dn U st bg mi nd) (k + 1)) := by
          rw [imax (by omega) (by split <;> omega)]
          congr 1
          show _ = max (lat T (dn U st bg mi nd) k) (dn U st bg mi nd k)
          by_cases c : st k = 2
          · have := hdone k hkN c
            rw [if_pos c]
            omega
          · rw [if_neg c]
        simp only [r_X9_ready_142, r_X9_ready_143, r_X9_ready_144, r_X9_ready_147, r_X9_ready_148, r_X9_ready_149, r_X9_ready_152, r_X9_ready_153, r_X9_ready_156, ob_40, gt_40_0, pt_40_0, gt_40_1, pt_40_1, gt_40_2, pt_40_2, gt_40_3, pt_40_3, gt_40_4, pt_40_4, gt_40_5, pt_40_5, gt_40_6, pt_40_6, gt_40_7, pt_40_7, gt_40_8, pt_40_8, gt_40_9, pt_40_9, gt_40_10, pt_40_10, gt_40_11, gt_40_12, gt_40_13, gt_40_14, gt_40_15, gt_40_16, gt_40_17, gt_40_18, gt_40_19, gt_40_20, gt_40_21, gt_40_22, pt_40_22, gt_40_23, gt_40_24, gt_40_25, gt_40_26, gt_40_27, gt_40_28, gt_40_29, gt_40_30, gt_40_31, gt_40_32, gt_40_33, gt_40_34, pt_40_34, gt_40_35, pt_40_35, gt_40_36, gt_40_37, gt_40_38, gt_40_39, gt_40_40, gt_40_41, pt_40_41, gt_40_42, pt_40_42, gt_40_43, pt_40_43, gt_40_44, pt_40_44, gt_40_45, pt_40_45, gt_40_46, pt_40_46, gt_40_47, ad_63, as_63, List.cons_append, List.nil_append, List.append_nil, if_true, if_false, true_and, and_true, true_or, or_true, nm_b_some, gi_si, ga_sa, gi_sa, gi_sb, gi_sp, ga_si, ga_sb, ga_sp, gb_si, gb_sa, gb_sb, gb_sp, gp_si, gp_sa, gp_sb, gp_sp, if_true, if_false, ↓reduceIte, Nat.reduceEqDiff, g2, g3, upd_at, hmx, nI_s]
        refine ih (k + 1) _ y1 y2 (by omega) (fun j hj => ?_)
        by_cases e : j = k
        · subst e; rw [upd_at]
        · rw [upd_ne e]; exact hh j (by omega)
      by_cases c2 : st k = 2
      · rw [r_X9_ready_12]
        rw [if_pos c2] at hnx
        simp only [r_X9_ready_13, r_X9_ready_14, r_X9_ready_17, r_X9_ready_20, r_X9_ready_21, r_X9_ready_24, r_X9_ready_25, r_X9_ready_26, r_X9_ready_27, r_X9_ready_30, r_X9_ready_31, r_X9_ready_34, r_X9_ready_35, r_X9_ready_36, r_X9_ready_39, r_X9_ready_40, ob_40, gt_40_0, pt_40_0, gt_40_1, pt_40_1, gt_40_2, pt_40_2, gt_40_3, pt_40_3, gt_40_4, pt_40_4, gt_40_5, pt_40_5, gt_40_6, pt_40_6, gt_40_7, pt_40_7, gt_40_8, pt_40_8, gt_40_9, pt_40_9, gt_40_10, pt_40_10, gt_40_11, gt_40_12, gt_40_13, gt_40_14, gt_40_15, gt_40_16, gt_40_17, gt_40_18, gt_40_19, gt_40_20, gt_40_21, gt_40_22, pt_40_22, gt_40_23, gt_40_24, gt_40_25, gt_40_26, gt_40_27, gt_40_28, gt_40_29, gt_40_30, gt_40_31, gt_40_32, gt_40_33, gt_40_34, pt_40_34, gt_40_35, pt_40_35, gt_40_36, gt_40_37, gt_40_38, gt_40_39, gt_40_40, gt_40_41, pt_40_41, gt_40_42, pt_40_42, gt_40_43, pt_40_43, gt_40_44, pt_40_44, gt_40_45, pt_40_45, gt_40_46, pt_40_46, gt_40_47, ad_59, as_59, ad_63, as_63, List.cons_append, List.nil_append, List.append_nil, if_true, if_false, true_and, and_true, true_or, or_true, nm_b_some, gi_si, ga_sa, gi_sa, gi_sb, gi_sp, ga_si, ga_sb, ga_sp, gb_si, gb_sa, gb_sb, gb_sp, gp_si, gp_sa, gp_sb, gp_sp, if_true, if_false, ↓reduceIte, Nat.reduceEqDiff, hm1, h4, g1, g2, g3, a1, e2, eq_true c2, sa_sa]
        exact hnx _ _
      · rw [if_neg c2] at hnx
        have hdn := dn_is U st bg mi nd k
        by_cases c1 : st k = 1
        · rw [if_pos (Or.inl c1)] at hdn
          have eD : eb st bg k + nI (mi k) = nI (dn U st bg mi nd k) := by
            unfold eb
            rw [if_neg (by omega), nI_ad, hdn]
          rw [r_X9_ready_12]
          simp only [r_X9_ready_13, r_X9_ready_14, r_X9_ready_17, r_X9_ready_20, r_X9_ready_21, r_X9_ready_24, r_X9_ready_25, r_X9_ready_26, r_X9_ready_27, r_X9_ready_43, r_X9_ready_44, r_X9_ready_47, r_X9_ready_48, r_X9_ready_49, r_X9_ready_50, r_X9_ready_53, r_X9_ready_54, r_X9_ready_57, r_X9_ready_58, r_X9_ready_59, r_X9_ready_62, r_X9_ready_63, r_X9_ready_64, r_X9_ready_65, r_X9_ready_68, r_X9_ready_69, r_X9_ready_70, r_X9_ready_71, r_X9_ready_72, ob_40, gt_40_0, pt_40_0, gt_40_1, pt_40_1, gt_40_2, pt_40_2, gt_40_3, pt_40_3, gt_40_4, pt_40_4, gt_40_5, pt_40_5, gt_40_6, pt_40_6, gt_40_7, pt_40_7, gt_40_8, pt_40_8, gt_40_9, pt_40_9, gt_40_10, pt_40_10, gt_40_11, gt_40_12, gt_40_13, gt_40_14, gt_40_15, gt_40_16, gt_40_17, gt_40_18, gt_40_19, gt_40_20, gt_40_21, gt_40_22, pt_40_22, gt_40_23, gt_40_24, gt_40_25, gt_40_26, gt_40_27, gt_40_28, gt_40_29, gt_40_30, gt_40_31, gt_40_32, gt_40_33, gt_40_34, pt_40_34, gt_40_35, pt_40_35, gt_40_36, gt_40_37, gt_40_38, gt_40_39, gt_40_40, gt_40_41, pt_40_41, gt_40_42, pt_40_42, gt_40_43, pt_40_43, gt_40_44, pt_40_44, gt_40_45, pt_40_45, gt_40_46, pt_40_46, gt_40_47, ad_55, as_55, ad_59, as_59, ad_60, as_60, ad_63, as_63, List.cons_append, List.nil_append, List.append_nil, if_true, if_false, true_and, and_true, true_or, or_true, nm_b_some, gi_si, ga_sa, gi_sa, gi_sb, gi_sp, ga_si, ga_sb, ga_sp, gb_si, gb_sa, gb_sb, gb_sp, gp_si, gp_sa, gp_sb, gp_sp, if_true, if_false, ↓reduceIte, Nat.reduceEqDiff, hm1, g1, g2, g3, a1, a2, a4, e1, e2, eq_true c1, eq_false c2, eD, sa_sa]
          exact hnx _ _
        · rw [if_neg (by omega)] at hdn
          rw [r_X9_ready_12]
          simp only [r_X9_ready_13, r_X9_ready_14, r_X9_ready_17, r_X9_ready_20, r_X9_ready_21, r_X9_ready_24, r_X9_ready_25, r_X9_ready_26, r_X9_ready_27, r_X9_ready_43, r_X9_ready_44, r_X9_ready_47, r_X9_ready_48, r_X9_ready_49, r_X9_ready_50, ob_40, gt_40_0, pt_40_0, gt_40_1, pt_40_1, gt_40_2, pt_40_2, gt_40_3, pt_40_3, gt_40_4, pt_40_4, gt_40_5, pt_40_5, gt_40_6, pt_40_6, gt_40_7, pt_40_7, gt_40_8, pt_40_8, gt_40_9, pt_40_9, gt_40_10, pt_40_10, gt_40_11, gt_40_12, gt_40_13, gt_40_14, gt_40_15, gt_40_16, gt_40_17, gt_40_18, gt_40_19, gt_40_20, gt_40_21, gt_40_22, pt_40_22, gt_40_23, gt_40_24, gt_40_25, gt_40_26, gt_40_27, gt_40_28, gt_40_29, gt_40_30, gt_40_31, gt_40_32, gt_40_33, gt_40_34, pt_40_34, gt_40_35, pt_40_35, gt_40_36, gt_40_37, gt_40_38, gt_40_39, gt_40_40, gt_40_41, pt_40_41, gt_40_42, pt_40_42, gt_40_43, pt_40_43, gt_40_44, pt_40_44, gt_40_45, pt_40_45, gt_40_46, pt_40_46, gt_40_47, ad_59, as_59, List.cons_append, List.nil_append, List.append_nil, if_true, if_false, true_and, and_true, true_or, or_true, nm_b_some, gi_si, ga_sa, gi_sa, gi_sb, gi_sp, ga_si, ga_sb, ga_sp, gb_si, gb_sa, gb_sb, gb_sp, gp_si, gp_sa, gp_sb, gp_sp, if_true, if_false, ↓reduceIte, Nat.reduceEqDiff, hm1, g1, g2, g3, a1, e1, e2, eq_false c1, eq_false c2]
          have hae : aft (fun j => if st j = 2 then T else dn U st bg mi nd j) (nd k) U k = aft (dn U st bg mi nd) (nd k) U k := by
            refine aft_ee (fun j hj => ?_)
            by_cases c : st j = 2
            · rw [if_pos c]
              have := hdone j (by omega) c
              right
              omega
            · rw [if_neg c]
              exact Or.inl rfl
          refine c_Mneeds (s := sa s 63 h) (i := k) (U := U) (m := nd k) (D := fun j => if st j = 2 then T else dn U st bg mi nd j) (by omega) (by omega) (nd_small (by omega) w.2.1) (by simp only [gi_si, ga_sa, gi_sa, gi_sb, gi_sp, ga_si, ga_sb, ga_sp, gb_si, gb_sa, gb_sb, gb_sp, gp_si, gp_sa, gp_sb, gp_sp, if_true, if_false, ↓reduceIte, Nat.reduceEqDiff]; exact a5) (fun j hj => ⟨by simp only [gi_si, ga_sa, gi_sa, gi_sb, gi_sp, ga_si, ga_sb, ga_sp, gb_si, gb_sa, gb_sb, gb_sp, gp_si, gp_sa, gp_sb, gp_sp, if_true, if_false, ↓reduceIte, Nat.reduceEqDiff]; exact hh j hj, by have := hdl j (by omega); split <;> omega⟩) (fun z => ?_) _ _
          rw [hae]
          simp only [r_X9_ready_127, r_X9_ready_128, r_X9_ready_131, r_X9_ready_132, r_X9_ready_134, r_X9_ready_135, r_X9_ready_138, r_X9_ready_139, r_X9_ready_140, r_X9_ready_141, ob_40, gt_40_0, pt_40_0, gt_40_1, pt_40_1, gt_40_2, pt_40_2, gt_40_3, pt_40_3, gt_40_4, pt_40_4, gt_40_5, pt_40_5, gt_40_6, pt_40_6, gt_40_7, pt_40_7, gt_40_8, pt_40_8, gt_40_9, pt_40_9, gt_40_10, pt_40_10, gt_40_11, gt_40_12, gt_40_13, gt_40_14, gt_40_15, gt_40_16, gt_40_17, gt_40_18, gt_40_19, gt_40_20, gt_40_21, gt_40_22, pt_40_22, gt_40_23, gt_40_24, gt_40_25, gt_40_26, gt_40_27, gt_40_28, gt_40_29, gt_40_30, gt_40_31, gt_40_32, gt_40_33, gt_40_34, pt_40_34, gt_40_35, pt_40_35, gt_40_36, gt_40_37, gt_40_38, gt_40_39, gt_40_40, gt_40_41, pt_40_41, gt_40_42, pt_40_42, gt_40_43, pt_40_43, gt_40_44, pt_40_44, gt_40_45, pt_40_45, gt_40_46, pt_40_46, gt_40_47, ad_55, as_55, ad_63, as_63, List.cons_append, List.nil_append, List.append_nil, if_true, if_false, true_and, and_true, true_or, or_true, nm_b_some, gi_si, ga_sa, gi_sa, gi_sb, gi_sp, ga_si, ga_sb, ga_sp, gb_si, gb_sa, gb_sb, gb_sp, gp_si, gp_sa, gp_sb, gp_sp, if_true, if_false, ↓reduceIte, Nat.reduceEqDiff, g2, g3, a4, nI_ad, ← hdn, sa_sa]
          exact hnx _ _
  exact loop N 0 (ga s 63) .null .null (by omega) (fun j hj => by omega)
theorem st_ready {s : nm_S} (h : IvS s) : ∃ v s1 s2, Runs 87 [.ref 0] s v s1 ∧ Runs 132 [.ref 40] s1 v s2 ∧ Fr [] [30, 63] s s2 := by
  obtain ⟨N, T, r, st, bg, mi, nd, bk, pt, sf, ro, en, ⟨h1, h2⟩, ⟨h3, h4⟩, h5, hX, hM, hW, hB, hMB, hXB⟩ := h
  have kX : ∃ x t, Runs 87 [.ref 0] s x t ∧ (x = nI (lat T (dn (unt T r en) st bg mi nd) N) ∧ ∃ h, t = sa s 30 h) := by
    refine Runs_of ?_
    simp only [e_X8_ready, r_X8_ready_0, r_X8_ready_1, r_X8_ready_4, r_X8_ready_5, r_X8_ready_8, r_X8_ready_11, ob_0, gt_0_0, gt_0_1, gt_0_2, gt_0_3, gt_0_4, gt_0_5, gt_0_6, gt_0_7, gt_0_8, gt_0_9, pt_0_9, gt_0_10, pt_0_10, gt_0_11, pt_0_11, ob_21, gt_21_0, gt_21_1, gt_21_2, gt_21_3, pt_21_3, gt_21_4, pt_21_4, gt_21_5, gt_21_6, gt_21_7, gt_21_8, gt_21_9, gt_21_10, List.cons_append, List.nil_append, List.append_nil, if_true, if_false, true_and, and_true, true_or, or_true, nm_b_some, h3]
    refine c_allDone h1 h2 hX hW hB hXB (fun h => ?_)
    simp only [r_X8_ready_11, List.cons_append, List.nil_append, List.append_nil, if_true, if_false, true_and, and_true, true_or, or_true, nm_b_some]
    exact ⟨_, _, rfl, rfl, rfl, h, rfl⟩
  obtain ⟨x, t, r1, rfl, hh, rfl⟩ := kX
  have kM : ∃ x t, Runs 132 [.ref 40] (sa s 30 hh) x t ∧ (x = nI (lat T (dn (unt T r en) st bg mi nd) N) ∧ ∃ h, t = sa (sa s 30 hh) 63 h) := by
    refine Runs_of ?_
    refine c_Mready (s := sa s 30 hh) (pt := pt) (sf := sf) (bk := bk) (ro := ro) h1 h2 (by simp only [gi_si, ga_sa, gi_sa, gi_sb, gi_sp, ga_si, ga_sb, ga_sp, gb_si, gb_sa, gb_sb, gb_sp, gp_si, gp_sa, gp_sb, gp_sp, if_true, if_false, ↓reduceIte, Nat.reduceEqDiff]; exact h4) (by unfold MR at hM ⊢; simp only [gi_si, ga_sa, gi_sa, gi_sb, gi_sp, ga_si, ga_sb, ga_sp, gb_si, gb_sa, gb_sb, gb_sp, gp_si, gp_sa, gp_sb, gp_sp, if_true, if_false, ↓reduceIte, Nat.reduceEqDiff]; exact hM) hW hB (by unfold MB at hMB ⊢; simp only [gi_si, ga_sa, gi_sa, gi_sb, gi_sp, ga_si, ga_sb, ga_sp, gb_si, gb_sa, gb_sb, gb_sp, gp_si, gp_sa, gp_sb, gp_sp, if_true, if_false, ↓reduceIte, Nat.reduceEqDiff]; exact hMB) (fun h => ⟨_, _, rfl, rfl, rfl, h, rfl⟩)
  obtain ⟨x, t, r2, rfl, hh2, rfl⟩ := kM
  exact ⟨_, _, _, r1, r2, (Fr.rf.sa (by decide)).sa (by decide)⟩
