def FlM (s t : nm_S) (N T R : Nat) (ro en : Nat → Nat) : Prop := ∃ K, K ≤ R ∧ (∀ j, j < K → en j ≤ T) ∧ (K < R → T < en K) ∧ (∀ j, j < K → ga t 59 (ro j) = 0 ∧ ga t 60 (ro j) = -1) ∧ (∀ j, K ≤ j → j < R → ga t 59 (ro j) = 3 ∧ ga t 60 (ro j) = ga s 60 (ro j)) ∧ (∀ i, (¬ ∃ j, j < R ∧ ro j = i) → ga t 59 i = ga s 59 i ∧ ga t 60 i = ga s 60 i) ∧ (gi t 4034 = nI (R - K) ∧ gi t 4035 = nI (if R - K = 0 then 0 else en (0 + K) - T) ∧ ∀ k, k < R - K → ga t 62 k = nI (ro (k + K))) ∧ Fr [4006, 4034, 4035] [59, 60, 62] s t ∧ gi t 4006 = gi s 4006 + 1
theorem c_Mfail {s : nm_S} {Q : nm_K} {N T i0 : Nat} {st bg mi nd bk : Nat → Nat} {pt sf : Nat → Bool} (hN : N ≤ 10) (hT : T ≤ 2000) (hM : MR s N st bg mi nd bk pt sf) (hW : WF N T st bg mi nd bk sf) (hi : i0 < N) (hr : st i0 = 1) (hQ : ∀ t, FlM s t N T (cnt (pA st sf) N) (rho (eb st bg) N (pA st sf)) (ens T (fun k => bk (rho (eb st bg) N (pA st sf) k))) → Q [.int 1] (rep t)) : nm_call 60 126 [.ref 40, .int (nI i0)] (rep s) Q := by
  obtain ⟨hm1, hm2, hm3⟩ := hM
  have hst : ∀ k, k < N → st k < 2147483648 := fun k hk => by have := (hW k hk).2.2.2.1; omega
  have g := (idx_iff (j := i0) (n := N) (by omega) (by omega)).mpr hi
  have u3 : vp_in (nI i0) 10 := vp_in' (by omega) (by omega)
  have u4 : (nI i0).toNatClampNeg = i0 := i_nIc (by omega)
  have g0 : vp_in (0 : Int32) 10 := vp_in' (a := 0) (by omega) (by omega)
  have g0' : (0 : Int32).toNatClampNeg = 0 := by decide
  have e59 : ga s 59 i0 = 1 := by rw [(hm2 i0 hi).1, hr]; rfl
  have hcg : ∀ i, i < N → notK (ga s 59) (ga s 61) i = pA st sf i ∧ ga s 60 i = eb st bg i := by
    intro i hi
    refine ⟨?_, (hm2 i hi).2.1⟩
    unfold pA notK
    have a1 : ga s 59 i = 1 ↔ st i = 1 := by rw [(hm2 i hi).1, nI_1', nI_eq' (hst i hi) (by omega)]
    have a2 : ga s 59 i = 2 ↔ st i = 2 := by rw [(hm2 i hi).1, nI_2', nI_eq' (hst i hi) (by omega)]
    have a3 : ga s 61 i = 0 ↔ sf i = false := by rw [(hm2 i hi).2.2.1, b2_0]
    exact decide_eq_decide.mpr (by rw [a1, a2, a3])
  have hrc := fun k => (rho_cong hcg k).2
  have hcc : cnt (notK (ga s 59) (ga s 61)) N = cnt (pA st sf) N := cnt_cong (fun i hi => (hcg i hi).1)
  have hre : rho (ga s 60) N (notK (ga s 59) (ga s 61)) = rho (eb st bg) N (pA st sf) := funext hrc
  have hin : ∀ j, j < cnt (pA st sf) N → rho (eb st bg) N (pA st sf) j < N := fun j hj => (pk_is hj).1
  have hinj : ∀ j k, j < cnt (pA st sf) N → k < cnt (pA st sf) N → rho (eb st bg) N (pA st sf) j = rho (eb st bg) N (pA st sf) k → j = k := fun j k hj hk e => pk_inj hj hk e
  have hbk : ∀ k, k < cnt (pA st sf) N → bk (rho (eb st bg) N (pA st sf) k) ≤ 60 := fun k hk => (hW _ (hin k hk)).2.2.1
  have hRp : 0 < cnt (pA st sf) N := by
    rcases Nat.eq_zero_or_pos (cnt (pA st sf) N) with z | z
    · have := (cnt_pos _ N).mp z i0 hi
      unfold pA at this
      rw [hr] at this
      simp at this
    · exact z
  have loop := c_MfailLoop (d := 59) (s := si s 4006 (gi s 4006 + 1)) (Q := Q) (N := N) (lv := gi s 4035) (fv := nI i0) hN (by simp only [gi_si, ga_sa, gi_sa, gi_sb, gi_sp, ga_si, ga_sb, ga_sp, gb_si, gb_sa, gb_sb, gb_sp, gp_si, gp_sa, gp_sb, gp_sp, if_true, if_false, ↓reduceIte, Nat.reduceEqDiff]; exact hm1)
  simp only [gi_si, ga_sa, gi_sa, gi_sb, gi_sp, ga_si, ga_sb, ga_sp, gb_si, gb_sa, gb_sb, gb_sp, gp_si, gp_sa, gp_sb, gp_sp, if_true, if_false, ↓reduceIte, Nat.reduceEqDiff] at loop
  simp only [hre, hcc] at loop
  have hcn := cnt_le (pA st sf) N
  generalize hR : cnt (pA st sf) N = R at *
  generalize hro : rho (eb st bg) N (pA st sf) = ro at *
  have hs0 : si (si s 4006 (gi s 4006 + 1)) 4034 0 = mS (si s 4006 (gi s 4006 + 1)) (ga s 59) (ga s 60) (ga s 62) (nI 0) (gi s 4035) := by
    have h := mS_self (si s 4006 (gi s 4006 + 1))
    simp only [gi_si, ga_sa, gi_sa, gi_sb, gi_sp, ga_si, ga_sb, ga_sp, gb_si, gb_sa, gb_sb, gb_sp, gp_si, gp_sa, gp_sb, gp_sp, if_true, if_false, ↓reduceIte, Nat.reduceEqDiff] at h
    rw [← mS_r (rv := gi s 4034), h]
    rfl
  have loop2 := fun hq => loop hq R 0 (ga s 59) (ga s 62) .null .null .null (by omega) (fun i => ⟨fun ⟨j, hj, _⟩ => by omega, fun _ => rfl⟩) (fun j hj => by omega)
  simp only [e_X9_fail, r_X9_fail_0, r_X9_fail_1, r_X9_fail_2, r_X9_fail_5, r_X9_fail_8, r_X9_fail_9, r_X9_fail_12, r_X9_fail_13, r_X9_fail_14, r_X9_fail_15, r_X9_fail_18, r_X9_fail_19, r_X9_fail_20, r_X9_fail_21, r_X9_fail_22, r_X9_fail_25, r_X9_fail_26, r_X9_fail_27, r_X9_fail_30, r_X9_fail_31, r_X9_fail_32, ob_40, gt_40_0, pt_40_0, gt_40_1, pt_40_1, gt_40_2, pt_40_2, gt_40_3, pt_40_3, gt_40_4, pt_40_4, gt_40_5, pt_40_5, gt_40_6, pt_40_6, gt_40_7, pt_40_7, gt_40_8, pt_40_8, gt_40_9, pt_40_9, gt_40_10, pt_40_10, gt_40_11, gt_40_12, gt_40_13, gt_40_14, gt_40_15, gt_40_16, gt_40_17, gt_40_18, gt_40_19, gt_40_20, gt_40_21, gt_40_22, pt_40_22, gt_40_23, gt_40_24, gt_40_25, gt_40_26, gt_40_27, gt_40_28, gt_40_29, gt_40_30, gt_40_31, gt_40_32, gt_40_33, gt_40_34, pt_40_34, gt_40_35, pt_40_35, gt_40_36, gt_40_37, gt_40_38, gt_40_39, gt_40_40, gt_40_41, pt_40_41, gt_40_42, pt_40_42, gt_40_43, pt_40_43, gt_40_44, pt_40_44, gt_40_45, pt_40_45, gt_40_46, pt_40_46, gt_40_47, ad_59, as_59, List.cons_append, List.nil_append, List.append_nil, if_true, if_false, true_and, and_true, true_or, or_true, nm_b_some, gi_si, ga_sa, gi_sa, gi_sb, gi_sp, ga_si, ga_sb, ga_sp, gb_si, gb_sa, gb_sb, gb_sp, gp_si, gp_sa, gp_sb, gp_sp, if_true, if_false, ↓reduceIte, Nat.reduceEqDiff, c_MisStage, b_0, hm1, g, u3, u4, e59, and_self, not_true_eq_false, hs0]
  refine loop2 (fun f w hf hw y1 y2 y3 => ?_)
  have b0 := hin 0 hRp
  have g3 : vp_in (nI (ro 0)) 10 := vp_in' (by omega) (by omega)
  have g4 : (nI (ro 0)).toNatClampNeg = ro 0 := i_nIc (by omega)
  have hb0 := (hm2 _ b0).2.2.2.2.2.1
  simp only [r_X9_fail_154, r_X9_fail_155, r_X9_fail_156, r_X9_fail_159, r_X9_fail_160, r_X9_fail_163, r_X9_fail_164, r_X9_fail_165, r_X9_fail_166, r_X9_fail_169, r_X9_fail_170, ob_40, gt_40_0, pt_40_0, gt_40_1, pt_40_1, gt_40_2, pt_40_2, gt_40_3, pt_40_3, gt_40_4, pt_40_4, gt_40_5, pt_40_5, gt_40_6, pt_40_6, gt_40_7, pt_40_7, gt_40_8, pt_40_8, gt_40_9, pt_40_9, gt_40_10, pt_40_10, gt_40_11, gt_40_12, gt_40_13, gt_40_14, gt_40_15, gt_40_16, gt_40_17, gt_40_18, gt_40_19, gt_40_20, gt_40_21, gt_40_22, pt_40_22, gt_40_23, gt_40_24, gt_40_25, gt_40_26, gt_40_27, gt_40_28, gt_40_29, gt_40_30, gt_40_31, gt_40_32, gt_40_33, gt_40_34, pt_40_34, gt_40_35, pt_40_35, gt_40_36, gt_40_37, gt_40_38, gt_40_39, gt_40_40, gt_40_41, pt_40_41, gt_40_42, pt_40_42, gt_40_43, pt_40_43, gt_40_44, pt_40_44, gt_40_45, pt_40_45, gt_40_46, pt_40_46, gt_40_47, ad_57, as_57, ad_62, as_62, List.cons_append, List.nil_append, List.append_nil, if_true, if_false, true_and, and_true, true_or, or_true, nm_b_some, gi_mS, ga_mS, mS_l, gi_si, ga_sa, gi_sa, gi_sb, gi_sp, ga_si, ga_sb, ga_sp, gb_si, gb_sa, gb_sb, gb_sp, gp_si, gp_sa, gp_sb, gp_sp, if_true, if_false, ↓reduceIte, Nat.reduceEqDiff, g0, g0', hw 0 hRp, g3, g4, hb0, e_X9_settleBack]
  have hl0 : bk (ro 0) = lfs R (bk (ro 0)) ro bk 0 := by unfold lfs; rw [if_neg (by omega), if_pos rfl]
  have hlj : ∀ j, j < R → lfs R (bk (ro 0)) ro bk j = bk (ro j) := by
    intro j hj
    unfold lfs
    rw [if_neg (by omega)]
    by_cases e : j = 0
    · rw [if_pos e, e]
    · rw [if_neg e]
  have st0 : ∀ l : Nat, l = lfs R (bk (ro 0)) ro bk 0 → rep (mS (si s 4006 (gi s 4006 + 1)) f (ga s 60) w (nI R) (nI l)) = rep (mS (si s 4006 (gi s 4006 + 1)) f (ga s 60) w (nI R) (nI (lfs R (bk (ro 0)) ro bk 0))) := by
    intro l hl
    rw [← hl]
  rw [st0 _ hl0]
  refine c_settle (s := si s 4006 (gi s 4006 + 1)) (ro := ro) (bk := bk) (by omega) (l := bk (ro 0)) (by have := hbk 0 hRp; omega) (fun j hj => ⟨by have := hin j hj; omega, by simp only [gi_si, ga_sa, gi_sa, gi_sb, gi_sp, ga_si, ga_sb, ga_sp, gb_si, gb_sa, gb_sb, gb_sp, gp_si, gp_sa, gp_sb, gp_sp, if_true, if_false, ↓reduceIte, Nat.reduceEqDiff]; exact (hm2 _ (hin j hj)).2.2.2.2.2.1, hbk j hj⟩) R 0 w f (ga s 60) .null (by omega) (fun j hj => hw j hj) (fun K w' hK0 hK hz hnz hw' => ?_)
  have hen : ∀ j, j < K → ens T (fun k => bk (ro k)) j = T := by
    intro j
    induction j with
    | zero =>
      intro hj
      have := hz 0 (Nat.le_refl 0) hj
      rw [hlj 0 (by omega)] at this
      show T + bk (ro 0) = T
      omega
    | succ j ih =>
      intro hj
      have h1 := ih (by omega)
      have h2 := hz (j + 1) (Nat.zero_le _) hj
      rw [hlj (j + 1) (by omega)] at h2
      show ens T (fun k => bk (ro k)) j + bk (ro (j + 1)) = T
      omega
  have henK : K < R → ens T (fun k => bk (ro k)) K = T + bk (ro K) := by
    intro hKR
    match K, hen with
    | 0, _ => rfl
    | K' + 1, hen =>
      show ens T (fun k => bk (ro k)) K' + bk (ro (K' + 1)) = _
      rw [hen K' (by omega)]
  simp only [r_X9_fail_173, r_X9_fail_174, List.cons_append, List.nil_append, List.append_nil, if_true, if_false, true_and, and_true, true_or, or_true, nm_b_some, z1]
  refine hQ _ ⟨K, hK, fun j hj => by rw [hen j hj]; exact Nat.le_refl _, fun hKR => ?_, fun j hj => ?_, fun j h1 h2 => ?_, fun i hn => ?_, ⟨?_, ?_, fun k hk => ?_⟩, ?_, ?_⟩
  · have := hnz hKR
    rw [hlj K hKR] at this
    rw [henK hKR]
    omega
  · rw [ga_mS, ga_mS]
    simp only [gi_si, ga_sa, gi_sa, gi_sb, gi_sp, ga_si, ga_sb, ga_sp, gb_si, gb_sa, gb_sb, gb_sp, gp_si, gp_sa, gp_sb, gp_sp, if_true, if_false, ↓reduceIte, Nat.reduceEqDiff, Nat.sub_zero]
    have hh : ∃ j', 0 ≤ j' ∧ j' < 0 + K ∧ ro j' = ro j := ⟨j, by omega, by omega, rfl⟩
    exact ⟨(zs_is ro 0 K 0 f (ro j)).1 hh, (zs_is ro (-1) K 0 (ga s 60) (ro j)).1 hh⟩
  · rw [ga_mS, ga_mS]
    simp only [gi_si, ga_sa, gi_sa, gi_sb, gi_sp, ga_si, ga_sb, ga_sp, gb_si, gb_sa, gb_sb, gb_sp, gp_si, gp_sa, gp_sb, gp_sp, if_true, if_false, ↓reduceIte, Nat.reduceEqDiff, Nat.sub_zero]
    have hh : ¬ ∃ j', 0 ≤ j' ∧ j' < 0 + K ∧ ro j' = ro j := by
      rintro ⟨j', a1, a2, a3⟩
      have := hinj j' j (by omega) h2 a3
      omega
    exact ⟨((zs_is ro 0 K 0 f (ro j)).2 hh).trans ((hf _).1 ⟨j, h2, rfl⟩), (zs_is ro (-1) K 0 (ga s 60) (ro j)).2 hh⟩
  · rw [ga_mS, ga_mS]
    simp only [gi_si, ga_sa, gi_sa, gi_sb, gi_sp, ga_si, ga_sb, ga_sp, gb_si, gb_sa, gb_sb, gb_sp, gp_si, gp_sa, gp_sb, gp_sp, if_true, if_false, ↓reduceIte, Nat.reduceEqDiff, Nat.sub_zero]
    have hh : ¬ ∃ j', 0 ≤ j' ∧ j' < 0 + K ∧ ro j' = i := by
      rintro ⟨j', a1, a2, a3⟩
      exact hn ⟨j', by omega, a3⟩
    exact ⟨((zs_is ro 0 K 0 f i).2 hh).trans ((hf i).2 hn), (zs_is ro (-1) K 0 (ga s 60) i).2 hh⟩
  · rw [gi_mS]; simp only [gi_si, ga_sa, gi_sa, gi_sb, gi_sp, ga_si, ga_sb, ga_sp, gb_si, gb_sa, gb_sb, gb_sp, gp_si, gp_sa, gp_sb, gp_sp, if_true, if_false, ↓reduceIte, Nat.reduceEqDiff]
  · rw [gi_mS]; simp only [gi_si, ga_sa, gi_sa, gi_sb, gi_sp, ga_si, ga_sb, ga_sp, gb_si, gb_sa, gb_sb, gb_sp, gp_si, gp_sa, gp_sb, gp_sp, if_true, if_false, ↓reduceIte, Nat.reduceEqDiff]
    congr 1
    by_cases e : K = R
    · rw [if_pos (by omega)]
      unfold lfs
      rw [if_pos e]
    · rw [if_neg (by omega), hlj K (by omega), Nat.zero_add, henK (by omega)]
      omega
  · rw [ga_mS]; simp only [gi_si, ga_sa, gi_sa, gi_sb, gi_sp, ga_si, ga_sb, ga_sp, gb_si, gb_sa, gb_sb, gb_sp, gp_si, gp_sa, gp_sb, gp_sp, if_true, if_false, ↓reduceIte, Nat.reduceEqDiff]; exact hw' k (by omega)
  · unfold mS
    exact (((((Fr.rf.si (by decide)).sa (by decide)).sa (by decide)).sa (by decide)).si (by decide)).si (by decide)
  · rw [gi_mS]; simp only [gi_si, ga_sa, gi_sa, gi_sb, gi_sp, ga_si, ga_sb, ga_sp, gb_si, gb_sa, gb_sb, gb_sp, gp_si, gp_sa, gp_sb, gp_sp, if_true, if_false, ↓reduceIte, Nat.reduceEqDiff]
theorem st_fail {s : nm_S} (x : Int32) (h : IvS s) : ∃ v s1 s2, Runs 82 [.ref 0, .int x] s v s1 ∧ Runs 126 [.ref 40, .int x] s1 v s2 ∧ Fr [2104, 4006, 4034, 4035] [22, 23, 24, 29, 59, 60, 62] s s2 ∧ IvS s2 := by
  classical
  have hI := h
  obtain ⟨N, T, r, st, bg, mi, nd, bk, pt, sf, ro0, en0, ⟨h1, h2⟩, ⟨h3, h4⟩, h5, hX, hM, hW, hB, hMB, hXB⟩ := h
  have h10 : ¬ (1 : Int32) = 0 := by decide
  have hst : ∀ k, k < N → st k < 2147483648 := fun k hk => by have := (hW k hk).2.2.2.1; omega
  by_cases hx : 0 ≤ x ∧ x ≤ nI N - 1
  · obtain ⟨i0, hi, rfl⟩ := idx_of (by omega) hx
    have u3 : vp_in (nI i0) 10 := vp_in' (by omega) (by omega)
    have u4 : (nI i0).toNatClampNeg = i0 := i_nIc (by omega)
    by_cases hr : st i0 = 1
    · have hno : ∀ i, i < N → st i ≠ 3 := by
        intro i hi' z
        obtain ⟨k, hk, -⟩ := hB.2.2.2.2.1 i hi' z
        exact hB.2.2.2.2.2 (by omega) i0 hi hr
      have kX : ∃ x t, Runs 82 [.ref 0, .int (nI i0)] s x t ∧ (x = 1 ∧ FlX s t N T (cnt (pA st sf) N) (rho (eb st bg) N (pA st sf)) (ens T (fun k => bk (rho (eb st bg) N (pA st sf) k)))) := by
        refine Runs_of ?_
        simp only [e_X8_fail, r_X8_fail_0, r_X8_fail_1, r_X8_fail_2, r_X8_fail_5, r_X8_fail_8, r_X8_fail_9, r_X8_fail_12, r_X8_fail_13, r_X8_fail_14, r_X8_fail_17, ob_0, gt_0_0, gt_0_1, gt_0_2, gt_0_3, gt_0_4, gt_0_5, gt_0_6, gt_0_7, gt_0_8, gt_0_9, pt_0_9, gt_0_10, pt_0_10, gt_0_11, pt_0_11, ob_21, gt_21_0, gt_21_1, gt_21_2, gt_21_3, pt_21_3, gt_21_4, pt_21_4, gt_21_5, gt_21_6, gt_21_7, gt_21_8, gt_21_9, gt_21_10, List.cons_append, List.nil_append, List.append_nil, if_true, if_false, true_and, and_true, true_or, or_true, nm_b_some, c_isStage, b_0, hX.1, hx, h3, and_self, not_true_eq_false]
        refine c_takeBack h1 h2 hX hW hno hi hr (fun t ht => ?_)
        simp only [r_X8_fail_20, r_X8_fail_23, r_X8_fail_24, r_X8_fail_27, r_X8_fail_28, List.cons_append, List.nil_append, List.append_nil, if_true, if_false, true_and, and_true, true_or, or_true, nm_b_some, h10, z1]
        exact ⟨_, t, rfl, rfl, rfl, ht⟩
      obtain ⟨x1, t1, r1, rfl, x2, x3, x4, x5, x6⟩ := kX
      have hM1 : MR t1 N st bg mi nd bk pt sf := by
        refine ⟨(x2.1 4004 (by decide)).trans hM.1, ?_, ?_⟩
        · intro i hi
          rw [x2.2.1 59 (by decide), x2.2.1 60 (by decide), x2.2.1 61 (by decide), x2.2.1 55 (by decide), x2.2.1 56 (by decide), x2.2.1 57 (by decide), x2.2.1 58 (by decide)]
          exact hM.2.1 i hi
        · rw [x2.2.1 59 (by decide), x2.2.1 61 (by decide)]
          exact hM.2.2
      have kM : ∃ x t, Runs 126 [.ref 40, .int (nI i0)] t1 x t ∧ (x = 1 ∧ FlM t1 t N T (cnt (pA st sf) N) (rho (eb st bg) N (pA st sf)) (ens T (fun k => bk (rho (eb st bg) N (pA st sf) k)))) := by
        refine Runs_of ?_
        exact c_Mfail h1 h2 hM1 hW hi hr (fun t ht => ⟨_, t, rfl, rfl, rfl, ht⟩)
      obtain ⟨x1', t2, r2, rfl, K, m1, m2, m3, m4, m5, m6, ⟨m7, m8, m9⟩, m10, m11⟩ := kM
      have hfr : Fr [2104, 4006, 4034, 4035] [22, 23, 24, 29, 59, 60, 62] s t2 := (x2.mono (by decide) (by decide)).tr (m10.mono (by decide) (by decide))
      refine ⟨_, _, _, r1, r2, hfr, ?_⟩
      -- the order
      have hin : ∀ j, j < cnt (pA st sf) N → rho (eb st bg) N (pA st sf) j < N := fun j hj => (pk_is hj).1
      have hp : ∀ j, j < cnt (pA st sf) N → pA st sf (rho (eb st bg) N (pA st sf) j) = true := fun j hj => pk_p hj
      have hinj : ∀ j k, j < cnt (pA st sf) N → k < cnt (pA st sf) N → rho (eb st bg) N (pA st sf) j = rho (eb st bg) N (pA st sf) k → j = k := fun j k hj hk e => pk_inj hj hk e
      have hall : ∀ i, i < N → pA st sf i = true → ∃ j, j < cnt (pA st sf) N ∧ rho (eb st bg) N (pA st sf) j = i := fun i hi hp => pk_all hi hp
      have hord : ∀ j k, j < k → k < cnt (pA st sf) N → ltr (eb st bg) (rho (eb st bg) N (pA st sf) j) (rho (eb st bg) N (pA st sf) k) := fun j k hjk hk => pk_ord hjk hk
      have hbk : ∀ k, k < cnt (pA st sf) N → bk (rho (eb st bg) N (pA st sf) k) ≤ 60 := fun k hk => (hW _ (hin k hk)).2.2.1
      have hcn := cnt_le (pA st sf) N
      generalize hR : cnt (pA st sf) N = R at *
      generalize hro : rho (eb st bg) N (pA st sf) = ro at *
      have hpa : ∀ i, i < N → pA st sf i = true → (st i = 1 ∨ st i = 2) ∧ sf i = false ∧ bg i ≤ T := by
        intro i hi z
        unfold pA at z
        rw [decide_eq_true_eq] at z
        have w := hW i hi
        rcases z with z | z
        · refine ⟨Or.inl z, ?_, (w.2.2.2.2.1 z).1⟩
          cases hsf : sf i with
          | false => rfl
          | true => have := w.2.2.2.2.2.2.2 hsf; omega
        · exact ⟨Or.inr z.1, z.2, by have := w.2.2.2.2.2.1 z.1; omega⟩
      have henle : ∀ j, j < R → ens T (fun k => bk (ro k)) j ≤ 2600 := by
        intro j hj
        have := mns_le T (fun k => bk (ro k)) hbk (j + 1) (by omega)
        rw [mns_ens] at this
        omega
      have hlate : ∀ j, K ≤ j → j < R → T < ens T (fun k => bk (ro k)) j := by
        intro j hj1 hj2
        have a := m3 (by omega)
        have b := ens_mono T (fun k => bk (ro k)) K (j - K)
        rw [show K + (j - K) = j by omega] at b
        omega
      -- the new states
      obtain ⟨st', hst'⟩ : ∃ st' : Nat → Nat, ∀ i, i < N → ((∃ j, j < K ∧ ro j = i ∧ st' i = 0 ∧ pA st sf i = true) ∨ (∃ j, K ≤ j ∧ j < R ∧ ro j = i ∧ st' i = 3 ∧ pA st sf i = true) ∨ ((¬ ∃ j, j < R ∧ ro j = i) ∧ st' i = st i ∧ pA st sf i = false)) := by
        refine ⟨fun i => if ∃ j, j < K ∧ ro j = i then 0 else if pA st sf i = true then 3 else st i, fun i hi => ?_⟩
        dsimp only
        by_cases c1 : ∃ j, j < K ∧ ro j = i
        · rw [if_pos c1]
          obtain ⟨j, j1, j2⟩ := c1
          refine Or.inl ⟨j, j1, j2, rfl, ?_⟩
          rw [← j2]
          exact hp j (by omega)
        · rw [if_neg c1]
          by_cases c2 : pA st sf i = true
          · rw [if_pos c2]
            obtain ⟨j, j1, j2⟩ := hall i hi c2
            refine Or.inr (Or.inl ⟨j, ?_, j1, j2, rfl, c2⟩)
            rcases Nat.lt_or_ge j K with z | z
            · exact absurd ⟨j, z, j2⟩ c1
            · exact z
          · rw [if_neg c2]
            refine Or.inr (Or.inr ⟨?_, rfl, by simpa using c2⟩)
            rintro ⟨j, j1, j2⟩
            apply c2
            rw [← j2]
            exact hp j j1
      refine ⟨N, T, R - K, st', bg, mi, nd, bk, pt, sf, fun k => ro (k + K), fun k => ens T (fun k => bk (ro k)) (k + K), ⟨h1, h2⟩, ⟨?_, ?_⟩, ?_, ?_, ?_, ?_, ?_, ?_, ?_⟩
      · rw [hfr.1 9 (by decide)]; exact h3
      · rw [hfr.1 4000 (by decide)]; exact h4
      · rw [m10.1 2104 (by decide), x3, m11, x2.1 4006 (by decide), h5]
      · refine ⟨by rw [hfr.1 2103 (by decide)]; exact hX.1, fun i hi => ?_⟩
        obtain ⟨a1, a2, a3, a4, a5, a6, a7⟩ := hX.2 i hi
        rw [hfr.2.1 25 (by decide), hfr.2.1 26 (by decide), hfr.2.1 27 (by decide), hfr.2.1 28 (by decide), m10.2.1 22 (by decide), m10.2.1 23 (by decide), m10.2.1 24 (by decide)]
        refine (fun (q : ga t1 22 i = nI (st' i) ∧ ga t1 23 i = eb st' bg i ∧ ga t1 24 i = b2 (sf i)) => ⟨q.1, q.2.1, q.2.2, a4, a5, a6, a7⟩) ?_
        unfold eb
        unfold eb at a2
        rcases hst' i hi with ⟨j, j1, j2, j3, j4⟩ | ⟨j, j0, j1, j2, j3, j4⟩ | ⟨j1, j3, j4⟩
        · have y := x4 j (by omega) (m2 j j1)
          rw [j2] at y
          rw [y.1, y.2.1, y.2.2, (hpa i hi j4).2.1, if_pos j3, j3]
          exact ⟨rfl, rfl, rfl⟩
        · have y := x5 j j1 (hlate j j0 j1)
          rw [j2] at y
          have := (hpa i hi j4).1
          rw [y.1, y.2.1, y.2.2.1, a2, a3, if_neg (by omega), if_neg (by omega), j3]
          exact ⟨rfl, rfl, rfl⟩
        · have y := x6 i hi j1
          rw [y.1, y.2.1, y.2.2, a1, a2, a3, j3]
          exact ⟨rfl, rfl, rfl⟩
      · refine ⟨by rw [hfr.1 4004 (by decide)]; exact hM.1, fun i hi => ?_, fun i hi1 hi2 => ?_⟩
        · obtain ⟨a1, a2, a3, a4, a5, a6, a7⟩ := hM1.2.1 i hi
          rw [m10.2.1 55 (by decide), m10.2.1 56 (by decide), m10.2.1 57 (by decide), m10.2.1 58 (by decide), m10.2.1 61 (by decide)]
          refine (fun (q : ga t2 59 i = nI (st' i) ∧ ga t2 60 i = eb st' bg i) => ⟨q.1, q.2, a3, a4, a5, a6, a7⟩) ?_
          unfold eb
          unfold eb at a2
          rcases hst' i hi with ⟨j, j1, j2, j3, j4⟩ | ⟨j, j0, j1, j2, j3, j4⟩ | ⟨j1, j3, j4⟩
          · have y := m4 j j1
            rw [j2] at y
            rw [y.1, y.2, if_pos j3, j3]
            exact ⟨rfl, rfl⟩
          · have y := m5 j j0 j1
            rw [j2] at y
            have := (hpa i hi j4).1
            rw [y.1, y.2, a2, if_neg (by omega), if_neg (by omega), j3]
            exact ⟨rfl, rfl⟩
          · have y := m6 i j1
            rw [y.1, y.2, a1, a2, j3]
            exact ⟨rfl, rfl⟩
        · have y := m6 i (by
            rintro ⟨j, j1, j2⟩
            have := hin j j1
            omega)
          rw [y.1, m10.2.1 61 (by decide)]
          exact hM1.2.2 i hi1 hi2
      · intro i hi
        obtain ⟨a1, a2, a3, a4, a5, a6, a7, a8⟩ := hW i hi
        rcases hst' i hi with ⟨j, j1, j2, j3, j4⟩ | ⟨j, j0, j1, j2, j3, j4⟩ | ⟨j1, j3, j4⟩
        · refine ⟨a1, a2, a3, by omega, fun z => by omega, fun z => by omega, fun z => by omega, fun z => ?_⟩
          rw [(hpa i hi j4).2.1] at z; cases z
        · refine ⟨a1, a2, a3, by omega, fun z => by omega, fun z => by omega, fun _ => (hpa i hi j4).2.2, fun z => ?_⟩
          rw [(hpa i hi j4).2.1] at z; cases z
        · rw [j3]
          exact ⟨a1, a2, a3, a4, a5, a6, a7, a8⟩
      · refine ⟨by omega, fun k hk => ?_, fun k hk => ?_, fun j k hjk hk => ?_, fun i hi hs => ?_, fun h0 i hi z => ?_⟩
        · refine ⟨hin _ (by omega), ?_, hlate _ (by omega) (by omega), henle _ (by omega)⟩
          rcases hst' _ (hin (k + K) (by omega)) with ⟨j, j1, j2, j3, j4⟩ | ⟨j, j0, j1, j2, j3, j4⟩ | ⟨j1, j3, j4⟩
          · have := hinj j (k + K) (by omega) (by omega) j2
            omega
          · exact j3
          · exact absurd ⟨k + K, by omega, rfl⟩ j1
        · show ens T (fun k => bk (ro k)) (k + 1 + K) = ens T (fun k => bk (ro k)) (k + K) + bk (ro (k + 1 + K))
          rw [show k + 1 + K = (k + K) + 1 by omega]
          rfl
        · have y := hord (j + K) (k + K) (by omega) (by omega)
          have q1 := hpa _ (hin (j + K) (by omega)) (hp (j + K) (by omega))
          have q2 := hpa _ (hin (k + K) (by omega)) (hp (k + K) (by omega))
          unfold ltr at y
          unfold ltN
          have e1 : (eb st bg (ro (j + K))).toInt = bg (ro (j + K)) := by
            unfold eb
            rw [if_neg (by omega), i_nI (by omega)]
          have e2 : (eb st bg (ro (k + K))).toInt = bg (ro (k + K)) := by
            unfold eb
            rw [if_neg (by omega), i_nI (by omega)]
          rw [e1, e2] at y
          dsimp only
          omega
        · rcases hst' i hi with ⟨j, j1, j2, j3, j4⟩ | ⟨j, j0, j1, j2, j3, j4⟩ | ⟨j1, j3, j4⟩
          · omega
          · exact ⟨j - K, by omega, by dsimp only; rw [show j - K + K = j by omega]; exact j2⟩
          · exact absurd (j3.symm.trans hs) (hno i hi)
        · rcases hst' i hi with ⟨j, j1, j2, j3, j4⟩ | ⟨j, j0, j1, j2, j3, j4⟩ | ⟨j1, j3, j4⟩
          · omega
          · omega
          · unfold pA at j4
            rw [decide_eq_false_iff_not] at j4
            exact j4 (Or.inl (j3.symm.trans z))
      · exact ⟨m7, m8, m9⟩
      · intro k hk
        rw [m10.2.1 29 (by decide)]
        exact (x5 (k + K) (by omega) (hlate _ (by omega) (by omega))).2.2.2
    · have n1 : ¬ ga s 22 i0 = 1 := by rw [(hX.2 i0 hi).1, nI_1', nI_eq' (hst i0 hi) (by omega)]; exact hr
      have n2 : ¬ ga s 59 i0 = 1 := by rw [(hM.2.1 i0 hi).1, nI_1', nI_eq' (hst i0 hi) (by omega)]; exact hr
      refine ⟨0, s, s, ?_, ?_, Fr.rf, hI⟩
      · intro Q hQ
        simp only [e_X8_fail, r_X8_fail_0, r_X8_fail_1, r_X8_fail_2, r_X8_fail_5, r_X8_fail_8, r_X8_fail_9, r_X8_fail_12, r_X8_fail_13, r_X8_fail_14, r_X8_fail_17, r_X8_fail_20, r_X8_fail_23, r_X8_fail_24, r_X8_fail_27, r_X8_fail_28, e_X5_takeBack, r_X5_takeBack_0, r_X5_takeBack_1, r_X5_takeBack_4, r_X5_takeBack_5, r_X5_takeBack_6, r_X5_takeBack_7, r_X5_takeBack_10, r_X5_takeBack_11, ob_0, gt_0_0, gt_0_1, gt_0_2, gt_0_3, gt_0_4, gt_0_5, gt_0_6, gt_0_7, gt_0_8, gt_0_9, pt_0_9, gt_0_10, pt_0_10, gt_0_11, pt_0_11, ob_21, gt_21_0, gt_21_1, gt_21_2, gt_21_3, pt_21_3, gt_21_4, pt_21_4, gt_21_5, gt_21_6, gt_21_7, gt_21_8, gt_21_9, gt_21_10, ad_22, as_22, List.cons_append, List.nil_append, List.append_nil, if_true, if_false, true_and, and_true, true_or, or_true, nm_b_some, c_isStage, b_0, hX.1, hx, h3, and_self, not_true_eq_false, u3, u4, n1]
        exact hQ
      · intro Q hQ
        simp only [e_X9_fail, r_X9_fail_0, r_X9_fail_1, r_X9_fail_2, r_X9_fail_5, r_X9_fail_8, r_X9_fail_9, r_X9_fail_12, r_X9_fail_13, r_X9_fail_14, r_X9_fail_15, r_X9_fail_18, r_X9_fail_19, ob_40, gt_40_0, pt_40_0, gt_40_1, pt_40_1, gt_40_2, pt_40_2, gt_40_3, pt_40_3, gt_40_4, pt_40_4, gt_40_5, pt_40_5, gt_40_6, pt_40_6, gt_40_7, pt_40_7, gt_40_8, pt_40_8, gt_40_9, pt_40_9, gt_40_10, pt_40_10, gt_40_11, gt_40_12, gt_40_13, gt_40_14, gt_40_15, gt_40_16, gt_40_17, gt_40_18, gt_40_19, gt_40_20, gt_40_21, gt_40_22, pt_40_22, gt_40_23, gt_40_24, gt_40_25, gt_40_26, gt_40_27, gt_40_28, gt_40_29, gt_40_30, gt_40_31, gt_40_32, gt_40_33, gt_40_34, pt_40_34, gt_40_35, pt_40_35, gt_40_36, gt_40_37, gt_40_38, gt_40_39, gt_40_40, gt_40_41, pt_40_41, gt_40_42, pt_40_42, gt_40_43, pt_40_43, gt_40_44, pt_40_44, gt_40_45, pt_40_45, gt_40_46, pt_40_46, gt_40_47, ad_59, as_59, List.cons_append, List.nil_append, List.append_nil, if_true, if_false, true_and, and_true, true_or, or_true, nm_b_some, c_MisStage, b_0, hM.1, hx, and_self, not_true_eq_false, u3, u4, n2]
        exact hQ
  · refine ⟨0, s, s, ?_, ?_, Fr.rf, hI⟩
    · intro Q hQ
      simp only [e_X8_fail, r_X8_fail_0, r_X8_fail_1, r_X8_fail_2, r_X8_fail_5, r_X8_fail_8, r_X8_fail_9, r_X8_fail_12, r_X8_fail_13, r_X8_fail_14, r_X8_fail_17, r_X8_fail_20, r_X8_fail_23, r_X8_fail_24, r_X8_fail_27, r_X8_fail_28, ob_0, gt_0_0, gt_0_1, gt_0_2, gt_0_3, gt_0_4, gt_0_5, gt_0_6, gt_0_7, gt_0_8, gt_0_9, pt_0_9, gt_0_10, pt_0_10, gt_0_11, pt_0_11, List.cons_append, List.nil_append, List.append_nil, if_true, if_false, true_and, and_true, true_or, or_true, nm_b_some, c_isStage, b_0, hX.1, hx, not_false_eq_true]
      exact hQ
    · intro Q hQ
      simp only [e_X9_fail, r_X9_fail_0, r_X9_fail_1, r_X9_fail_2, r_X9_fail_5, r_X9_fail_8, r_X9_fail_9, r_X9_fail_12, r_X9_fail_13, r_X9_fail_14, r_X9_fail_15, r_X9_fail_18, r_X9_fail_19, ob_40, gt_40_0, pt_40_0, gt_40_1, pt_40_1, gt_40_2, pt_40_2, gt_40_3, pt_40_3, gt_40_4, pt_40_4, gt_40_5, pt_40_5, gt_40_6, pt_40_6, gt_40_7, pt_40_7, gt_40_8, pt_40_8, gt_40_9, pt_40_9, gt_40_10, pt_40_10, gt_40_11, gt_40_12, gt_40_13, gt_40_14, gt_40_15, gt_40_16, gt_40_17, gt_40_18, gt_40_19, gt_40_20, gt_40_21, gt_40_22, pt_40_22, gt_40_23, gt_40_24, gt_40_25, gt_40_26, gt_40_27, gt_40_28, gt_40_29, gt_40_30, gt_40_31, gt_40_32, gt_40_33, gt_40_34, pt_40_34, gt_40_35, pt_40_35, gt_40_36, gt_40_37, gt_40_38, gt_40_39, gt_40_40, gt_40_41, pt_40_41, gt_40_42, pt_40_42, gt_40_43, pt_40_43, gt_40_44, pt_40_44, gt_40_45, pt_40_45, gt_40_46, pt_40_46, gt_40_47, List.cons_append, List.nil_append, List.append_nil, if_true, if_false, true_and, and_true, true_or, or_true, nm_b_some, c_MisStage, b_0, hM.1, hx, not_false_eq_true]
      exact hQ
