/-! fault and rule on both sides. -/
theorem rdN_pre {e : rE} {T : Nat → Int32} (k : Nat) : ∀ (j p : Nat) (a c : rA), rdN e T (j + k) p a = some c → ∃ b, rdN e T j p a = some b ∧ rdN e T k (p + j) b = some c
  | 0, p, a, c, h => ⟨a, rfl, by rw [Nat.zero_add] at h; exact h⟩
  | j + 1, p, a, c, h => by
    rw [show j + 1 + k = (j + k) + 1 by omega, rdN] at h
    cases hs : stp e (T p) a with
    | none => rw [hs] at h; cases h
    | some b =>
      rw [hs] at h
      dsimp only at h
      obtain ⟨b', h1, h2⟩ := rdN_pre k j (p + 1) b c h
      refine ⟨b', ?_, ?_⟩
      · rw [rdN, hs]; exact h1
      · rw [show p + (j + 1) = p + 1 + j by omega]; exact h2
theorem rdB_no {e : rE} {T : Nat → Int32} {n q r : Nat} {a c : rA} (h : rdB e T n 0 q a) (hc : rdG e T 0 r a c) (hr : r ≤ n) (hq : q < r) : False := by
  obtain ⟨b, h1, h2⟩ := h
  obtain ⟨m, rfl⟩ : ∃ m, r = q + (m + 1) := ⟨r - q - 1, by omega⟩
  obtain ⟨b', g1, g2⟩ := rdN_pre (m + 1) q 0 a c hc.2
  have h3 := h1.2
  rw [Nat.sub_zero, g1] at h3
  cases h3
  rcases h2 with ⟨h4, h5⟩ | ⟨h4, h5⟩
  · rw [Nat.zero_add, rdN, h5] at g2
    cases g2
  · omega
theorem BDt_uniq {T : Nat → Int32} {n q q' : Nat} (h : BDt T n 0 0 q) (h' : BDt T n 0 0 q') : q = q' := by
  obtain ⟨h1, h2, h3⟩ := h
  obtain ⟨h1', h2', h3'⟩ := h'
  have g := h3 (fun x => x) 0 0 0 0 (fun _ => false) (fun _ => true) rfl
  have g' := h3' (fun x => x) 0 0 0 0 (fun _ => false) (fun _ => true) rfl
  rcases Nat.lt_trichotomy q q' with z | z | z
  · obtain ⟨b, g1, -⟩ := g'
    exact absurd (rdB_no g g1 h2' z) id
  · exact z
  · obtain ⟨b, g1, -⟩ := g
    exact absurd (rdB_no g' g1 h2 z) id
theorem BDt_not {T : Nat → Int32} {n q : Nat} {v : rE → Bool} (h : BDt T n 0 0 q) (hv : rdW T n v) : False := by
  obtain ⟨h1, h2, h3⟩ := h
  obtain ⟨b, g1, h4⟩ := h3 (fun x => x) 0 0 0 0 (fun _ => false) (fun _ => true) rfl
  obtain ⟨c, l', g', m', k', P', U', y1, y2, -⟩ := hv (fun x => x) 0 0 0 0 (fun _ => false) (fun _ => true) rfl rfl
  by_cases hq : q < n
  · exact rdB_no ⟨b, g1, h4⟩ y1 (Nat.le_refl n) hq
  · have hqn : q = n := by omega
    subst hqn
    have e1 := g1.2
    rw [y1.2] at e1
    cases e1
    rcases h4 with ⟨z, -⟩ | ⟨-, z⟩
    · omega
    · exact z y2
theorem rd_dich {s : nm_S} {n : Nat} {T : Nat → Int32} (hT : tpv s 4041 65 n T) : (∃ q, BDt T n 0 0 q) ∨ ∃ v, rdW T n v := by
  obtain ⟨v, w', h, -⟩ := nm_out (c_Mfault (D := 0) (Q := fun _ _ => (∃ q, BDt T n 0 0 q) ∨ ∃ v, rdW T n v) hT (fun t q h _ => Or.inl ⟨q, h⟩) (fun t C v h _ _ _ _ _ _ => Or.inr ⟨v, h⟩))
  exact h
theorem IvT_tp {s : nm_S} (h : IvT s) : ∃ n, tpv s 3301 34 n (ga s 34) ∧ tpv s 4041 65 n (ga s 34) ∧ ∀ i, i < n → ∃ b, b < 256 ∧ ga s 34 i = nI b := by
  obtain ⟨n, h1, h2, h3, h4⟩ := h
  have hb : ∀ i, i < n → 1 ≤ ga s 34 i ∧ ga s 34 i ≤ 255 := by
    intro i hi
    obtain ⟨-, b, b1, b2, b3⟩ := h4 i hi
    rw [b3, i_le, i_le, i_l1, i_l255, i_nI (by omega)]
    omega
  refine ⟨n, ⟨h2, h1, fun i hi => ⟨rfl, hb i hi⟩⟩, ⟨h3, h1, fun i hi => ⟨(h4 i hi).1.symm, hb i hi⟩⟩, fun i hi => ?_⟩
  obtain ⟨-, b, -, b2, b3⟩ := h4 i hi
  exact ⟨b, b2, b3⟩
theorem st_fault {s : nm_S} (h : IvT s) : ∃ v s1 s2, Runs 92 [.ref 0] s v s1 ∧ Runs 145 [.ref 40] s1 v s2 ∧ Fr [3706, 3707, 3708, 3709, 3710, 3711, 4042, 4043, 4044, 4045] [38, 39, 67] s s2 := by
  obtain ⟨n, hX, hM, -⟩ := IvT_tp h
  have sX : ∀ {t : nm_S}, FrR s t → Fr [3706, 3707, 3708, 3709, 3710, 3711, 4042, 4043, 4044, 4045] [38, 39, 67] s t := fun hf => Fr.mono hf (by decide) (by decide)
  have sM : ∀ {t u : nm_S}, FrM t u → Fr [3706, 3707, 3708, 3709, 3710, 3711, 4042, 4043, 4044, 4045] [38, 39, 67] t u := fun hf => Fr.mono hf (by decide) (by decide)
  have hMt : ∀ {t : nm_S}, FrR s t → tpv t 4041 65 n (ga s 34) := by
    intro t hf
    unfold tpv at hM ⊢
    rw [hf.1 4041 (by decide), hf.2.1 65 (by decide)]
    exact hM
  rcases rd_dich hM with ⟨q, hq⟩ | ⟨v, hv⟩
  · have kX : ∃ x t, Runs 92 [.ref 0] s x t ∧ (x = nI q ∧ FrR s t) := by
      refine Runs_of ?_
      simp only [e_X8_fault, r_X8_fault_0, r_X8_fault_1, r_X8_fault_4, r_X8_fault_5, r_X8_fault_8, r_X8_fault_11, ob_0, gt_0_0, gt_0_1, gt_0_2, gt_0_3, gt_0_4, gt_0_5, gt_0_6, gt_0_7, gt_0_8, gt_0_9, pt_0_9, gt_0_10, pt_0_10, gt_0_11, pt_0_11, ob_37, gt_37_0, pt_37_0, gt_37_1, pt_37_1, gt_37_2, pt_37_2, gt_37_3, pt_37_3, gt_37_4, gt_37_5, gt_37_6, pt_37_6, gt_37_7, pt_37_7, gt_37_8, pt_37_8, gt_37_9, pt_37_9, gt_37_10, pt_37_10, gt_37_11, pt_37_11, List.cons_append, List.nil_append, List.append_nil, if_true, if_false, true_and, and_true, true_or, or_true, nm_b_some]
      refine c_faultIn isTp_33 hX (Or.inl ⟨q, hq, fun t ht => ?_⟩)
      simp only [r_X8_fault_0, r_X8_fault_1, r_X8_fault_4, r_X8_fault_5, r_X8_fault_8, r_X8_fault_11, List.cons_append, List.nil_append, List.append_nil, if_true, if_false, true_and, and_true, true_or, or_true, nm_b_some]
      exact ⟨_, t, rfl, rfl, rfl, ht⟩
    obtain ⟨x, t, r1, rfl, hf⟩ := kX
    have kM : ∃ x u, Runs 145 [.ref 40] t x u ∧ (x = nI q ∧ FrM t u) := by
      refine Runs_of ?_
      refine c_Mfault (D := 30) (hMt hf) (fun u q' h1 h2 => ?_) (fun u C v' h1 _ _ _ _ _ _ => absurd (BDt_not hq h1) id)
      rw [BDt_uniq hq h1]
      exact ⟨_, u, rfl, rfl, rfl, h2⟩
    obtain ⟨x, u, r2, rfl, hf2⟩ := kM
    exact ⟨_, t, u, r1, r2, (sX hf).tr (sM hf2)⟩
  · have kX : ∃ x t, Runs 92 [.ref 0] s x t ∧ (x = -1 ∧ FrR s t) := by
      refine Runs_of ?_
      simp only [e_X8_fault, r_X8_fault_0, r_X8_fault_1, r_X8_fault_4, r_X8_fault_5, r_X8_fault_8, r_X8_fault_11, ob_0, gt_0_0, gt_0_1, gt_0_2, gt_0_3, gt_0_4, gt_0_5, gt_0_6, gt_0_7, gt_0_8, gt_0_9, pt_0_9, gt_0_10, pt_0_10, gt_0_11, pt_0_11, ob_37, gt_37_0, pt_37_0, gt_37_1, pt_37_1, gt_37_2, pt_37_2, gt_37_3, pt_37_3, gt_37_4, gt_37_5, gt_37_6, pt_37_6, gt_37_7, pt_37_7, gt_37_8, pt_37_8, gt_37_9, pt_37_9, gt_37_10, pt_37_10, gt_37_11, pt_37_11, List.cons_append, List.nil_append, List.append_nil, if_true, if_false, true_and, and_true, true_or, or_true, nm_b_some]
      refine c_faultIn isTp_33 hX (Or.inr ⟨v, hv, fun t b _ ht _ _ => ?_⟩)
      simp only [r_X8_fault_0, r_X8_fault_1, r_X8_fault_4, r_X8_fault_5, r_X8_fault_8, r_X8_fault_11, List.cons_append, List.nil_append, List.append_nil, if_true, if_false, true_and, and_true, true_or, or_true, nm_b_some]
      exact ⟨_, t, rfl, rfl, rfl, ht⟩
    obtain ⟨x, t, r1, rfl, hf⟩ := kX
    have kM : ∃ x u, Runs 145 [.ref 40] t x u ∧ (x = -1 ∧ FrM t u) := by
      refine Runs_of ?_
      refine c_Mfault (D := 30) (hMt hf) (fun u q' h1 h2 => absurd (BDt_not h1 hv) id) (fun u C v' h1 h2 _ _ _ _ _ => ⟨_, u, rfl, rfl, rfl, h2⟩)
    obtain ⟨x, u, r2, rfl, hf2⟩ := kM
    exact ⟨_, t, u, r1, r2, (sX hf).tr (sM hf2)⟩
theorem nar_c2 : ∀ b, b < 256 → vp_nar .char (nI b) = nI b := by decide +kernel
/-- the text goes over -/
theorem c_copy {d : Nat} {s : nm_S} {Q : nm_K} {n : Nat} {T : Nat → Int32} (hT : tpv s 3301 34 n T) (hb : ∀ i, i < n → ∃ b, b < 256 ∧ T i = nI b) (hQ : ∀ f, (∀ i, i < n → f i = T i) → Q [] (rep (si (sa s 36 f) 3501 (nI n)))) : nm_call (d + 1) 62 [.ref 35, .ref 33] (rep s) Q := by
  obtain ⟨h1, h2, h3⟩ := hT
  have loop : ∀ m j f, j + m = n → (∀ i, i < j → f i = T i) → x_X6_copy d Q 2 [.ref 35, .ref 33, .int (nI j)] [] (rep (sa s 36 f)) 0 0 := by
    intro m
    induction m with
    | zero =>
      intro j f hj hf
      have hlt : ¬ nI j < nI n := fun z => absurd ((nI_lt' (by omega) (by omega)).mp z) (by omega)
      rw [r_X6_copy_2]
      simp only [r_X6_copy_3, r_X6_copy_4, r_X6_copy_7, r_X6_copy_28, r_X6_copy_29, r_X6_copy_30, r_X6_copy_33, r_X6_copy_36, ob_33, gt_33_0, gt_33_1, pt_33_1, ad_34, as_34, ob_35, gt_35_0, gt_35_1, pt_35_1, ad_36, as_36, List.cons_append, List.nil_append, List.append_nil, if_true, if_false, true_and, and_true, true_or, or_true, nm_b_some, gi_si, ga_sa, gi_sa, gi_sb, gi_sp, ga_si, ga_sb, ga_sp, gb_si, gb_sa, gb_sb, gb_sp, gp_si, gp_sa, gp_sb, gp_sp, if_true, if_false, ↓reduceIte, Nat.reduceEqDiff, h1, hlt]
      exact hQ f (fun i hi => hf i (by omega))
    | succ m ih =>
      intro j f hj hf
      have hlt : nI j < nI n := (nI_lt' (by omega) (by omega)).mpr (by omega)
      have hv : vp_in (nI j) 100 := vp_in' (by omega) (by omega)
      have hc : (nI j).toNatClampNeg = j := i_nIc (by omega)
      obtain ⟨b, b1, b2⟩ := hb j (by omega)
      have hT := (h3 j (by omega)).1
      have hna := nar_c2 b b1
      rw [r_X6_copy_2]
      simp only [r_X6_copy_0, r_X6_copy_1, r_X6_copy_3, r_X6_copy_4, r_X6_copy_7, r_X6_copy_10, r_X6_copy_11, r_X6_copy_14, r_X6_copy_15, r_X6_copy_16, r_X6_copy_19, r_X6_copy_20, r_X6_copy_21, r_X6_copy_22, r_X6_copy_25, r_X6_copy_28, r_X6_copy_29, r_X6_copy_30, r_X6_copy_33, r_X6_copy_36, ob_33, gt_33_0, gt_33_1, pt_33_1, ad_34, as_34, ob_35, gt_35_0, gt_35_1, pt_35_1, ad_36, as_36, List.cons_append, List.nil_append, List.append_nil, if_true, if_false, true_and, and_true, true_or, or_true, nm_b_some, gi_si, ga_sa, gi_sa, gi_sb, gi_sp, ga_si, ga_sb, ga_sp, gb_si, gb_sa, gb_sb, gb_sp, gp_si, gp_sa, gp_sb, gp_sp, if_true, if_false, ↓reduceIte, Nat.reduceEqDiff, h1, hlt, hv, hc, hT, b2, hna, nI_s, sa_sa]
      refine ih (j + 1) _ (by omega) (fun i hi => ?_)
      by_cases hij : i = j
      · subst hij; rw [upd_at, b2]
      · rw [upd_ne hij]; exact hf i (by omega)
  rw [e_X6_copy]
  simp only [r_X6_copy_0, r_X6_copy_1, List.cons_append, List.nil_append, List.append_nil, if_true, if_false, true_and, and_true, true_or, or_true, nm_b_some]
  have := loop n 0 (ga s 36) (by omega) (fun i hi => by omega)
  rw [sa_self] at this
  exact this
def IvR (s : nm_S) : Prop := (gi s 4046 = 0 ∧ gi s 3501 = 0) ∨ (gi s 4046 = 1 ∧ ∃ n T C v, 0 < n ∧ tpv s 3501 36 n T ∧ rdW T n v ∧ lies (ga s 66) 0 (C ++ [3]) ∧ Blk C v ∧ C.length ≤ 200)
theorem IvR_reads : Reads [3501, 4046] [36, 66] IvR := by
  intro s t hk hc h
  unfold IvR tpv at h ⊢
  rw [hk 3501 (by decide), hk 4046 (by decide), hc 36 (by decide), hc 66 (by decide)]
  exact h
theorem c_Mcodes {s : nm_S} {Q : nm_K} {m : Nat} (hm : gi s 4045 = nI m) (hm2 : m ≤ 240) (hQ : ∀ f, (∀ i, i < m → f i = ga s 67 i) → ∀ z : Value, x_X9_rule 59 Q 43 [.ref 40, z] [] (rep (sa s 66 f)) 0 0) : x_X9_rule 59 Q 17 [.ref 40, .int (nI 0)] [] (rep s) 0 0 := by
  have loop : ∀ k j f, j + k = m → (∀ i, i < j → f i = ga s 67 i) → x_X9_rule 59 Q 17 [.ref 40, .int (nI j)] [] (rep (sa s 66 f)) 0 0 := by
    intro k
    induction k with
    | zero =>
      intro j f hj hf
      have hlt : ¬ nI j < nI m := fun z => absurd ((nI_lt' (by omega) (by omega)).mp z) (by omega)
      rw [r_X9_rule_17]
      simp only [r_X9_rule_18, r_X9_rule_19, r_X9_rule_22, ob_40, gt_40_0, pt_40_0, gt_40_1, pt_40_1, gt_40_2, pt_40_2, gt_40_3, pt_40_3, gt_40_4, pt_40_4, gt_40_5, pt_40_5, gt_40_6, pt_40_6, gt_40_7, pt_40_7, gt_40_8, pt_40_8, gt_40_9, pt_40_9, gt_40_10, pt_40_10, gt_40_11, gt_40_12, gt_40_13, gt_40_14, gt_40_15, gt_40_16, gt_40_17, gt_40_18, gt_40_19, gt_40_20, gt_40_21, gt_40_22, pt_40_22, gt_40_23, gt_40_24, gt_40_25, gt_40_26, gt_40_27, gt_40_28, gt_40_29, gt_40_30, gt_40_31, gt_40_32, gt_40_33, gt_40_34, pt_40_34, gt_40_35, pt_40_35, gt_40_36, gt_40_37, gt_40_38, gt_40_39, gt_40_40, gt_40_41, pt_40_41, gt_40_42, pt_40_42, gt_40_43, pt_40_43, gt_40_44, pt_40_44, gt_40_45, pt_40_45, gt_40_46, pt_40_46, gt_40_47, List.cons_append, List.nil_append, List.append_nil, if_true, if_false, true_and, and_true, true_or, or_true, nm_b_some, gi_si, ga_sa, gi_sa, gi_sb, gi_sp, ga_si, ga_sb, ga_sp, gb_si, gb_sa, gb_sb, gb_sp, gp_si, gp_sa, gp_sb, gp_sp, if_true, if_false, ↓reduceIte, Nat.reduceEqDiff, hm, hlt]
      exact hQ f (fun i hi => hf i (by omega)) _
    | succ k ih =>
      intro j f hj hf
      have hlt : nI j < nI m := (nI_lt' (by omega) (by omega)).mpr (by omega)
      have hv : vp_in (nI j) 240 := vp_in' (by omega) (by omega)
      have hc : (nI j).toNatClampNeg = j := i_nIc (by omega)
      rw [r_X9_rule_17]
      simp only [r_X9_rule_18, r_X9_rule_19, r_X9_rule_22, r_X9_rule_25, r_X9_rule_26, r_X9_rule_29, r_X9_rule_30, r_X9_rule_31, r_X9_rule_34, r_X9_rule_35, r_X9_rule_36, r_X9_rule_37, r_X9_rule_40, ob_40, gt_40_0, pt_40_0, gt_40_1, pt_40_1, gt_40_2, pt_40_2, gt_40_3, pt_40_3, gt_40_4, pt_40_4, gt_40_5, pt_40_5, gt_40_6, pt_40_6, gt_40_7, pt_40_7, gt_40_8, pt_40_8, gt_40_9, pt_40_9, gt_40_10, pt_40_10, gt_40_11, gt_40_12, gt_40_13, gt_40_14, gt_40_15, gt_40_16, gt_40_17, gt_40_18, gt_40_19, gt_40_20, gt_40_21, gt_40_22, pt_40_22, gt_40_23, gt_40_24, gt_40_25, gt_40_26, gt_40_27, gt_40_28, gt_40_29, gt_40_30, gt_40_31, gt_40_32, gt_40_33, gt_40_34, pt_40_34, gt_40_35, pt_40_35, gt_40_36, gt_40_37, gt_40_38, gt_40_39, gt_40_40, gt_40_41, pt_40_41, gt_40_42, pt_40_42, gt_40_43, pt_40_43, gt_40_44, pt_40_44, gt_40_45, pt_40_45, gt_40_46, pt_40_46, gt_40_47, ad_66, as_66, ad_67, as_67, List.cons_append, List.nil_append, List.append_nil, if_true, if_false, true_and, and_true, true_or, or_true, nm_b_some, gi_si, ga_sa, gi_sa, gi_sb, gi_sp, ga_si, ga_sb, ga_sp, gb_si, gb_sa, gb_sb, gb_sp, gp_si, gp_sa, gp_sb, gp_sp, if_true, if_false, ↓reduceIte, Nat.reduceEqDiff, hm, hlt, hv, hc, nI_s, sa_sa]
      refine ih (j + 1) _ (by omega) (fun i hi => ?_)
      by_cases hij : i = j
      · subst hij; rw [upd_at]
      · rw [upd_ne hij]; exact hf i (by omega)
  have := loop m 0 (ga s 66) (by omega) (fun i hi => by omega)
  rw [sa_self] at this
  exact this
theorem st_rule {s : nm_S} (h : IvT s) (hr : IvR s) : ∃ v s1 s2, Runs 93 [.ref 0] s v s1 ∧ Runs 146 [.ref 40] s1 v s2 ∧ Fr [3301, 3501, 3706, 3707, 3708, 3709, 3710, 3711, 4041, 4042, 4043, 4044, 4045, 4046] [36, 38, 39, 66, 67] s s2 ∧ IvT s2 ∧ IvR s2 := by
  have hT' := h
  obtain ⟨n, hX, hM, hbt⟩ := IvT_tp h
  have sX : ∀ {t : nm_S}, FrR s t → Fr [3301, 3501, 3706, 3707, 3708, 3709, 3710, 3711, 4041, 4042, 4043, 4044, 4045, 4046] [36, 38, 39, 66, 67] s t := fun hf => Fr.mono hf (by decide) (by decide)
  have sM : ∀ {t u : nm_S}, FrM t u → Fr [3301, 3501, 3706, 3707, 3708, 3709, 3710, 3711, 4041, 4042, 4043, 4044, 4045, 4046] [36, 38, 39, 66, 67] t u := fun hf => Fr.mono hf (by decide) (by decide)
  rcases rd_dich hM with ⟨q, hq⟩ | ⟨v, hv⟩
  · have hm1 : ¬ nI q = -1 := nI_m1 (by have := hq.2.1; have := hX.2.1; omega)
    have kX : ∃ x t, Runs 93 [.ref 0] s x t ∧ (x = 0 ∧ FrR s t) := by
      refine Runs_of ?_
      simp only [e_X8_rule, r_X8_rule_0, r_X8_rule_1, r_X8_rule_4, r_X8_rule_5, r_X8_rule_8, r_X8_rule_11, r_X8_rule_12, r_X8_rule_15, r_X8_rule_16, r_X8_rule_17, r_X8_rule_18, r_X8_rule_21, r_X8_rule_22, r_X8_rule_25, r_X8_rule_28, r_X8_rule_29, r_X8_rule_32, r_X8_rule_33, r_X8_rule_36, r_X8_rule_37, r_X8_rule_38, ob_0, gt_0_0, gt_0_1, gt_0_2, gt_0_3, gt_0_4, gt_0_5, gt_0_6, gt_0_7, gt_0_8, gt_0_9, pt_0_9, gt_0_10, pt_0_10, gt_0_11, pt_0_11, ob_37, gt_37_0, pt_37_0, gt_37_1, pt_37_1, gt_37_2, pt_37_2, gt_37_3, pt_37_3, gt_37_4, gt_37_5, gt_37_6, pt_37_6, gt_37_7, pt_37_7, gt_37_8, pt_37_8, gt_37_9, pt_37_9, gt_37_10, pt_37_10, gt_37_11, pt_37_11, List.cons_append, List.nil_append, List.append_nil, if_true, if_false, true_and, and_true, true_or, or_true, nm_b_some]
      refine c_faultIn isTp_33 hX (Or.inl ⟨q, hq, fun t ht => ?_⟩)
      simp only [r_X8_rule_11, r_X8_rule_12, r_X8_rule_15, r_X8_rule_16, List.cons_append, List.nil_append, List.append_nil, if_true, if_false, true_and, and_true, true_or, or_true, nm_b_some, hm1, z0]
      exact ⟨_, t, rfl, rfl, rfl, ht⟩
    obtain ⟨x, t, r1, rfl, hf⟩ := kX
    have hMt : tpv t 4041 65 n (ga s 34) := by
      unfold tpv at hM ⊢
      rw [hf.1 4041 (by decide), hf.2.1 65 (by decide)]
      exact hM
    have kM : ∃ x u, Runs 146 [.ref 40] t x u ∧ (x = 0 ∧ FrM t u) := by
      refine Runs_of ?_
      simp only [e_X9_rule, r_X9_rule_0, r_X9_rule_1, ob_40, gt_40_0, pt_40_0, gt_40_1, pt_40_1, gt_40_2, pt_40_2, gt_40_3, pt_40_3, gt_40_4, pt_40_4, gt_40_5, pt_40_5, gt_40_6, pt_40_6, gt_40_7, pt_40_7, gt_40_8, pt_40_8, gt_40_9, pt_40_9, gt_40_10, pt_40_10, gt_40_11, gt_40_12, gt_40_13, gt_40_14, gt_40_15, gt_40_16, gt_40_17, gt_40_18, gt_40_19, gt_40_20, gt_40_21, gt_40_22, pt_40_22, gt_40_23, gt_40_24, gt_40_25, gt_40_26, gt_40_27, gt_40_28, gt_40_29, gt_40_30, gt_40_31, gt_40_32, gt_40_33, gt_40_34, pt_40_34, gt_40_35, pt_40_35, gt_40_36, gt_40_37, gt_40_38, gt_40_39, gt_40_40, gt_40_41, pt_40_41, gt_40_42, pt_40_42, gt_40_43, pt_40_43, gt_40_44, pt_40_44, gt_40_45, pt_40_45, gt_40_46, pt_40_46, gt_40_47, List.cons_append, List.nil_append, List.append_nil, if_true, if_false, true_and, and_true, true_or, or_true, nm_b_some]
      refine c_Mfault (D := 29) hMt (fun u q' h1 h2 => ?_) (fun u C v' h1 _ _ _ _ _ _ => absurd (BDt_not hq h1) id)
      rw [← BDt_uniq hq h1]
      simp only [r_X9_rule_4, r_X9_rule_5, r_X9_rule_8, r_X9_rule_9, List.cons_append, List.nil_append, List.append_nil, if_true, if_false, true_and, and_true, true_or, or_true, nm_b_some, hm1, z0]
      exact ⟨_, u, rfl, rfl, rfl, h2⟩
    obtain ⟨x, u, r2, rfl, hf2⟩ := kM
    refine ⟨_, t, u, r1, r2, (sX hf).tr (sM hf2), ?_, ?_⟩
    · exact IvT_reads.fr hf2 (by decide) (by decide) (IvT_reads.fr hf (by decide) (by decide) hT')
    · exact IvR_reads.fr hf2 (by decide) (by decide) (IvR_reads.fr hf (by decide) (by decide) hr)
  · have kX : ∃ x t, Runs 93 [.ref 0] s x t ∧ (x = 1 ∧ ∃ t0 f, FrR s t0 ∧ (∀ i, i < n → f i = ga s 34 i) ∧ t = si (si (sa t0 36 f) 3501 (nI n)) 3301 0) := by
      refine Runs_of ?_
      simp only [e_X8_rule, r_X8_rule_0, r_X8_rule_1, r_X8_rule_4, r_X8_rule_5, r_X8_rule_8, r_X8_rule_11, r_X8_rule_12, r_X8_rule_15, r_X8_rule_16, r_X8_rule_17, r_X8_rule_18, r_X8_rule_21, r_X8_rule_22, r_X8_rule_25, r_X8_rule_28, r_X8_rule_29, r_X8_rule_32, r_X8_rule_33, r_X8_rule_36, r_X8_rule_37, r_X8_rule_38, ob_0, gt_0_0, gt_0_1, gt_0_2, gt_0_3, gt_0_4, gt_0_5, gt_0_6, gt_0_7, gt_0_8, gt_0_9, pt_0_9, gt_0_10, pt_0_10, gt_0_11, pt_0_11, ob_37, gt_37_0, pt_37_0, gt_37_1, pt_37_1, gt_37_2, pt_37_2, gt_37_3, pt_37_3, gt_37_4, gt_37_5, gt_37_6, pt_37_6, gt_37_7, pt_37_7, gt_37_8, pt_37_8, gt_37_9, pt_37_9, gt_37_10, pt_37_10, gt_37_11, pt_37_11, List.cons_append, List.nil_append, List.append_nil, if_true, if_false, true_and, and_true, true_or, or_true, nm_b_some]
      refine c_faultIn isTp_33 hX (Or.inr ⟨v, hv, fun t b _ ht _ _ => ?_⟩)
      have h1 : (-1 : Int32) = -1 := rfl
      simp only [r_X8_rule_11, r_X8_rule_12, r_X8_rule_15, r_X8_rule_16, r_X8_rule_17, r_X8_rule_18, r_X8_rule_21, r_X8_rule_22, r_X8_rule_25, ob_0, gt_0_0, gt_0_1, gt_0_2, gt_0_3, gt_0_4, gt_0_5, gt_0_6, gt_0_7, gt_0_8, gt_0_9, pt_0_9, gt_0_10, pt_0_10, gt_0_11, pt_0_11, ob_35, gt_35_0, gt_35_1, pt_35_1, List.cons_append, List.nil_append, List.append_nil, if_true, if_false, true_and, and_true, true_or, or_true, nm_b_some]
      refine c_copy (tpv_fr hX ht (by decide) (by decide)) hbt (fun f hf => ?_)
      have hc0 : (0 : Int32) ≤ 0 ∧ (0 : Int32) ≤ nI n := by
        rw [i_le, i_le, i_l0, i_nI (by have := hX.2.1; omega)]
        omega
      have hlen : gi t 3301 = nI n := (tpv_fr hX ht (by decide) (by decide)).1
      simp only [r_X8_rule_28, r_X8_rule_29, r_X8_rule_32, r_X8_rule_33, r_X8_rule_36, r_X8_rule_37, r_X8_rule_38, e_X6_cut, r_X6_cut_0, r_X6_cut_1, r_X6_cut_2, r_X6_cut_3, r_X6_cut_6, r_X6_cut_9, r_X6_cut_12, r_X6_cut_13, r_X6_cut_14, r_X6_cut_15, r_X6_cut_16, r_X6_cut_19, r_X6_cut_20, ob_0, gt_0_0, gt_0_1, gt_0_2, gt_0_3, gt_0_4, gt_0_5, gt_0_6, gt_0_7, gt_0_8, gt_0_9, pt_0_9, gt_0_10, pt_0_10, gt_0_11, pt_0_11, ob_33, gt_33_0, gt_33_1, pt_33_1, List.cons_append, List.nil_append, List.append_nil, if_true, if_false, true_and, and_true, true_or, or_true, nm_b_some, gi_si, ga_sa, gi_sa, gi_sb, gi_sp, ga_si, ga_sb, ga_sp, gb_si, gb_sa, gb_sb, gb_sp, gp_si, gp_sa, gp_sb, gp_sp, if_true, if_false, ↓reduceIte, Nat.reduceEqDiff, c_within, b_0, hlen, hc0, and_self, not_true_eq_false, z1, z0]
      refine ⟨_, _, rfl, rfl, rfl, t, f, ht, hf, rfl⟩
    obtain ⟨x, t, r1, rfl, t0, f, hf, hff, rfl⟩ := kX
    have hMt : tpv (si (si (sa t0 36 f) 3501 (nI n)) 3301 0) 4041 65 n (ga s 34) := by
      unfold tpv at hM ⊢
      simp only [gi_si, ga_sa, gi_sa, gi_sb, gi_sp, ga_si, ga_sb, ga_sp, gb_si, gb_sa, gb_sb, gb_sp, gp_si, gp_sa, gp_sb, gp_sp, if_true, if_false, ↓reduceIte, Nat.reduceEqDiff]
      rw [hf.1 4041 (by decide), hf.2.1 65 (by decide)]
      exact hM
    have kM : ∃ x u, Runs 146 [.ref 40] (si (si (sa t0 36 f) 3501 (nI n)) 3301 0) x u ∧ (x = 1 ∧ ∃ u0 C v' g, rdW (ga s 34) n v' ∧ FrM (si (si (sa t0 36 f) 3501 (nI n)) 3301 0) u0 ∧ Blk C v' ∧ lies g 0 (C ++ [3]) ∧ C.length ≤ 200 ∧ 0 < n ∧ ∃ f67, u = si (si (sa (si (sa u0 67 f67) 4045 (nI (C.length + 1))) 66 g) 4046 1) 4041 0) := by
      refine Runs_of ?_
      simp only [e_X9_rule, r_X9_rule_0, r_X9_rule_1, ob_40, gt_40_0, pt_40_0, gt_40_1, pt_40_1, gt_40_2, pt_40_2, gt_40_3, pt_40_3, gt_40_4, pt_40_4, gt_40_5, pt_40_5, gt_40_6, pt_40_6, gt_40_7, pt_40_7, gt_40_8, pt_40_8, gt_40_9, pt_40_9, gt_40_10, pt_40_10, gt_40_11, gt_40_12, gt_40_13, gt_40_14, gt_40_15, gt_40_16, gt_40_17, gt_40_18, gt_40_19, gt_40_20, gt_40_21, gt_40_22, pt_40_22, gt_40_23, gt_40_24, gt_40_25, gt_40_26, gt_40_27, gt_40_28, gt_40_29, gt_40_30, gt_40_31, gt_40_32, gt_40_33, gt_40_34, pt_40_34, gt_40_35, pt_40_35, gt_40_36, gt_40_37, gt_40_38, gt_40_39, gt_40_40, gt_40_41, pt_40_41, gt_40_42, pt_40_42, gt_40_43, pt_40_43, gt_40_44, pt_40_44, gt_40_45, pt_40_45, gt_40_46, pt_40_46, gt_40_47, List.cons_append, List.nil_append, List.append_nil, if_true, if_false, true_and, and_true, true_or, or_true, nm_b_some]
      refine c_Mfault (D := 29) hMt (fun u q' h1 h2 => absurd (BDt_not h1 hv) id) (fun u C v' h1 h2 h3 h4 h5 h6 h7 => ?_)
      have hn := hX.2.1
      simp only [r_X9_rule_4, r_X9_rule_5, r_X9_rule_8, r_X9_rule_9, r_X9_rule_10, r_X9_rule_11, r_X9_rule_12, ob_40, gt_40_0, pt_40_0, gt_40_1, pt_40_1, gt_40_2, pt_40_2, gt_40_3, pt_40_3, gt_40_4, pt_40_4, gt_40_5, pt_40_5, gt_40_6, pt_40_6, gt_40_7, pt_40_7, gt_40_8, pt_40_8, gt_40_9, pt_40_9, gt_40_10, pt_40_10, gt_40_11, gt_40_12, gt_40_13, gt_40_14, gt_40_15, gt_40_16, gt_40_17, gt_40_18, gt_40_19, gt_40_20, gt_40_21, gt_40_22, pt_40_22, gt_40_23, gt_40_24, gt_40_25, gt_40_26, gt_40_27, gt_40_28, gt_40_29, gt_40_30, gt_40_31, gt_40_32, gt_40_33, gt_40_34, pt_40_34, gt_40_35, pt_40_35, gt_40_36, gt_40_37, gt_40_38, gt_40_39, gt_40_40, gt_40_41, pt_40_41, gt_40_42, pt_40_42, gt_40_43, pt_40_43, gt_40_44, pt_40_44, gt_40_45, pt_40_45, gt_40_46, pt_40_46, gt_40_47, List.cons_append, List.nil_append, List.append_nil, if_true, if_false, true_and, and_true, true_or, or_true, nm_b_some]
      rw [c_say h3 (by omega)]
      simp only [r_X9_rule_15, r_X9_rule_16, List.cons_append, List.nil_append, List.append_nil, if_true, if_false, true_and, and_true, true_or, or_true, nm_b_some]
      refine c_Mcodes (m := C.length + 1) (by simp only [gi_si, ga_sa, gi_sa, gi_sb, gi_sp, ga_si, ga_sb, ga_sp, gb_si, gb_sa, gb_sb, gb_sp, gp_si, gp_sa, gp_sb, gp_sp, if_true, if_false, ↓reduceIte, Nat.reduceEqDiff]) (by omega) (fun g hg z => ?_)
      simp only [r_X9_rule_43, r_X9_rule_44, r_X9_rule_45, r_X9_rule_48, r_X9_rule_49, r_X9_rule_50, r_X9_rule_53, r_X9_rule_54, ob_40, gt_40_0, pt_40_0, gt_40_1, pt_40_1, gt_40_2, pt_40_2, gt_40_3, pt_40_3, gt_40_4, pt_40_4, gt_40_5, pt_40_5, gt_40_6, pt_40_6, gt_40_7, pt_40_7, gt_40_8, pt_40_8, gt_40_9, pt_40_9, gt_40_10, pt_40_10, gt_40_11, gt_40_12, gt_40_13, gt_40_14, gt_40_15, gt_40_16, gt_40_17, gt_40_18, gt_40_19, gt_40_20, gt_40_21, gt_40_22, pt_40_22, gt_40_23, gt_40_24, gt_40_25, gt_40_26, gt_40_27, gt_40_28, gt_40_29, gt_40_30, gt_40_31, gt_40_32, gt_40_33, gt_40_34, pt_40_34, gt_40_35, pt_40_35, gt_40_36, gt_40_37, gt_40_38, gt_40_39, gt_40_40, gt_40_41, pt_40_41, gt_40_42, pt_40_42, gt_40_43, pt_40_43, gt_40_44, pt_40_44, gt_40_45, pt_40_45, gt_40_46, pt_40_46, gt_40_47, List.cons_append, List.nil_append, List.append_nil, if_true, if_false, true_and, and_true, true_or, or_true, nm_b_some, z1]
      refine ⟨_, _, rfl, rfl, rfl, u, C, v', g, h1, h2, h5, ?_, by omega, h7, _, rfl⟩
      simp only [gi_si, ga_sa, gi_sa, gi_sb, gi_sp, ga_si, ga_sb, ga_sp, gb_si, gb_sa, gb_sb, gb_sp, gp_si, gp_sa, gp_sb, gp_sp, if_true, if_false, ↓reduceIte, Nat.reduceEqDiff] at hg
      refine lies_app (lies_cong h4 ?_) (lies_1 ?_)
      · intro i hi hi2
        rw [hg i (by omega), upd_ne (by omega)]
      · rw [Nat.zero_add, hg _ (by omega), upd_at]
    obtain ⟨x, u, r2, rfl, u0, C, v', g, g1, g2, g3, g4, g5, g6, f67, rfl⟩ := kM
    have f0 : Fr [3301, 3501, 3706, 3707, 3708, 3709, 3710, 3711, 4041, 4042, 4043, 4044, 4045, 4046] [36, 38, 39, 66, 67] s u0 := ((sX hf).tr (((Fr.rf.sa (by decide)).si (by decide)).si (by decide))).tr (sM g2)
    refine ⟨_, _, _, r1, r2, f0.tr (((((Fr.rf.sa (by decide)).si (by decide)).sa (by decide)).si (by decide)).si (by decide)), ?_, ?_⟩
    · refine ⟨0, by omega, ?_, ?_, fun i hi => by omega⟩
      · simp only [gi_si, ga_sa, gi_sa, gi_sb, gi_sp, ga_si, ga_sb, ga_sp, gb_si, gb_sa, gb_sb, gb_sp, gp_si, gp_sa, gp_sb, gp_sp, if_true, if_false, ↓reduceIte, Nat.reduceEqDiff]
        rw [g2.1 3301 (by decide)]
        simp only [gi_si, ga_sa, gi_sa, gi_sb, gi_sp, ga_si, ga_sb, ga_sp, gb_si, gb_sa, gb_sb, gb_sp, gp_si, gp_sa, gp_sb, gp_sp, if_true, if_false, ↓reduceIte, Nat.reduceEqDiff]
        rfl
      · simp only [gi_si, ga_sa, gi_sa, gi_sb, gi_sp, ga_si, ga_sb, ga_sp, gb_si, gb_sa, gb_sb, gb_sp, gp_si, gp_sa, gp_sb, gp_sp, if_true, if_false, ↓reduceIte, Nat.reduceEqDiff]
        rfl
    · refine Or.inr ⟨by simp only [gi_si, ga_sa, gi_sa, gi_sb, gi_sp, ga_si, ga_sb, ga_sp, gb_si, gb_sa, gb_sb, gb_sp, gp_si, gp_sa, gp_sb, gp_sp, if_true, if_false, ↓reduceIte, Nat.reduceEqDiff], n, ga s 34, C, v', g6, ⟨?_, hX.2.1, ?_⟩, g1, by simp only [gi_si, ga_sa, gi_sa, gi_sb, gi_sp, ga_si, ga_sb, ga_sp, gb_si, gb_sa, gb_sb, gb_sp, gp_si, gp_sa, gp_sb, gp_sp, if_true, if_false, ↓reduceIte, Nat.reduceEqDiff]; exact g4, g3, g5⟩
      · simp only [gi_si, ga_sa, gi_sa, gi_sb, gi_sp, ga_si, ga_sb, ga_sp, gb_si, gb_sa, gb_sb, gb_sp, gp_si, gp_sa, gp_sb, gp_sp, if_true, if_false, ↓reduceIte, Nat.reduceEqDiff]
        rw [g2.1 3501 (by decide)]
        simp only [gi_si, ga_sa, gi_sa, gi_sb, gi_sp, ga_si, ga_sb, ga_sp, gb_si, gb_sa, gb_sb, gb_sp, gp_si, gp_sa, gp_sb, gp_sp, if_true, if_false, ↓reduceIte, Nat.reduceEqDiff]
      · intro i hi
        simp only [gi_si, ga_sa, gi_sa, gi_sb, gi_sp, ga_si, ga_sb, ga_sp, gb_si, gb_sa, gb_sb, gb_sp, gp_si, gp_sa, gp_sb, gp_sp, if_true, if_false, ↓reduceIte, Nat.reduceEqDiff]
        rw [g2.2.1 36 (by decide)]
        simp only [gi_si, ga_sa, gi_sa, gi_sb, gi_sp, ga_si, ga_sb, ga_sp, gb_si, gb_sa, gb_sb, gb_sp, gp_si, gp_sa, gp_sb, gp_sp, if_true, if_false, ↓reduceIte, Nat.reduceEqDiff]
        exact ⟨hff i hi, (hX.2.2 i hi).2⟩
