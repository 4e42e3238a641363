/-! The reference's search. -/
def SF (s : nm_S) (D : ShD) (T C : Nat) : Prop := (T ≤ 10 ∧ C ≤ 4) ∧ (gi s 4001 = nI T ∧ gi s 4002 = nI C) ∧ (∀ t, t < T → (ga s 43 t = nI (D.2.1 t) ∧ D.2.1 t ≤ 40) ∧ (ga s 44 t = nI (D.2.2.1 t) ∧ D.2.2.1 t ≤ 1000)) ∧ (∀ c, c < C → (ga s 46 c = nI (D.2.2.2.1 c) ∧ D.2.2.2.1 c ≤ 10) ∧ (ga s 47 c = nI (D.2.2.2.2 c) ∧ D.2.2.2.2 c ≤ 200)) ∧ ∀ c t, c < C → t < T → (D.1 c t ↔ ¬ ga s 45 c < ga s 41 t ∧ ¬ ga s 42 t < ga s 45 c + gi s 4007)
theorem SF_fr {s t : nm_S} {D : ShD} {T C : Nat} (h : SF s D T C) (hf : Fr [4022] [48, 49, 50, 51] s t) : SF t D T C := by
  unfold SF at h ⊢
  rw [hf.1 4001 (by decide), hf.1 4002 (by decide), hf.1 4007 (by decide), hf.2.1 41 (by decide), hf.2.1 42 (by decide), hf.2.1 43 (by decide), hf.2.1 44 (by decide), hf.2.1 45 (by decide), hf.2.1 46 (by decide), hf.2.1 47 (by decide)]
  exact h
/-- where the search stands -/
def ShI (s : nm_S) (D : ShD) (C t : Nat) (A : Nat → Nat) (bc : Nat) : Prop := (∀ k, k < t → ga s 48 k = dg (A k)) ∧ (∀ c, c < C → ga s 50 c = nI (cnt (inCv A c) t) ∧ ga s 51 c = nI (sumP (inCv A c) D.2.1 t)) ∧ gi s 4022 = nI bc ∧ bc ≤ 1000000
def ShE (s s' : nm_S) (C t bc' : Nat) : Prop := Fr [4022] [48, 49, 50, 51] s s' ∧ (∀ k, k < t → ga s' 48 k = ga s 48 k) ∧ (∀ c, c < C → ga s' 50 c = ga s 50 c ∧ ga s' 51 c = ga s 51 c) ∧ gi s' 4022 = nI bc' ∧ bc' ≤ 1000000
theorem ShE_rf {s : nm_S} {C t bc : Nat} (h : gi s 4022 = nI bc) (hb : bc ≤ 1000000) : ShE s s C t bc := ⟨Fr.rf, fun _ _ => rfl, fun _ _ => ⟨rfl, rfl⟩, h, hb⟩
theorem sh_leaf {d : Nat} {D : ShD} {C t : Nat} {s : nm_S} {A : Nat → Nat} {bc : Nat} {Q : nm_K} (hS : SF s D t C) (hI : ShI s D C t A bc) (hP : Pf D C A t) (hQ : ∀ (s' : nm_S) (bc' : Nat), ShE s s' C t bc' → Post D t (Ext D t C A t) bc (ga s 49) bc' (ga s' 49) → Q [] (rep s')) : nm_call (d + 1) 106 [.ref 40, .int (nI t), .int (nI (dcost D A t))] (rep s) Q := by
  obtain ⟨⟨s1, s2⟩, ⟨s3, s4⟩, s5, s6, s7⟩ := hS
  obtain ⟨i1, i2, i3, i4⟩ := hI
  have hcs : dcost D A t ≤ 10000 := by
    have h := sumP_le (p := inCv A 4) (f := D.2.2.1) (B := 1000) (n := t) (fun i hi => (s5 i hi).2.2)
    have h2 : t * 1000 ≤ 10000 := by omega
    exact Nat.le_trans h h2
  have g1 : nI (dcost D A t) < nI bc ↔ dcost D A t < bc := nI_lt' (by omega) (by omega)
  rw [e_X9_shareOn]
  simp only [r_X9_shareOn_0, r_X9_shareOn_1, r_X9_shareOn_2, r_X9_shareOn_5, r_X9_shareOn_8, r_X9_shareOn_9, r_X9_shareOn_10, r_X9_shareOn_11, r_X9_shareOn_14, r_X9_shareOn_17, r_X9_shareOn_18, r_X9_shareOn_19, r_X9_shareOn_22, r_X9_shareOn_23, ob_40, gt_40_0, pt_40_0, gt_40_1, pt_40_1, gt_40_2, pt_40_2, gt_40_3, pt_40_3, gt_40_4, pt_40_4, gt_40_5, pt_40_5, gt_40_6, pt_40_6, gt_40_7, pt_40_7, gt_40_8, pt_40_8, gt_40_9, pt_40_9, gt_40_10, pt_40_10, gt_40_11, gt_40_12, gt_40_13, gt_40_14, gt_40_15, gt_40_16, gt_40_17, gt_40_18, gt_40_19, gt_40_20, gt_40_21, gt_40_22, pt_40_22, gt_40_23, gt_40_24, gt_40_25, gt_40_26, gt_40_27, gt_40_28, gt_40_29, gt_40_30, gt_40_31, gt_40_32, gt_40_33, gt_40_34, pt_40_34, gt_40_35, pt_40_35, gt_40_36, gt_40_37, gt_40_38, gt_40_39, gt_40_40, gt_40_41, pt_40_41, gt_40_42, pt_40_42, gt_40_43, pt_40_43, gt_40_44, pt_40_44, gt_40_45, pt_40_45, gt_40_46, pt_40_46, gt_40_47, List.cons_append, List.nil_append, List.append_nil, if_true, if_false, true_and, and_true, true_or, or_true, nm_b_some, i3, s3, g1]
  by_cases hlt : dcost D A t < bc
  · simp only [hlt, if_true]
    have hs0 : si s 4022 (nI (dcost D A t)) = sa (si s 4022 (nI (dcost D A t))) 49 (ga s 49) := by
      have := sa_self (si s 4022 (nI (dcost D A t))) 49
      simp only [gi_si, ga_sa, gi_sa, gi_sb, gi_sp, ga_si, ga_sb, ga_sp, gb_si, gb_sa, gb_sb, gb_sp, gp_si, gp_sa, gp_sb, gp_sp, if_true, if_false, ↓reduceIte, Nat.reduceEqDiff] at this
      exact this.symm
    rw [hs0]
    refine nm_loopI (fun i (f : Nat → Int32) => x_X9_shareOn d Q 24 [.ref 40, .int (nI t), .int (nI (dcost D A t)), .int (nI i), .null] [] (rep (sa (si s 4022 (nI (dcost D A t))) 49 f)) 0 0) (fun f => Q [] (rep (sa (si s 4022 (nI (dcost D A t))) 49 f))) (fun i f => upd f i (ga s 48 i)) (fun _ _ => True) (N := t) ?_ ?_ t 0 (ga s 49) (by omega) trivial ?_
    · intro i f hi _
      refine ⟨trivial, fun hnx => ?_⟩
      have e1 : nI i < nI t := (nI_lt' (by omega) (by omega)).mpr hi
      have e2 : vp_in (nI i) 10 := vp_in' (by omega) (by omega)
      have e3 : (nI i).toNatClampNeg = i := i_nIc (by omega)
      rw [r_X9_shareOn_24]
      simp only [r_X9_shareOn_25, r_X9_shareOn_26, r_X9_shareOn_29, r_X9_shareOn_32, r_X9_shareOn_33, r_X9_shareOn_36, r_X9_shareOn_37, r_X9_shareOn_38, r_X9_shareOn_41, r_X9_shareOn_42, r_X9_shareOn_43, r_X9_shareOn_44, r_X9_shareOn_47, ob_40, gt_40_0, pt_40_0, gt_40_1, pt_40_1, gt_40_2, pt_40_2, gt_40_3, pt_40_3, gt_40_4, pt_40_4, gt_40_5, pt_40_5, gt_40_6, pt_40_6, gt_40_7, pt_40_7, gt_40_8, pt_40_8, gt_40_9, pt_40_9, gt_40_10, pt_40_10, gt_40_11, gt_40_12, gt_40_13, gt_40_14, gt_40_15, gt_40_16, gt_40_17, gt_40_18, gt_40_19, gt_40_20, gt_40_21, gt_40_22, pt_40_22, gt_40_23, gt_40_24, gt_40_25, gt_40_26, gt_40_27, gt_40_28, gt_40_29, gt_40_30, gt_40_31, gt_40_32, gt_40_33, gt_40_34, pt_40_34, gt_40_35, pt_40_35, gt_40_36, gt_40_37, gt_40_38, gt_40_39, gt_40_40, gt_40_41, pt_40_41, gt_40_42, pt_40_42, gt_40_43, pt_40_43, gt_40_44, pt_40_44, gt_40_45, pt_40_45, gt_40_46, pt_40_46, gt_40_47, ad_48, as_48, ad_49, as_49, List.cons_append, List.nil_append, List.append_nil, if_true, if_false, true_and, and_true, true_or, or_true, nm_b_some, gi_si, ga_sa, gi_sa, gi_sb, gi_sp, ga_si, ga_sb, ga_sp, gb_si, gb_sa, gb_sb, gb_sp, gp_si, gp_sa, gp_sb, gp_sp, if_true, if_false, ↓reduceIte, Nat.reduceEqDiff, s3, e1, e2, e3, nI_s, sa_sa]
      exact hnx
    · intro f _ hr
      have e1 : ¬ nI t < nI t := by rw [nI_lt' (by omega) (by omega)]; omega
      rw [r_X9_shareOn_24]
      simp only [r_X9_shareOn_25, r_X9_shareOn_26, r_X9_shareOn_29, r_X9_shareOn_50, ob_40, gt_40_0, pt_40_0, gt_40_1, pt_40_1, gt_40_2, pt_40_2, gt_40_3, pt_40_3, gt_40_4, pt_40_4, gt_40_5, pt_40_5, gt_40_6, pt_40_6, gt_40_7, pt_40_7, gt_40_8, pt_40_8, gt_40_9, pt_40_9, gt_40_10, pt_40_10, gt_40_11, gt_40_12, gt_40_13, gt_40_14, gt_40_15, gt_40_16, gt_40_17, gt_40_18, gt_40_19, gt_40_20, gt_40_21, gt_40_22, pt_40_22, gt_40_23, gt_40_24, gt_40_25, gt_40_26, gt_40_27, gt_40_28, gt_40_29, gt_40_30, gt_40_31, gt_40_32, gt_40_33, gt_40_34, pt_40_34, gt_40_35, pt_40_35, gt_40_36, gt_40_37, gt_40_38, gt_40_39, gt_40_40, gt_40_41, pt_40_41, gt_40_42, pt_40_42, gt_40_43, pt_40_43, gt_40_44, pt_40_44, gt_40_45, pt_40_45, gt_40_46, pt_40_46, gt_40_47, List.cons_append, List.nil_append, List.append_nil, if_true, if_false, true_and, and_true, true_or, or_true, nm_b_some, gi_si, ga_sa, gi_sa, gi_sb, gi_sp, ga_si, ga_sb, ga_sp, gb_si, gb_sa, gb_sb, gb_sp, gp_si, gp_sa, gp_sb, gp_sp, if_true, if_false, ↓reduceIte, Nat.reduceEqDiff, s3, e1]
      exact hr
    · have hf := lpf_ind (step := fun i (f : Nat → Int32) => upd f i (ga s 48 i)) (fun i f => ∀ j, j < i → f j = ga s 48 j) (N := t) (by
        intro i f hi hf j hj
        try dsimp only
        by_cases e : j = i
        · subst e; rw [upd_at]
        · rw [upd_ne e]; exact hf j (by omega)) t 0 (ga s 49) (by omega) (fun j hj => by omega)
      generalize lpf (fun i (f : Nat → Int32) => upd f i (ga s 48 i)) t 0 (ga s 49) = f at hf
      refine hQ _ (dcost D A t) ⟨(Fr.rf.si (by decide)).sa (by decide), fun k hk => by simp only [gi_si, ga_sa, gi_sa, gi_sb, gi_sp, ga_si, ga_sb, ga_sp, gb_si, gb_sa, gb_sb, gb_sp, gp_si, gp_sa, gp_sb, gp_sp, if_true, if_false, ↓reduceIte, Nat.reduceEqDiff], fun c hc => by simp only [gi_si, ga_sa, gi_sa, gi_sb, gi_sp, ga_si, ga_sb, ga_sp, gb_si, gb_sa, gb_sb, gb_sp, gp_si, gp_sa, gp_sb, gp_sp, if_true, if_false, ↓reduceIte, Nat.reduceEqDiff, and_self], by simp only [gi_si, ga_sa, gi_sa, gi_sb, gi_sp, ga_si, ga_sb, ga_sp, gb_si, gb_sa, gb_sb, gb_sp, gp_si, gp_sa, gp_sb, gp_sp, if_true, if_false, ↓reduceIte, Nat.reduceEqDiff], by omega⟩ (Or.inr ⟨hlt, A, ⟨hP, fun _ _ => rfl⟩, rfl, fun k hk => ?_, fun E hE => ?_⟩)
      · simp only [gi_si, ga_sa, gi_sa, gi_sb, gi_sp, ga_si, ga_sb, ga_sp, gb_si, gb_sa, gb_sb, gb_sp, gp_si, gp_sa, gp_sb, gp_sp, if_true, if_false, ↓reduceIte, Nat.reduceEqDiff]
        rw [hf k hk, i1 k hk]
      · right
        have a : sumP (inCv E 4) D.2.2.1 t = sumP (inCv A 4) D.2.2.1 t := sumP_cong (fun i hi => by unfold inCv; rw [hE.2 i hi])
        have b : hcd E t = hcd A t := hcd_cong hE.2
        unfold dcost
        omega
  · simp only [hlt, if_false]
    refine hQ s bc (ShE_rf i3 i4) (Or.inl ⟨rfl, rfl, fun E hE => ?_⟩)
    have := dcost_ext (Nat.le_refl t) hE
    omega
/-- what the next convoys give, and then doubling -/
theorem sh_run {d : Nat} {D : ShD} {T C : Nat} : ∀ (n t : Nat), t + n = T → ∀ (s : nm_S) (A : Nat → Nat) (bc : Nat) (Q : nm_K), SF s D T C → ShI s D C t A bc → Pf D C A t → (∀ (s' : nm_S) (bc' : Nat), ShE s s' C t bc' → Post D T (Ext D T C A t) bc (ga s 49) bc' (ga s' 49) → Q [] (rep s')) → nm_call (d + n + 1) 106 [.ref 40, .int (nI t), .int (nI (dcost D A t))] (rep s) Q := by
  intro n
  induction n with
  | zero =>
    intro t ht s A bc Q hS hI hP hQ
    have htT : t = T := by omega
    subst htT
    exact sh_leaf hS hI hP hQ
  | succ n ih =>
    intro t ht s A bc Q hS hI hP hQ
    have htT : t < T := by omega
    have hS0 := hS
    obtain ⟨⟨s1, s2⟩, ⟨s3, s4⟩, s5, s6, s7⟩ := hS
    obtain ⟨i1, i2, i3, i4⟩ := hI
    have hcs : dcost D A t ≤ 10000 := by
      have h := sumP_le (p := inCv A 4) (f := D.2.2.1) (B := 1000) (n := t) (fun i hi => (s5 i (by omega)).2.2)
      have h2 : t * 1000 ≤ 10000 := by omega
      exact Nat.le_trans h h2
    have hlds : ∀ c, sumP (inCv A c) D.2.1 t ≤ 400 := by
      intro c
      have h := sumP_le (p := inCv A c) (f := D.2.1) (B := 40) (n := t) (fun i hi => (s5 i (by omega)).1.2)
      have h2 : t * 40 ≤ 400 := by omega
      exact Nat.le_trans h h2
    have hcts : ∀ c, cnt (inCv A c) t ≤ 10 := fun c => Nat.le_trans (cnt_le _ t) (by omega)
    have g1 : nI (dcost D A t) < nI bc ↔ dcost D A t < bc := nI_lt' (by omega) (by omega)
    have g0 : ¬ nI t = nI T := by rw [nI_eq' (by omega) (by omega)]; omega
    have g2 : vp_in (nI t) 10 := vp_in' (by omega) (by omega)
    have g3 : (nI t).toNatClampNeg = t := i_nIc (by omega)
    rw [show d + (n + 1) + 1 = (d + n + 1) + 1 by omega, e_X9_shareOn]
    simp only [r_X9_shareOn_0, r_X9_shareOn_1, r_X9_shareOn_2, r_X9_shareOn_5, r_X9_shareOn_8, r_X9_shareOn_9, r_X9_shareOn_10, r_X9_shareOn_11, r_X9_shareOn_14, ob_40, gt_40_0, pt_40_0, gt_40_1, pt_40_1, gt_40_2, pt_40_2, gt_40_3, pt_40_3, gt_40_4, pt_40_4, gt_40_5, pt_40_5, gt_40_6, pt_40_6, gt_40_7, pt_40_7, gt_40_8, pt_40_8, gt_40_9, pt_40_9, gt_40_10, pt_40_10, gt_40_11, gt_40_12, gt_40_13, gt_40_14, gt_40_15, gt_40_16, gt_40_17, gt_40_18, gt_40_19, gt_40_20, gt_40_21, gt_40_22, pt_40_22, gt_40_23, gt_40_24, gt_40_25, gt_40_26, gt_40_27, gt_40_28, gt_40_29, gt_40_30, gt_40_31, gt_40_32, gt_40_33, gt_40_34, pt_40_34, gt_40_35, pt_40_35, gt_40_36, gt_40_37, gt_40_38, gt_40_39, gt_40_40, gt_40_41, pt_40_41, gt_40_42, pt_40_42, gt_40_43, pt_40_43, gt_40_44, pt_40_44, gt_40_45, pt_40_45, gt_40_46, pt_40_46, gt_40_47, List.cons_append, List.nil_append, List.append_nil, if_true, if_false, true_and, and_true, true_or, or_true, nm_b_some, i3, s3, g1, g0]
    by_cases hlt : dcost D A t < bc
    · simp only [hlt, if_true, r_X9_shareOn_51, r_X9_shareOn_52]
      -- the turns over convoys
      have loop : ∀ (m c : Nat) (u : nm_S) (b : Nat) (z : Value), c + m = C → ShE s u C t b → Post D T (fun E => Ext D T C A t E ∧ E t < c) bc (ga s 49) b (ga u 49) → x_X9_shareOn (d + n + 1) Q 53 [.ref 40, .int (nI t), .int (nI (dcost D A t)), .int (nI c), z] [] (rep u) 0 0 := by
        intro m
        induction m with
        | zero =>
          intro c u b z hc hE hPo
          have hcC : c = C := by omega
          subst hcC
          have hSu := SF_fr hS0 hE.1
          obtain ⟨e1, e2, e3, e4, e5⟩ := hE
          obtain ⟨-, ⟨q3, q4⟩, q5, -, -⟩ := hSu
          have k1 : ¬ nI c < nI c := by rw [nI_lt' (by omega) (by omega)]; omega
          have hdc : nI (dcost D A t) + nI (D.2.2.1 t) = nI (dcost D (updN A t 4) (t + 1)) := by
            rw [nI_ad]
            unfold dcost
            rw [sumP_updN, if_pos rfl]
          rw [r_X9_shareOn_53]
          simp only [r_X9_shareOn_54, r_X9_shareOn_55, r_X9_shareOn_58, r_X9_shareOn_216, r_X9_shareOn_217, r_X9_shareOn_220, r_X9_shareOn_221, r_X9_shareOn_222, r_X9_shareOn_223, r_X9_shareOn_224, r_X9_shareOn_225, r_X9_shareOn_226, r_X9_shareOn_227, r_X9_shareOn_228, r_X9_shareOn_229, r_X9_shareOn_232, r_X9_shareOn_233, r_X9_shareOn_234, r_X9_shareOn_235, ob_40, gt_40_0, pt_40_0, gt_40_1, pt_40_1, gt_40_2, pt_40_2, gt_40_3, pt_40_3, gt_40_4, pt_40_4, gt_40_5, pt_40_5, gt_40_6, pt_40_6, gt_40_7, pt_40_7, gt_40_8, pt_40_8, gt_40_9, pt_40_9, gt_40_10, pt_40_10, gt_40_11, gt_40_12, gt_40_13, gt_40_14, gt_40_15, gt_40_16, gt_40_17, gt_40_18, gt_40_19, gt_40_20, gt_40_21, gt_40_22, pt_40_22, gt_40_23, gt_40_24, gt_40_25, gt_40_26, gt_40_27, gt_40_28, gt_40_29, gt_40_30, gt_40_31, gt_40_32, gt_40_33, gt_40_34, pt_40_34, gt_40_35, pt_40_35, gt_40_36, gt_40_37, gt_40_38, gt_40_39, gt_40_40, gt_40_41, pt_40_41, gt_40_42, pt_40_42, gt_40_43, pt_40_43, gt_40_44, pt_40_44, gt_40_45, pt_40_45, gt_40_46, pt_40_46, gt_40_47, ad_44, as_44, ad_48, as_48, List.cons_append, List.nil_append, List.append_nil, if_true, if_false, true_and, and_true, true_or, or_true, nm_b_some, gi_si, ga_sa, gi_sa, gi_sb, gi_sp, ga_si, ga_sb, ga_sp, gb_si, gb_sa, gb_sb, gb_sp, gp_si, gp_sa, gp_sb, gp_sp, if_true, if_false, ↓reduceIte, Nat.reduceEqDiff, q4, k1, g2, g3, (q5 t htT).2.1, nI_s, hdc]
          refine ih (t + 1) (by omega) (sa u 48 (upd (ga u 48) t (-1))) (updN A t 4) b _ ?_ ⟨?_, ?_, ?_, e5⟩ (Pf_dbl s2 hP) (fun v b' hv hpv => ?_)
          · exact SF_fr (SF_fr hS0 e1) (Fr.rf.sa (by decide))
          · intro k hk
            simp only [gi_si, ga_sa, gi_sa, gi_sb, gi_sp, ga_si, ga_sb, ga_sp, gb_si, gb_sa, gb_sb, gb_sp, gp_si, gp_sa, gp_sb, gp_sp, if_true, if_false, ↓reduceIte, Nat.reduceEqDiff]
            by_cases e : k = t
            · subst e; rw [upd_at, updN_at]; rfl
            · rw [upd_ne e, updN_ne e, e2 k (by omega)]; exact i1 k (by omega)
          · intro c' hc'
            simp only [gi_si, ga_sa, gi_sa, gi_sb, gi_sp, ga_si, ga_sb, ga_sp, gb_si, gb_sa, gb_sb, gb_sp, gp_si, gp_sa, gp_sb, gp_sp, if_true, if_false, ↓reduceIte, Nat.reduceEqDiff]
            rw [cnt_updN, sumP_updN, if_neg (by omega), if_neg (by omega), (e3 c' hc').1, (e3 c' hc').2]
            exact i2 c' hc'
          · simp only [gi_si, ga_sa, gi_sa, gi_sb, gi_sp, ga_si, ga_sb, ga_sp, gb_si, gb_sa, gb_sb, gb_sp, gp_si, gp_sa, gp_sb, gp_sp, if_true, if_false, ↓reduceIte, Nat.reduceEqDiff]; exact e4
          · obtain ⟨v1, v2, v3, v4, v5⟩ := hv
            simp only [r_X9_shareOn_238, List.cons_append, List.nil_append, List.append_nil, if_true, if_false, true_and, and_true, true_or, or_true, nm_b_some]
            simp only [gi_si, ga_sa, gi_sa, gi_sb, gi_sp, ga_si, ga_sb, ga_sp, gb_si, gb_sa, gb_sb, gb_sp, gp_si, gp_sa, gp_sb, gp_sp, if_true, if_false, ↓reduceIte, Nat.reduceEqDiff] at hpv
            refine hQ v b' ⟨e1.tr ((Fr.rf.sa (by decide)).tr v1), fun k hk => ?_, fun c' hc' => ?_, v4, v5⟩ ?_
            · rw [v2 k (by omega)]
              simp only [gi_si, ga_sa, gi_sa, gi_sb, gi_sp, ga_si, ga_sb, ga_sp, gb_si, gb_sa, gb_sb, gb_sp, gp_si, gp_sa, gp_sb, gp_sp, if_true, if_false, ↓reduceIte, Nat.reduceEqDiff]
              rw [upd_ne (by omega)]
              exact e2 k hk
            · have y := v3 c' hc'
              simp only [gi_si, ga_sa, gi_sa, gi_sb, gi_sp, ga_si, ga_sb, ga_sp, gb_si, gb_sa, gb_sb, gb_sp, gp_si, gp_sa, gp_sb, gp_sp, if_true, if_false, ↓reduceIte, Nat.reduceEqDiff] at y
              exact ⟨y.1.trans (e3 c' hc').1, y.2.trans (e3 c' hc').2⟩
            · refine Post_tr (S1 := fun E => Ext D T c A t E ∧ E t < c) (S2 := Ext D T c (updN A t 4) (t + 1)) (fun E1 E2 h1 h2 => ?_) (fun E => ?_) hPo hpv
              · have h2' := Ext_step.mp h2
                exact Ext_ord s2 htT h1.1 h2'.1 (by rw [h2'.2]; omega)
              · rw [Ext_step]
                constructor
                · intro h
                  rcases h.1.1 t htT with z | z
                  · exact Or.inl ⟨h, z.1⟩
                  · exact Or.inr ⟨h, z⟩
                · rintro (h | h)
                  · exact h.1
                  · exact h.1
        | succ m ihm =>
          intro c u b z hc hE hPo
          have hcC : c < C := by omega
          have hSu := SF_fr hS0 hE.1
          have hE0 := hE
          obtain ⟨e1, e2, e3, e4, e5⟩ := hE
          obtain ⟨-, ⟨q3, q4⟩, q5, q6, q7⟩ := hSu
          have k1 : nI c < nI C := (nI_lt' (by omega) (by omega)).mpr hcC
          have k2 : vp_in (nI c) 4 := vp_in' (by omega) (by omega)
          have k3 : (nI c).toNatClampNeg = c := i_nIc (by omega)
          have hcn := hcts c
          have hld := hlds c
          have hR := (q6 c hcC).1.2
          have hL := (q6 c hcC).2.2
          have hl := (q5 t htT).1.2
          have k5 : nI (cnt (inCv A c) t) < nI (D.2.2.2.1 c) ↔ cnt (inCv A c) t < D.2.2.2.1 c := nI_lt' (by omega) (by omega)
          have k6 : nI (D.2.2.2.2 c) < nI (sumP (inCv A c) D.2.1 t + D.2.1 t) ↔ D.2.2.2.2 c < sumP (inCv A c) D.2.1 t + D.2.1 t := nI_lt' (by omega) (by omega)
          have u50 : ga u 50 c = nI (cnt (inCv A c) t) := by rw [(e3 c hcC).1]; exact (i2 c hcC).1
          have u51 : ga u 51 c = nI (sumP (inCv A c) D.2.1 t) := by rw [(e3 c hcC).2]; exact (i2 c hcC).2
          have h10 : ¬ (1 : Int32) = 0 := by decide
          -- none of this convoy
          have skip : (∀ E, Ext D T C A t E → E t ≠ c) → ∀ z : Value, x_X9_shareOn (d + n + 1) Q 53 [.ref 40, .int (nI t), .int (nI (dcost D A t)), .int (nI (c + 1)), z] [] (rep u) 0 0 := by
            intro hno z
            refine ihm (c + 1) u b z (by omega) hE0 ?_
            have e : (fun E => Ext D T C A t E ∧ E t < c + 1) = (fun E => Ext D T C A t E ∧ E t < c) := by
              funext E
              apply propext
              constructor
              · rintro ⟨h1, h2⟩
                exact ⟨h1, by have := hno E h1; omega⟩
              · rintro ⟨h1, h2⟩
                exact ⟨h1, by omega⟩
            rw [e]
            exact hPo
          -- this convoy
          have take : D.1 c t → cnt (inCv A c) t < D.2.2.2.1 c → sumP (inCv A c) D.2.1 t + D.2.1 t ≤ D.2.2.2.2 c → ∀ z : Value, x_X9_shareOn (d + n + 1) Q 145 [.ref 40, .int (nI t), .int (nI (dcost D A t)), .int (nI c), z] [] (rep u) 0 0 := by
            intro hf h1 h2 z
            have hdc : dcost D A t = dcost D (updN A t c) (t + 1) := by
              unfold dcost
              rw [sumP_updN, if_neg (by omega)]
              rfl
            simp only [r_X9_shareOn_145, r_X9_shareOn_146, r_X9_shareOn_149, r_X9_shareOn_150, r_X9_shareOn_151, r_X9_shareOn_152, r_X9_shareOn_153, r_X9_shareOn_154, r_X9_shareOn_155, r_X9_shareOn_156, r_X9_shareOn_159, r_X9_shareOn_160, r_X9_shareOn_161, r_X9_shareOn_162, r_X9_shareOn_163, r_X9_shareOn_166, r_X9_shareOn_167, r_X9_shareOn_168, r_X9_shareOn_169, r_X9_shareOn_170, r_X9_shareOn_171, r_X9_shareOn_174, r_X9_shareOn_175, r_X9_shareOn_176, r_X9_shareOn_177, r_X9_shareOn_178, r_X9_shareOn_179, r_X9_shareOn_180, r_X9_shareOn_181, r_X9_shareOn_182, ob_40, gt_40_0, pt_40_0, gt_40_1, pt_40_1, gt_40_2, pt_40_2, gt_40_3, pt_40_3, gt_40_4, pt_40_4, gt_40_5, pt_40_5, gt_40_6, pt_40_6, gt_40_7, pt_40_7, gt_40_8, pt_40_8, gt_40_9, pt_40_9, gt_40_10, pt_40_10, gt_40_11, gt_40_12, gt_40_13, gt_40_14, gt_40_15, gt_40_16, gt_40_17, gt_40_18, gt_40_19, gt_40_20, gt_40_21, gt_40_22, pt_40_22, gt_40_23, gt_40_24, gt_40_25, gt_40_26, gt_40_27, gt_40_28, gt_40_29, gt_40_30, gt_40_31, gt_40_32, gt_40_33, gt_40_34, pt_40_34, gt_40_35, pt_40_35, gt_40_36, gt_40_37, gt_40_38, gt_40_39, gt_40_40, gt_40_41, pt_40_41, gt_40_42, pt_40_42, gt_40_43, pt_40_43, gt_40_44, pt_40_44, gt_40_45, pt_40_45, gt_40_46, pt_40_46, gt_40_47, ad_43, as_43, ad_48, as_48, ad_50, as_50, ad_51, as_51, List.cons_append, List.nil_append, List.append_nil, if_true, if_false, true_and, and_true, true_or, or_true, nm_b_some, gi_si, ga_sa, gi_sa, gi_sb, gi_sp, ga_si, ga_sb, ga_sp, gb_si, gb_sa, gb_sb, gb_sp, gp_si, gp_sa, gp_sb, gp_sp, if_true, if_false, ↓reduceIte, Nat.reduceEqDiff, g2, g3, k2, k3, u50, u51, (q5 t htT).1.1, nI_s, nI_ad]
            have call := ih (t + 1) (by omega) (sa (sa (sa u 50 (upd (ga u 50) c (nI (cnt (inCv A c) t + 1)))) 51 (upd (ga u 51) c (nI (sumP (inCv A c) D.2.1 t + D.2.1 t)))) 48 (upd (ga u 48) t (nI c))) (updN A t c) b
            rw [← hdc] at call
            refine call _ ?_ ⟨?_, ?_, ?_, e5⟩ (Pf_add hP hcC hf h1 h2) (fun v b' hv hpv => ?_)
            · exact SF_fr (SF_fr hS0 e1) (((Fr.rf.sa (by decide)).sa (by decide)).sa (by decide))
            · intro k hk
              simp only [gi_si, ga_sa, gi_sa, gi_sb, gi_sp, ga_si, ga_sb, ga_sp, gb_si, gb_sa, gb_sb, gb_sp, gp_si, gp_sa, gp_sb, gp_sp, if_true, if_false, ↓reduceIte, Nat.reduceEqDiff]
              by_cases e : k = t
              · subst e; rw [upd_at, updN_at]; unfold dg; rw [if_neg (by omega)]
              · rw [upd_ne e, updN_ne e, e2 k (by omega)]; exact i1 k (by omega)
            · intro c' hc'
              simp only [gi_si, ga_sa, gi_sa, gi_sb, gi_sp, ga_si, ga_sb, ga_sp, gb_si, gb_sa, gb_sb, gb_sp, gp_si, gp_sa, gp_sb, gp_sp, if_true, if_false, ↓reduceIte, Nat.reduceEqDiff]
              rw [cnt_updN, sumP_updN]
              by_cases e : c = c'
              · subst e; rw [upd_at, upd_at, if_pos rfl, if_pos rfl]; exact ⟨rfl, rfl⟩
              · rw [upd_ne (fun z => e z.symm), upd_ne (fun z => e z.symm), if_neg e, if_neg e, (e3 c' hc').1, (e3 c' hc').2]
                exact i2 c' hc'
            · simp only [gi_si, ga_sa, gi_sa, gi_sb, gi_sp, ga_si, ga_sb, ga_sp, gb_si, gb_sa, gb_sb, gb_sp, gp_si, gp_sa, gp_sb, gp_sp, if_true, if_false, ↓reduceIte, Nat.reduceEqDiff]; exact e4
            · obtain ⟨v1, v2, v3, v4, v5⟩ := hv
              simp only [gi_si, ga_sa, gi_sa, gi_sb, gi_sp, ga_si, ga_sb, ga_sp, gb_si, gb_sa, gb_sb, gb_sp, gp_si, gp_sa, gp_sb, gp_sp, if_true, if_false, ↓reduceIte, Nat.reduceEqDiff] at hpv
              have y := v3 c hcC
              simp only [gi_si, ga_sa, gi_sa, gi_sb, gi_sp, ga_si, ga_sb, ga_sp, gb_si, gb_sa, gb_sb, gb_sp, gp_si, gp_sa, gp_sb, gp_sp, if_true, if_false, ↓reduceIte, Nat.reduceEqDiff, upd_at] at y
              have hl2 : nI (sumP (inCv A c) D.2.1 t + D.2.1 t) - nI (D.2.1 t) = nI (sumP (inCv A c) D.2.1 t) := by
                rw [i_eq, i_sub] <;> rw [i_nI (by omega), i_nI (by omega)] <;> first | (rw [i_nI (by omega)]; omega) | omega
              have v43 : ga v 43 t = nI (D.2.1 t) := by
                rw [v1.2.1 43 (by decide)]
                simp only [gi_si, ga_sa, gi_sa, gi_sb, gi_sp, ga_si, ga_sb, ga_sp, gb_si, gb_sa, gb_sb, gb_sp, gp_si, gp_sa, gp_sb, gp_sp, if_true, if_false, ↓reduceIte, Nat.reduceEqDiff]
                exact (q5 t htT).1.1
              simp only [r_X9_shareOn_185, r_X9_shareOn_186, r_X9_shareOn_189, r_X9_shareOn_190, r_X9_shareOn_191, r_X9_shareOn_192, r_X9_shareOn_193, r_X9_shareOn_194, r_X9_shareOn_195, r_X9_shareOn_196, r_X9_shareOn_199, r_X9_shareOn_200, r_X9_shareOn_201, r_X9_shareOn_202, r_X9_shareOn_203, r_X9_shareOn_206, r_X9_shareOn_207, r_X9_shareOn_208, r_X9_shareOn_209, r_X9_shareOn_210, r_X9_shareOn_213, ob_40, gt_40_0, pt_40_0, gt_40_1, pt_40_1, gt_40_2, pt_40_2, gt_40_3, pt_40_3, gt_40_4, pt_40_4, gt_40_5, pt_40_5, gt_40_6, pt_40_6, gt_40_7, pt_40_7, gt_40_8, pt_40_8, gt_40_9, pt_40_9, gt_40_10, pt_40_10, gt_40_11, gt_40_12, gt_40_13, gt_40_14, gt_40_15, gt_40_16, gt_40_17, gt_40_18, gt_40_19, gt_40_20, gt_40_21, gt_40_22, pt_40_22, gt_40_23, gt_40_24, gt_40_25, gt_40_26, gt_40_27, gt_40_28, gt_40_29, gt_40_30, gt_40_31, gt_40_32, gt_40_33, gt_40_34, pt_40_34, gt_40_35, pt_40_35, gt_40_36, gt_40_37, gt_40_38, gt_40_39, gt_40_40, gt_40_41, pt_40_41, gt_40_42, pt_40_42, gt_40_43, pt_40_43, gt_40_44, pt_40_44, gt_40_45, pt_40_45, gt_40_46, pt_40_46, gt_40_47, ad_43, as_43, ad_50, as_50, ad_51, as_51, List.cons_append, List.nil_append, List.append_nil, if_true, if_false, true_and, and_true, true_or, or_true, nm_b_some, gi_si, ga_sa, gi_sa, gi_sb, gi_sp, ga_si, ga_sb, ga_sp, gb_si, gb_sa, gb_sb, gb_sp, gp_si, gp_sa, gp_sb, gp_sp, if_true, if_false, ↓reduceIte, Nat.reduceEqDiff, g2, g3, k2, k3, y.1, y.2, v43, nI_pred, hl2, nI_s]
              refine ihm (c + 1) _ b' _ (by omega) ⟨?_, fun k hk => ?_, fun c' hc' => ?_, ?_, v5⟩ ?_
              · exact e1.tr ((((Fr.rf.sa (by decide)).sa (by decide)).sa (by decide)).tr ((v1.sa (by decide)).sa (by decide)))
              · simp only [gi_si, ga_sa, gi_sa, gi_sb, gi_sp, ga_si, ga_sb, ga_sp, gb_si, gb_sa, gb_sb, gb_sp, gp_si, gp_sa, gp_sb, gp_sp, if_true, if_false, ↓reduceIte, Nat.reduceEqDiff]
                rw [v2 k (by omega)]
                simp only [gi_si, ga_sa, gi_sa, gi_sb, gi_sp, ga_si, ga_sb, ga_sp, gb_si, gb_sa, gb_sb, gb_sp, gp_si, gp_sa, gp_sb, gp_sp, if_true, if_false, ↓reduceIte, Nat.reduceEqDiff]
                rw [upd_ne (by omega)]
                exact e2 k hk
              · simp only [gi_si, ga_sa, gi_sa, gi_sb, gi_sp, ga_si, ga_sb, ga_sp, gb_si, gb_sa, gb_sb, gb_sp, gp_si, gp_sa, gp_sb, gp_sp, if_true, if_false, ↓reduceIte, Nat.reduceEqDiff]
                by_cases e : c' = c
                · subst e
                  rw [upd_at, upd_at]
                  exact ⟨(i2 c' hc').1.symm, (i2 c' hc').2.symm⟩
                · have y' := v3 c' hc'
                  simp only [gi_si, ga_sa, gi_sa, gi_sb, gi_sp, ga_si, ga_sb, ga_sp, gb_si, gb_sa, gb_sb, gb_sp, gp_si, gp_sa, gp_sb, gp_sp, if_true, if_false, ↓reduceIte, Nat.reduceEqDiff] at y'
                  rw [upd_ne e, upd_ne e] at y'
                  rw [upd_ne e, upd_ne e]
                  exact ⟨y'.1.trans (e3 c' hc').1, y'.2.trans (e3 c' hc').2⟩
              · simp only [gi_si, ga_sa, gi_sa, gi_sb, gi_sp, ga_si, ga_sb, ga_sp, gb_si, gb_sa, gb_sb, gb_sp, gp_si, gp_sa, gp_sb, gp_sp, if_true, if_false, ↓reduceIte, Nat.reduceEqDiff]; exact v4
              · simp only [gi_si, ga_sa, gi_sa, gi_sb, gi_sp, ga_si, ga_sb, ga_sp, gb_si, gb_sa, gb_sb, gb_sp, gp_si, gp_sa, gp_sb, gp_sp, if_true, if_false, ↓reduceIte, Nat.reduceEqDiff]
                refine Post_tr (S1 := fun E => Ext D T C A t E ∧ E t < c) (S2 := Ext D T C (updN A t c) (t + 1)) (fun E1 E2 h1 h2 => ?_) (fun E => ?_) hPo hpv
                · have h2' := Ext_step.mp h2
                  exact Ext_ord s2 htT h1.1 h2'.1 (by rw [h2'.2]; omega)
                · rw [Ext_step]
                  constructor
                  · rintro ⟨h1, h2⟩
                    by_cases e : E t = c
                    · exact Or.inr ⟨h1, e⟩
                    · exact Or.inl ⟨h1, by omega⟩
                  · rintro (h | h)
                    · exact ⟨h.1, by omega⟩
                    · exact ⟨h.1, by omega⟩
          have hq7 := q7 c t hcC htT
          have hno : ∀ E, Ext D T C A t E → E t = c → D.1 c t ∧ cnt (inCv A c) t < D.2.2.2.1 c ∧ sumP (inCv A c) D.2.1 t + D.2.1 t ≤ D.2.2.2.2 c := fun E hE e => Ext_no htT hE hcC s2 e
          rw [r_X9_shareOn_53]
          simp only [r_X9_shareOn_54, r_X9_shareOn_55, r_X9_shareOn_58, r_X9_shareOn_61, r_X9_shareOn_62, r_X9_shareOn_65, r_X9_shareOn_66, r_X9_shareOn_67, r_X9_shareOn_68, r_X9_shareOn_71, r_X9_shareOn_72, r_X9_shareOn_73, r_X9_shareOn_76, r_X9_shareOn_77, r_X9_shareOn_80, r_X9_shareOn_81, r_X9_shareOn_82, r_X9_shareOn_83, r_X9_shareOn_86, r_X9_shareOn_87, r_X9_shareOn_88, r_X9_shareOn_91, r_X9_shareOn_92, r_X9_shareOn_93, r_X9_shareOn_96, r_X9_shareOn_97, r_X9_shareOn_100, r_X9_shareOn_101, r_X9_shareOn_103, r_X9_shareOn_105, r_X9_shareOn_108, r_X9_shareOn_109, r_X9_shareOn_112, r_X9_shareOn_113, r_X9_shareOn_114, r_X9_shareOn_115, r_X9_shareOn_118, r_X9_shareOn_119, r_X9_shareOn_120, r_X9_shareOn_123, r_X9_shareOn_124, r_X9_shareOn_127, r_X9_shareOn_128, r_X9_shareOn_129, r_X9_shareOn_130, r_X9_shareOn_133, r_X9_shareOn_134, r_X9_shareOn_135, r_X9_shareOn_136, r_X9_shareOn_137, r_X9_shareOn_140, r_X9_shareOn_141, r_X9_shareOn_142, r_X9_shareOn_210, r_X9_shareOn_213, ob_40, gt_40_0, pt_40_0, gt_40_1, pt_40_1, gt_40_2, pt_40_2, gt_40_3, pt_40_3, gt_40_4, pt_40_4, gt_40_5, pt_40_5, gt_40_6, pt_40_6, gt_40_7, pt_40_7, gt_40_8, pt_40_8, gt_40_9, pt_40_9, gt_40_10, pt_40_10, gt_40_11, gt_40_12, gt_40_13, gt_40_14, gt_40_15, gt_40_16, gt_40_17, gt_40_18, gt_40_19, gt_40_20, gt_40_21, gt_40_22, pt_40_22, gt_40_23, gt_40_24, gt_40_25, gt_40_26, gt_40_27, gt_40_28, gt_40_29, gt_40_30, gt_40_31, gt_40_32, gt_40_33, gt_40_34, pt_40_34, gt_40_35, pt_40_35, gt_40_36, gt_40_37, gt_40_38, gt_40_39, gt_40_40, gt_40_41, pt_40_41, gt_40_42, pt_40_42, gt_40_43, pt_40_43, gt_40_44, pt_40_44, gt_40_45, pt_40_45, gt_40_46, pt_40_46, gt_40_47, ad_41, as_41, ad_42, as_42, ad_43, as_43, ad_45, as_45, ad_46, as_46, ad_47, as_47, ad_50, as_50, ad_51, as_51, List.cons_append, List.nil_append, List.append_nil, if_true, if_false, true_and, and_true, true_or, or_true, nm_b_some, gi_si, ga_sa, gi_sa, gi_sb, gi_sp, ga_si, ga_sb, ga_sp, gb_si, gb_sa, gb_sb, gb_sp, gp_si, gp_sa, gp_sb, gp_sp, if_true, if_false, ↓reduceIte, Nat.reduceEqDiff, q4, k1, g2, g3, k2, k3, u50, u51, (q5 t htT).1.1, (q6 c hcC).1.1, (q6 c hcC).2.1, nI_s, nI_ad, k5, k6, h10]
          by_cases c1 : ga u 45 c < ga u 41 t
          · simp only [c1, if_true]
            exact skip (fun E hE e => (hq7.mp (hno E hE e).1).1 c1) _
          · by_cases c2 : ga u 42 t < ga u 45 c + gi u 4007
            · simp only [c1, c2, if_true, if_false]
              exact skip (fun E hE e => (hq7.mp (hno E hE e).1).2 c2) _
            · by_cases c3 : cnt (inCv A c) t < D.2.2.2.1 c
              · by_cases c4 : D.2.2.2.2 c < sumP (inCv A c) D.2.1 t + D.2.1 t
                · simp only [c1, c2, c3, c4, if_true, if_false]
                  exact skip (fun E hE e => by have := (hno E hE e).2.2; omega) _
                · simp only [c1, c2, c3, c4, if_true, if_false]
                  exact take (hq7.mpr ⟨c1, c2⟩) c3 (by omega) _
              · simp only [c1, c2, c3, if_true, if_false]
                exact skip (fun E hE e => c3 (hno E hE e).2.1) _
      exact loop C 0 s bc .null (by omega) (ShE_rf i3 i4) (Or.inl ⟨rfl, rfl, fun E hE => by omega⟩)
    · simp only [hlt, if_false]
      refine hQ s bc (ShE_rf i3 i4) (Or.inl ⟨rfl, rfl, fun E hE => ?_⟩)
      have := dcost_ext (show t ≤ T by omega) hE
      omega
