/-! tryLoad, tryLoads, loadConvoy. -/
theorem updL_at (f : Nat → Int64) (k : Nat) (x : Int64) : vp_updL f k x k = x := by simp [vp_updL]
theorem updL_ne {f : Nat → Int64} {k j : Nat} {x : Int64} (h : j ≠ k) : vp_updL f k x j = f j := by simp [vp_updL, h]
theorem sp_sp (s : nm_S) (f g : Nat → Int64) : sp (sp s f) g = sp s g := rfl
def RV (T : Nat) (f : Nat → Int64) (v : Nat → Nat) : Prop := ∀ S, S < 2 ^ T → f S = nL (v S) ∧ v S ≤ 1152921504606846976
theorem cdS_le {S : Nat} (h : S < 1024) : cdS S ≤ 1073741824 := by
  have : ∀ n, n ≤ 10 → sumS wt n S + 8 ^ (10 - n) ≤ 1073741824 := by
    intro n
    induction n with
    | zero => intro _; show 0 + 8 ^ (10 - 0) ≤ _; decide
    | succ n ih =>
      intro hn
      have h1 := ih (by omega)
      rw [show 10 - n = (9 - n) + 1 by omega, Nat.pow_succ] at h1
      rw [sumS_s, show 10 - (n + 1) = 9 - n by omega]
      unfold wt at h1 ⊢
      split <;> omega
  have := this 10 (Nat.le_refl _)
  unfold cdS
  omega
theorem xor_lt' {T o L : Nat} (ho : o < 2 ^ T) (hL : L < 2 ^ T) : o ^^^ L < 2 ^ T := Nat.xor_lt_two_pow ho hL
def TL (D : ShD) (T c o ab x : Nat) (v v' : Nat → Nat) : Prop := (∀ S, S < 2 ^ T → o < S → v' S = v S) ∧ (∀ S, S ≤ o → v' S = (if S = o then 1152921504606846976 else v S) ∨ ∃ L, sub L ab ∧ fitsL D T c L ∧ S = o ^^^ L ∧ v' S = x + c * cdS L) ∧ (∀ S, S < 2 ^ T → S ≠ o → v' S ≤ v S)
/-- one load is tried -/
theorem c_tryLoad {d : Nat} {s : nm_S} {Q : nm_K} {D : ShD} {T C c o ab x y : Nat} {f1 : Nat → Int64} {v v1 : Nat → Nat} (hS : SX s D T C) (hc : c < C) (ho : o < 2 ^ T) (hab : sub ab o) (hx2 : x < 1152921504606846976) (hy : sub y ab) (hv1 : RV T f1 v1) (hT : TL D T c o ab x v v1) (hdn : ∀ L, sub L ab → y < L → fitsL D T c L → ¬ more D T c L ab → v1 (o ^^^ L) ≤ x + c * cdS L) (hQ : ∀ (f' : Nat → Int64) (v' : Nat → Nat), RV T f' v' → TL D T c o ab x v v' → (∀ L, sub L ab → y ≤ L → fitsL D T c L → ¬ more D T c L ab → v' (o ^^^ L) ≤ x + c * cdS L) → Q [] (rep (sp s f'))) : nm_call (d + 4) 36 [.ref 11, .int (nI c), .int (nI o), .int (nI ab), .int (nI y), .long (nL x)] (rep (sp s f1)) Q := by
  have hS0 := hS
  obtain ⟨⟨s1, s2⟩, ⟨s3, s4⟩, s5, s6, s7, s8, s9⟩ := hS
  have hp := pow_1024 s1
  have hab2 : ab < 2 ^ T := Nat.lt_of_le_of_lt (sub_le hab) ho
  have h10 : ¬ (1 : Int32) = 0 := by decide
  have hy2 : y < 2 ^ T := Nat.lt_of_le_of_lt (sub_le hy) hab2
  have hyo : sub y o := sub_of (fun t hb => sub_bit hab (sub_bit hy hb))
  have k2 : vp_in (nI y) 1024 := vp_in' (by omega) (by omega)
  have k3 : (nI y).toNatClampNeg = y := i_nIc (by omega)
  have hxl := xor_lt' ho hy2
  have k4 : vp_in (nI (o ^^^ y)) 1024 := vp_in' (by omega) (by omega)
  have k5 : (nI (o ^^^ y)).toNatClampNeg = o ^^^ y := i_nIc (by omega)
  have hcd := cdS_le (S := y) (by omega)
  rw [e_X4_tryLoad]
  simp only [r_X4_tryLoad_0, r_X4_tryLoad_1, r_X4_tryLoad_2, r_X4_tryLoad_4, r_X4_tryLoad_7, ob_11, gt_11_0, gt_11_1, gt_11_2, gt_11_3, gt_11_4, pt_11_4, gt_11_5, pt_11_5, List.cons_append, List.nil_append, List.append_nil, if_true, if_false, true_and, and_true, true_or, or_true, nm_b_some, c_fits (SX_sp hS0 f1) hc hy2, b_0]
  by_cases c1 : cnt (fun i => y.testBit i) T ≤ D.2.2.2.1 c ∧ sumS D.2.1 T y ≤ D.2.2.2.2 c
  · simp only [eq_true c1, not_true_eq_false, if_false, r_X4_tryLoad_10, r_X4_tryLoad_11, r_X4_tryLoad_12, r_X4_tryLoad_14, r_X4_tryLoad_15, ob_11, gt_11_0, gt_11_1, gt_11_2, gt_11_3, gt_11_4, pt_11_4, gt_11_5, pt_11_5, List.cons_append, List.nil_append, List.append_nil, if_true, if_false, true_and, and_true, true_or, or_true, nm_b_some]
    refine c_more (s := sp s f1) (SX_sp hS0 f1) hc hy2 hab2 hy (fun hm => ?_) (fun hm => ?_)
    · simp only [r_X4_tryLoad_18, r_X4_tryLoad_58, List.cons_append, List.nil_append, List.append_nil, if_true, if_false, true_and, and_true, true_or, or_true, nm_b_some, h10]
      refine hQ f1 v1 hv1 hT (fun L b1 b2 b3 b4 => ?_)
      by_cases e : y = L
      · subst e; exact absurd hm b4
      · exact hdn L b1 (by omega) b3 b4
    · obtain ⟨w1, w2⟩ := hv1 _ hxl
      have w3 : (nI c).toInt64 * (nI (cdS y)).toInt64 = nL (c * cdS y) := by rw [nI_L (by omega), nI_L (by omega), nL_ml]
      have hcc : c * cdS y ≤ 4 * 1073741824 := Nat.mul_le_mul (by omega) hcd
      have w4 : (if nL (x + c * cdS y) < nL (v1 (o ^^^ y)) then nL (x + c * cdS y) else nL (v1 (o ^^^ y))) = nL (min (v1 (o ^^^ y)) (x + c * cdS y)) := lmin' (by omega) (by omega)
      simp only [r_X4_tryLoad_18, r_X4_tryLoad_21, r_X4_tryLoad_22, r_X4_tryLoad_24, r_X4_tryLoad_25, r_X4_tryLoad_27, r_X4_tryLoad_28, r_X4_tryLoad_31, r_X4_tryLoad_33, r_X4_tryLoad_34, r_X4_tryLoad_37, r_X4_tryLoad_39, r_X4_tryLoad_40, r_X4_tryLoad_42, r_X4_tryLoad_43, r_X4_tryLoad_44, r_X4_tryLoad_45, r_X4_tryLoad_48, r_X4_tryLoad_50, r_X4_tryLoad_51, r_X4_tryLoad_52, r_X4_tryLoad_53, r_X4_tryLoad_54, r_X4_tryLoad_57, r_X4_tryLoad_58, ob_11, gt_11_0, gt_11_1, gt_11_2, gt_11_3, gt_11_4, pt_11_4, gt_11_5, pt_11_5, ad_12, as_12, ad_13, as_13, List.cons_append, List.nil_append, List.append_nil, if_true, if_false, true_and, and_true, true_or, or_true, nm_b_some, gi_si, ga_sa, gi_sa, gi_sb, gi_sp, ga_si, ga_sb, ga_sp, gb_si, gb_sa, gb_sb, gb_sp, gp_si, gp_sa, gp_sb, gp_sp, if_true, if_false, ↓reduceIte, Nat.reduceEqDiff, fb_xorI, k2, k3, k4, k5, s8 y (by omega), w1, w3, nL_ad, w4, sp_sp]
      obtain ⟨t1, t2, t3⟩ := hT
      have hxo : o ^^^ y ≤ o := xor_le hyo
      refine hQ _ (fun S => if S = o ^^^ y then min (v1 (o ^^^ y)) (x + c * cdS y) else v1 S) ?_ ⟨?_, ?_, ?_⟩ ?_
      · intro S hS1
        try dsimp only
        by_cases e : S = o ^^^ y
        · subst e; rw [updL_at, if_pos rfl]; exact ⟨rfl, by omega⟩
        · rw [updL_ne e, if_neg e]; exact hv1 S hS1
      · intro S hS1 hS2
        try dsimp only
        rw [if_neg (by omega)]
        exact t1 S hS1 hS2
      · intro S hS1
        try dsimp only
        by_cases e : S = o ^^^ y
        · subst e
          rw [if_pos rfl]
          by_cases hmn : v1 (o ^^^ y) ≤ x + c * cdS y
          · rw [Nat.min_eq_left hmn]; exact t2 _ hS1
          · rw [Nat.min_eq_right (by omega)]; exact Or.inr ⟨y, hy, c1, rfl, rfl⟩
        · rw [if_neg e]; exact t2 S hS1
      · intro S hS1 hS2
        try dsimp only
        have := t3 S hS1 hS2
        by_cases e : S = o ^^^ y
        · subst e; rw [if_pos rfl]; omega
        · rw [if_neg e]; exact this
      · intro L b1 b2 b3 b4
        try dsimp only
        by_cases e : y = L
        · subst e; rw [if_pos rfl]; omega
        · have := hdn L b1 (by omega) b3 b4
          by_cases e2 : o ^^^ L = o ^^^ y
          · rw [if_pos e2]; rw [e2] at this; omega
          · rw [if_neg e2]; exact this
  · simp only [eq_false c1, not_false_eq_true, if_true, r_X4_tryLoad_58]
    refine hQ f1 v1 hv1 hT (fun L b1 b2 b3 b4 => ?_)
    by_cases e : y = L
    · subst e; exact absurd b3 c1
    · exact hdn L b1 (by omega) b3 b4
theorem c_tryLoads {d : Nat} {s : nm_S} {Q : nm_K} {D : ShD} {T C c o ab x : Nat} {f : Nat → Int64} {v : Nat → Nat} (hS : SX s D T C) (hc : c < C) (ho : o < 2 ^ T) (hab : sub ab o) (hv : RV T f v) (hx : v o = x) (hx2 : x < 1152921504606846976) (hQ : ∀ (f' : Nat → Int64) (v' : Nat → Nat), RV T f' v' → TL D T c o ab x v v' → (∀ L, sub L ab → fitsL D T c L → ¬ more D T c L ab → v' (o ^^^ L) ≤ x + c * cdS L) → Q [] (rep (sp s f'))) : nm_call (d + 5) 35 [.ref 11, .int (nI c), .int (nI o), .int (nI ab)] (rep (sp s f)) Q := by
  have hS0 := hS
  obtain ⟨⟨s1, s2⟩, ⟨s3, s4⟩, s5, s6, s7, s8, s9⟩ := hS
  have hp := pow_1024 s1
  have hab2 : ab < 2 ^ T := Nat.lt_of_le_of_lt (sub_le hab) ho
  have g2 : vp_in (nI o) 1024 := vp_in' (by omega) (by omega)
  have g3 : (nI o).toNatClampNeg = o := i_nIc (by omega)
  have lit : (1152921504606846976 : Int64) = nL 1152921504606846976 := rfl
  have loop : ∀ (n y : Nat) (f1 : Nat → Int64) (v1 : Nat → Nat), y < n → sub y ab → RV T f1 v1 → TL D T c o ab x v v1 → (∀ L, sub L ab → y < L → fitsL D T c L → ¬ more D T c L ab → v1 (o ^^^ L) ≤ x + c * cdS L) → x_X4_tryLoads (d + 4) Q 20 [.ref 11, .int (nI c), .int (nI o), .int (nI ab), .long (nL x), .null, .int (nI y)] [] (rep (sp s f1)) 0 0 := by
    intro n
    induction n with
    | zero => intro y f1 v1 h; omega
    | succ n ih =>
      intro y f1 v1 hyn hy hv1 hT hdn
      have hy2 : y < 2 ^ T := Nat.lt_of_le_of_lt (sub_le hy) hab2
      have k1 : (0 : Int32) < nI y ↔ 0 < y := by rw [i_lt, i_nI (by omega), i_l0]; omega
      rw [r_X4_tryLoads_20]
      simp only [r_X4_tryLoads_22, k1]
      by_cases hy0 : 0 < y
      · simp only [eq_true hy0, if_true, r_X4_tryLoads_25, r_X4_tryLoads_26, r_X4_tryLoads_27, r_X4_tryLoads_28, r_X4_tryLoads_29, r_X4_tryLoads_31, r_X4_tryLoads_33, ob_11, gt_11_0, gt_11_1, gt_11_2, gt_11_3, gt_11_4, pt_11_4, gt_11_5, pt_11_5, List.cons_append, List.nil_append, List.append_nil, if_true, if_false, true_and, and_true, true_or, or_true, nm_b_some]
        refine c_tryLoad (s := s) hS0 hc ho hab hx2 hy hv1 hT hdn (fun f2 v2 a1 a2 a3 => ?_)
        simp only [r_X4_tryLoads_36, r_X4_tryLoads_38, r_X4_tryLoads_39, r_X4_tryLoads_40, r_X4_tryLoads_41, r_X4_tryLoads_42, r_X4_tryLoads_44, List.cons_append, List.nil_append, List.append_nil, if_true, if_false, true_and, and_true, true_or, or_true, nm_b_some]
        have e1 : nI y - 1 = nI (y - 1) := by
          rw [show nI y = nI (y - 1 + 1) by rw [show y - 1 + 1 = y by omega], nI_pred]
        rw [e1, fa_and]
        have hle : (y - 1) &&& ab ≤ y - 1 := Nat.and_le_left
        refine ih ((y - 1) &&& ab) f2 v2 (by omega) ?_ a1 a2 (fun L b1 b2 b3 b4 => ?_)
        · unfold sub
          rw [Nat.and_assoc, Nat.and_self]
        · refine a3 L b1 ?_ b3 b4
          rcases Nat.lt_or_ge L y with q | q
          · have := sub_next T L y ab hab2 b1 hy q
            omega
          · exact q
      · have hz : y = 0 := by omega
        subst hz
        simp only [eq_false hy0, if_false, r_X4_tryLoads_47, r_X4_tryLoads_48, r_X4_tryLoads_49, r_X4_tryLoads_50, r_X4_tryLoads_51, r_X4_tryLoads_52, r_X4_tryLoads_54, ob_11, gt_11_0, gt_11_1, gt_11_2, gt_11_3, gt_11_4, pt_11_4, gt_11_5, pt_11_5, List.cons_append, List.nil_append, List.append_nil, if_true, if_false, true_and, and_true, true_or, or_true, nm_b_some]
        refine c_tryLoad (s := s) (y := 0) hS0 hc ho hab hx2 hy hv1 hT hdn (fun f2 v2 a1 a2 a3 => ?_)
        simp only [r_X4_tryLoads_57, List.cons_append, List.nil_append, List.append_nil, if_true, if_false, true_and, and_true, true_or, or_true, nm_b_some]
        exact hQ f2 v2 a1 a2 (fun L b1 b2 b3 => a3 L b1 (Nat.zero_le _) b2 b3)
  rw [e_X4_tryLoads]
  simp only [r_X4_tryLoads_0, r_X4_tryLoads_1, r_X4_tryLoads_4, r_X4_tryLoads_5, r_X4_tryLoads_6, r_X4_tryLoads_8, r_X4_tryLoads_9, r_X4_tryLoads_12, r_X4_tryLoads_13, r_X4_tryLoads_16, r_X4_tryLoads_17, r_X4_tryLoads_18, ob_11, gt_11_0, gt_11_1, gt_11_2, gt_11_3, gt_11_4, pt_11_4, gt_11_5, pt_11_5, ad_13, as_13, List.cons_append, List.nil_append, List.append_nil, if_true, if_false, true_and, and_true, true_or, or_true, nm_b_some, gi_si, ga_sa, gi_sa, gi_sb, gi_sp, ga_si, ga_sb, ga_sp, gb_si, gb_sa, gb_sb, gb_sp, gp_si, gp_sa, gp_sb, gp_sp, if_true, if_false, ↓reduceIte, Nat.reduceEqDiff, g2, g3, (hv o ho).1, hx, lit, sp_sp]
  refine loop (ab + 1) ab _ (fun S => if S = o then 1152921504606846976 else v S) (by omega) (by unfold sub; rw [Nat.and_self]) ?_ ⟨?_, ?_, ?_⟩ ?_
  · intro S hS1
    try dsimp only
    by_cases e : S = o
    · subst e; rw [updL_at, if_pos rfl]; exact ⟨rfl, Nat.le_refl _⟩
    · rw [updL_ne e, if_neg e]; exact hv S hS1
  · intro S hS1 hS2
    try dsimp only
    rw [if_neg (by omega)]
  · intro S hS1
    exact Or.inl rfl
  · intro S hS1 hS2
    try dsimp only
    rw [if_neg hS2]
    exact Nat.le_refl _
  · intro L b1 b2 b3 b4
    have := sub_le b1
    omega
theorem c_thatCanGo {d : Nat} {s : nm_S} {Q : nm_K} {D : ShD} {T C c : Nat} (hS : SX s D T C) (hc : c < C) : ∃ able, able < 2 ^ T ∧ (∀ t, t < T → (able.testBit t = true ↔ D.1 c t)) ∧ ∀ (d : Nat) (Q : nm_K) (f : Nat → Int64), nm_call (d + 1) 11 [.ref 1, .int (ga s 7 c), .int (ga s 7 c + gi s 605)] (rep (sp s f)) Q ↔ Q [.int (nI able)] (rep (sp s f)) := by
  obtain ⟨⟨s1, s2⟩, ⟨s3, s4⟩, s5, s6, s7, s8, s9⟩ := hS
  refine ⟨mask (fun t => decide (¬ ga s 7 c < ga s 2 t ∧ ¬ ga s 3 t < ga s 7 c + gi s 605)) T, mask_lt _ T, fun t ht => ?_, fun d Q f => ?_⟩
  · rw [mask_bit, s9 c t hc ht]
    simp [ht]
  · rw [e_X2_thatCanGo]
    simp only [r_X2_thatCanGo_0, r_X2_thatCanGo_1, r_X2_thatCanGo_2, r_X2_thatCanGo_3]
    have key := nm_loop0 (fun i a => x_X2_thatCanGo d Q 5 [.ref 1, .int (ga s 7 c), .int (ga s 7 c + gi s 605), .int a, .int (nI i)] [] (rep (sp s f)) 0 0) (fun a => Q [.int a] (rep (sp s f))) (fun i acc => if ¬ ga s 7 c < ga s 2 i ∧ ¬ ga s 3 i < ga s 7 c + gi s 605 then acc ||| (1 : Int32) <<< (nI i &&& 31) else acc) T (by
      intro i a hi
      have g1 : nI i < nI T := (nI_lt' (by omega) (by omega)).mpr hi
      have g2 : vp_in (nI i) 10 := vp_in' (by omega) (by omega)
      have g3 : (nI i).toNatClampNeg = i := i_nIc (by omega)
      try dsimp only
      rw [r_X2_thatCanGo_5]
      simp only [r_X2_thatCanGo_7, r_X2_thatCanGo_8, r_X2_thatCanGo_11, r_X2_thatCanGo_14, r_X2_thatCanGo_15, r_X2_thatCanGo_18, r_X2_thatCanGo_20, r_X2_thatCanGo_21, r_X2_thatCanGo_22, r_X2_thatCanGo_25, r_X2_thatCanGo_26, r_X2_thatCanGo_27, r_X2_thatCanGo_30, r_X2_thatCanGo_32, r_X2_thatCanGo_33, r_X2_thatCanGo_36, r_X2_thatCanGo_37, r_X2_thatCanGo_38, r_X2_thatCanGo_40, r_X2_thatCanGo_41, r_X2_thatCanGo_42, r_X2_thatCanGo_43, r_X2_thatCanGo_46, ob_1, gt_1_0, gt_1_1, gt_1_2, gt_1_3, gt_1_4, pt_1_4, ad_2, as_2, ad_3, as_3, List.cons_append, List.nil_append, List.append_nil, if_true, if_false, true_and, and_true, true_or, or_true, nm_b_some, gi_si, ga_sa, gi_sa, gi_sb, gi_sp, ga_si, ga_sb, ga_sp, gb_si, gb_sa, gb_sb, gb_sp, gp_si, gp_sa, gp_sb, gp_sp, if_true, if_false, ↓reduceIte, Nat.reduceEqDiff, s3, g1, g2, g3, nI_s]
      by_cases h1 : ga s 7 c < ga s 2 i
      · simp only [h1, not_true_eq_false, false_and, if_true, if_false]
      · by_cases h2 : ga s 3 i < ga s 7 c + gi s 605
        · simp only [h1, h2, not_true_eq_false, and_false, if_true, if_false]
        · simp only [h1, h2, not_false_eq_true, and_self, if_true, if_false]) (by
      intro a
      have g1 : ¬ nI T < nI T := by rw [nI_lt' (by omega) (by omega)]; omega
      try dsimp only
      rw [r_X2_thatCanGo_5]
      simp only [r_X2_thatCanGo_7, r_X2_thatCanGo_8, r_X2_thatCanGo_11, r_X2_thatCanGo_14, r_X2_thatCanGo_15, r_X2_thatCanGo_18, r_X2_thatCanGo_20, r_X2_thatCanGo_21, r_X2_thatCanGo_22, r_X2_thatCanGo_25, r_X2_thatCanGo_26, r_X2_thatCanGo_27, r_X2_thatCanGo_30, r_X2_thatCanGo_32, r_X2_thatCanGo_33, r_X2_thatCanGo_36, r_X2_thatCanGo_37, r_X2_thatCanGo_38, r_X2_thatCanGo_40, r_X2_thatCanGo_41, r_X2_thatCanGo_42, r_X2_thatCanGo_43, r_X2_thatCanGo_46, r_X2_thatCanGo_49, r_X2_thatCanGo_50, ob_1, gt_1_0, gt_1_1, gt_1_2, gt_1_3, gt_1_4, pt_1_4, List.cons_append, List.nil_append, List.append_nil, if_true, if_false, true_and, and_true, true_or, or_true, nm_b_some, gi_si, ga_sa, gi_sa, gi_sb, gi_sp, ga_si, ga_sb, ga_sp, gb_si, gb_sa, gb_sb, gb_sp, gp_si, gp_sa, gp_sb, gp_sp, if_true, if_false, ↓reduceIte, Nat.reduceEqDiff, s3, g1]) 0
    rw [mask_lpf (fun i => ¬ ga s 7 c < ga s 2 i ∧ ¬ ga s 3 i < ga s 7 c + gi s 605) (by omega)] at key
    exact key
/-- what is known of the prices, after some convoys -/
def Snd (D : ShD) (T c n : Nat) (v : Nat → Nat) : Prop := ∀ S, S < n → S < 2 ^ T → v S = 1152921504606846976 ∨ ∃ A, Part D T c S A ∧ v S + 4 * cdS S = cw A T
def Cpl (T c : Nat) (A v : Nat → Nat) : Prop := v (opA T c A) + 4 * cdS (opA T c A) ≤ cw (trA c A) T
theorem opA_lt (T c : Nat) (A : Nat → Nat) : opA T c A < 2 ^ T := mask_lt _ T
theorem ldA_lt (T c : Nat) (A : Nat → Nat) : ldA T c A < 2 ^ T := mask_lt _ T
theorem cdS_xor {T S L : Nat} (hL : sub L S) : cdS (S ^^^ L) + cdS L = cdS S := sumS_xor hL 10
theorem cw_A4 {A : Nat → Nat} {T : Nat} (hT : T ≤ 10) (h : ∀ t, t < T → A t ≤ 4) : cw A T < 1152921504606846976 := by
  exact Nat.lt_of_le_of_lt (Nat.le_trans (Nat.le_add_right _ _) (cw_le T hT h)) (by decide)
theorem c_loadConvoy {d : Nat} {s : nm_S} {Q : nm_K} {D : ShD} {T C c : Nat} {f : Nat → Int64} {v A : Nat → Nat} (hS : SX s D T C) (hc : c < C) (hA : Pf D C A T) (hmin : ∀ B, Pf D C B T → price D T A ≤ price D T B) (hv : RV T f v) (hsd : Snd D T c (2 ^ T) v) (hcp : Cpl T c A v) (hQ : ∀ (f' : Nat → Int64) (v' : Nat → Nat), RV T f' v' → Snd D T (c + 1) (2 ^ T) v' → Cpl T (c + 1) A v' → Q [] (rep (sp s f'))) : nm_call (d + 6) 34 [.ref 11, .int (nI c), .int (nI (2 ^ T - 1))] (rep (sp s f)) Q := by
  have hS0 := hS
  obtain ⟨able, ab1, ab2, ab3⟩ := c_thatCanGo (d := d) (Q := Q) hS hc
  obtain ⟨⟨s1, s2⟩, ⟨s3, s4⟩, s5, s6, s7, s8, s9⟩ := hS
  have hp := pow_1024 s1
  have hp0 : 0 < 2 ^ T := Nat.pow_pos (by decide)
  have k2 : vp_in (nI c) 4 := vp_in' (by omega) (by omega)
  have k3 : (nI c).toNatClampNeg = c := i_nIc (by omega)
  have lit : (1152921504606846976 : Int64) = nL 1152921504606846976 := rfl
  have hop := opA_lt T c A
  have hA4 : ∀ t, t < T → A t ≤ 4 := fun t ht => by rcases hA.1 t ht with z | z <;> omega
  have htr4 : ∀ t, t < T → trA c A t ≤ 4 := fun t ht => by unfold trA; split <;> omega
  have hvop : v (opA T c A) < 1152921504606846976 := by
    have := cw_A4 s1 htr4
    unfold Cpl at hcp
    omega
  -- the load of the least sharing
  have hLs : sub (ldA T c A) (opA T c A &&& able) := sub_of (fun t hb => by
    have h1 := sub_bit (ldA_sub T c A) hb
    have h2 := (ldA_bit T c A t).mp hb
    rw [Nat.testBit_and, h1, (ab2 t h2.1).mpr (by
      rcases hA.1 t h2.1 with z | z
      · rw [h2.2] at z; exact z.2
      · omega)]
    rfl)
  have hq1 : ∀ t, t < T → (ldA T c A).testBit t = inCv A c t := by
    intro t ht
    unfold ldA inCv
    rw [mask_bit]
    simp [ht]
  have hcn : cnt (fun i => (ldA T c A).testBit i) T = cnt (inCv A c) T := cnt_cong hq1
  have hsm : sumS D.2.1 T (ldA T c A) = sumP (inCv A c) D.2.1 T := sumS_P T hq1
  have hLf : fitsL D T c (ldA T c A) := by
    unfold fitsL
    rw [hcn, hsm]
    exact hA.2 c hc
  have hLm : ¬ more D T c (ldA T c A) (opA T c A &&& able) := by
    rintro ⟨t, t1, t2, t3, t4⟩
    rw [Nat.testBit_and] at t2
    simp only [Bool.and_eq_true] at t2
    have a1 := (opA_bit T c A t).mp t2.1
    have a2 : ¬ A t = c := fun z => by
      have := (ldA_bit T c A t).mpr ⟨t1, z⟩
      rw [this] at t3
      cases t3
    unfold fitsL at t4
    rw [(cnt_or t3 T).2 t1, (sumS_or t3 T).2 t1, hcn, hsm] at t4
    exact least_full s2 hA hmin hc t1 (by omega) ((ab2 t t1).mp t2.2) t4.1 t4.2
  have hnx : ∀ v2 : Nat → Nat, v2 (opA T c A ^^^ ldA T c A) ≤ v (opA T c A) + c * cdS (ldA T c A) → Cpl T (c + 1) A v2 := by
    intro v2 h
    unfold Cpl at hcp ⊢
    rw [← opA_next]
    have e1 := cdS_xor (T := T) (ldA_sub T c A)
    have e2 := cw_put (A := trA c A) (L := ldA T c A) (c := c) T (fun t ht hb => by
      have := (ldA_bit T c A t).mp hb
      unfold trA
      rw [if_neg (by omega)])
    have e3 : cw (putL (trA c A) (ldA T c A) c) T = cw (trA (c + 1) A) T := cw_cong (fun t ht => trA_next ht)
    rw [e3, ← cdS_T s1 (ldA_lt T c A)] at e2
    omega
  have loop : ∀ (m o : Nat) (f1 : Nat → Int64) (v1 : Nat → Nat), o + m = 2 ^ T → RV T f1 v1 → (∀ S, o ≤ S → S < 2 ^ T → v1 S = v S) → Snd D T (c + 1) o v1 → (opA T c A < o → Cpl T (c + 1) A v1) → x_X4_loadConvoy (d + 5) Q 32 [.ref 11, .int (nI c), .int (nI (2 ^ T - 1)), .int (ga s 7 c), .int (nI able), .int (nI o)] [] (rep (sp s f1)) 0 0 := by
    intro m
    induction m with
    | zero =>
      intro o f1 v1 ho a1 a2 a3 a4
      have g1 : nI (2 ^ T - 1) < nI o := (nI_lt' (by omega) (by omega)).mpr (by omega)
      rw [r_X4_loadConvoy_32]
      simp only [r_X4_loadConvoy_34, r_X4_loadConvoy_35, r_X4_loadConvoy_70, List.cons_append, List.nil_append, List.append_nil, if_true, if_false, true_and, and_true, true_or, or_true, nm_b_some, g1]
      exact hQ f1 v1 a1 (fun S h1 h2 => a3 S (by omega) h2) (a4 (by omega))
    | succ m ih =>
      intro o f1 v1 ho a1 a2 a3 a4
      have hoT : o < 2 ^ T := by omega
      have g1 : ¬ nI (2 ^ T - 1) < nI o := by rw [nI_lt' (by omega) (by omega)]; omega
      have g2 : vp_in (nI o) 1024 := vp_in' (by omega) (by omega)
      have g3 : (nI o).toNatClampNeg = o := i_nIc (by omega)
      obtain ⟨w1, w2⟩ := a1 o hoT
      have hcmp : lg_cmp (nL (v1 o)) (nL 1152921504606846976) < 0 ↔ v1 o < 1152921504606846976 := by
        rw [lg_cmp_lt, nL_lt (by omega) (by omega)]
      rw [r_X4_loadConvoy_32]
      simp only [r_X4_loadConvoy_34, r_X4_loadConvoy_35, r_X4_loadConvoy_38, r_X4_loadConvoy_39, r_X4_loadConvoy_42, r_X4_loadConvoy_44, r_X4_loadConvoy_45, r_X4_loadConvoy_48, r_X4_loadConvoy_49, r_X4_loadConvoy_52, r_X4_loadConvoy_53, r_X4_loadConvoy_54, r_X4_loadConvoy_56, r_X4_loadConvoy_58, r_X4_loadConvoy_60, r_X4_loadConvoy_61, r_X4_loadConvoy_64, r_X4_loadConvoy_67, ob_11, gt_11_0, gt_11_1, gt_11_2, gt_11_3, gt_11_4, pt_11_4, gt_11_5, pt_11_5, ad_13, as_13, List.cons_append, List.nil_append, List.append_nil, if_true, if_false, true_and, and_true, true_or, or_true, nm_b_some, gi_si, ga_sa, gi_sa, gi_sb, gi_sp, ga_si, ga_sb, ga_sp, gb_si, gb_sa, gb_sb, gb_sp, gp_si, gp_sa, gp_sb, gp_sp, if_true, if_false, ↓reduceIte, Nat.reduceEqDiff, g1, g2, g3, w1, lit, hcmp, fa_and, nI_s]
      have hvo : v1 o = v o := a2 o (Nat.le_refl _) hoT
      by_cases hlt : v1 o < 1152921504606846976
      · simp only [hlt, if_true]
        have hsubo : sub (o &&& able) o := by
          unfold sub
          rw [Nat.and_comm o able, Nat.and_assoc, Nat.and_self]
        refine c_tryLoads (s := s) hS0 hc hoT hsubo a1 rfl hlt (fun f2 v2 b1 b2 b3 => ?_)
        obtain ⟨t1, t2, t3⟩ := b2
        refine ih (o + 1) f2 v2 (by omega) b1 (fun S h1 h2 => ?_) (fun S h1 h2 => ?_) (fun h => ?_)
        · rw [t1 S h2 (by omega)]; exact a2 S (by omega) h2
        · rcases t2 S (by omega) with e | ⟨L, e1, e2, e3, e4⟩
          · by_cases hSo : S = o
            · rw [if_pos hSo] at e; exact Or.inl e
            · rw [if_neg hSo] at e
              rw [e]
              exact a3 S (by omega) h2
          · right
            rcases hsd o hoT hoT with z | ⟨B, z1, z2⟩
            · omega
            · have hLo : sub L o := sub_of (fun t hb => sub_bit hsubo (sub_bit e1 hb))
              have hLT : L < 2 ^ T := Nat.lt_of_le_of_lt (sub_le hLo) hoT
              refine ⟨putL B L c, ?_, ?_⟩
              · rw [e3]
                refine Part_put (by omega) z1 hLo (fun t ht hb => ?_) e2
                have := sub_bit e1 hb
                rw [Nat.testBit_and] at this
                simp only [Bool.and_eq_true] at this
                exact (ab2 t ht).mp this.2
              · have q1 := cw_put (A := B) (L := L) (c := c) T (fun t ht hb => (z1.2 t ht).mp (sub_bit hLo hb))
                rw [← cdS_T s1 hLT] at q1
                have q2 := cdS_xor (T := T) hLo
                rw [e4, e3]
                rw [hvo] at *
                omega
        · by_cases hSo : opA T c A = o
          · refine hnx v2 ?_
            have := b3 (ldA T c A) (by rw [← hSo]; exact hLs) hLf (by rw [← hSo]; exact hLm)
            rw [hSo, ← hvo]
            exact this
          · have hlt2 : opA T c A < o := by omega
            have y := a4 hlt2
            unfold Cpl at y ⊢
            have hle : opA T (c + 1) A ≤ opA T c A := by rw [← opA_next]; exact xor_le (ldA_sub T c A)
            have := t3 (opA T (c + 1) A) (opA_lt T (c + 1) A) (by omega)
            omega
      · simp only [hlt, if_false]
        have hne : opA T c A ≠ o := by
          intro e
          rw [e, ← hvo] at hvop
          exact hlt hvop
        refine ih (o + 1) f1 v1 (by omega) a1 (fun S h1 h2 => a2 S (by omega) h2) (fun S h1 h2 => ?_) (fun h => a4 (by omega))
        by_cases hSo : S = o
        · subst hSo; left; omega
        · exact a3 S (by omega) h2
  rw [e_X4_loadConvoy]
  simp only [r_X4_loadConvoy_0, r_X4_loadConvoy_1, r_X4_loadConvoy_4, r_X4_loadConvoy_7, r_X4_loadConvoy_8, r_X4_loadConvoy_9, r_X4_loadConvoy_10, r_X4_loadConvoy_11, r_X4_loadConvoy_14, r_X4_loadConvoy_15, r_X4_loadConvoy_16, r_X4_loadConvoy_17, r_X4_loadConvoy_20, r_X4_loadConvoy_23, r_X4_loadConvoy_24, r_X4_loadConvoy_27, r_X4_loadConvoy_29, r_X4_loadConvoy_30, ob_11, gt_11_0, gt_11_1, gt_11_2, gt_11_3, gt_11_4, pt_11_4, gt_11_5, pt_11_5, ob_6, gt_6_0, gt_6_1, gt_6_2, gt_6_3, gt_6_4, pt_6_4, gt_6_5, pt_6_5, gt_6_6, pt_6_6, ad_7, as_7, ob_1, List.cons_append, List.nil_append, List.append_nil, if_true, if_false, true_and, and_true, true_or, or_true, nm_b_some, gi_si, ga_sa, gi_sa, gi_sb, gi_sp, ga_si, ga_sb, ga_sp, gb_si, gb_sa, gb_sb, gb_sp, gp_si, gp_sa, gp_sb, gp_sp, if_true, if_false, ↓reduceIte, Nat.reduceEqDiff, k2, k3, ab3]
  exact loop (2 ^ T) 0 f v (by omega) hv (fun S _ _ => rfl) (fun S h => by omega) (fun h => by omega)
