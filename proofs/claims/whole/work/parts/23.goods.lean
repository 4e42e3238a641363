/-! set and thing. -/
def IvB (s : nm_S) : Prop := (gi s 9 = gi s 4000 ∧ gi s 10 = gi s 4009 ∧ gi s 11 = gi s 4010 ∧ gi s 605 = gi s 4007 ∧ gi s 606 = gi s 4008) ∧ (0 ≤ (gi s 9).toInt ∧ (gi s 9).toInt ≤ 2000) ∧ (gi s 11 = 0 ∨ gi s 11 = 1) ∧ (2 ≤ (gi s 605).toInt ∧ (gi s 605).toInt ≤ 120) ∧ (0 ≤ (gi s 606).toInt ∧ (gi s 606).toInt ≤ 30) ∧ (0 ≤ (gi s 10).toInt ∧ (gi s 10).toInt ≤ 2000)
theorem IvB_reads : Reads [9, 10, 11, 605, 606, 4000, 4007, 4008, 4009, 4010] [] IvB := by
  intro s t hk hc h
  unfold IvB at h ⊢
  rw [hk 9 (by decide), hk 10 (by decide), hk 11 (by decide), hk 605 (by decide), hk 606 (by decide), hk 4000 (by decide), hk 4007 (by decide), hk 4008 (by decide), hk 4009 (by decide), hk 4010 (by decide)]
  exact h
def okset (z a b c : Int32) : Prop := z = 0 ∧ (2 ≤ a ∧ a ≤ 120) ∧ (0 ≤ b ∧ b ≤ 30) ∧ (0 ≤ c ∧ c ≤ 2000)
theorem c_set_y {s : nm_S} {a b c : Int32} (h : okset (gi s 11) a b c) : Runs 71 [.ref 0, .int a, .int b, .int c] s 1 (si (si (si (si s 1105 0) 605 a) 606 b) 10 c) := by
  intro Q hQ
  obtain ⟨h1, h2, h3, h4⟩ := h
  simp only [e_X8_set, r_X8_set_0, r_X8_set_1, r_X8_set_4, r_X8_set_7, r_X8_set_8, r_X8_set_9, r_X8_set_11, r_X8_set_14, r_X8_set_17, r_X8_set_18, r_X8_set_19, r_X8_set_20, r_X8_set_21, r_X8_set_23, r_X8_set_26, r_X8_set_29, r_X8_set_30, r_X8_set_31, r_X8_set_34, r_X8_set_37, r_X8_set_40, r_X8_set_41, r_X8_set_42, r_X8_set_43, r_X8_set_46, r_X8_set_49, r_X8_set_50, r_X8_set_53, r_X8_set_54, r_X8_set_57, r_X8_set_58, r_X8_set_61, r_X8_set_62, r_X8_set_65, r_X8_set_66, r_X8_set_67, r_X8_set_70, r_X8_set_71, ob_0, gt_0_0, gt_0_1, gt_0_2, gt_0_3, gt_0_4, gt_0_5, gt_0_6, gt_0_7, gt_0_8, gt_0_9, pt_0_9, gt_0_10, pt_0_10, gt_0_11, pt_0_11, ob_6, gt_6_0, gt_6_1, gt_6_2, gt_6_3, gt_6_4, pt_6_4, gt_6_5, pt_6_5, gt_6_6, pt_6_6, List.cons_append, List.nil_append, List.append_nil, if_true, if_false, true_and, and_true, true_or, or_true, nm_b_some, gi_si, ga_sa, gi_sa, gi_sb, gi_sp, ga_si, ga_sb, ga_sp, gb_si, gb_sa, gb_sb, gb_sp, gp_si, gp_sa, gp_sb, gp_sp, if_true, if_false, ↓reduceIte, Nat.reduceEqDiff, c_within, c_forget, b_0, h1, h2, h3, h4, ob_11, and_self, not_true_eq_false]
  simpa using hQ
theorem c_set_n {s : nm_S} {a b c : Int32} (h : ¬ okset (gi s 11) a b c) : Runs 71 [.ref 0, .int a, .int b, .int c] s 0 s := by
  intro Q hQ
  simp only [e_X8_set, r_X8_set_0, r_X8_set_1, r_X8_set_4, r_X8_set_7, r_X8_set_8, r_X8_set_9, r_X8_set_11, r_X8_set_14, r_X8_set_17, r_X8_set_18, r_X8_set_19, r_X8_set_20, r_X8_set_21, r_X8_set_23, r_X8_set_26, r_X8_set_29, r_X8_set_30, r_X8_set_31, r_X8_set_34, r_X8_set_37, r_X8_set_40, r_X8_set_41, r_X8_set_42, r_X8_set_43, r_X8_set_46, r_X8_set_49, r_X8_set_50, r_X8_set_53, r_X8_set_54, r_X8_set_57, r_X8_set_58, r_X8_set_61, r_X8_set_62, r_X8_set_65, r_X8_set_66, r_X8_set_67, r_X8_set_70, r_X8_set_71, ob_0, gt_0_0, gt_0_1, gt_0_2, gt_0_3, gt_0_4, gt_0_5, gt_0_6, gt_0_7, gt_0_8, gt_0_9, pt_0_9, gt_0_10, pt_0_10, gt_0_11, pt_0_11, ob_6, gt_6_0, gt_6_1, gt_6_2, gt_6_3, gt_6_4, pt_6_4, gt_6_5, pt_6_5, gt_6_6, pt_6_6, List.cons_append, List.nil_append, List.append_nil, if_true, if_false, true_and, and_true, true_or, or_true, nm_b_some, gi_si, ga_sa, gi_sa, gi_sb, gi_sp, ga_si, ga_sb, ga_sp, gb_si, gb_sa, gb_sb, gb_sp, gp_si, gp_sa, gp_sb, gp_sp, if_true, if_false, ↓reduceIte, Nat.reduceEqDiff, c_within, c_forget, b_0, ob_11]
  unfold okset at h
  by_cases h1 : gi s 11 = 0
  · by_cases h2 : 2 ≤ a ∧ a ≤ 120
    · by_cases h3 : 0 ≤ b ∧ b ≤ 30
      · have h4 : ¬ (0 ≤ c ∧ c ≤ 2000) := fun z => h ⟨h1, h2, h3, z⟩
        simp only [h1, h2, h3, h4, and_self, not_true_eq_false, not_false_eq_true, if_true, if_false]
        simpa using hQ
      · simp only [h1, h2, h3, and_self, not_true_eq_false, not_false_eq_true, if_true, if_false]
        simpa using hQ
    · simp only [h1, h2, not_false_eq_true, if_true, if_false]
      simpa using hQ
  · simp only [h1, if_false]
    simpa using hQ
theorem c_Mset_y {s : nm_S} {a b c : Int32} (h : okset (gi s 4010) a b c) : Runs 105 [.ref 40, .int a, .int b, .int c] s 1 (si (si (si s 4007 a) 4008 b) 4009 c) := by
  intro Q hQ
  obtain ⟨h1, h2, h3, h4⟩ := h
  simp only [e_X9_set, r_X9_set_0, r_X9_set_1, r_X9_set_4, r_X9_set_7, r_X9_set_8, r_X9_set_9, r_X9_set_11, r_X9_set_14, r_X9_set_17, r_X9_set_18, r_X9_set_19, r_X9_set_21, r_X9_set_24, r_X9_set_27, r_X9_set_28, r_X9_set_29, r_X9_set_32, r_X9_set_35, r_X9_set_38, r_X9_set_39, r_X9_set_40, r_X9_set_41, r_X9_set_42, r_X9_set_45, r_X9_set_46, r_X9_set_47, r_X9_set_50, r_X9_set_51, r_X9_set_52, r_X9_set_55, r_X9_set_56, ob_40, gt_40_0, pt_40_0, gt_40_1, pt_40_1, gt_40_2, pt_40_2, gt_40_3, pt_40_3, gt_40_4, pt_40_4, gt_40_5, pt_40_5, gt_40_6, pt_40_6, gt_40_7, pt_40_7, gt_40_8, pt_40_8, gt_40_9, pt_40_9, gt_40_10, pt_40_10, gt_40_11, gt_40_12, gt_40_13, gt_40_14, gt_40_15, gt_40_16, gt_40_17, gt_40_18, gt_40_19, gt_40_20, gt_40_21, gt_40_22, pt_40_22, gt_40_23, gt_40_24, gt_40_25, gt_40_26, gt_40_27, gt_40_28, gt_40_29, gt_40_30, gt_40_31, gt_40_32, gt_40_33, gt_40_34, pt_40_34, gt_40_35, pt_40_35, gt_40_36, gt_40_37, gt_40_38, gt_40_39, gt_40_40, gt_40_41, pt_40_41, gt_40_42, pt_40_42, gt_40_43, pt_40_43, gt_40_44, pt_40_44, gt_40_45, pt_40_45, gt_40_46, pt_40_46, gt_40_47, List.cons_append, List.nil_append, List.append_nil, if_true, if_false, true_and, and_true, true_or, or_true, nm_b_some, gi_si, ga_sa, gi_sa, gi_sb, gi_sp, ga_si, ga_sb, ga_sp, gb_si, gb_sa, gb_sb, gb_sp, gp_si, gp_sa, gp_sb, gp_sp, if_true, if_false, ↓reduceIte, Nat.reduceEqDiff, c_in, b_0, h1, h2, h3, h4, and_self, not_true_eq_false]
  simpa using hQ
theorem c_Mset_n {s : nm_S} {a b c : Int32} (h : ¬ okset (gi s 4010) a b c) : Runs 105 [.ref 40, .int a, .int b, .int c] s 0 s := by
  intro Q hQ
  simp only [e_X9_set, r_X9_set_0, r_X9_set_1, r_X9_set_4, r_X9_set_7, r_X9_set_8, r_X9_set_9, r_X9_set_11, r_X9_set_14, r_X9_set_17, r_X9_set_18, r_X9_set_19, r_X9_set_21, r_X9_set_24, r_X9_set_27, r_X9_set_28, r_X9_set_29, r_X9_set_32, r_X9_set_35, r_X9_set_38, r_X9_set_39, r_X9_set_40, r_X9_set_41, r_X9_set_42, r_X9_set_45, r_X9_set_46, r_X9_set_47, r_X9_set_50, r_X9_set_51, r_X9_set_52, r_X9_set_55, r_X9_set_56, ob_40, gt_40_0, pt_40_0, gt_40_1, pt_40_1, gt_40_2, pt_40_2, gt_40_3, pt_40_3, gt_40_4, pt_40_4, gt_40_5, pt_40_5, gt_40_6, pt_40_6, gt_40_7, pt_40_7, gt_40_8, pt_40_8, gt_40_9, pt_40_9, gt_40_10, pt_40_10, gt_40_11, gt_40_12, gt_40_13, gt_40_14, gt_40_15, gt_40_16, gt_40_17, gt_40_18, gt_40_19, gt_40_20, gt_40_21, gt_40_22, pt_40_22, gt_40_23, gt_40_24, gt_40_25, gt_40_26, gt_40_27, gt_40_28, gt_40_29, gt_40_30, gt_40_31, gt_40_32, gt_40_33, gt_40_34, pt_40_34, gt_40_35, pt_40_35, gt_40_36, gt_40_37, gt_40_38, gt_40_39, gt_40_40, gt_40_41, pt_40_41, gt_40_42, pt_40_42, gt_40_43, pt_40_43, gt_40_44, pt_40_44, gt_40_45, pt_40_45, gt_40_46, pt_40_46, gt_40_47, List.cons_append, List.nil_append, List.append_nil, if_true, if_false, true_and, and_true, true_or, or_true, nm_b_some, gi_si, ga_sa, gi_sa, gi_sb, gi_sp, ga_si, ga_sb, ga_sp, gb_si, gb_sa, gb_sb, gb_sp, gp_si, gp_sa, gp_sb, gp_sp, if_true, if_false, ↓reduceIte, Nat.reduceEqDiff, c_in, b_0]
  unfold okset at h
  by_cases h1 : gi s 4010 = 0
  · by_cases h2 : 2 ≤ a ∧ a ≤ 120
    · by_cases h3 : 0 ≤ b ∧ b ≤ 30
      · have h4 : ¬ (0 ≤ c ∧ c ≤ 2000) := fun z => h ⟨h1, h2, h3, z⟩
        simp only [h1, h2, h3, h4, and_self, not_true_eq_false, not_false_eq_true, if_true, if_false]
        simpa using hQ
      · simp only [h1, h2, h3, and_self, not_true_eq_false, not_false_eq_true, if_true, if_false]
        simpa using hQ
    · simp only [h1, h2, not_false_eq_true, if_true, if_false]
      simpa using hQ
  · simp only [h1, if_false]
    simpa using hQ
/-- either nothing happened, or it was not settled and what was known is forgotten -/
def Frgt (s t : nm_S) : Prop := t = s ∨ (gi s 11 = 0 ∧ gi t 1105 = 0)
theorem st_set {s : nm_S} (a b c : Int32) (h : IvB s) : ∃ v s1 s2, Runs 71 [.ref 0, .int a, .int b, .int c] s v s1 ∧ Runs 105 [.ref 40, .int a, .int b, .int c] s1 v s2 ∧ Fr [1105, 605, 606, 10, 4007, 4008, 4009] [] s s2 ∧ IvB s2 ∧ Frgt s s2 := by
  obtain ⟨⟨g1, g2, g3, g4, g5⟩, g6, g7, g8, g9, g10⟩ := h
  by_cases hk : okset (gi s 11) a b c
  · have r1 := c_set_y hk
    have r2 := c_Mset_y (s := si (si (si (si s 1105 0) 605 a) 606 b) 10 c) (a := a) (b := b) (c := c) (by simp only [gi_si, ga_sa, gi_sa, gi_sb, gi_sp, ga_si, ga_sb, ga_sp, gb_si, gb_sa, gb_sb, gb_sp, gp_si, gp_sa, gp_sb, gp_sp, if_true, if_false, ↓reduceIte, Nat.reduceEqDiff]; rw [← g3]; exact hk)
    refine ⟨_, _, _, r1, r2, ((((((Fr.rf.si (by decide)).si (by decide)).si (by decide)).si (by decide)).si (by decide)).si (by decide)).si (by decide), ?_, Or.inr ⟨hk.1, by simp only [gi_si, ga_sa, gi_sa, gi_sb, gi_sp, ga_si, ga_sb, ga_sp, gb_si, gb_sa, gb_sb, gb_sp, gp_si, gp_sa, gp_sb, gp_sp, if_true, if_false, ↓reduceIte, Nat.reduceEqDiff]⟩⟩
    obtain ⟨k1, k2, k3, k4⟩ := hk
    rw [i_le, i_le, i_l2, i_l120] at k2
    rw [i_le, i_le, i_l0, i_l30] at k3
    rw [i_le, i_le, i_l0, i_l2000] at k4
    unfold IvB
    simp only [gi_si, ga_sa, gi_sa, gi_sb, gi_sp, ga_si, ga_sb, ga_sp, gb_si, gb_sa, gb_sb, gb_sp, gp_si, gp_sa, gp_sb, gp_sp, if_true, if_false, ↓reduceIte, Nat.reduceEqDiff]
    exact ⟨⟨g1, trivial, g3, trivial, trivial⟩, g6, g7, k2, k3, k4⟩
  · exact ⟨_, _, _, c_set_n hk, c_Mset_n (by rw [← g3]; exact hk), Fr.rf, ⟨⟨g1, g2, g3, g4, g5⟩, g6, g7, g8, g9, g10⟩, Or.inl rfl⟩
/-! THINGS -/
def sumS (f : Nat → Nat) : Nat → Nat → Nat
  | 0, _ => 0
  | n + 1, S => sumS f n S + (if S.testBit n = true then f n else 0)
theorem sumS_s (f : Nat → Nat) (n S : Nat) : sumS f (n + 1) S = sumS f n S + (if S.testBit n = true then f n else 0) := rfl
theorem sumS_cong {f g : Nat → Nat} {S S' : Nat} : ∀ {n : Nat}, (∀ i, i < n → f i = g i ∧ S.testBit i = S'.testBit i) → sumS f n S = sumS g n S'
  | 0, _ => rfl
  | n + 1, h => by
    rw [sumS_s, sumS_s, sumS_cong (fun i hi => h i (by omega)), (h n (by omega)).1, (h n (by omega)).2]
theorem sumS_le {f : Nat → Nat} {c S : Nat} : ∀ {n : Nat}, (∀ i, i < n → f i ≤ c) → sumS f n S ≤ n * c
  | 0, _ => by simp [sumS]
  | n + 1, h => by
    have h1 := sumS_le (f := f) (c := c) (S := S) (n := n) (fun i hi => h i (by omega))
    have h2 := h n (by omega)
    rw [sumS_s, Nat.succ_mul]
    split <;> omega
def IvG (s : nm_S) : Prop := ∃ T : Nat, T ≤ 10 ∧ gi s 104 = nI T ∧ gi s 4001 = nI T ∧ (∀ i, i < T → (ga s 2 i = ga s 41 i ∧ ga s 3 i = ga s 42 i) ∧ (0 ≤ (ga s 41 i).toInt ∧ (ga s 41 i).toInt ≤ (ga s 42 i).toInt ∧ (ga s 42 i).toInt ≤ 2000) ∧ (∃ l, 1 ≤ l ∧ l ≤ 40 ∧ ga s 43 i = nI l) ∧ (∃ c, c ≤ 1000 ∧ ga s 44 i = nI c)) ∧ ∀ S, S < 2 ^ T → ga s 4 S = nI (sumS (fun i => (ga s 43 i).toNatClampNeg) T S) ∧ ga s 5 S = nI (sumS (fun i => (ga s 44 i).toNatClampNeg) T S)
theorem IvG_reads : Reads [104, 4001] [2, 3, 4, 5, 41, 42, 43, 44] IvG := by
  intro s t hk hc h
  unfold IvG at h ⊢
  rw [hk 104 (by decide), hk 4001 (by decide), hc 2 (by decide), hc 3 (by decide), hc 4 (by decide), hc 5 (by decide), hc 41 (by decide), hc 42 (by decide), hc 43 (by decide), hc 44 (by decide)]
  exact h
def okthing (z a b l c : Int32) : Prop := z = 0 ∧ (0 ≤ a ∧ a ≤ 2000) ∧ (a ≤ b ∧ b ≤ 2000) ∧ (1 ≤ l ∧ l ≤ 40) ∧ (0 ≤ c ∧ c ≤ 1000)
theorem sa_sw {s : nm_S} {c c' : Nat} {f g f' : Nat → Int32} (h : c ≠ c') : sa (sa (sa s c f) c' g) c f' = sa (sa s c f') c' g := by
  unfold sa
  refine Prod.ext rfl (Prod.ext ?_ rfl)
  funext j
  dsimp only
  cases h1 : Nat.beq j c with
  | false => cases h2 : Nat.beq j c' <;> simp
  | true =>
    have e1 := Nat.eq_of_beq_eq_true h1
    cases h2 : Nat.beq j c' with
    | false => simp
    | true => exact absurd (e1.symm.trans (Nat.eq_of_beq_eq_true h2)) h
def gst (p : Nat) (l c : Int32) (o : Nat) (a : (Nat → Int32) × (Nat → Int32)) : (Nat → Int32) × (Nat → Int32) := (upd a.1 (o + p) (a.1 o + l), upd a.2 (o + p) (a.2 o + c))
theorem gst_is (p : Nat) (l c : Int32) (f g : Nat → Int32) : ∀ S, (lpf (gst p l c) p 0 (f, g)).1 S = (if p ≤ S ∧ S < p + p then f (S - p) + l else f S) ∧ (lpf (gst p l c) p 0 (f, g)).2 S = (if p ≤ S ∧ S < p + p then g (S - p) + c else g S) := by
  refine lpf_ind (step := gst p l c) (fun i a => ∀ S, a.1 S = (if p ≤ S ∧ S < p + i then f (S - p) + l else f S) ∧ a.2 S = (if p ≤ S ∧ S < p + i then g (S - p) + c else g S)) (N := p) ?_ p 0 (f, g) (by omega) ?_
  · intro i a hi ha S
    have h0 := ha i
    have hS := ha S
    rw [if_neg (by omega), if_neg (by omega)] at h0
    by_cases he : S = i + p
    · subst he
      simp only [gst, upd_at]
      rw [if_pos (by omega), if_pos (by omega), h0.1, h0.2, show i + p - p = i by omega]
      exact ⟨rfl, rfl⟩
    · simp only [gst, upd_ne he]
      rw [hS.1, hS.2]
      by_cases hc : p ≤ S ∧ S < p + i
      · rw [if_pos hc, if_pos hc, if_pos (by omega), if_pos (by omega)]
        exact ⟨rfl, rfl⟩
      · rw [if_neg hc, if_neg hc, if_neg (by omega), if_neg (by omega)]
        exact ⟨rfl, rfl⟩
  · intro S
    rw [if_neg (by omega), if_neg (by omega)]
    exact ⟨rfl, rfl⟩
theorem or_pow {o T : Nat} (h : o < 2 ^ T) : o ||| 2 ^ T = o + 2 ^ T := by
  have h := Nat.two_pow_add_eq_or_of_lt h 1
  rw [Nat.mul_one] at h
  rw [Nat.or_comm, ← h, Nat.add_comm]
theorem pow_le_1024 {T : Nat} (h : T ≤ 10) : 2 ^ T ≤ 1024 := (Nat.pow_le_pow_right (by decide) h : 2 ^ T ≤ 2 ^ 10)
theorem c_gadd {s : nm_S} {a b l c : Int32} {T : Nat} {Q : nm_K} (hT : gi s 104 = nI T) (hl : T < 10) (hQ : Q [.int (nI T)] (rep (si (sa (sa (sa (sa s 2 (upd (ga s 2) T a)) 3 (upd (ga s 3) T b)) 4 (lpf (gst (2 ^ T) l c) (2 ^ T) 0 (ga s 4, ga s 5)).1) 5 (lpf (gst (2 ^ T) l c) (2 ^ T) 0 (ga s 4, ga s 5)).2) 104 (nI (T + 1))))) {d : Nat} : nm_call (d + 2) 9 [.ref 1, .int a, .int b, .int l, .int c] (rep s) Q := by
  have h1 : nI T < 10 := (nI_lt' (b := 10) (by omega) (by omega)).mpr hl
  have h2 : vp_in (nI T) 10 := vp_in' hl (by omega)
  have h3 : (nI T).toNatClampNeg = T := i_nIc (by omega)
  have hp := pow_le_1024 (show T + 1 ≤ 10 by omega)
  have hp2 : 2 ^ (T + 1) = 2 ^ T + 2 ^ T := by rw [Nat.pow_succ]; omega
  rw [e_X2_add]
  simp only [r_X2_add_0, r_X2_add_1, r_X2_add_4, r_X2_add_7, r_X2_add_8, r_X2_add_9, r_X2_add_10, r_X2_add_13, r_X2_add_14, r_X2_add_17, r_X2_add_18, r_X2_add_19, r_X2_add_20, r_X2_add_23, r_X2_add_24, r_X2_add_27, r_X2_add_28, r_X2_add_29, r_X2_add_30, r_X2_add_31, r_X2_add_34, r_X2_add_35, r_X2_add_37, r_X2_add_38, c_gfull, b_0, not_true_eq_false, not_false_eq_true, ob_1, gt_1_0, gt_1_1, gt_1_2, gt_1_3, gt_1_4, pt_1_4, ad_2, as_2, ad_3, as_3, List.cons_append, List.nil_append, List.append_nil, if_true, if_false, true_and, and_true, true_or, or_true, nm_b_some, gi_si, ga_sa, gi_sa, gi_sb, gi_sp, ga_si, ga_sb, ga_sp, gb_si, gb_sa, gb_sb, gb_sp, gp_si, gp_sa, gp_sb, gp_sp, if_true, if_false, ↓reduceIte, Nat.reduceEqDiff, hT, h1, h2, h3, shl1 T (by omega)]
  generalize hu : sa (sa s 2 (upd (ga s 2) T a)) 3 (upd (ga s 3) T b) = u at hQ ⊢
  have e4 : ga u 4 = ga s 4 := by rw [← hu]; simp only [gi_si, ga_sa, gi_sa, gi_sb, gi_sp, ga_si, ga_sb, ga_sp, gb_si, gb_sa, gb_sb, gb_sp, gp_si, gp_sa, gp_sb, gp_sp, if_true, if_false, ↓reduceIte, Nat.reduceEqDiff]
  have e5 : ga u 5 = ga s 5 := by rw [← hu]; simp only [gi_si, ga_sa, gi_sa, gi_sb, gi_sp, ga_si, ga_sb, ga_sp, gb_si, gb_sa, gb_sb, gb_sp, gp_si, gp_sa, gp_sb, gp_sp, if_true, if_false, ↓reduceIte, Nat.reduceEqDiff]
  have eT : gi u 104 = nI T := by rw [← hu]; simp only [gi_si, ga_sa, gi_sa, gi_sb, gi_sp, ga_si, ga_sb, ga_sp, gb_si, gb_sa, gb_sb, gb_sp, gp_si, gp_sa, gp_sb, gp_sp, if_true, if_false, ↓reduceIte, Nat.reduceEqDiff]; exact hT
  have hs0 : rep u = rep (sa (sa u 4 (ga s 4)) 5 (ga s 5)) := by rw [← e4, sa_self, ← e5, sa_self]
  rw [hs0]
  refine nm_loopI (fun o (z : (Nat → Int32) × (Nat → Int32)) => x_X2_add (d + 1) Q 40 [.ref 1, .int a, .int b, .int l, .int c, .int (nI (2 ^ T)), .int (nI o)] [] (rep (sa (sa u 4 z.1) 5 z.2)) 0 0) (fun z => Q [.int (nI T)] (rep (si (sa (sa u 4 z.1) 5 z.2) 104 (nI (T + 1))))) (gst (2 ^ T) l c) (fun _ _ => True) (N := 2 ^ T) ?_ ?_ (2 ^ T) 0 (ga s 4, ga s 5) (by omega) trivial hQ
  · intro o z ho _
    refine ⟨trivial, fun hn => ?_⟩
    have g1 : nI o < nI (2 ^ T) := (nI_lt' (by omega) (by omega)).mpr ho
    have g2 : vp_in (nI o) 1024 := vp_in' (by omega) (by omega)
    have g3 : (nI o).toNatClampNeg = o := i_nIc (by omega)
    have g4 : vp_in (nI (o + 2 ^ T)) 1024 := vp_in' (by omega) (by omega)
    have g5 : (nI (o + 2 ^ T)).toNatClampNeg = o + 2 ^ T := i_nIc (by omega)
    rw [r_X2_add_40]
    simp only [r_X2_add_0, r_X2_add_1, r_X2_add_4, r_X2_add_7, r_X2_add_8, r_X2_add_9, r_X2_add_10, r_X2_add_13, r_X2_add_14, r_X2_add_17, r_X2_add_18, r_X2_add_19, r_X2_add_20, r_X2_add_23, r_X2_add_24, r_X2_add_27, r_X2_add_28, r_X2_add_29, r_X2_add_30, r_X2_add_31, r_X2_add_34, r_X2_add_35, r_X2_add_37, r_X2_add_38, r_X2_add_42, r_X2_add_44, r_X2_add_47, r_X2_add_48, r_X2_add_51, r_X2_add_53, r_X2_add_55, r_X2_add_56, r_X2_add_57, r_X2_add_60, r_X2_add_62, r_X2_add_63, r_X2_add_64, r_X2_add_65, r_X2_add_66, r_X2_add_67, r_X2_add_70, r_X2_add_72, r_X2_add_74, r_X2_add_75, r_X2_add_76, r_X2_add_79, r_X2_add_81, r_X2_add_82, r_X2_add_84, r_X2_add_85, r_X2_add_86, r_X2_add_89, r_X2_add_92, r_X2_add_93, r_X2_add_94, r_X2_add_97, r_X2_add_98, r_X2_add_99, r_X2_add_102, r_X2_add_103, r_X2_add_106, r_X2_add_107, r_X2_add_108, ob_1, gt_1_0, gt_1_1, gt_1_2, gt_1_3, gt_1_4, pt_1_4, ad_4, as_4, ad_5, as_5, List.cons_append, List.nil_append, List.append_nil, if_true, if_false, true_and, and_true, true_or, or_true, nm_b_some, gi_si, ga_sa, gi_sa, gi_sb, gi_sp, ga_si, ga_sb, ga_sp, gb_si, gb_sa, gb_sb, gb_sp, gp_si, gp_sa, gp_sb, gp_sp, if_true, if_false, ↓reduceIte, Nat.reduceEqDiff, g1, g2, g3, g4, g5, fa_or, or_pow ho, nI_s, sa_sw (show (4 : Nat) ≠ 5 by decide), sa_sa]
    exact hn
  · intro z _ hr
    have g1 : ¬ nI (2 ^ T) < nI (2 ^ T) := by rw [nI_lt' (by omega) (by omega)]; omega
    rw [r_X2_add_40]
    simp only [r_X2_add_0, r_X2_add_1, r_X2_add_4, r_X2_add_7, r_X2_add_8, r_X2_add_9, r_X2_add_10, r_X2_add_13, r_X2_add_14, r_X2_add_17, r_X2_add_18, r_X2_add_19, r_X2_add_20, r_X2_add_23, r_X2_add_24, r_X2_add_27, r_X2_add_28, r_X2_add_29, r_X2_add_30, r_X2_add_31, r_X2_add_34, r_X2_add_35, r_X2_add_37, r_X2_add_38, r_X2_add_42, r_X2_add_44, r_X2_add_47, r_X2_add_48, r_X2_add_51, r_X2_add_53, r_X2_add_55, r_X2_add_56, r_X2_add_57, r_X2_add_60, r_X2_add_62, r_X2_add_63, r_X2_add_64, r_X2_add_65, r_X2_add_66, r_X2_add_67, r_X2_add_70, r_X2_add_72, r_X2_add_74, r_X2_add_75, r_X2_add_76, r_X2_add_79, r_X2_add_81, r_X2_add_82, r_X2_add_84, r_X2_add_85, r_X2_add_86, r_X2_add_89, r_X2_add_92, r_X2_add_93, r_X2_add_94, r_X2_add_97, r_X2_add_98, r_X2_add_99, r_X2_add_102, r_X2_add_103, r_X2_add_106, r_X2_add_107, r_X2_add_108, ob_1, gt_1_0, gt_1_1, gt_1_2, gt_1_3, gt_1_4, pt_1_4, ad_4, as_4, ad_5, as_5, List.cons_append, List.nil_append, List.append_nil, if_true, if_false, true_and, and_true, true_or, or_true, nm_b_some, gi_si, ga_sa, gi_sa, gi_sb, gi_sp, ga_si, ga_sb, ga_sp, gb_si, gb_sa, gb_sb, gb_sp, gp_si, gp_sa, gp_sb, gp_sp, if_true, if_false, ↓reduceIte, Nat.reduceEqDiff, g1, eT, nI_s, nI_pred]
    exact hr
