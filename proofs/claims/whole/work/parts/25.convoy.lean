/-! convoy. -/
def bfr (f : Nat → Int32) (a b : Nat) : Prop := (f a).toInt < (f b).toInt ∨ ((f a).toInt = (f b).toInt ∧ a < b)
/-- the order in which they come to the bridge -/
def Ord (f g : Nat → Int32) (C : Nat) (o : Nat → Nat) : Prop := (∀ k, k < C → g k = nI (o k) ∧ o k < C) ∧ (∀ j k, j < k → k < C → bfr f (o j) (o k)) ∧ ∀ i, i < C → ∃ k, k < C ∧ o k = i
def IvC (s : nm_S) : Prop := ∃ C : Nat, C ≤ 4 ∧ gi s 604 = nI C ∧ gi s 4002 = nI C ∧ (∀ i, i < C → (ga s 7 i = ga s 45 i ∧ ga s 8 i = ga s 46 i ∧ ga s 9 i = ga s 47 i) ∧ (0 ≤ (ga s 45 i).toInt ∧ (ga s 45 i).toInt ≤ 2000) ∧ (∃ r, 1 ≤ r ∧ r ≤ 10 ∧ ga s 46 i = nI r) ∧ (∃ q, 1 ≤ q ∧ q ≤ 200 ∧ ga s 47 i = nI q)) ∧ ∃ o, Ord (ga s 45) (ga s 10) C o
theorem IvC_reads : Reads [604, 4002] [7, 8, 9, 10, 45, 46, 47] IvC := by
  intro s t hk hc h
  unfold IvC at h ⊢
  rw [hk 604 (by decide), hk 4002 (by decide), hc 7 (by decide), hc 8 (by decide), hc 9 (by decide), hc 10 (by decide), hc 45 (by decide), hc 46 (by decide), hc 47 (by decide)]
  exact h
def shf (old : Nat → Int32) (C p : Nat) : Nat → Int32 := fun k => if p < k ∧ k ≤ C then old (k - 1) else old k
def insp (old lf : Nat → Int32) (lv : Int32) : Nat → Nat
  | 0 => 0
  | p + 1 => if lv < lf (old p).toNatClampNeg then insp old lf lv p else p + 1
theorem insp_le (old lf : Nat → Int32) (lv : Int32) : ∀ p, insp old lf lv p ≤ p
  | 0 => Nat.le_refl 0
  | p + 1 => by
    have := insp_le old lf lv p
    unfold insp
    split <;> omega
theorem insp_hi (old lf : Nat → Int32) (lv : Int32) : ∀ p k, insp old lf lv p ≤ k → k < p → lv < lf (old k).toNatClampNeg
  | 0, k, _, h => by omega
  | p + 1, k, h1, h2 => by
    unfold insp at h1
    split at h1
    · rename_i hc
      by_cases hk : k = p
      · subst hk; exact hc
      · exact insp_hi old lf lv p k h1 (by omega)
    · omega
theorem insp_lo (old lf : Nat → Int32) (lv : Int32) : ∀ p, 0 < insp old lf lv p → ¬ lv < lf (old (insp old lf lv p - 1)).toNatClampNeg
  | 0, h => by simp [insp] at h
  | p + 1, h => by
    unfold insp at h ⊢
    split
    · rename_i hc
      rw [if_pos hc] at h
      exact insp_lo old lf lv p h
    · rename_i hc
      simpa using hc
theorem shf_up (old : Nat → Int32) (C p : Nat) (h : p < C) : upd (shf old C (p + 1)) (p + 1) (shf old C (p + 1) p) = shf old C p := by
  funext k
  by_cases hk : k = p + 1
  · subst hk
    rw [upd_at]
    unfold shf
    rw [if_neg (by omega), if_pos (by omega)]
    rfl
  · rw [upd_ne hk]
    unfold shf
    by_cases hc : p < k ∧ k ≤ C
    · rw [if_pos (by omega), if_pos hc]
    · rw [if_neg (by omega), if_neg hc]
theorem c_putIn {d : Nat} {s : nm_S} {Q : nm_K} {C : Nat} (hC : C < 4) {old : Nat → Int32} (ho : ∀ k, k < C → ∃ j, j < C ∧ old k = nI j) : ∀ p, p ≤ C → Q [] (rep (sa s 10 (upd (shf old C (insp old (ga s 7) (ga s 7 C) p)) (insp old (ga s 7) (ga s 7 C) p) (nI C)))) → x_X0_putInOrder d Q 2 [.ref 6, .int (nI C), .int (nI p)] [] (rep (sa s 10 (shf old C p))) 0 0
  | 0, hp, hQ => by
    have g1 : ¬ (0 : Int32) < nI 0 := by decide
    have g2 : vp_in (nI 0) 4 := vp_in' (by omega) (by omega)
    have g3 : (nI 0).toNatClampNeg = 0 := i_nIc (by omega)
    rw [r_X0_putInOrder_2]
    simp only [r_X0_putInOrder_0, r_X0_putInOrder_1, r_X0_putInOrder_3, r_X0_putInOrder_6, r_X0_putInOrder_7, r_X0_putInOrder_10, r_X0_putInOrder_11, r_X0_putInOrder_14, r_X0_putInOrder_15, r_X0_putInOrder_16, r_X0_putInOrder_17, r_X0_putInOrder_18, r_X0_putInOrder_19, r_X0_putInOrder_20, r_X0_putInOrder_23, r_X0_putInOrder_24, r_X0_putInOrder_25, r_X0_putInOrder_28, r_X0_putInOrder_29, r_X0_putInOrder_32, r_X0_putInOrder_33, r_X0_putInOrder_34, r_X0_putInOrder_37, r_X0_putInOrder_38, r_X0_putInOrder_39, r_X0_putInOrder_40, r_X0_putInOrder_41, r_X0_putInOrder_42, r_X0_putInOrder_45, r_X0_putInOrder_48, r_X0_putInOrder_49, r_X0_putInOrder_52, r_X0_putInOrder_53, r_X0_putInOrder_54, r_X0_putInOrder_55, ob_6, gt_6_0, gt_6_1, gt_6_2, gt_6_3, gt_6_4, pt_6_4, gt_6_5, pt_6_5, gt_6_6, pt_6_6, ad_7, as_7, ad_10, as_10, List.cons_append, List.nil_append, List.append_nil, if_true, if_false, true_and, and_true, true_or, or_true, nm_b_some, gi_si, ga_sa, gi_sa, gi_sb, gi_sp, ga_si, ga_sb, ga_sp, gb_si, gb_sa, gb_sb, gb_sp, gp_si, gp_sa, gp_sb, gp_sp, if_true, if_false, ↓reduceIte, Nat.reduceEqDiff, g1, g2, g3, sa_sa]
    exact hQ
  | p + 1, hp, hQ => by
    obtain ⟨j, hj, ej⟩ := ho p (by omega)
    have g1 : (0 : Int32) < nI (p + 1) := (nI_lt' (a := 0) (by omega) (by omega)).mpr (by omega)
    have g2 : vp_in (nI (p + 1)) 4 := vp_in' (by omega) (by omega)
    have g3 : (nI (p + 1)).toNatClampNeg = p + 1 := i_nIc (by omega)
    have g4 : vp_in (nI p) 4 := vp_in' (by omega) (by omega)
    have g5 : (nI p).toNatClampNeg = p := i_nIc (by omega)
    have g6 : shf old C (p + 1) p = nI j := by unfold shf; rw [if_neg (by omega)]; exact ej
    have g7 : vp_in (nI j) 4 := vp_in' (by omega) (by omega)
    have g8 : (nI j).toNatClampNeg = j := i_nIc (by omega)
    have g9 : vp_in (nI C) 4 := vp_in' (by omega) (by omega)
    have g10 : (nI C).toNatClampNeg = C := i_nIc (by omega)
    have g11 : (old p).toNatClampNeg = j := by rw [ej]; exact g8
    rw [r_X0_putInOrder_2]
    simp only [r_X0_putInOrder_0, r_X0_putInOrder_1, r_X0_putInOrder_3, r_X0_putInOrder_6, r_X0_putInOrder_7, r_X0_putInOrder_10, r_X0_putInOrder_11, r_X0_putInOrder_14, r_X0_putInOrder_15, r_X0_putInOrder_16, r_X0_putInOrder_17, r_X0_putInOrder_18, r_X0_putInOrder_19, r_X0_putInOrder_20, r_X0_putInOrder_23, r_X0_putInOrder_24, r_X0_putInOrder_25, r_X0_putInOrder_28, r_X0_putInOrder_29, r_X0_putInOrder_32, r_X0_putInOrder_33, r_X0_putInOrder_34, r_X0_putInOrder_37, r_X0_putInOrder_38, r_X0_putInOrder_39, r_X0_putInOrder_40, r_X0_putInOrder_41, r_X0_putInOrder_42, r_X0_putInOrder_45, r_X0_putInOrder_48, r_X0_putInOrder_49, r_X0_putInOrder_52, r_X0_putInOrder_53, r_X0_putInOrder_54, r_X0_putInOrder_55, ob_6, gt_6_0, gt_6_1, gt_6_2, gt_6_3, gt_6_4, pt_6_4, gt_6_5, pt_6_5, gt_6_6, pt_6_6, ad_7, as_7, ad_10, as_10, List.cons_append, List.nil_append, List.append_nil, if_true, if_false, true_and, and_true, true_or, or_true, nm_b_some, gi_si, ga_sa, gi_sa, gi_sb, gi_sp, ga_si, ga_sb, ga_sp, gb_si, gb_sa, gb_sb, gb_sp, gp_si, gp_sa, gp_sb, gp_sp, if_true, if_false, ↓reduceIte, Nat.reduceEqDiff, g1, g2, g3, g4, g5, g6, g7, g8, g9, g10, nI_pred, sa_sa, pk_m1]
    unfold insp at hQ
    rw [g11] at hQ
    by_cases hc : ga s 7 C < ga s 7 j
    · simp only [hc, if_true] at hQ ⊢
      have e := shf_up old C p (by omega)
      rw [g6] at e
      rw [e]
      exact c_putIn hC ho p (by omega) hQ
    · simp only [hc, if_false] at hQ ⊢
      exact hQ
theorem ord_ins {f g f' : Nat → Int32} {C : Nat} {o : Nat → Nat} (hC : C < 4) (h : Ord f g C o) (lv : Int32) (hf : f' = upd f C lv) : ∃ o', Ord f' (upd (shf g C (insp g f' lv C)) (insp g f' lv C) (nI C)) (C + 1) o' := by
  obtain ⟨h1, h2, h3⟩ := h
  generalize hq : insp g f' lv C = q
  have hqC : q ≤ C := by rw [← hq]; exact insp_le _ _ _ _
  have hC' : f' C = lv := by rw [hf, upd_at]
  have hne : ∀ i, i < C → f' i = f i := fun i hi => by rw [hf, upd_ne (by omega)]
  have ohi : ∀ k, q ≤ k → k < C → lv.toInt < (f (o k)).toInt := by
    intro k a b
    have := insp_hi g f' lv C k (by rw [hq]; exact a) b
    obtain ⟨z1, z2⟩ := h1 k b
    rw [z1, i_nIc (by omega), i_lt, hne _ z2] at this
    exact this
  have olo : ∀ k, k < q → (f (o k)).toInt ≤ lv.toInt := by
    intro k a
    have hl := insp_lo g f' lv C (by rw [hq]; omega)
    rw [hq] at hl
    obtain ⟨z1, z2⟩ := h1 (q - 1) (by omega)
    rw [z1, i_nIc (by omega), i_lt, hne _ z2] at hl
    by_cases hk : k = q - 1
    · subst hk; omega
    · have := h2 k (q - 1) (by omega) (by omega)
      unfold bfr at this
      omega
  refine ⟨fun k => if k < q then o k else if k = q then C else o (k - 1), ?_, ?_, ?_⟩
  · intro k hk
    dsimp only
    by_cases a : k < q
    · rw [if_pos a, upd_ne (by omega)]
      unfold shf
      rw [if_neg (by omega)]
      exact ⟨(h1 k (by omega)).1, by have := (h1 k (by omega)).2; omega⟩
    · rw [if_neg a]
      by_cases b : k = q
      · subst b
        rw [if_pos rfl, upd_at]
        exact ⟨rfl, by omega⟩
      · rw [if_neg b, upd_ne b]
        unfold shf
        rw [if_pos (by omega)]
        exact ⟨(h1 (k - 1) (by omega)).1, by have := (h1 (k - 1) (by omega)).2; omega⟩
  · intro j k hjk hk
    have old : ∀ j k, j < k → k < C → bfr f' (o j) (o k) := by
      intro j k a b
      have := h2 j k a b
      unfold bfr at this ⊢
      rw [hne _ (h1 j (by omega)).2, hne _ (h1 k b).2]
      exact this
    dsimp only
    by_cases a : k < q
    · rw [if_pos (by omega), if_pos a]
      exact old j k hjk (by omega)
    · rw [if_neg a]
      by_cases b : k = q
      · subst b
        rw [if_pos rfl, if_pos hjk]
        unfold bfr
        have hj := (h1 j (by omega)).2
        rw [hne _ hj, hC']
        have := olo j hjk
        omega
      · rw [if_neg b]
        by_cases c : j < q
        · rw [if_pos c]
          exact old j (k - 1) (by omega) (by omega)
        · rw [if_neg c]
          by_cases e : j = q
          · subst e
            rw [if_pos rfl]
            unfold bfr
            rw [hne _ (h1 (k - 1) (by omega)).2, hC']
            have := ohi (k - 1) (by omega) (by omega)
            omega
          · rw [if_neg e]
            exact old (j - 1) (k - 1) (by omega) (by omega)
  · intro i hi
    by_cases a : i = C
    · exact ⟨q, by omega, by dsimp only; rw [if_neg (by omega), if_pos rfl]; exact a.symm⟩
    · obtain ⟨k, hk, ek⟩ := h3 i (by omega)
      by_cases b : k < q
      · exact ⟨k, by omega, by dsimp only; rw [if_pos b]; exact ek⟩
      · exact ⟨k + 1, by omega, by dsimp only; rw [if_neg (by omega), if_neg (by omega)]; exact ek⟩
def okconv (z a b c : Int32) : Prop := z = 0 ∧ (0 ≤ a ∧ a ≤ 2000) ∧ (1 ≤ b ∧ b ≤ 10) ∧ (1 ≤ c ∧ c ≤ 200)
theorem shf_C (old : Nat → Int32) (C : Nat) : shf old C C = old := by
  funext k
  unfold shf
  rw [if_neg (by omega)]
theorem c_convoy_y {s : nm_S} {a b c : Int32} {C : Nat} (hT : gi s 604 = nI C) (hl : C < 4) (ho : ∀ k, k < C → ∃ j, j < C ∧ ga s 10 k = nI j) (h : okconv (gi s 11) a b c) : Runs 70 [.ref 0, .int a, .int b, .int c] s (nI C) (si (sa (sa (sa (sa (si s 1105 0) 7 (upd (ga s 7) C a)) 8 (upd (ga s 8) C b)) 9 (upd (ga s 9) C c)) 10 (upd (shf (ga s 10) C (insp (ga s 10) (upd (ga s 7) C a) a C)) (insp (ga s 10) (upd (ga s 7) C a) a C) (nI C))) 604 (nI (C + 1))) := by
  intro Q hQ
  obtain ⟨h1, h2, h3, h4⟩ := h
  have g1 : nI C < 4 := (nI_lt' (b := 4) (by omega) (by omega)).mpr hl
  have g2 : vp_in (nI C) 4 := vp_in' hl (by omega)
  have g3 : (nI C).toNatClampNeg = C := i_nIc (by omega)
  simp only [e_X8_convoy, r_X8_convoy_0, r_X8_convoy_1, r_X8_convoy_4, r_X8_convoy_7, r_X8_convoy_8, r_X8_convoy_11, r_X8_convoy_14, r_X8_convoy_17, r_X8_convoy_18, r_X8_convoy_19, r_X8_convoy_22, r_X8_convoy_25, r_X8_convoy_28, r_X8_convoy_29, r_X8_convoy_30, r_X8_convoy_31, r_X8_convoy_32, r_X8_convoy_34, r_X8_convoy_37, r_X8_convoy_40, r_X8_convoy_41, r_X8_convoy_42, r_X8_convoy_45, r_X8_convoy_48, r_X8_convoy_51, r_X8_convoy_52, r_X8_convoy_53, r_X8_convoy_54, r_X8_convoy_57, r_X8_convoy_60, r_X8_convoy_61, r_X8_convoy_64, r_X8_convoy_65, r_X8_convoy_66, r_X8_convoy_67, r_X8_convoy_70, e_X0_add, r_X0_add_0, r_X0_add_1, r_X0_add_4, r_X0_add_7, r_X0_add_8, r_X0_add_9, r_X0_add_10, r_X0_add_13, r_X0_add_14, r_X0_add_17, r_X0_add_18, r_X0_add_19, r_X0_add_20, r_X0_add_23, r_X0_add_24, r_X0_add_27, r_X0_add_28, r_X0_add_29, r_X0_add_30, r_X0_add_33, r_X0_add_34, r_X0_add_37, r_X0_add_38, r_X0_add_39, r_X0_add_40, r_X0_add_41, r_X0_add_44, r_X0_add_47, r_X0_add_48, r_X0_add_49, r_X0_add_52, r_X0_add_53, r_X0_add_54, r_X0_add_57, r_X0_add_58, r_X0_add_61, r_X0_add_62, r_X0_add_63, e_X0_putInOrder, r_X0_putInOrder_0, r_X0_putInOrder_1, ob_0, gt_0_0, gt_0_1, gt_0_2, gt_0_3, gt_0_4, gt_0_5, gt_0_6, gt_0_7, gt_0_8, gt_0_9, pt_0_9, gt_0_10, pt_0_10, gt_0_11, pt_0_11, ob_6, gt_6_0, gt_6_1, gt_6_2, gt_6_3, gt_6_4, pt_6_4, gt_6_5, pt_6_5, gt_6_6, pt_6_6, ad_7, as_7, ad_8, as_8, ad_9, as_9, List.cons_append, List.nil_append, List.append_nil, if_true, if_false, true_and, and_true, true_or, or_true, nm_b_some, gi_si, ga_sa, gi_sa, gi_sb, gi_sp, ga_si, ga_sb, ga_sp, gb_si, gb_sa, gb_sb, gb_sp, gp_si, gp_sa, gp_sb, gp_sp, if_true, if_false, ↓reduceIte, Nat.reduceEqDiff, c_within, c_forget, c_cfull, b_0, h1, h2, h3, h4, hT, g1, g2, g3, ob_11, and_self, not_true_eq_false, not_false_eq_true]
  generalize hu : sa (sa (sa (si s 1105 0) 7 (upd (ga s 7) C a)) 8 (upd (ga s 8) C b)) 9 (upd (ga s 9) C c) = u
  have e10 : ga u 10 = ga s 10 := by rw [← hu]; simp only [gi_si, ga_sa, gi_sa, gi_sb, gi_sp, ga_si, ga_sb, ga_sp, gb_si, gb_sa, gb_sb, gb_sp, gp_si, gp_sa, gp_sb, gp_sp, if_true, if_false, ↓reduceIte, Nat.reduceEqDiff]
  have e7 : ga u 7 = upd (ga s 7) C a := by rw [← hu]; simp only [gi_si, ga_sa, gi_sa, gi_sb, gi_sp, ga_si, ga_sb, ga_sp, gb_si, gb_sa, gb_sb, gb_sp, gp_si, gp_sa, gp_sb, gp_sp, if_true, if_false, ↓reduceIte, Nat.reduceEqDiff]
  have eC : gi u 604 = nI C := by rw [← hu]; simp only [gi_si, ga_sa, gi_sa, gi_sb, gi_sp, ga_si, ga_sb, ga_sp, gb_si, gb_sa, gb_sb, gb_sp, gp_si, gp_sa, gp_sb, gp_sp, if_true, if_false, ↓reduceIte, Nat.reduceEqDiff]; exact hT
  have e0 : rep u = rep (sa u 10 (shf (ga s 10) C C)) := by rw [shf_C, ← e10, sa_self]
  rw [e0]
  refine c_putIn (s := u) hl ho C (Nat.le_refl C) ?_
  rw [e7, upd_at]
  simp only [r_X0_add_0, r_X0_add_1, r_X0_add_4, r_X0_add_7, r_X0_add_8, r_X0_add_9, r_X0_add_10, r_X0_add_13, r_X0_add_14, r_X0_add_17, r_X0_add_18, r_X0_add_19, r_X0_add_20, r_X0_add_23, r_X0_add_24, r_X0_add_27, r_X0_add_28, r_X0_add_29, r_X0_add_30, r_X0_add_33, r_X0_add_34, r_X0_add_37, r_X0_add_38, r_X0_add_39, r_X0_add_40, r_X0_add_41, r_X0_add_44, r_X0_add_47, r_X0_add_48, r_X0_add_49, r_X0_add_52, r_X0_add_53, r_X0_add_54, r_X0_add_57, r_X0_add_58, r_X0_add_61, r_X0_add_62, r_X0_add_63, r_X8_convoy_0, r_X8_convoy_1, r_X8_convoy_4, r_X8_convoy_7, r_X8_convoy_8, r_X8_convoy_11, r_X8_convoy_14, r_X8_convoy_17, r_X8_convoy_18, r_X8_convoy_19, r_X8_convoy_22, r_X8_convoy_25, r_X8_convoy_28, r_X8_convoy_29, r_X8_convoy_30, r_X8_convoy_31, r_X8_convoy_32, r_X8_convoy_34, r_X8_convoy_37, r_X8_convoy_40, r_X8_convoy_41, r_X8_convoy_42, r_X8_convoy_45, r_X8_convoy_48, r_X8_convoy_51, r_X8_convoy_52, r_X8_convoy_53, r_X8_convoy_54, r_X8_convoy_57, r_X8_convoy_60, r_X8_convoy_61, r_X8_convoy_64, r_X8_convoy_65, r_X8_convoy_66, r_X8_convoy_67, r_X8_convoy_70, ob_6, gt_6_0, gt_6_1, gt_6_2, gt_6_3, gt_6_4, pt_6_4, gt_6_5, pt_6_5, gt_6_6, pt_6_6, List.cons_append, List.nil_append, List.append_nil, if_true, if_false, true_and, and_true, true_or, or_true, nm_b_some, gi_si, ga_sa, gi_sa, gi_sb, gi_sp, ga_si, ga_sb, ga_sp, gb_si, gb_sa, gb_sb, gb_sp, gp_si, gp_sa, gp_sb, gp_sp, if_true, if_false, ↓reduceIte, Nat.reduceEqDiff, eC, nI_s, nI_pred]
  rw [← hu]
  exact hQ
theorem c_convoy_f {s : nm_S} {a b c : Int32} (hf : ¬ gi s 604 < 4) : Runs 70 [.ref 0, .int a, .int b, .int c] s (-1) s := by
  intro Q hQ
  simp only [e_X8_convoy, r_X8_convoy_0, r_X8_convoy_1, r_X8_convoy_4, r_X8_convoy_7, r_X8_convoy_8, r_X8_convoy_11, r_X8_convoy_14, r_X8_convoy_17, r_X8_convoy_18, r_X8_convoy_19, r_X8_convoy_22, r_X8_convoy_25, r_X8_convoy_28, r_X8_convoy_29, r_X8_convoy_30, r_X8_convoy_31, r_X8_convoy_32, r_X8_convoy_34, r_X8_convoy_37, r_X8_convoy_40, r_X8_convoy_41, r_X8_convoy_42, r_X8_convoy_45, r_X8_convoy_48, r_X8_convoy_51, r_X8_convoy_52, r_X8_convoy_53, r_X8_convoy_54, r_X8_convoy_57, r_X8_convoy_60, r_X8_convoy_61, r_X8_convoy_64, r_X8_convoy_65, r_X8_convoy_66, r_X8_convoy_67, r_X8_convoy_70, ob_0, gt_0_0, gt_0_1, gt_0_2, gt_0_3, gt_0_4, gt_0_5, gt_0_6, gt_0_7, gt_0_8, gt_0_9, pt_0_9, gt_0_10, pt_0_10, gt_0_11, pt_0_11, List.cons_append, List.nil_append, List.append_nil, if_true, if_false, true_and, and_true, true_or, or_true, nm_b_some, gi_si, ga_sa, gi_sa, gi_sb, gi_sp, ga_si, ga_sb, ga_sp, gb_si, gb_sa, gb_sb, gb_sp, gp_si, gp_sa, gp_sb, gp_sp, if_true, if_false, ↓reduceIte, Nat.reduceEqDiff, c_within, c_cfull, b_0, ob_6]
  by_cases h1 : gi s 11 = 0
  · simp only [h1, hf, not_true_eq_false, not_false_eq_true, if_true, if_false]
    simpa using hQ
  · simp only [h1, if_false]
    simpa using hQ
theorem c_convoy_n {s : nm_S} {a b c : Int32} (h : ¬ okconv (gi s 11) a b c) : Runs 70 [.ref 0, .int a, .int b, .int c] s (-1) s := by
  by_cases hf : gi s 604 < 4
  case neg => exact c_convoy_f hf
  intro Q hQ
  simp only [e_X8_convoy, r_X8_convoy_0, r_X8_convoy_1, r_X8_convoy_4, r_X8_convoy_7, r_X8_convoy_8, r_X8_convoy_11, r_X8_convoy_14, r_X8_convoy_17, r_X8_convoy_18, r_X8_convoy_19, r_X8_convoy_22, r_X8_convoy_25, r_X8_convoy_28, r_X8_convoy_29, r_X8_convoy_30, r_X8_convoy_31, r_X8_convoy_32, r_X8_convoy_34, r_X8_convoy_37, r_X8_convoy_40, r_X8_convoy_41, r_X8_convoy_42, r_X8_convoy_45, r_X8_convoy_48, r_X8_convoy_51, r_X8_convoy_52, r_X8_convoy_53, r_X8_convoy_54, r_X8_convoy_57, r_X8_convoy_60, r_X8_convoy_61, r_X8_convoy_64, r_X8_convoy_65, r_X8_convoy_66, r_X8_convoy_67, r_X8_convoy_70, ob_0, gt_0_0, gt_0_1, gt_0_2, gt_0_3, gt_0_4, gt_0_5, gt_0_6, gt_0_7, gt_0_8, gt_0_9, pt_0_9, gt_0_10, pt_0_10, gt_0_11, pt_0_11, List.cons_append, List.nil_append, List.append_nil, if_true, if_false, true_and, and_true, true_or, or_true, nm_b_some, gi_si, ga_sa, gi_sa, gi_sb, gi_sp, ga_si, ga_sb, ga_sp, gb_si, gb_sa, gb_sb, gb_sp, gp_si, gp_sa, gp_sb, gp_sp, if_true, if_false, ↓reduceIte, Nat.reduceEqDiff, c_within, c_cfull, b_0, ob_6, hf, not_true_eq_false, not_false_eq_true]
  unfold okconv at h
  by_cases h1 : gi s 11 = 0
  · by_cases h2 : 0 ≤ a ∧ a ≤ 2000
    · by_cases h3 : 1 ≤ b ∧ b ≤ 10
      · have h5 : ¬ (1 ≤ c ∧ c ≤ 200) := fun z => h ⟨h1, h2, h3, z⟩
        simp only [h1, h2, h3, h5, and_self, not_true_eq_false, not_false_eq_true, if_true, if_false]
        simpa using hQ
      · simp only [h1, h2, h3, and_self, not_true_eq_false, not_false_eq_true, if_true, if_false]
        simpa using hQ
    · simp only [h1, h2, not_false_eq_true, if_true, if_false]
      simpa using hQ
  · simp only [h1, if_false]
    simpa using hQ
theorem c_Mconvoy_y {s : nm_S} {a b c : Int32} {C : Nat} (hT : gi s 4002 = nI C) (hl : C < 4) (h : okconv (gi s 4010) a b c) : Runs 104 [.ref 40, .int a, .int b, .int c] s (nI C) (si (sa (sa (sa s 45 (upd (ga s 45) C a)) 46 (upd (ga s 46) C b)) 47 (upd (ga s 47) C c)) 4002 (nI (C + 1))) := by
  intro Q hQ
  obtain ⟨h1, h2, h3, h4⟩ := h
  have g1 : ¬ nI C = 4 := fun z => by have := (nI_eq' (b := 4) (by omega) (by omega)).mp z; omega
  have g2 : vp_in (nI C) 4 := vp_in' hl (by omega)
  have g3 : (nI C).toNatClampNeg = C := i_nIc (by omega)
  simp only [e_X9_convoy, r_X9_convoy_0, r_X9_convoy_1, r_X9_convoy_4, r_X9_convoy_7, r_X9_convoy_8, r_X9_convoy_11, r_X9_convoy_12, r_X9_convoy_15, r_X9_convoy_16, r_X9_convoy_17, r_X9_convoy_20, r_X9_convoy_23, r_X9_convoy_26, r_X9_convoy_27, r_X9_convoy_28, r_X9_convoy_30, r_X9_convoy_33, r_X9_convoy_36, r_X9_convoy_37, r_X9_convoy_38, r_X9_convoy_41, r_X9_convoy_44, r_X9_convoy_47, r_X9_convoy_48, r_X9_convoy_49, r_X9_convoy_50, r_X9_convoy_53, r_X9_convoy_54, r_X9_convoy_57, r_X9_convoy_58, r_X9_convoy_59, r_X9_convoy_60, r_X9_convoy_63, r_X9_convoy_64, r_X9_convoy_67, r_X9_convoy_68, r_X9_convoy_69, r_X9_convoy_70, r_X9_convoy_73, r_X9_convoy_74, r_X9_convoy_77, r_X9_convoy_78, r_X9_convoy_79, r_X9_convoy_80, r_X9_convoy_81, r_X9_convoy_84, r_X9_convoy_85, r_X9_convoy_86, r_X9_convoy_89, r_X9_convoy_90, r_X9_convoy_93, r_X9_convoy_94, r_X9_convoy_95, ob_40, gt_40_0, pt_40_0, gt_40_1, pt_40_1, gt_40_2, pt_40_2, gt_40_3, pt_40_3, gt_40_4, pt_40_4, gt_40_5, pt_40_5, gt_40_6, pt_40_6, gt_40_7, pt_40_7, gt_40_8, pt_40_8, gt_40_9, pt_40_9, gt_40_10, pt_40_10, gt_40_11, gt_40_12, gt_40_13, gt_40_14, gt_40_15, gt_40_16, gt_40_17, gt_40_18, gt_40_19, gt_40_20, gt_40_21, gt_40_22, pt_40_22, gt_40_23, gt_40_24, gt_40_25, gt_40_26, gt_40_27, gt_40_28, gt_40_29, gt_40_30, gt_40_31, gt_40_32, gt_40_33, gt_40_34, pt_40_34, gt_40_35, pt_40_35, gt_40_36, gt_40_37, gt_40_38, gt_40_39, gt_40_40, gt_40_41, pt_40_41, gt_40_42, pt_40_42, gt_40_43, pt_40_43, gt_40_44, pt_40_44, gt_40_45, pt_40_45, gt_40_46, pt_40_46, gt_40_47, ad_45, as_45, ad_46, as_46, ad_47, as_47, List.cons_append, List.nil_append, List.append_nil, if_true, if_false, true_and, and_true, true_or, or_true, nm_b_some, gi_si, ga_sa, gi_sa, gi_sb, gi_sp, ga_si, ga_sb, ga_sp, gb_si, gb_sa, gb_sb, gb_sp, gp_si, gp_sa, gp_sb, gp_sp, if_true, if_false, ↓reduceIte, Nat.reduceEqDiff, c_in, b_0, h1, h2, h3, h4, g1, g2, g3, hT, nI_s, nI_pred, and_self, not_true_eq_false]
  exact hQ
theorem c_Mconvoy_n {s : nm_S} {a b c : Int32} {C : Nat} (hT : gi s 4002 = nI C) (hl : C ≤ 4) (h : ¬ okconv (gi s 4010) a b c ∨ C = 4) : Runs 104 [.ref 40, .int a, .int b, .int c] s (-1) s := by
  intro Q hQ
  simp only [e_X9_convoy, r_X9_convoy_0, r_X9_convoy_1, r_X9_convoy_4, r_X9_convoy_7, r_X9_convoy_8, r_X9_convoy_11, r_X9_convoy_12, r_X9_convoy_15, r_X9_convoy_16, r_X9_convoy_17, r_X9_convoy_20, r_X9_convoy_23, r_X9_convoy_26, r_X9_convoy_27, r_X9_convoy_28, r_X9_convoy_30, r_X9_convoy_33, r_X9_convoy_36, r_X9_convoy_37, r_X9_convoy_38, r_X9_convoy_41, r_X9_convoy_44, r_X9_convoy_47, r_X9_convoy_48, ob_40, gt_40_0, pt_40_0, gt_40_1, pt_40_1, gt_40_2, pt_40_2, gt_40_3, pt_40_3, gt_40_4, pt_40_4, gt_40_5, pt_40_5, gt_40_6, pt_40_6, gt_40_7, pt_40_7, gt_40_8, pt_40_8, gt_40_9, pt_40_9, gt_40_10, pt_40_10, gt_40_11, gt_40_12, gt_40_13, gt_40_14, gt_40_15, gt_40_16, gt_40_17, gt_40_18, gt_40_19, gt_40_20, gt_40_21, gt_40_22, pt_40_22, gt_40_23, gt_40_24, gt_40_25, gt_40_26, gt_40_27, gt_40_28, gt_40_29, gt_40_30, gt_40_31, gt_40_32, gt_40_33, gt_40_34, pt_40_34, gt_40_35, pt_40_35, gt_40_36, gt_40_37, gt_40_38, gt_40_39, gt_40_40, gt_40_41, pt_40_41, gt_40_42, pt_40_42, gt_40_43, pt_40_43, gt_40_44, pt_40_44, gt_40_45, pt_40_45, gt_40_46, pt_40_46, gt_40_47, List.cons_append, List.nil_append, List.append_nil, if_true, if_false, true_and, and_true, true_or, or_true, nm_b_some, gi_si, ga_sa, gi_sa, gi_sb, gi_sp, ga_si, ga_sb, ga_sp, gb_si, gb_sa, gb_sb, gb_sp, gp_si, gp_sa, gp_sb, gp_sp, if_true, if_false, ↓reduceIte, Nat.reduceEqDiff, c_in, b_0, hT]
  by_cases h1 : gi s 4010 = 0
  · by_cases hT2 : nI C = 4
    · simp only [h1, hT2, if_true]
      exact hQ
    · have h : ¬ okconv (gi s 4010) a b c := by
        rcases h with h | h
        · exact h
        · subst h; exact absurd rfl hT2
      unfold okconv at h
      by_cases h2 : 0 ≤ a ∧ a ≤ 2000
      · by_cases h3 : 1 ≤ b ∧ b ≤ 10
        · have h5 : ¬ (1 ≤ c ∧ c ≤ 200) := fun z => h ⟨h1, h2, h3, z⟩
          simp only [h1, hT2, h2, h3, h5, and_self, not_true_eq_false, not_false_eq_true, if_true, if_false]
          exact hQ
        · simp only [h1, hT2, h2, h3, and_self, not_true_eq_false, not_false_eq_true, if_true, if_false]
          exact hQ
      · simp only [h1, hT2, h2, not_false_eq_true, if_true, if_false]
        exact hQ
  · simp only [h1, if_false]
    exact hQ
theorem st_convoy {s : nm_S} (a b c : Int32) (hB : IvB s) (h : IvC s) : ∃ v s1 s2, Runs 70 [.ref 0, .int a, .int b, .int c] s v s1 ∧ Runs 104 [.ref 40, .int a, .int b, .int c] s1 v s2 ∧ Fr [1105, 604, 4002] [7, 8, 9, 10, 45, 46, 47] s s2 ∧ IvC s2 ∧ Frgt s s2 := by
  obtain ⟨C, hC, h1, h2, h3, o, h4⟩ := h
  have hz : gi s 11 = gi s 4010 := hB.1.2.2.1
  by_cases hk : okconv (gi s 11) a b c
  · by_cases hl : C < 4
    · have r1 := c_convoy_y h1 hl (fun k hk => ⟨o k, (h4.1 k hk).2, (h4.1 k hk).1⟩) hk
      have h7 : ∀ i, i < C → ga s 7 i = ga s 45 i := fun i hi => (h3 i hi).1.1
      have e7 : insp (ga s 10) (upd (ga s 7) C a) a C = insp (ga s 10) (upd (ga s 45) C a) a C := by
        have : ∀ p, p ≤ C → insp (ga s 10) (upd (ga s 7) C a) a p = insp (ga s 10) (upd (ga s 45) C a) a p := by
          intro p
          induction p with
          | zero => intro _; rfl
          | succ p ih =>
            intro hp
            unfold insp
            rw [ih (by omega), (h4.1 p (by omega)).1, i_nIc (by have := (h4.1 p (by omega)).2; omega), upd_ne (by have := (h4.1 p (by omega)).2; omega), upd_ne (by have := (h4.1 p (by omega)).2; omega), h7 _ (h4.1 p (by omega)).2]
        exact this C (Nat.le_refl C)
      rw [e7] at r1
      obtain ⟨o', ho'⟩ := ord_ins hl h4 a rfl
      generalize upd (shf (ga s 10) C (insp (ga s 10) (upd (ga s 45) C a) a C)) (insp (ga s 10) (upd (ga s 45) C a) a C) (nI C) = G at r1 ho'
      generalize hs1 : si (sa (sa (sa (sa (si s 1105 0) 7 (upd (ga s 7) C a)) 8 (upd (ga s 8) C b)) 9 (upd (ga s 9) C c)) 10 G) 604 (nI (C + 1)) = s1 at r1
      have r2 := c_Mconvoy_y (s := s1) (a := a) (b := b) (c := c) (C := C) (by rw [← hs1]; simp only [gi_si, ga_sa, gi_sa, gi_sb, gi_sp, ga_si, ga_sb, ga_sp, gb_si, gb_sa, gb_sb, gb_sp, gp_si, gp_sa, gp_sb, gp_sp, if_true, if_false, ↓reduceIte, Nat.reduceEqDiff]; exact h2) hl (by rw [← hs1]; simp only [gi_si, ga_sa, gi_sa, gi_sb, gi_sp, ga_si, ga_sb, ga_sp, gb_si, gb_sa, gb_sb, gb_sp, gp_si, gp_sa, gp_sb, gp_sp, if_true, if_false, ↓reduceIte, Nat.reduceEqDiff]; rw [← hz]; exact hk)
      refine ⟨_, _, _, r1, r2, ?_, ?_, Or.inr ⟨hk.1, by rw [← hs1]; simp only [gi_si, ga_sa, gi_sa, gi_sb, gi_sp, ga_si, ga_sb, ga_sp, gb_si, gb_sa, gb_sb, gb_sp, gp_si, gp_sa, gp_sb, gp_sp, if_true, if_false, ↓reduceIte, Nat.reduceEqDiff]⟩⟩
      · rw [← hs1]
        exact ((((((((((Fr.rf.si (by decide)).sa (by decide)).sa (by decide)).sa (by decide)).sa (by decide)).si (by decide)).sa (by decide)).sa (by decide)).sa (by decide)).si (by decide))
      · obtain ⟨k1, k2, k3, k4⟩ := hk
        rw [i_le, i_le, i_l0, i_l2000] at k2
        rw [i_le, i_le, i_l1, i_l10] at k3
        rw [i_le, i_le, i_l1, i_l200] at k4
        have eb : b = nI b.toInt.toNat := i_of (by omega)
        have ec : c = nI c.toInt.toNat := i_of (by omega)
        rw [← hs1]
        refine ⟨C + 1, by omega, ?_, ?_, ?_, o', ?_⟩
        · simp only [gi_si, ga_sa, gi_sa, gi_sb, gi_sp, ga_si, ga_sb, ga_sp, gb_si, gb_sa, gb_sb, gb_sp, gp_si, gp_sa, gp_sb, gp_sp, if_true, if_false, ↓reduceIte, Nat.reduceEqDiff]
        · simp only [gi_si, ga_sa, gi_sa, gi_sb, gi_sp, ga_si, ga_sb, ga_sp, gb_si, gb_sa, gb_sb, gb_sp, gp_si, gp_sa, gp_sb, gp_sp, if_true, if_false, ↓reduceIte, Nat.reduceEqDiff]
        · intro i hi
          simp only [gi_si, ga_sa, gi_sa, gi_sb, gi_sp, ga_si, ga_sb, ga_sp, gb_si, gb_sa, gb_sb, gb_sp, gp_si, gp_sa, gp_sb, gp_sp, if_true, if_false, ↓reduceIte, Nat.reduceEqDiff]
          by_cases hiC : i = C
          · subst hiC
            simp only [upd_at]
            exact ⟨⟨trivial, trivial, trivial⟩, k2, ⟨b.toInt.toNat, by omega, by omega, eb⟩, ⟨c.toInt.toNat, by omega, by omega, ec⟩⟩
          · simp only [upd_ne hiC]
            exact h3 i (by omega)
        · simp only [gi_si, ga_sa, gi_sa, gi_sb, gi_sp, ga_si, ga_sb, ga_sp, gb_si, gb_sa, gb_sb, gb_sp, gp_si, gp_sa, gp_sb, gp_sp, if_true, if_false, ↓reduceIte, Nat.reduceEqDiff]
          exact ho'
    · have hC4 : C = 4 := by omega
      subst hC4
      exact ⟨_, _, _, c_convoy_f (by rw [h1]; decide), c_Mconvoy_n h2 hC (Or.inr rfl), Fr.rf, ⟨4, hC, h1, h2, h3, o, h4⟩, Or.inl rfl⟩
  · exact ⟨_, _, _, c_convoy_n hk, c_Mconvoy_n h2 hC (Or.inl (by rw [← hz]; exact hk)), Fr.rf, ⟨C, hC, h1, h2, h3, o, h4⟩, Or.inl rfl⟩
