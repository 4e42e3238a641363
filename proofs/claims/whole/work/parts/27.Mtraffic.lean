/-! The same on the other side. -/
theorem c_Mleaves {d : Nat} {s : nm_S} {Q : nm_K} {q : Int32} {n c : Nat} (hn : n ≤ 60) (hc : c < 4) (hl : gi s 4003 = nI n) : nm_call (d + 1) 111 [.ref 40, .int (nI c), .int q] (rep s) Q ↔ Q [.int (lvM (ga s 45) (ga s 52) (ga s 53) (ga s 54) n c q)] (rep s) := by
  have g5 : vp_in (nI c) 4 := vp_in' hc (by omega)
  have g6 : (nI c).toNatClampNeg = c := i_nIc (by omega)
  rw [e_X9_leaves]
  simp only [r_X9_leaves_0, r_X9_leaves_1, r_X9_leaves_4, r_X9_leaves_5, r_X9_leaves_6, r_X9_leaves_7, r_X9_leaves_8, ob_40, gt_40_0, pt_40_0, gt_40_1, pt_40_1, gt_40_2, pt_40_2, gt_40_3, pt_40_3, gt_40_4, pt_40_4, gt_40_5, pt_40_5, gt_40_6, pt_40_6, gt_40_7, pt_40_7, gt_40_8, pt_40_8, gt_40_9, pt_40_9, gt_40_10, pt_40_10, gt_40_11, gt_40_12, gt_40_13, gt_40_14, gt_40_15, gt_40_16, gt_40_17, gt_40_18, gt_40_19, gt_40_20, gt_40_21, gt_40_22, pt_40_22, gt_40_23, gt_40_24, gt_40_25, gt_40_26, gt_40_27, gt_40_28, gt_40_29, gt_40_30, gt_40_31, gt_40_32, gt_40_33, gt_40_34, pt_40_34, gt_40_35, pt_40_35, gt_40_36, gt_40_37, gt_40_38, gt_40_39, gt_40_40, gt_40_41, pt_40_41, gt_40_42, pt_40_42, gt_40_43, pt_40_43, gt_40_44, pt_40_44, gt_40_45, pt_40_45, gt_40_46, pt_40_46, gt_40_47, ad_45, as_45, List.cons_append, List.nil_append, List.append_nil, if_true, if_false, true_and, and_true, true_or, or_true, nm_b_some, g5, g6]
  refine nm_loop0 (fun k (m : Int32) => x_X9_leaves d Q 10 [.ref 40, .int (nI c), .int q, .int m, .int (nI k)] [] (rep s) 0 0) (fun m => Q [.int m] (rep s)) (fun k m => if ga s 52 k = nI c ∧ ¬ q < ga s 54 k then m + ga s 53 k else m + 0) n ?_ ?_ (ga s 45 c)
  · intro k m hk
    have g2 : nI k < nI n := (nI_lt' (by omega) (by omega)).mpr hk
    have g3 : vp_in (nI k) 60 := vp_in' (by omega) (by omega)
    have g4 : (nI k).toNatClampNeg = k := i_nIc (by omega)
    try dsimp only
    rw [r_X9_leaves_10]
    simp only [r_X9_leaves_12, r_X9_leaves_13, r_X9_leaves_16, r_X9_leaves_19, r_X9_leaves_20, r_X9_leaves_21, r_X9_leaves_24, r_X9_leaves_26, r_X9_leaves_27, r_X9_leaves_28, r_X9_leaves_31, r_X9_leaves_32, r_X9_leaves_35, r_X9_leaves_37, r_X9_leaves_38, r_X9_leaves_39, r_X9_leaves_42, r_X9_leaves_43, r_X9_leaves_46, r_X9_leaves_48, r_X9_leaves_49, r_X9_leaves_52, r_X9_leaves_53, r_X9_leaves_54, r_X9_leaves_55, r_X9_leaves_58, ob_40, gt_40_0, pt_40_0, gt_40_1, pt_40_1, gt_40_2, pt_40_2, gt_40_3, pt_40_3, gt_40_4, pt_40_4, gt_40_5, pt_40_5, gt_40_6, pt_40_6, gt_40_7, pt_40_7, gt_40_8, pt_40_8, gt_40_9, pt_40_9, gt_40_10, pt_40_10, gt_40_11, gt_40_12, gt_40_13, gt_40_14, gt_40_15, gt_40_16, gt_40_17, gt_40_18, gt_40_19, gt_40_20, gt_40_21, gt_40_22, pt_40_22, gt_40_23, gt_40_24, gt_40_25, gt_40_26, gt_40_27, gt_40_28, gt_40_29, gt_40_30, gt_40_31, gt_40_32, gt_40_33, gt_40_34, pt_40_34, gt_40_35, pt_40_35, gt_40_36, gt_40_37, gt_40_38, gt_40_39, gt_40_40, gt_40_41, pt_40_41, gt_40_42, pt_40_42, gt_40_43, pt_40_43, gt_40_44, pt_40_44, gt_40_45, pt_40_45, gt_40_46, pt_40_46, gt_40_47, ad_52, as_52, ad_53, as_53, ad_54, as_54, List.cons_append, List.nil_append, List.append_nil, if_true, if_false, true_and, and_true, true_or, or_true, nm_b_some, hl, g2, g3, g4, nI_s]
    by_cases h1 : ga s 52 k = nI c
    · by_cases h2 : q < ga s 54 k
      · simp only [h1, h2, if_true, not_true_eq_false, and_false, if_false]
      · simp only [h1, h2, if_true, not_false_eq_true, and_self, if_false]
    · simp only [h1, false_and, if_false]
  · intro m
    have g2 : ¬ nI n < nI n := by rw [nI_lt' (by omega) (by omega)]; omega
    try dsimp only
    rw [r_X9_leaves_10]
    simp only [r_X9_leaves_12, r_X9_leaves_13, r_X9_leaves_16, r_X9_leaves_19, r_X9_leaves_20, r_X9_leaves_21, r_X9_leaves_24, r_X9_leaves_26, r_X9_leaves_27, r_X9_leaves_28, r_X9_leaves_31, r_X9_leaves_32, r_X9_leaves_35, r_X9_leaves_37, r_X9_leaves_38, r_X9_leaves_39, r_X9_leaves_42, r_X9_leaves_43, r_X9_leaves_46, r_X9_leaves_48, r_X9_leaves_49, r_X9_leaves_52, r_X9_leaves_53, r_X9_leaves_54, r_X9_leaves_55, r_X9_leaves_58, r_X9_leaves_61, r_X9_leaves_62, ob_40, gt_40_0, pt_40_0, gt_40_1, pt_40_1, gt_40_2, pt_40_2, gt_40_3, pt_40_3, gt_40_4, pt_40_4, gt_40_5, pt_40_5, gt_40_6, pt_40_6, gt_40_7, pt_40_7, gt_40_8, pt_40_8, gt_40_9, pt_40_9, gt_40_10, pt_40_10, gt_40_11, gt_40_12, gt_40_13, gt_40_14, gt_40_15, gt_40_16, gt_40_17, gt_40_18, gt_40_19, gt_40_20, gt_40_21, gt_40_22, pt_40_22, gt_40_23, gt_40_24, gt_40_25, gt_40_26, gt_40_27, gt_40_28, gt_40_29, gt_40_30, gt_40_31, gt_40_32, gt_40_33, gt_40_34, pt_40_34, gt_40_35, pt_40_35, gt_40_36, gt_40_37, gt_40_38, gt_40_39, gt_40_40, gt_40_41, pt_40_41, gt_40_42, pt_40_42, gt_40_43, pt_40_43, gt_40_44, pt_40_44, gt_40_45, pt_40_45, gt_40_46, pt_40_46, gt_40_47, ad_52, as_52, ad_53, as_53, ad_54, as_54, List.cons_append, List.nil_append, List.append_nil, if_true, if_false, true_and, and_true, true_or, or_true, nm_b_some, hl, g2]
theorem c_isAhead {d : Nat} {w : nm_W} {Q : nm_K} {m a n b : Int32} : nm_call (d + 1) 112 [.int m, .int a, .int n, .int b] w Q ↔ Q [.int (if m < n ∨ (m = n ∧ a < b) then 1 else 0)] w := by
  simp only [e_X9_isAhead, r_X9_isAhead_0, r_X9_isAhead_1, r_X9_isAhead_2, r_X9_isAhead_5, r_X9_isAhead_6, r_X9_isAhead_7, r_X9_isAhead_10, r_X9_isAhead_11, r_X9_isAhead_12, r_X9_isAhead_15, r_X9_isAhead_16, r_X9_isAhead_19, r_X9_isAhead_20, List.cons_append, List.nil_append, List.append_nil, if_true, if_false, true_and, and_true, true_or, or_true, nm_b_some]
  by_cases h1 : m < n
  · simp only [h1, true_or, if_true]
  · by_cases h2 : m = n
    · by_cases h3 : a < b
      · subst h2
        simp only [h1, h3, and_self, or_true, if_true, if_false]
      · subst h2
        simp only [h1, h3, and_false, or_false, if_true, if_false]
    · simp only [h1, h2, false_and, or_false, if_false]
def bfB (f : Nat → Int32) (a b : Nat) : Bool := decide (f a < f b ∨ (f a = f b ∧ nI a < nI b))
theorem bfB_iff {f : Nat → Int32} {a b : Nat} (ha : a < 2147483648) (hb : b < 2147483648) : bfB f a b = true ↔ bfr f a b := by
  unfold bfB bfr
  rw [decide_eq_true_eq, i_lt, i_eq, nI_lt' ha hb]
theorem bfB_p {f : Nat → Int32} {a b : Nat} : bfB f a b = true ↔ (f a < f b ∨ (f a = f b ∧ nI a < nI b)) := by
  unfold bfB
  rw [decide_eq_true_eq]
def ahs (f : Nat → Int32) (c b : Nat) : Option Nat → Option Nat
  | none => if bfB f b c = true then some b else none
  | some j => if bfB f b c = true ∧ bfB f j b = true then some b else some j
def oenc (a : Option Nat) : Int32 := match a with
  | none => -1
  | some j => nI j
theorem ahs_is {f g : Nat → Int32} {C : Nat} {o : Nat → Nat} (hC : C ≤ 4) (h : Ord f g C o) {k : Nat} (hk : k < C) : lpf (ahs f (o k)) C 0 none = if k = 0 then none else some (o (k - 1)) := by
  have hb : ∀ a b, a < 4 → b < 4 → (bfB f a b = true ↔ bfr f a b) := fun a b ha hb => bfB_iff (by omega) (by omega)
  have hok := (h.1 k hk).2
  have key := lpf_ind (step := ahs f (o k)) (fun i a => match a with
    | none => ∀ b, b < i → ¬ bfr f b (o k)
    | some j => j < i ∧ bfr f j (o k) ∧ ∀ b, b < i → bfr f b (o k) → b = j ∨ bfr f b j) (N := C) (by
    intro i a hi ha
    by_cases h1 : bfB f i (o k) = true
    · have h1' := (hb i (o k) (by omega) (by omega)).mp h1
      cases a with
      | none =>
        simp only [ahs, h1, if_true]
        refine ⟨by omega, h1', fun b hb2 hb3 => ?_⟩
        by_cases e : b = i
        · exact Or.inl e
        · exact absurd hb3 (ha b (by omega))
      | some j =>
        obtain ⟨a1, a2, a3⟩ := ha
        by_cases h2 : bfB f j i = true
        · have h2' := (hb j i (by omega) (by omega)).mp h2
          simp only [ahs, h1, h2, and_self, if_true]
          refine ⟨by omega, h1', fun b hb2 hb3 => ?_⟩
          by_cases e : b = i
          · exact Or.inl e
          · rcases a3 b (by omega) hb3 with e2 | e2
            · subst e2; exact Or.inr h2'
            · refine Or.inr ?_
              unfold bfr at e2 h2' ⊢
              omega
        · have e0 : ahs f (o k) i (some j) = some j := by simp [ahs, h2]
          rw [e0]
          refine ⟨by omega, a2, fun b hb2 hb3 => ?_⟩
          by_cases e : b = i
          · subst e
            have h2' : ¬ bfr f j b := fun z => h2 ((hb j b (by omega) (by omega)).mpr z)
            unfold bfr at h2' ⊢
            omega
          · exact a3 b (by omega) hb3
    · have h1' : ¬ bfr f i (o k) := fun z => h1 ((hb i (o k) (by omega) (by omega)).mpr z)
      cases a with
      | none =>
        have e0 : ahs f (o k) i none = none := by simp [ahs, h1]
        rw [e0]
        intro b hb2
        by_cases e : b = i
        · subst e; exact h1'
        · exact ha b (by omega)
      | some j =>
        obtain ⟨a1, a2, a3⟩ := ha
        have e0 : ahs f (o k) i (some j) = some j := by simp [ahs, h1]
        rw [e0]
        refine ⟨by omega, a2, fun b hb2 hb3 => ?_⟩
        by_cases e : b = i
        · subst e; exact absurd hb3 h1'
        · exact a3 b (by omega) hb3) C 0 none (by omega) (fun b hb => by omega)
  generalize lpf (ahs f (o k)) C 0 none = r at key
  cases r with
  | none =>
    by_cases hk0 : k = 0
    · rw [if_pos hk0]
    · exact absurd (h.2.1 (k - 1) k (by omega) hk) (key _ (h.1 (k - 1) (by omega)).2)
  | some j =>
    obtain ⟨a1, a2, a3⟩ := key
    obtain ⟨i, hi, ei⟩ := h.2.2 j a1
    have hik : i < k := by
      rcases Nat.lt_trichotomy i k with z | z | z
      · exact z
      · subst z; rw [← ei] at a2; exact absurd a2 bfr_irr
      · have := h.2.1 k i z hi
        rw [ei] at this
        exact absurd this (fun y => bfr_asy y a2)
    rw [if_neg (by omega)]
    congr 1
    have h3 := a3 _ (h.1 (k - 1) (by omega)).2 (h.2.1 (k - 1) k (by omega) hk)
    rcases h3 with h3 | h3
    · exact h3.symm
    · by_cases e : i = k - 1
      · rw [← ei, e]
      · have := h.2.1 i (k - 1) (by omega) (by omega)
        rw [ei] at this
        exact absurd h3 (fun y => bfr_asy y this)
theorem oenc_none {a : Option Nat} (h : ∀ j, a = some j → j < 4) : oenc a = -1 ↔ a = none := by
  cases a with
  | none => simp [oenc]
  | some j =>
    have hj := h j rfl
    constructor
    · intro z
      simp only [oenc] at z
      rw [i_eq, i_nI (by omega), i_lm1] at z
      omega
    · intro z; cases z
theorem c_ahead {d : Nat} {Q : nm_K} {s : nm_S} {q : Int32} {C c : Nat} (hC : C ≤ 4) (hc : c < 4) (hg : gi s 4002 = nI C) (hr : ∀ z : Value, x_X9_bridge (d + 1) Q 72 [.ref 40, .int (nI c), .int q, .int (oenc (lpf (ahs (ga s 45) c) C 0 none)), z] [] (rep s) 0 0) : nm_call (d + 2) 113 [.ref 40, .int (nI c), .int q] (rep s) Q := by
  have g5 : vp_in (nI c) 4 := vp_in' (by omega) (by omega)
  have g6 : (nI c).toNatClampNeg = c := i_nIc (by omega)
  rw [e_X9_bridge]
  simp only [r_X9_bridge_0, r_X9_bridge_1, r_X9_bridge_2, r_X9_bridge_3]
  refine nm_loopI (fun b (a : Option Nat) => x_X9_bridge (d + 1) Q 5 [.ref 40, .int (nI c), .int q, .int (oenc a), .int (nI b)] [] (rep s) 0 0) (fun a => ∀ z : Value, x_X9_bridge (d + 1) Q 72 [.ref 40, .int (nI c), .int q, .int (oenc a), z] [] (rep s) 0 0) (ahs (ga s 45) c) (fun i a => ∀ j, a = some j → j < i) (N := C) ?_ ?_ C 0 none (by omega) (fun j hj => by cases hj) hr
  · intro b a hb ha
    have gb : nI b < nI C := (nI_lt' (by omega) (by omega)).mpr hb
    have g3 : vp_in (nI b) 4 := vp_in' (by omega) (by omega)
    have g4 : (nI b).toNatClampNeg = b := i_nIc (by omega)
    constructor
    · intro j hj
      cases a with
      | none =>
        simp only [ahs] at hj
        split at hj
        · have := Option.some.inj hj; omega
        · cases hj
      | some i =>
        have := ha i rfl
        simp only [ahs] at hj
        split at hj
        · have := Option.some.inj hj; omega
        · have := Option.some.inj hj; omega
    · intro hnx
      rw [r_X9_bridge_5]
      simp only [r_X9_bridge_7, r_X9_bridge_8, r_X9_bridge_11, r_X9_bridge_14, r_X9_bridge_15, r_X9_bridge_18, r_X9_bridge_20, r_X9_bridge_21, r_X9_bridge_23, r_X9_bridge_24, r_X9_bridge_27, r_X9_bridge_28, r_X9_bridge_29, r_X9_bridge_30, r_X9_bridge_33, r_X9_bridge_36, r_X9_bridge_37, r_X9_bridge_38, r_X9_bridge_41, r_X9_bridge_42, r_X9_bridge_45, r_X9_bridge_46, r_X9_bridge_47, r_X9_bridge_48, r_X9_bridge_49, r_X9_bridge_52, r_X9_bridge_54, r_X9_bridge_55, r_X9_bridge_57, r_X9_bridge_60, r_X9_bridge_63, r_X9_bridge_65, r_X9_bridge_66, r_X9_bridge_69, ob_40, gt_40_0, pt_40_0, gt_40_1, pt_40_1, gt_40_2, pt_40_2, gt_40_3, pt_40_3, gt_40_4, pt_40_4, gt_40_5, pt_40_5, gt_40_6, pt_40_6, gt_40_7, pt_40_7, gt_40_8, pt_40_8, gt_40_9, pt_40_9, gt_40_10, pt_40_10, gt_40_11, gt_40_12, gt_40_13, gt_40_14, gt_40_15, gt_40_16, gt_40_17, gt_40_18, gt_40_19, gt_40_20, gt_40_21, gt_40_22, pt_40_22, gt_40_23, gt_40_24, gt_40_25, gt_40_26, gt_40_27, gt_40_28, gt_40_29, gt_40_30, gt_40_31, gt_40_32, gt_40_33, gt_40_34, pt_40_34, gt_40_35, pt_40_35, gt_40_36, gt_40_37, gt_40_38, gt_40_39, gt_40_40, gt_40_41, pt_40_41, gt_40_42, pt_40_42, gt_40_43, pt_40_43, gt_40_44, pt_40_44, gt_40_45, pt_40_45, gt_40_46, pt_40_46, gt_40_47, ad_45, as_45, List.cons_append, List.nil_append, List.append_nil, if_true, if_false, true_and, and_true, true_or, or_true, nm_b_some, hg, gb, g3, g4, g5, g6, c_isAhead, b_0, nI_s]
      by_cases h1 : ga s 45 b < ga s 45 c ∨ (ga s 45 b = ga s 45 c ∧ nI b < nI c)
      · cases a with
        | none =>
          simp only [ahs, bfB_p] at hnx
          simp only [h1, if_true, not_true_eq_false, if_false, oenc] at hnx ⊢
          exact hnx
        | some j =>
          have hj := ha j rfl
          have k1 : ¬ nI j = -1 := fun z => by
            rw [i_eq, i_nI (by omega), i_lm1] at z
            omega
          have k2 : vp_in (nI j) 4 := vp_in' (by omega) (by omega)
          have k3 : (nI j).toNatClampNeg = j := i_nIc (by omega)
          simp only [ahs, bfB_p] at hnx
          simp only [h1, not_true_eq_false, if_false, oenc, k1, k2, k3, true_and] at hnx ⊢
          by_cases h2 : ga s 45 j < ga s 45 b ∨ (ga s 45 j = ga s 45 b ∧ nI j < nI b)
          · simp only [h2, if_true, not_true_eq_false, if_false] at hnx ⊢
            exact hnx
          · simp only [h2, if_true, not_false_eq_true, if_false] at hnx ⊢
            exact hnx
      · have e0 : ahs (ga s 45) c b a = a := by
          cases a with
          | none => simp only [ahs, bfB_p, h1, if_false]
          | some j => simp only [ahs, bfB_p, h1, false_and, if_false]
        rw [e0] at hnx
        simp only [h1, if_true, not_false_eq_true]
        exact hnx
  · intro a _ hr
    have gb : ¬ nI C < nI C := by rw [nI_lt' (by omega) (by omega)]; omega
    rw [r_X9_bridge_5]
    simp only [r_X9_bridge_7, r_X9_bridge_8, r_X9_bridge_11, r_X9_bridge_14, r_X9_bridge_15, r_X9_bridge_18, r_X9_bridge_20, r_X9_bridge_21, r_X9_bridge_23, r_X9_bridge_24, r_X9_bridge_27, r_X9_bridge_28, r_X9_bridge_29, r_X9_bridge_30, r_X9_bridge_33, r_X9_bridge_36, r_X9_bridge_37, r_X9_bridge_38, r_X9_bridge_41, r_X9_bridge_42, r_X9_bridge_45, r_X9_bridge_46, r_X9_bridge_47, r_X9_bridge_48, r_X9_bridge_49, r_X9_bridge_52, r_X9_bridge_54, r_X9_bridge_55, r_X9_bridge_57, r_X9_bridge_60, r_X9_bridge_63, r_X9_bridge_65, r_X9_bridge_66, r_X9_bridge_69, ob_40, gt_40_0, pt_40_0, gt_40_1, pt_40_1, gt_40_2, pt_40_2, gt_40_3, pt_40_3, gt_40_4, pt_40_4, gt_40_5, pt_40_5, gt_40_6, pt_40_6, gt_40_7, pt_40_7, gt_40_8, pt_40_8, gt_40_9, pt_40_9, gt_40_10, pt_40_10, gt_40_11, gt_40_12, gt_40_13, gt_40_14, gt_40_15, gt_40_16, gt_40_17, gt_40_18, gt_40_19, gt_40_20, gt_40_21, gt_40_22, pt_40_22, gt_40_23, gt_40_24, gt_40_25, gt_40_26, gt_40_27, gt_40_28, gt_40_29, gt_40_30, gt_40_31, gt_40_32, gt_40_33, gt_40_34, pt_40_34, gt_40_35, pt_40_35, gt_40_36, gt_40_37, gt_40_38, gt_40_39, gt_40_40, gt_40_41, pt_40_41, gt_40_42, pt_40_42, gt_40_43, pt_40_43, gt_40_44, pt_40_44, gt_40_45, pt_40_45, gt_40_46, pt_40_46, gt_40_47, ad_45, as_45, List.cons_append, List.nil_append, List.append_nil, if_true, if_false, true_and, and_true, true_or, or_true, nm_b_some, hg, gb]
    exact hr _
theorem c_Mbridge {s : nm_S} {q : Int32} {n C : Nat} {o : Nat → Nat} (hn : n ≤ 60) (hC : C ≤ 4) (hg : gi s 4002 = nI C) (hl : gi s 4003 = nI n) {g : Nat → Int32} (ho : Ord (ga s 45) g C o) : ∀ (k d : Nat) (Q : nm_K), k < C → (nm_call (d + k + 2) 113 [.ref 40, .int (nI (o k)), .int q] (rep s) Q ↔ Q [.int (brF (fun c => lvM (ga s 45) (ga s 52) (ga s 53) (ga s 54) n c q + gi s 4007 / 2) (gi s 4008) o k)] (rep s)) := by
  have h20 : ¬ (2 : Int32) = 0 := by decide
  intro k
  induction k with
  | zero =>
    intro d Q hk
    refine iff_of (fun Q hQ => ?_) Q
    have hok := (ho.1 0 hk).2
    refine c_ahead (d := d + 0) hC (by omega) hg (fun z => ?_)
    rw [ahs_is hC ho hk, if_pos rfl]
    simp only [r_X9_bridge_72, r_X9_bridge_73, r_X9_bridge_74, r_X9_bridge_75, r_X9_bridge_78, r_X9_bridge_79, r_X9_bridge_82, r_X9_bridge_83, r_X9_bridge_84, r_X9_bridge_85, r_X9_bridge_87, r_X9_bridge_88, r_X9_bridge_89, r_X9_bridge_92, r_X9_bridge_94, r_X9_bridge_97, r_X9_bridge_99, r_X9_bridge_100, r_X9_bridge_101, r_X9_bridge_102, r_X9_bridge_105, r_X9_bridge_106, r_X9_bridge_109, r_X9_bridge_110, r_X9_bridge_113, ob_40, gt_40_0, pt_40_0, gt_40_1, pt_40_1, gt_40_2, pt_40_2, gt_40_3, pt_40_3, gt_40_4, pt_40_4, gt_40_5, pt_40_5, gt_40_6, pt_40_6, gt_40_7, pt_40_7, gt_40_8, pt_40_8, gt_40_9, pt_40_9, gt_40_10, pt_40_10, gt_40_11, gt_40_12, gt_40_13, gt_40_14, gt_40_15, gt_40_16, gt_40_17, gt_40_18, gt_40_19, gt_40_20, gt_40_21, gt_40_22, pt_40_22, gt_40_23, gt_40_24, gt_40_25, gt_40_26, gt_40_27, gt_40_28, gt_40_29, gt_40_30, gt_40_31, gt_40_32, gt_40_33, gt_40_34, pt_40_34, gt_40_35, pt_40_35, gt_40_36, gt_40_37, gt_40_38, gt_40_39, gt_40_40, gt_40_41, pt_40_41, gt_40_42, pt_40_42, gt_40_43, pt_40_43, gt_40_44, pt_40_44, gt_40_45, pt_40_45, gt_40_46, pt_40_46, gt_40_47, List.cons_append, List.nil_append, List.append_nil, if_true, if_false, true_and, and_true, true_or, or_true, nm_b_some, c_Mleaves hn (show o 0 < 4 by omega) hl, h20, not_false_eq_true, oenc]
    exact hQ
  | succ k ih =>
    intro d Q hk
    refine iff_of (fun Q hQ => ?_) Q
    have hok := (ho.1 (k + 1) hk).2
    have hok0 := (ho.1 k (by omega)).2
    rw [show d + (k + 1) + 2 = d + k + 1 + 2 by omega]
    refine c_ahead (d := d + k + 1) hC (by omega) hg (fun z => ?_)
    rw [ahs_is hC ho hk, if_neg (Nat.succ_ne_zero k), Nat.add_sub_cancel]
    have k1 : ¬ nI (o k) = -1 := fun z => by
      rw [i_eq, i_nI (by omega), i_lm1] at z
      omega
    simp only [r_X9_bridge_72, r_X9_bridge_73, r_X9_bridge_74, r_X9_bridge_75, r_X9_bridge_78, r_X9_bridge_79, r_X9_bridge_82, r_X9_bridge_83, r_X9_bridge_84, r_X9_bridge_85, r_X9_bridge_87, r_X9_bridge_88, r_X9_bridge_89, r_X9_bridge_92, r_X9_bridge_94, r_X9_bridge_97, r_X9_bridge_99, r_X9_bridge_100, r_X9_bridge_101, r_X9_bridge_102, r_X9_bridge_105, r_X9_bridge_106, r_X9_bridge_109, r_X9_bridge_110, r_X9_bridge_113, ob_40, gt_40_0, pt_40_0, gt_40_1, pt_40_1, gt_40_2, pt_40_2, gt_40_3, pt_40_3, gt_40_4, pt_40_4, gt_40_5, pt_40_5, gt_40_6, pt_40_6, gt_40_7, pt_40_7, gt_40_8, pt_40_8, gt_40_9, pt_40_9, gt_40_10, pt_40_10, gt_40_11, gt_40_12, gt_40_13, gt_40_14, gt_40_15, gt_40_16, gt_40_17, gt_40_18, gt_40_19, gt_40_20, gt_40_21, gt_40_22, pt_40_22, gt_40_23, gt_40_24, gt_40_25, gt_40_26, gt_40_27, gt_40_28, gt_40_29, gt_40_30, gt_40_31, gt_40_32, gt_40_33, gt_40_34, pt_40_34, gt_40_35, pt_40_35, gt_40_36, gt_40_37, gt_40_38, gt_40_39, gt_40_40, gt_40_41, pt_40_41, gt_40_42, pt_40_42, gt_40_43, pt_40_43, gt_40_44, pt_40_44, gt_40_45, pt_40_45, gt_40_46, pt_40_46, gt_40_47, List.cons_append, List.nil_append, List.append_nil, if_true, if_false, true_and, and_true, true_or, or_true, nm_b_some, c_Mleaves hn (show o (k + 1) < 4 by omega) hl, h20, not_false_eq_true, oenc, k1]
    show nm_call (d + k + 2) _ [.ref 40, .int (nI (o k)), .int q] _ _
    rw [ih d _ (by omega)]
    simp only [r_X9_bridge_105, r_X9_bridge_106, r_X9_bridge_109, r_X9_bridge_110, r_X9_bridge_113, ob_40, gt_40_0, pt_40_0, gt_40_1, pt_40_1, gt_40_2, pt_40_2, gt_40_3, pt_40_3, gt_40_4, pt_40_4, gt_40_5, pt_40_5, gt_40_6, pt_40_6, gt_40_7, pt_40_7, gt_40_8, pt_40_8, gt_40_9, pt_40_9, gt_40_10, pt_40_10, gt_40_11, gt_40_12, gt_40_13, gt_40_14, gt_40_15, gt_40_16, gt_40_17, gt_40_18, gt_40_19, gt_40_20, gt_40_21, gt_40_22, pt_40_22, gt_40_23, gt_40_24, gt_40_25, gt_40_26, gt_40_27, gt_40_28, gt_40_29, gt_40_30, gt_40_31, gt_40_32, gt_40_33, gt_40_34, pt_40_34, gt_40_35, pt_40_35, gt_40_36, gt_40_37, gt_40_38, gt_40_39, gt_40_40, gt_40_41, pt_40_41, gt_40_42, pt_40_42, gt_40_43, pt_40_43, gt_40_44, pt_40_44, gt_40_45, pt_40_45, gt_40_46, pt_40_46, gt_40_47, List.cons_append, List.nil_append, List.append_nil, if_true, if_false, true_and, and_true, true_or, or_true, nm_b_some]
    exact hQ
theorem c_Mthere {s : nm_S} {q : Int32} {n C : Nat} {o : Nat → Nat} (hn : n ≤ 60) (hC : C ≤ 4) (hg : gi s 4002 = nI C) (hl : gi s 4003 = nI n) {g : Nat → Int32} (ho : Ord (ga s 45) g C o) (k d : Nat) (Q : nm_K) (hk : k < C) : nm_call (d + k + 3) 114 [.ref 40, .int (nI (o k)), .int q] (rep s) Q ↔ Q [.int (brF (fun c => lvM (ga s 45) (ga s 52) (ga s 53) (ga s 54) n c q + gi s 4007 / 2) (gi s 4008) o k + gi s 4007 - gi s 4007 / 2)] (rep s) := by
  have h20 : ¬ (2 : Int32) = 0 := by decide
  rw [show d + k + 3 = d + k + 2 + 1 by omega, e_X9_there]
  simp only [r_X9_there_0, r_X9_there_1, r_X9_there_2, r_X9_there_3, ob_40, gt_40_0, pt_40_0, gt_40_1, pt_40_1, gt_40_2, pt_40_2, gt_40_3, pt_40_3, gt_40_4, pt_40_4, gt_40_5, pt_40_5, gt_40_6, pt_40_6, gt_40_7, pt_40_7, gt_40_8, pt_40_8, gt_40_9, pt_40_9, gt_40_10, pt_40_10, gt_40_11, gt_40_12, gt_40_13, gt_40_14, gt_40_15, gt_40_16, gt_40_17, gt_40_18, gt_40_19, gt_40_20, gt_40_21, gt_40_22, pt_40_22, gt_40_23, gt_40_24, gt_40_25, gt_40_26, gt_40_27, gt_40_28, gt_40_29, gt_40_30, gt_40_31, gt_40_32, gt_40_33, gt_40_34, pt_40_34, gt_40_35, pt_40_35, gt_40_36, gt_40_37, gt_40_38, gt_40_39, gt_40_40, gt_40_41, pt_40_41, gt_40_42, pt_40_42, gt_40_43, pt_40_43, gt_40_44, pt_40_44, gt_40_45, pt_40_45, gt_40_46, pt_40_46, gt_40_47, List.cons_append, List.nil_append, List.append_nil, if_true, if_false, true_and, and_true, true_or, or_true, nm_b_some]
  rw [c_Mbridge hn hC hg hl ho k d _ hk]
  simp only [r_X9_there_6, r_X9_there_7, r_X9_there_10, r_X9_there_11, r_X9_there_12, r_X9_there_15, r_X9_there_16, r_X9_there_17, r_X9_there_18, ob_40, gt_40_0, pt_40_0, gt_40_1, pt_40_1, gt_40_2, pt_40_2, gt_40_3, pt_40_3, gt_40_4, pt_40_4, gt_40_5, pt_40_5, gt_40_6, pt_40_6, gt_40_7, pt_40_7, gt_40_8, pt_40_8, gt_40_9, pt_40_9, gt_40_10, pt_40_10, gt_40_11, gt_40_12, gt_40_13, gt_40_14, gt_40_15, gt_40_16, gt_40_17, gt_40_18, gt_40_19, gt_40_20, gt_40_21, gt_40_22, pt_40_22, gt_40_23, gt_40_24, gt_40_25, gt_40_26, gt_40_27, gt_40_28, gt_40_29, gt_40_30, gt_40_31, gt_40_32, gt_40_33, gt_40_34, pt_40_34, gt_40_35, pt_40_35, gt_40_36, gt_40_37, gt_40_38, gt_40_39, gt_40_40, gt_40_41, pt_40_41, gt_40_42, pt_40_42, gt_40_43, pt_40_43, gt_40_44, pt_40_44, gt_40_45, pt_40_45, gt_40_46, pt_40_46, gt_40_47, List.cons_append, List.nil_append, List.append_nil, if_true, if_false, true_and, and_true, true_or, or_true, nm_b_some, h20, not_false_eq_true]
