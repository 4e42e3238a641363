/-! STAGES: the class's side, writes. -/
theorem st_ext {s t : nm_S} (h1 : ∀ k, gi s k = gi t k) (h2 : ∀ c, ga s c = ga t c) (h3 : gb s = gb t) (h4 : gp s = gp t) : s = t := by
  obtain ⟨a, b, c, d⟩ := s
  obtain ⟨a', b', c', d'⟩ := t
  have e1 : a = a' := funext h1
  have e2 : b = b' := funext h2
  have e3 : c = c' := h3
  have e4 : d = d' := h4
  subst e1 e2 e3 e4
  rfl
def wS (s : nm_S) (f g h k : Nat → Int32) : nm_S := sa (sa (sa (sa s 22 f) 23 g) 29 h) 24 k
theorem ga_wS (s : nm_S) (f g h k : Nat → Int32) (c : Nat) : ga (wS s f g h k) c = if c = 24 then k else if c = 29 then h else if c = 23 then g else if c = 22 then f else ga s c := by
  unfold wS
  simp only [ga_sa]
theorem gi_wS (s : nm_S) (f g h k : Nat → Int32) (j : Nat) : gi (wS s f g h k) j = gi s j := rfl
theorem wS_self (s : nm_S) : wS s (ga s 22) (ga s 23) (ga s 29) (ga s 24) = s := by
  refine st_ext (fun _ => rfl) (fun c => ?_) rfl rfl
  rw [ga_wS]
  split
  · subst_vars; rfl
  · split
    · subst_vars; rfl
    · split
      · subst_vars; rfl
      · split
        · subst_vars; rfl
        · rfl
theorem wS_wS (s : nm_S) (f g h k f' g' h' k' : Nat → Int32) : sa (sa (sa (sa (wS s f g h k) 22 f') 23 g') 29 h') 24 k' = wS s f' g' h' k' := by
  refine st_ext (fun _ => rfl) (fun c => ?_) rfl rfl
  show ga (wS (wS s f g h k) f' g' h' k') c = _
  rw [ga_wS, ga_wS, ga_wS]
  by_cases h1 : c = 24
  · simp [h1]
  · by_cases h2 : c = 29
    · simp [h2]
    · by_cases h3 : c = 23
      · simp [h3]
      · by_cases h4 : c = 22
        · simp [h4]
        · simp [h1, h2, h3, h4]
theorem wS_22 (s : nm_S) (f g h k f' : Nat → Int32) : sa (wS s f g h k) 22 f' = wS s f' g h k := by
  refine st_ext (fun _ => rfl) (fun c => ?_) rfl rfl
  rw [ga_sa, ga_wS, ga_wS]
  by_cases h1 : c = 22
  · simp [h1]
  · simp [h1]
theorem wS_24 (s : nm_S) (f g h k k' : Nat → Int32) : sa (wS s f g h k) 24 k' = wS s f g h k' := by
  refine st_ext (fun _ => rfl) (fun c => ?_) rfl rfl
  rw [ga_sa, ga_wS, ga_wS]
  by_cases h1 : c = 24
  · simp [h1]
  · simp [h1]
theorem wS_29 (s : nm_S) (f g h k h' : Nat → Int32) : sa (wS s f g h k) 29 h' = wS s f g h' k := by
  refine st_ext (fun _ => rfl) (fun c => ?_) rfl rfl
  rw [ga_sa, ga_wS, ga_wS]
  by_cases h1 : c = 29
  · simp [h1]
  · simp [h1]
theorem wS_23 (s : nm_S) (f g h k g' : Nat → Int32) : sa (wS s f g h k) 23 g' = wS s f g' h k := by
  refine st_ext (fun _ => rfl) (fun c => ?_) rfl rfl
  rw [ga_sa, ga_wS, ga_wS]
  by_cases h1 : c = 23
  · simp [h1]
  · simp [h1]
/-- finishRunning -/
def fr1 (now : Int32) (du : Nat → Int32) (pt : Nat → Int32) (i : Nat) (a : (Nat → Int32) × Int32) : (Nat → Int32) × Int32 := if a.1 i = 1 ∧ ¬ now < du i then (upd a.1 i 2, if pt i = 0 then a.2 else if a.2 < du i then du i else a.2) else a
def LPf (now : Int32) (du pt f : Nat → Int32) : Nat → Int32
  | 0 => -1
  | n + 1 => if f n = 1 ∧ ¬ now < du n ∧ ¬ pt n = 0 then (if LPf now du pt f n < du n then du n else LPf now du pt f n) else LPf now du pt f n
theorem fr1_is (now : Int32) (du pt f : Nat → Int32) (N : Nat) : (∀ j, (lpf (fr1 now du pt) N 0 (f, -1)).1 j = if j < N ∧ f j = 1 ∧ ¬ now < du j then 2 else f j) ∧ (lpf (fr1 now du pt) N 0 (f, -1)).2 = LPf now du pt f N := by
  refine lpf_ind (step := fr1 now du pt) (fun i a => (∀ j, a.1 j = if j < i ∧ f j = 1 ∧ ¬ now < du j then 2 else f j) ∧ a.2 = LPf now du pt f i) (N := N) ?_ N 0 (f, -1) (by omega) ⟨fun j => by rw [if_neg (by omega)], rfl⟩
  intro i a hi ha
  obtain ⟨h1, h2⟩ := ha
  have hi0 : a.1 i = f i := by rw [h1 i, if_neg (by omega)]
  unfold fr1
  rw [hi0]
  by_cases hc : f i = 1 ∧ ¬ now < du i
  · rw [if_pos hc]
    refine ⟨fun j => ?_, ?_⟩
    · dsimp only
      by_cases hj : j = i
      · subst hj
        rw [upd_at, if_pos ⟨by omega, hc⟩]
      · rw [upd_ne hj, h1 j]
        by_cases hd : j < i ∧ f j = 1 ∧ ¬ now < du j
        · rw [if_pos hd, if_pos ⟨by omega, hd.2⟩]
        · rw [if_neg hd, if_neg (fun z => hd ⟨by omega, z.2⟩)]
    · dsimp only
      unfold LPf
      rw [h2]
      by_cases hp : pt i = 0
      · rw [if_pos hp, if_neg (fun z => z.2.2 hp)]
      · rw [if_neg hp]
        exact (if_pos ⟨hc.1, hc.2, hp⟩).symm
  · rw [if_neg hc]
    refine ⟨fun j => ?_, ?_⟩
    · rw [h1 j]
      by_cases hj : j = i
      · subst hj
        rw [if_neg (by omega), if_neg (fun z => hc z.2)]
      · by_cases hd : j < i ∧ f j = 1 ∧ ¬ now < du j
        · rw [if_pos hd, if_pos ⟨by omega, hd.2⟩]
        · rw [if_neg hd, if_neg (fun z => hd ⟨by omega, z.2⟩)]
    · rw [h2]
      show _ = LPf now du pt f (i + 1)
      unfold LPf
      rw [if_neg (fun z => hc ⟨z.1, z.2.1⟩)]
      cases i <;> rfl
theorem c_finish {d : Nat} {s : nm_S} {Q : nm_K} {now : Int32} {N : Nat} (hN : gi s 2103 = nI N) (hn : N ≤ 10) (hQ : Q [.int (lpf (fr1 now (fun i => ga s 23 i + ga s 25 i) (ga s 28)) N 0 (ga s 22, -1)).2] (rep (sa s 22 (lpf (fr1 now (fun i => ga s 23 i + ga s 25 i) (ga s 28)) N 0 (ga s 22, -1)).1))) : nm_call (d + 2) 49 [.ref 21, .int now] (rep s) Q := by
  rw [e_X5_finishRunning]
  simp only [r_X5_finishRunning_0, r_X5_finishRunning_1, r_X5_finishRunning_2, r_X5_finishRunning_3]
  have hs0 : rep s = rep (sa s 22 (ga s 22)) := by rw [sa_self]
  rw [hs0]
  refine nm_loopI (fun i (a : (Nat → Int32) × Int32) => ∀ z : Value, x_X5_finishRunning (d + 1) Q 4 [.ref 21, .int now, .int a.2, .int (nI i), z] [] (rep (sa s 22 a.1)) 0 0) (fun a => Q [.int a.2] (rep (sa s 22 a.1))) (fr1 now (fun i => ga s 23 i + ga s 25 i) (ga s 28)) (fun _ _ => True) (N := N) ?_ ?_ N 0 (ga s 22, -1) (by omega) trivial hQ .null
  · intro i a hi _
    refine ⟨trivial, fun hnx z => ?_⟩
    have g1 : nI i < nI N := (nI_lt' (by omega) (by omega)).mpr hi
    have g2 : vp_in (nI i) 10 := vp_in' (by omega) (by omega)
    have g3 : (nI i).toNatClampNeg = i := i_nIc (by omega)
    rw [r_X5_finishRunning_4]
    simp only [r_X5_finishRunning_0, r_X5_finishRunning_1, r_X5_finishRunning_2, r_X5_finishRunning_3, r_X5_finishRunning_5, r_X5_finishRunning_6, r_X5_finishRunning_9, r_X5_finishRunning_12, r_X5_finishRunning_13, r_X5_finishRunning_14, r_X5_finishRunning_17, r_X5_finishRunning_19, r_X5_finishRunning_20, r_X5_finishRunning_23, r_X5_finishRunning_24, r_X5_finishRunning_25, r_X5_finishRunning_26, r_X5_finishRunning_29, r_X5_finishRunning_31, r_X5_finishRunning_32, r_X5_finishRunning_35, r_X5_finishRunning_36, r_X5_finishRunning_39, r_X5_finishRunning_40, r_X5_finishRunning_41, r_X5_finishRunning_42, r_X5_finishRunning_43, r_X5_finishRunning_46, r_X5_finishRunning_47, r_X5_finishRunning_48, r_X5_finishRunning_51, r_X5_finishRunning_52, r_X5_finishRunning_54, r_X5_finishRunning_57, r_X5_finishRunning_60, r_X5_finishRunning_61, r_X5_finishRunning_62, r_X5_finishRunning_65, r_X5_finishRunning_68, r_X5_finishRunning_69, ob_21, gt_21_0, gt_21_1, gt_21_2, gt_21_3, pt_21_3, gt_21_4, pt_21_4, gt_21_5, gt_21_6, gt_21_7, gt_21_8, gt_21_9, gt_21_10, ad_22, as_22, ad_23, as_23, ad_25, as_25, ad_28, as_28, List.cons_append, List.nil_append, List.append_nil, if_true, if_false, true_and, and_true, true_or, or_true, nm_b_some, gi_si, ga_sa, gi_sa, gi_sb, gi_sp, ga_si, ga_sb, ga_sp, gb_si, gb_sa, gb_sb, gb_sp, gp_si, gp_sa, gp_sb, gp_sp, if_true, if_false, ↓reduceIte, Nat.reduceEqDiff, hN, g1, g2, g3, c_doneMinute (show i < 10 by omega), nI_s, sa_sa]
    unfold fr1 at hnx
    by_cases h1 : a.1 i = 1
    · simp only [h1, true_or, if_true]
      by_cases h2 : now < ga s 23 i + ga s 25 i
      · simp only [h1, h2, not_true_eq_false, and_false, if_false, if_true] at hnx ⊢
        exact hnx _
      · simp only [h1, h2, not_false_eq_true, and_self, if_false, if_true] at hnx ⊢
        by_cases h3 : ga s 28 i = 0
        · simp only [h3, if_true] at hnx ⊢
          exact hnx _
        · simp only [h3, if_false] at hnx ⊢
          exact hnx _
    · simp only [h1, false_and, if_false] at hnx ⊢
      exact hnx _
  · intro a _ hr z
    have g1 : ¬ nI N < nI N := by rw [nI_lt' (by omega) (by omega)]; omega
    rw [r_X5_finishRunning_4]
    simp only [r_X5_finishRunning_0, r_X5_finishRunning_1, r_X5_finishRunning_2, r_X5_finishRunning_3, r_X5_finishRunning_5, r_X5_finishRunning_6, r_X5_finishRunning_9, r_X5_finishRunning_12, r_X5_finishRunning_13, r_X5_finishRunning_14, r_X5_finishRunning_17, r_X5_finishRunning_19, r_X5_finishRunning_20, r_X5_finishRunning_23, r_X5_finishRunning_24, r_X5_finishRunning_25, r_X5_finishRunning_26, r_X5_finishRunning_29, r_X5_finishRunning_31, r_X5_finishRunning_32, r_X5_finishRunning_35, r_X5_finishRunning_36, r_X5_finishRunning_39, r_X5_finishRunning_40, r_X5_finishRunning_41, r_X5_finishRunning_42, r_X5_finishRunning_43, r_X5_finishRunning_46, r_X5_finishRunning_47, r_X5_finishRunning_48, r_X5_finishRunning_51, r_X5_finishRunning_52, r_X5_finishRunning_54, r_X5_finishRunning_57, r_X5_finishRunning_60, r_X5_finishRunning_61, r_X5_finishRunning_62, r_X5_finishRunning_65, r_X5_finishRunning_68, r_X5_finishRunning_69, ob_21, gt_21_0, gt_21_1, gt_21_2, gt_21_3, pt_21_3, gt_21_4, pt_21_4, gt_21_5, gt_21_6, gt_21_7, gt_21_8, gt_21_9, gt_21_10, ad_22, as_22, ad_23, as_23, ad_25, as_25, ad_28, as_28, List.cons_append, List.nil_append, List.append_nil, if_true, if_false, true_and, and_true, true_or, or_true, nm_b_some, gi_si, ga_sa, gi_sa, gi_sb, gi_sp, ga_si, ga_sb, ga_sp, gb_si, gb_sa, gb_sb, gb_sp, gp_si, gp_sa, gp_sb, gp_sp, if_true, if_false, ↓reduceIte, Nat.reduceEqDiff, hN, g1]
    exact hr
/-- makeSafe -/
def ms1 (lp : Int32) (du f : Nat → Int32) (i : Nat) (k : Nat → Int32) : Nat → Int32 := if f i = 2 ∧ ¬ lp < du i then upd k i 1 else k
theorem ms1_is (lp : Int32) (du f k : Nat → Int32) (N : Nat) : ∀ j, lpf (ms1 lp du f) N 0 k j = if j < N ∧ f j = 2 ∧ ¬ lp < du j then 1 else k j := by
  refine lpf_ind (step := ms1 lp du f) (fun i a => ∀ j, a j = if j < i ∧ f j = 2 ∧ ¬ lp < du j then 1 else k j) (N := N) ?_ N 0 k (by omega) (fun j => by rw [if_neg (by omega)])
  intro i a hi ha j
  unfold ms1
  by_cases hc : f i = 2 ∧ ¬ lp < du i
  · rw [if_pos hc]
    by_cases hj : j = i
    · subst hj
      rw [upd_at, if_pos ⟨by omega, hc⟩]
    · rw [upd_ne hj, ha j]
      by_cases hd : j < i ∧ f j = 2 ∧ ¬ lp < du j
      · rw [if_pos hd, if_pos ⟨by omega, hd.2⟩]
      · rw [if_neg hd, if_neg (fun z => hd ⟨by omega, z.2⟩)]
  · rw [if_neg hc, ha j]
    by_cases hj : j = i
    · subst hj
      rw [if_neg (by omega), if_neg (fun z => hc z.2)]
    · by_cases hd : j < i ∧ f j = 2 ∧ ¬ lp < du j
      · rw [if_pos hd, if_pos ⟨by omega, hd.2⟩]
      · rw [if_neg hd, if_neg (fun z => hd ⟨by omega, z.2⟩)]
theorem c_makeSafe {d : Nat} {s : nm_S} {Q : nm_K} {lp : Int32} {N : Nat} (hN : gi s 2103 = nI N) (hn : N ≤ 10) (hQ : Q [] (rep (sa s 24 (lpf (ms1 lp (fun i => ga s 23 i + ga s 25 i) (ga s 22)) N 0 (ga s 24))))) : nm_call (d + 2) 50 [.ref 21, .int lp] (rep s) Q := by
  have h11 : (1 : Int32) &&& 1 = 1 := by decide
  rw [e_X5_makeSafe]
  simp only [r_X5_makeSafe_0, r_X5_makeSafe_1]
  have hs0 : rep s = rep (sa s 24 (ga s 24)) := by rw [sa_self]
  rw [hs0]
  refine nm_loopI (fun i (k : Nat → Int32) => x_X5_makeSafe (d + 1) Q 2 [.ref 21, .int lp, .int (nI i)] [] (rep (sa s 24 k)) 0 0) (fun k => Q [] (rep (sa s 24 k))) (ms1 lp (fun i => ga s 23 i + ga s 25 i) (ga s 22)) (fun _ _ => True) (N := N) ?_ ?_ N 0 (ga s 24) (by omega) trivial hQ
  · intro i k hi _
    refine ⟨trivial, fun hnx => ?_⟩
    have g1 : nI i < nI N := (nI_lt' (by omega) (by omega)).mpr hi
    have g2 : vp_in (nI i) 10 := vp_in' (by omega) (by omega)
    have g3 : (nI i).toNatClampNeg = i := i_nIc (by omega)
    rw [r_X5_makeSafe_2]
    simp only [r_X5_makeSafe_0, r_X5_makeSafe_1, r_X5_makeSafe_3, r_X5_makeSafe_4, r_X5_makeSafe_7, r_X5_makeSafe_10, r_X5_makeSafe_11, r_X5_makeSafe_14, r_X5_makeSafe_15, r_X5_makeSafe_16, r_X5_makeSafe_17, r_X5_makeSafe_20, r_X5_makeSafe_21, r_X5_makeSafe_22, r_X5_makeSafe_25, r_X5_makeSafe_26, r_X5_makeSafe_29, r_X5_makeSafe_30, r_X5_makeSafe_33, r_X5_makeSafe_34, r_X5_makeSafe_35, r_X5_makeSafe_36, r_X5_makeSafe_39, r_X5_makeSafe_42, ob_21, gt_21_0, gt_21_1, gt_21_2, gt_21_3, pt_21_3, gt_21_4, pt_21_4, gt_21_5, gt_21_6, gt_21_7, gt_21_8, gt_21_9, gt_21_10, ad_22, as_22, ad_24, as_24, List.cons_append, List.nil_append, List.append_nil, if_true, if_false, true_and, and_true, true_or, or_true, nm_b_some, gi_si, ga_sa, gi_sa, gi_sb, gi_sp, ga_si, ga_sb, ga_sp, gb_si, gb_sa, gb_sb, gb_sp, gp_si, gp_sa, gp_sb, gp_sp, if_true, if_false, ↓reduceIte, Nat.reduceEqDiff, hN, g1, g2, g3, c_doneMinute (show i < 10 by omega), nI_s, sa_sa, h11]
    unfold ms1 at hnx
    by_cases h1 : ga s 22 i = 2
    · simp only [h1, or_true, if_true]
      by_cases h2 : lp < ga s 23 i + ga s 25 i
      · simp only [h1, h2, not_true_eq_false, and_false, if_false, if_true] at hnx ⊢
        exact hnx
      · simp only [h1, h2, not_false_eq_true, and_self, if_false, if_true] at hnx ⊢
        exact hnx
    · simp only [h1, false_and, if_false] at hnx ⊢
      exact hnx
  · intro k _ hr
    have g1 : ¬ nI N < nI N := by rw [nI_lt' (by omega) (by omega)]; omega
    rw [r_X5_makeSafe_2]
    simp only [r_X5_makeSafe_0, r_X5_makeSafe_1, r_X5_makeSafe_3, r_X5_makeSafe_4, r_X5_makeSafe_7, r_X5_makeSafe_10, r_X5_makeSafe_11, r_X5_makeSafe_14, r_X5_makeSafe_15, r_X5_makeSafe_16, r_X5_makeSafe_17, r_X5_makeSafe_20, r_X5_makeSafe_21, r_X5_makeSafe_22, r_X5_makeSafe_25, r_X5_makeSafe_26, r_X5_makeSafe_29, r_X5_makeSafe_30, r_X5_makeSafe_33, r_X5_makeSafe_34, r_X5_makeSafe_35, r_X5_makeSafe_36, r_X5_makeSafe_39, r_X5_makeSafe_42, ob_21, gt_21_0, gt_21_1, gt_21_2, gt_21_3, pt_21_3, gt_21_4, pt_21_4, gt_21_5, gt_21_6, gt_21_7, gt_21_8, gt_21_9, gt_21_10, ad_22, as_22, ad_24, as_24, List.cons_append, List.nil_append, List.append_nil, if_true, if_false, true_and, and_true, true_or, or_true, nm_b_some, gi_si, ga_sa, gi_sa, gi_sb, gi_sp, ga_si, ga_sb, ga_sp, gb_si, gb_sa, gb_sb, gb_sp, gp_si, gp_sa, gp_sb, gp_sp, if_true, if_false, ↓reduceIte, Nat.reduceEqDiff, hN, g1]
    exact hr
/-- clearTakenBack -/
abbrev Q4 : Type := (Nat → Int32) × (Nat → Int32) × (Nat → Int32) × (Nat → Int32)
def ct1 (now : Int32) (i : Nat) (a : Q4) : Q4 := if a.1 i = 3 ∧ ¬ now < a.2.2.1 i then (upd a.1 i 0, upd a.2.1 i (-1), upd a.2.2.1 i (-1), upd a.2.2.2 i 0) else a
theorem ct1_is (now : Int32) (f g h k : Nat → Int32) (N : Nat) : ∀ j, (lpf (ct1 now) N 0 (f, g, h, k)).1 j = (if j < N ∧ f j = 3 ∧ ¬ now < h j then 0 else f j) ∧ (lpf (ct1 now) N 0 (f, g, h, k)).2.1 j = (if j < N ∧ f j = 3 ∧ ¬ now < h j then -1 else g j) ∧ (lpf (ct1 now) N 0 (f, g, h, k)).2.2.1 j = (if j < N ∧ f j = 3 ∧ ¬ now < h j then -1 else h j) ∧ (lpf (ct1 now) N 0 (f, g, h, k)).2.2.2 j = (if j < N ∧ f j = 3 ∧ ¬ now < h j then 0 else k j) := by
  refine lpf_ind (step := ct1 now) (fun i a => ∀ j, a.1 j = (if j < i ∧ f j = 3 ∧ ¬ now < h j then 0 else f j) ∧ a.2.1 j = (if j < i ∧ f j = 3 ∧ ¬ now < h j then -1 else g j) ∧ a.2.2.1 j = (if j < i ∧ f j = 3 ∧ ¬ now < h j then -1 else h j) ∧ a.2.2.2 j = (if j < i ∧ f j = 3 ∧ ¬ now < h j then 0 else k j)) (N := N) ?_ N 0 (f, g, h, k) (by omega) (fun j => by rw [if_neg (by omega), if_neg (by omega), if_neg (by omega), if_neg (by omega)]; exact ⟨rfl, rfl, rfl, rfl⟩)
  intro i a hi ha j
  have e1 : a.1 i = f i := by rw [(ha i).1, if_neg (by omega)]
  have e2 : a.2.2.1 i = h i := by rw [(ha i).2.2.1, if_neg (by omega)]
  unfold ct1
  rw [e1, e2]
  by_cases hc : f i = 3 ∧ ¬ now < h i
  · rw [if_pos hc]
    dsimp only
    by_cases hj : j = i
    · subst hj
      simp only [upd_at]
      rw [if_pos ⟨by omega, hc⟩, if_pos ⟨by omega, hc⟩, if_pos ⟨by omega, hc⟩, if_pos ⟨by omega, hc⟩]
      exact ⟨rfl, rfl, rfl, rfl⟩
    · simp only [upd_ne hj]
      rw [(ha j).1, (ha j).2.1, (ha j).2.2.1, (ha j).2.2.2]
      have : (j < i + 1 ∧ f j = 3 ∧ ¬ now < h j) ↔ (j < i ∧ f j = 3 ∧ ¬ now < h j) := ⟨fun z => ⟨by omega, z.2⟩, fun z => ⟨by omega, z.2⟩⟩
      simp only [this]
      exact ⟨trivial, trivial, trivial, trivial⟩
  · rw [if_neg hc, (ha j).1, (ha j).2.1, (ha j).2.2.1, (ha j).2.2.2]
    have : (j < i + 1 ∧ f j = 3 ∧ ¬ now < h j) ↔ (j < i ∧ f j = 3 ∧ ¬ now < h j) := ⟨fun z => ⟨by
      rcases Nat.lt_or_ge j i with y | y
      · exact y
      · have : j = i := by omega
        subst this
        exact absurd z.2 hc, z.2⟩, fun z => ⟨by omega, z.2⟩⟩
    simp only [this]
    exact ⟨trivial, trivial, trivial, trivial⟩
theorem c_clearTB {d : Nat} {s : nm_S} {Q : nm_K} {now : Int32} {N : Nat} (hN : gi s 2103 = nI N) (hn : N ≤ 10) (hQ : ∀ A : Q4, A = lpf (ct1 now) N 0 (ga s 22, ga s 23, ga s 29, ga s 24) → Q [] (rep (wS s A.1 A.2.1 A.2.2.1 A.2.2.2))) : nm_call (d + 2) 51 [.ref 21, .int now] (rep s) Q := by
  rw [e_X5_clearTakenBack]
  simp only [r_X5_clearTakenBack_0, r_X5_clearTakenBack_1]
  have hs0 : rep s = rep (wS s (ga s 22) (ga s 23) (ga s 29) (ga s 24)) := by rw [wS_self]
  rw [hs0]
  refine nm_loopI (fun i (a : Q4) => x_X5_clearTakenBack (d + 1) Q 2 [.ref 21, .int now, .int (nI i)] [] (rep (wS s a.1 a.2.1 a.2.2.1 a.2.2.2)) 0 0) (fun a => Q [] (rep (wS s a.1 a.2.1 a.2.2.1 a.2.2.2))) (ct1 now) (fun _ _ => True) (N := N) ?_ ?_ N 0 (ga s 22, ga s 23, ga s 29, ga s 24) (by omega) trivial (hQ _ rfl)
  · intro i a hi _
    refine ⟨trivial, fun hnx => ?_⟩
    have g1 : nI i < nI N := (nI_lt' (by omega) (by omega)).mpr hi
    have g2 : vp_in (nI i) 10 := vp_in' (by omega) (by omega)
    have g3 : (nI i).toNatClampNeg = i := i_nIc (by omega)
    rw [r_X5_clearTakenBack_2]
    simp only [r_X5_clearTakenBack_0, r_X5_clearTakenBack_1, r_X5_clearTakenBack_3, r_X5_clearTakenBack_4, r_X5_clearTakenBack_7, r_X5_clearTakenBack_10, r_X5_clearTakenBack_11, r_X5_clearTakenBack_14, r_X5_clearTakenBack_15, r_X5_clearTakenBack_16, r_X5_clearTakenBack_17, r_X5_clearTakenBack_20, r_X5_clearTakenBack_21, r_X5_clearTakenBack_24, r_X5_clearTakenBack_25, r_X5_clearTakenBack_26, r_X5_clearTakenBack_27, r_X5_clearTakenBack_30, r_X5_clearTakenBack_31, r_X5_clearTakenBack_32, r_X5_clearTakenBack_35, r_X5_clearTakenBack_38, r_X5_clearTakenBack_41, ob_21, gt_21_0, gt_21_1, gt_21_2, gt_21_3, pt_21_3, gt_21_4, pt_21_4, gt_21_5, gt_21_6, gt_21_7, gt_21_8, gt_21_9, gt_21_10, ad_22, as_22, ad_29, as_29, List.cons_append, List.nil_append, List.append_nil, if_true, if_false, true_and, and_true, true_or, or_true, nm_b_some, gi_si, ga_sa, gi_sa, gi_sb, gi_sp, ga_si, ga_sb, ga_sp, gb_si, gb_sa, gb_sb, gb_sp, gp_si, gp_sa, gp_sb, gp_sp, if_true, if_false, ↓reduceIte, Nat.reduceEqDiff, gi_wS, ga_wS, hN, g1, g2, g3, c_clear (show i < 10 by omega), nI_s, wS_wS]
    unfold ct1 at hnx
    by_cases h1 : a.1 i = 3
    · by_cases h2 : now < a.2.2.1 i
      · simp only [h1, h2, not_true_eq_false, and_false, if_false, if_true] at hnx ⊢
        exact hnx
      · simp only [h1, h2, not_false_eq_true, and_self, if_false, if_true] at hnx ⊢
        exact hnx
    · simp only [h1, false_and, if_false] at hnx ⊢
      exact hnx
  · intro a _ hr
    have g1 : ¬ nI N < nI N := by rw [nI_lt' (by omega) (by omega)]; omega
    rw [r_X5_clearTakenBack_2]
    simp only [r_X5_clearTakenBack_0, r_X5_clearTakenBack_1, r_X5_clearTakenBack_3, r_X5_clearTakenBack_4, r_X5_clearTakenBack_7, r_X5_clearTakenBack_10, r_X5_clearTakenBack_11, r_X5_clearTakenBack_14, r_X5_clearTakenBack_15, r_X5_clearTakenBack_16, r_X5_clearTakenBack_17, r_X5_clearTakenBack_20, r_X5_clearTakenBack_21, r_X5_clearTakenBack_24, r_X5_clearTakenBack_25, r_X5_clearTakenBack_26, r_X5_clearTakenBack_27, r_X5_clearTakenBack_30, r_X5_clearTakenBack_31, r_X5_clearTakenBack_32, r_X5_clearTakenBack_35, r_X5_clearTakenBack_38, r_X5_clearTakenBack_41, ob_21, gt_21_0, gt_21_1, gt_21_2, gt_21_3, pt_21_3, gt_21_4, pt_21_4, gt_21_5, gt_21_6, gt_21_7, gt_21_8, gt_21_9, gt_21_10, ad_22, as_22, ad_29, as_29, List.cons_append, List.nil_append, List.append_nil, if_true, if_false, true_and, and_true, true_or, or_true, nm_b_some, gi_si, ga_sa, gi_sa, gi_sb, gi_sp, ga_si, ga_sb, ga_sp, gb_si, gb_sa, gb_sb, gb_sp, gp_si, gp_sa, gp_sb, gp_sp, if_true, if_false, ↓reduceIte, Nat.reduceEqDiff, gi_wS, ga_wS, hN, g1]
    exact hr
