/-! STAGES, the class's side: who goes back first, and the rest. -/
/-- the last begun among some; of one minute the greater number -/
def sel1 (p : Nat → Bool) (g : Nat → Int32) (i : Nat) : Option Nat → Option Nat
  | none => if p i = true then some i else none
  | some j => if p i = true ∧ ¬ g i < g j then some i else some j
def sel (p : Nat → Bool) (g : Nat → Int32) (N : Nat) : Option Nat := lpf (sel1 p g) N 0 none
def ltr (g : Nat → Int32) (m i : Nat) : Prop := (g i).toInt < (g m).toInt ∨ ((g i).toInt = (g m).toInt ∧ i < m)
theorem sel_is (p : Nat → Bool) (g : Nat → Int32) (N : Nat) : match sel p g N with
    | none => ∀ i, i < N → p i = false
    | some m => m < N ∧ p m = true ∧ ∀ i, i < N → p i = true → i = m ∨ ltr g m i := by
  refine lpf_ind (step := sel1 p g) (fun n a => match a with
    | none => ∀ i, i < n → p i = false
    | some m => m < n ∧ p m = true ∧ ∀ i, i < n → p i = true → i = m ∨ ltr g m i) (N := N) ?_ N 0 none (by omega) (fun i hi => by omega)
  intro n a hn ha
  cases a with
  | none =>
    by_cases hp : p n = true
    · have e : sel1 p g n none = some n := by simp [sel1, hp]
      rw [e]
      refine ⟨by omega, hp, fun i hi hpi => ?_⟩
      by_cases h : i = n
      · exact Or.inl h
      · rw [ha i (by omega)] at hpi; cases hpi
    · have e : sel1 p g n none = none := by simp [sel1, hp]
      rw [e]
      intro i hi
      by_cases h : i = n
      · subst h; simpa using hp
      · exact ha i (by omega)
  | some m =>
    obtain ⟨h1, h2, h3⟩ := ha
    by_cases hp : p n = true ∧ ¬ g n < g m
    · have e : sel1 p g n (some m) = some n := by simp only [sel1, hp, not_false_eq_true, and_self, if_true]
      rw [e]
      refine ⟨by omega, hp.1, fun i hi hpi => ?_⟩
      by_cases h : i = n
      · exact Or.inl h
      · have hp2 := hp.2
        rw [i_lt] at hp2
        rcases h3 i (by omega) hpi with h4 | h4
        · subst h4
          right
          unfold ltr
          omega
        · right
          unfold ltr at h4 ⊢
          omega
    · have e : sel1 p g n (some m) = some m := by show (if p n = true ∧ ¬ g n < g m then some n else some m) = some m; rw [if_neg hp]
      rw [e]
      refine ⟨by omega, h2, fun i hi hpi => ?_⟩
      by_cases h : i = n
      · subst h
        have hp2 : g i < g m := Decidable.byContradiction (fun z => hp ⟨hpi, z⟩)
        rw [i_lt] at hp2
        right
        unfold ltr
        omega
      · exact h3 i (by omega) hpi
theorem sel_uniq {p : Nat → Bool} {g : Nat → Int32} {N m : Nat} (h1 : m < N) (h2 : p m = true) (h3 : ∀ i, i < N → p i = true → i = m ∨ ltr g m i) : sel p g N = some m := by
  have h := sel_is p g N
  cases hs : sel p g N with
  | none => rw [hs] at h; rw [h m h1] at h2; cases h2
  | some m' =>
    rw [hs] at h
    obtain ⟨a1, a2, a3⟩ := h
    congr 1
    rcases h3 m' a1 a2 with e | e
    · exact e
    · rcases a3 m h1 h2 with e2 | e2
      · exact e2.symm
      · unfold ltr at e e2
        omega
theorem sel_cong {p q : Nat → Bool} {g g' : Nat → Int32} {N : Nat} (h : ∀ i, i < N → p i = q i ∧ g i = g' i) : sel p g N = sel q g' N := by
  have h1 := sel_is p g N
  cases hs : sel p g N with
  | none =>
    rw [hs] at h1
    have h2 := sel_is q g' N
    cases hs2 : sel q g' N with
    | none => rfl
    | some m =>
      rw [hs2] at h2
      have := h1 m h2.1
      rw [(h m h2.1).1, h2.2.1] at this
      cases this
  | some m =>
    rw [hs] at h1
    obtain ⟨a1, a2, a3⟩ := h1
    refine (sel_uniq a1 (by rw [← (h m a1).1]; exact a2) (fun i hi hpi => ?_)).symm
    rcases a3 i hi (by rw [(h i hi).1]; exact hpi) with e | e
    · exact Or.inl e
    · right
      unfold ltr at e ⊢
      rw [← (h i hi).2, ← (h m a1).2]
      exact e
theorem mask_and_bit (m i : Nat) (hi : i < 16) : (nI m &&& (1 : Int32) <<< (nI i &&& 31) = 0) ↔ m.testBit i = false := by
  rw [shl1 i hi]
  exact fa_bit (by omega)
theorem c_lastBegun {d : Nat} {s : nm_S} {Q : nm_K} {m N : Nat} (hN : gi s 2103 = nI N) (hn : N ≤ 10) : nm_call (d + 1) 54 [.ref 21, .int (nI m)] (rep s) Q ↔ Q [.int (oenc (sel (fun i => m.testBit i) (ga s 23) N))] (rep s) := by
  refine iff_of (fun Q hQ => ?_) Q
  rw [e_X5_lastBegun]
  simp only [r_X5_lastBegun_0, r_X5_lastBegun_1, r_X5_lastBegun_2, r_X5_lastBegun_3]
  refine nm_loopI (fun i (a : Option Nat) => ∀ z : Value, x_X5_lastBegun d Q 4 [.ref 21, .int (nI m), .int (oenc a), .int (nI i), z] [] (rep s) 0 0) (fun a => Q [.int (oenc a)] (rep s)) (sel1 (fun i => m.testBit i) (ga s 23)) (fun i a => ∀ j, a = some j → j < i) (N := N) ?_ ?_ N 0 none (by omega) (fun j hj => by cases hj) hQ .null
  · intro i a hi ha
    have g1 : nI i < nI N := (nI_lt' (by omega) (by omega)).mpr hi
    have g2 : vp_in (nI i) 10 := vp_in' (by omega) (by omega)
    have g3 : (nI i).toNatClampNeg = i := i_nIc (by omega)
    have g4 := mask_and_bit m i (by omega)
    constructor
    · intro j hj
      cases a with
      | none =>
        simp only [sel1] at hj
        split at hj
        · have := Option.some.inj hj; omega
        · cases hj
      | some k =>
        have := ha k rfl
        simp only [sel1] at hj
        split at hj
        · have := Option.some.inj hj; omega
        · have := Option.some.inj hj; omega
    · intro hnx z
      rw [r_X5_lastBegun_4]
      simp only [r_X5_lastBegun_0, r_X5_lastBegun_1, r_X5_lastBegun_2, r_X5_lastBegun_3, r_X5_lastBegun_5, r_X5_lastBegun_6, r_X5_lastBegun_9, r_X5_lastBegun_12, r_X5_lastBegun_13, r_X5_lastBegun_14, r_X5_lastBegun_15, r_X5_lastBegun_16, r_X5_lastBegun_17, r_X5_lastBegun_20, r_X5_lastBegun_21, r_X5_lastBegun_24, r_X5_lastBegun_25, r_X5_lastBegun_27, r_X5_lastBegun_29, r_X5_lastBegun_32, r_X5_lastBegun_33, r_X5_lastBegun_34, r_X5_lastBegun_37, r_X5_lastBegun_38, r_X5_lastBegun_41, r_X5_lastBegun_42, r_X5_lastBegun_43, r_X5_lastBegun_44, r_X5_lastBegun_47, r_X5_lastBegun_48, r_X5_lastBegun_49, r_X5_lastBegun_52, r_X5_lastBegun_53, r_X5_lastBegun_54, r_X5_lastBegun_57, r_X5_lastBegun_60, r_X5_lastBegun_61, ob_21, gt_21_0, gt_21_1, gt_21_2, gt_21_3, pt_21_3, gt_21_4, pt_21_4, gt_21_5, gt_21_6, gt_21_7, gt_21_8, gt_21_9, gt_21_10, ad_23, as_23, List.cons_append, List.nil_append, List.append_nil, if_true, if_false, true_and, and_true, true_or, or_true, nm_b_some, hN, g1, g2, g3, g4, nI_s]
      have h10 : ¬ (1 : Int32) = 0 := by decide
      by_cases hp : m.testBit i = true
      · have hp' : ¬ m.testBit i = false := by rw [hp]; decide
        cases a with
        | none =>
          simp only [sel1, hp, if_true] at hnx
          simp only [hp', if_false, h10, oenc, if_true] at hnx ⊢
          exact hnx _
        | some j =>
          have hj := ha j rfl
          have k1 := nIne (j := j) (by omega)
          have k2 : vp_in (nI j) 10 := vp_in' (by omega) (by omega)
          have k3 : (nI j).toNatClampNeg = j := i_nIc (by omega)
          simp only [sel1, hp, true_and] at hnx
          simp only [hp', if_false, h10, oenc, k1, k2, k3, true_and] at hnx ⊢
          by_cases hlt : ga s 23 i < ga s 23 j
          · simp only [hlt, not_true_eq_false, if_true, if_false] at hnx ⊢
            exact hnx _
          · simp only [hlt, not_false_eq_true, if_true, if_false] at hnx ⊢
            exact hnx _
      · have hp' : m.testBit i = false := by simpa using hp
        have e0 : sel1 (fun i => m.testBit i) (ga s 23) i a = a := by
          cases a with
          | none => simp [sel1, hp']
          | some j => simp [sel1, hp']
        rw [e0] at hnx
        simp only [hp', if_true]
        exact hnx _
  · intro a _ hr z
    have g1 : ¬ nI N < nI N := by rw [nI_lt' (by omega) (by omega)]; omega
    rw [r_X5_lastBegun_4]
    simp only [r_X5_lastBegun_0, r_X5_lastBegun_1, r_X5_lastBegun_2, r_X5_lastBegun_3, r_X5_lastBegun_5, r_X5_lastBegun_6, r_X5_lastBegun_9, r_X5_lastBegun_12, r_X5_lastBegun_13, r_X5_lastBegun_14, r_X5_lastBegun_15, r_X5_lastBegun_16, r_X5_lastBegun_17, r_X5_lastBegun_20, r_X5_lastBegun_21, r_X5_lastBegun_24, r_X5_lastBegun_25, r_X5_lastBegun_27, r_X5_lastBegun_29, r_X5_lastBegun_32, r_X5_lastBegun_33, r_X5_lastBegun_34, r_X5_lastBegun_37, r_X5_lastBegun_38, r_X5_lastBegun_41, r_X5_lastBegun_42, r_X5_lastBegun_43, r_X5_lastBegun_44, r_X5_lastBegun_47, r_X5_lastBegun_48, r_X5_lastBegun_49, r_X5_lastBegun_52, r_X5_lastBegun_53, r_X5_lastBegun_54, r_X5_lastBegun_57, r_X5_lastBegun_60, r_X5_lastBegun_61, ob_21, gt_21_0, gt_21_1, gt_21_2, gt_21_3, pt_21_3, gt_21_4, pt_21_4, gt_21_5, gt_21_6, gt_21_7, gt_21_8, gt_21_9, gt_21_10, ad_23, as_23, List.cons_append, List.nil_append, List.append_nil, if_true, if_false, true_and, and_true, true_or, or_true, nm_b_some, hN, g1]
    exact hr
theorem c_notKept {d : Nat} {s : nm_S} {Q : nm_K} {N : Nat} (hN : gi s 2103 = nI N) (hn : N ≤ 10) : nm_call (d + 2) 53 [.ref 21] (rep s) Q ↔ Q [.int (nI (mask (fun i => decide (ga s 22 i = 1 ∨ (ga s 22 i = 2 ∧ ga s 24 i = 0))) N))] (rep s) := by
  rw [e_X5_allThatIsNotKept]
  simp only [r_X5_allThatIsNotKept_0, r_X5_allThatIsNotKept_1, r_X5_allThatIsNotKept_2, r_X5_allThatIsNotKept_5, r_X5_allThatIsNotKept_6, r_X5_allThatIsNotKept_7, ob_21, gt_21_0, gt_21_1, gt_21_2, gt_21_3, pt_21_3, gt_21_4, pt_21_4, gt_21_5, gt_21_6, gt_21_7, gt_21_8, gt_21_9, gt_21_10, List.cons_append, List.nil_append, List.append_nil, if_true, if_false, true_and, and_true, true_or, or_true, nm_b_some, c_allThat hN hn]
  have key := nm_loop0 (fun i a => x_X5_allThatIsNotKept (d + 1) Q 8 [.ref 21, .int a, .int (nI i)] [] (rep s) 0 0) (fun a => Q [.int a] (rep s)) (fun i acc => if ga s 22 i = 2 ∧ ga s 24 i = 0 then acc ||| (1 : Int32) <<< (nI i &&& 31) else acc) N (by
    intro i a hi
    have g1 : nI i < nI N := (nI_lt' (by omega) (by omega)).mpr hi
    have g2 : vp_in (nI i) 10 := vp_in' (by omega) (by omega)
    have g3 : (nI i).toNatClampNeg = i := i_nIc (by omega)
    try dsimp only
    rw [r_X5_allThatIsNotKept_8]
    simp only [r_X5_allThatIsNotKept_0, r_X5_allThatIsNotKept_1, r_X5_allThatIsNotKept_2, r_X5_allThatIsNotKept_5, r_X5_allThatIsNotKept_6, r_X5_allThatIsNotKept_7, r_X5_allThatIsNotKept_9, r_X5_allThatIsNotKept_10, r_X5_allThatIsNotKept_13, r_X5_allThatIsNotKept_16, r_X5_allThatIsNotKept_17, r_X5_allThatIsNotKept_20, r_X5_allThatIsNotKept_21, r_X5_allThatIsNotKept_22, r_X5_allThatIsNotKept_23, r_X5_allThatIsNotKept_26, r_X5_allThatIsNotKept_27, r_X5_allThatIsNotKept_30, r_X5_allThatIsNotKept_31, r_X5_allThatIsNotKept_32, r_X5_allThatIsNotKept_35, r_X5_allThatIsNotKept_36, r_X5_allThatIsNotKept_37, r_X5_allThatIsNotKept_38, r_X5_allThatIsNotKept_39, r_X5_allThatIsNotKept_40, r_X5_allThatIsNotKept_41, r_X5_allThatIsNotKept_44, r_X5_allThatIsNotKept_47, r_X5_allThatIsNotKept_48, ob_21, gt_21_0, gt_21_1, gt_21_2, gt_21_3, pt_21_3, gt_21_4, pt_21_4, gt_21_5, gt_21_6, gt_21_7, gt_21_8, gt_21_9, gt_21_10, ad_22, as_22, ad_24, as_24, List.cons_append, List.nil_append, List.append_nil, if_true, if_false, true_and, and_true, true_or, or_true, nm_b_some, hN, g1, g2, g3, nI_s]
    by_cases h1 : ga s 22 i = 2
    · by_cases h2 : ga s 24 i = 0
      · simp only [h1, h2, and_self, if_true]
      · simp only [h1, h2, and_false, if_true, if_false]
    · simp only [h1, false_and, if_false]) (by
    intro a
    have g1 : ¬ nI N < nI N := by rw [nI_lt' (by omega) (by omega)]; omega
    try dsimp only
    rw [r_X5_allThatIsNotKept_8]
    simp only [r_X5_allThatIsNotKept_0, r_X5_allThatIsNotKept_1, r_X5_allThatIsNotKept_2, r_X5_allThatIsNotKept_5, r_X5_allThatIsNotKept_6, r_X5_allThatIsNotKept_7, r_X5_allThatIsNotKept_9, r_X5_allThatIsNotKept_10, r_X5_allThatIsNotKept_13, r_X5_allThatIsNotKept_16, r_X5_allThatIsNotKept_17, r_X5_allThatIsNotKept_20, r_X5_allThatIsNotKept_21, r_X5_allThatIsNotKept_22, r_X5_allThatIsNotKept_23, r_X5_allThatIsNotKept_26, r_X5_allThatIsNotKept_27, r_X5_allThatIsNotKept_30, r_X5_allThatIsNotKept_31, r_X5_allThatIsNotKept_32, r_X5_allThatIsNotKept_35, r_X5_allThatIsNotKept_36, r_X5_allThatIsNotKept_37, r_X5_allThatIsNotKept_38, r_X5_allThatIsNotKept_39, r_X5_allThatIsNotKept_40, r_X5_allThatIsNotKept_41, r_X5_allThatIsNotKept_44, r_X5_allThatIsNotKept_47, r_X5_allThatIsNotKept_48, ob_21, gt_21_0, gt_21_1, gt_21_2, gt_21_3, pt_21_3, gt_21_4, pt_21_4, gt_21_5, gt_21_6, gt_21_7, gt_21_8, gt_21_9, gt_21_10, ad_22, as_22, ad_24, as_24, List.cons_append, List.nil_append, List.append_nil, if_true, if_false, true_and, and_true, true_or, or_true, nm_b_some, hN, g1]) (nI (mask (fun i => decide (ga s 22 i = 1)) N))
  have e : lpf (fun i (acc : Int32) => if ga s 22 i = 2 ∧ ga s 24 i = 0 then acc ||| (1 : Int32) <<< (nI i &&& 31) else acc) N 0 (nI (mask (fun i => decide (ga s 22 i = 1)) N)) = nI (mask (fun i => decide (ga s 22 i = 1 ∨ (ga s 22 i = 2 ∧ ga s 24 i = 0))) N) := by
    have h := lpf_ind (step := fun i (acc : Int32) => if ga s 22 i = 2 ∧ ga s 24 i = 0 then acc ||| (1 : Int32) <<< (nI i &&& 31) else acc) (fun n a => a = nI (mask (fun i => decide (ga s 22 i = 1 ∨ (i < n ∧ ga s 22 i = 2 ∧ ga s 24 i = 0))) N)) (N := N) (by
      intro n a hn2 ha
      subst ha
      try dsimp only
      by_cases hc : ga s 22 n = 2 ∧ ga s 24 n = 0
      · rw [if_pos hc, shl1 n (by omega), fa_or]
        congr 1
        apply Nat.eq_of_testBit_eq
        intro i
        rw [Nat.testBit_or, mask_bit, mask_bit, Nat.testBit_two_pow]
        by_cases hi : i = n
        · subst hi
          simp [hn2, hc]
        · have e1 : decide (n = i) = false := by simp; omega
          rw [e1]
          have e2 : (i < n + 1) = (i < n) := by apply propext; omega
          simp only [e2, Bool.or_false]
      · rw [if_neg hc]
        congr 1
        apply mask_eq
        intro i hi
        constructor
        · rintro (z | z)
          · exact Or.inl z
          · exact Or.inr ⟨by omega, z.2⟩
        · rintro (z | z)
          · exact Or.inl z
          · refine Or.inr ⟨?_, z.2⟩
            rcases Nat.lt_or_ge i n with y | y
            · exact y
            · have : i = n := by omega
              subst this
              exact absurd z.2 hc) N 0 (nI (mask (fun i => decide (ga s 22 i = 1)) N)) (by omega) (by
      congr 1
      exact mask_eq (fun i hi => by
        constructor
        · exact Or.inl
        · rintro (z | z)
          · exact z
          · omega))
    rw [h]
    congr 1
    exact mask_eq (fun i hi => by
      constructor
      · rintro (z | z)
        · exact Or.inl z
        · exact Or.inr z.2
      · rintro (z | z)
        · exact Or.inl z
        · exact Or.inr ⟨hi, z⟩)
  rw [e] at key
  exact key
theorem mask_clear (m i : Nat) (hm : m < 65536) (hi : i < 16) : nI m &&& ((1 : Int32) <<< (nI i &&& 31) ^^^ (-1)) = nI (m &&& (2 ^ i ^^^ 4294967295)) := by
  rw [shl1 i hi, show (-1 : Int32) = nI 4294967295 by decide, fb_xorI, fa_and]
theorem mask_clear_bit (m i j : Nat) (hm : m < 65536) (hi : i < 16) : (m &&& (2 ^ i ^^^ 4294967295)).testBit j = (m.testBit j && decide (j ≠ i)) := by
  rw [Nat.testBit_and, Nat.testBit_xor, Nat.testBit_two_pow, show (4294967295 : Nat) = 2 ^ 32 - 1 by decide, Nat.testBit_two_pow_sub_one]
  by_cases hj : j < 32
  · by_cases e : j = i
    · subst e; simp [hj]
    · have : ¬ i = j := fun z => e z.symm
      simp [hj, e, this]
  · have : m.testBit j = false := Nat.testBit_lt_two_pow (Nat.lt_of_lt_of_le hm (Nat.le_trans (show 65536 ≤ 2 ^ 16 by decide) (Nat.pow_le_pow_right (by decide) (by omega))))
    simp [this]
