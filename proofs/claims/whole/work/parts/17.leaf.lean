/-! Small methods of the class. -/
theorem z0 : ((0 : Int32) = 0 ∨ (0 : Int32) = 1) ↔ True := by decide
theorem z1 : ((1 : Int32) = 0 ∨ (1 : Int32) = 1) ↔ True := by decide
theorem c_within {d : Nat} {w : nm_W} {Q : nm_K} {a b c : Int32} : nm_call (d + 1) 100 [.int a, .int b, .int c] w Q ↔ Q [.int (if b ≤ a ∧ a ≤ c then 1 else 0)] w := by
  simp only [e_X8_within, r_X8_within_0, r_X8_within_1, r_X8_within_2, r_X8_within_5, r_X8_within_6, r_X8_within_7, r_X8_within_10, r_X8_within_11, r_X8_within_14, r_X8_within_15, List.cons_append, List.nil_append, List.append_nil, if_true, if_false, true_and, and_true, true_or, or_true, nm_b_some]
  by_cases h1 : a < b
  · have h2 : ¬ (b ≤ a ∧ a ≤ c) := by rw [i_le, i_le]; rw [i_lt] at h1; omega
    simp only [h1, h2, if_true, if_false]
  · by_cases h3 : c < a
    · have h2 : ¬ (b ≤ a ∧ a ≤ c) := by rw [i_le, i_le]; rw [i_lt] at h3; omega
      simp only [h1, h2, h3, if_true, if_false]
    · have h2 : b ≤ a ∧ a ≤ c := by rw [i_le, i_le]; rw [i_lt] at h1 h3; omega
      simp only [h1, h2, h3, if_true, if_false, and_self]
theorem c_in {d : Nat} {w : nm_W} {Q : nm_K} {a b c : Int32} : nm_call (d + 1) 101 [.int a, .int b, .int c] w Q ↔ Q [.int (if b ≤ a ∧ a ≤ c then 1 else 0)] w := by
  simp only [e_X9_in, r_X9_in_0, r_X9_in_1, r_X9_in_2, r_X9_in_5, r_X9_in_6, r_X9_in_7, r_X9_in_10, r_X9_in_11, r_X9_in_14, r_X9_in_15, List.cons_append, List.nil_append, List.append_nil, if_true, if_false, true_and, and_true, true_or, or_true, nm_b_some]
  by_cases h1 : a < b
  · have h2 : ¬ (b ≤ a ∧ a ≤ c) := by rw [i_le, i_le]; rw [i_lt] at h1; omega
    simp only [h1, h2, if_true, if_false]
  · by_cases h3 : c < a
    · have h2 : ¬ (b ≤ a ∧ a ≤ c) := by rw [i_le, i_le]; rw [i_lt] at h3; omega
      simp only [h1, h2, h3, if_true, if_false]
    · have h2 : b ≤ a ∧ a ≤ c := by rw [i_le, i_le]; rw [i_lt] at h1 h3; omega
      simp only [h1, h2, h3, if_true, if_false, and_self]
theorem c_isThing {d : Nat} {s : nm_S} {Q : nm_K} {a : Int32} : nm_call (d + 2) 96 [.ref 0, .int a] (rep s) Q ↔ Q [.int (if 0 ≤ a ∧ a ≤ gi s 104 - 1 then 1 else 0)] (rep s) := by
  simp only [e_X8_isThing, r_X8_isThing_0, r_X8_isThing_1, r_X8_isThing_2, r_X8_isThing_3, r_X8_isThing_6, r_X8_isThing_9, r_X8_isThing_10, r_X8_isThing_11, r_X8_isThing_14, ob_0, gt_0_0, gt_0_1, gt_0_2, gt_0_3, gt_0_4, gt_0_5, gt_0_6, gt_0_7, gt_0_8, gt_0_9, pt_0_9, gt_0_10, pt_0_10, gt_0_11, pt_0_11, ob_1, gt_1_0, gt_1_1, gt_1_2, gt_1_3, gt_1_4, pt_1_4, c_within, List.cons_append, List.nil_append, List.append_nil, if_true, if_false, true_and, and_true, true_or, or_true, nm_b_some, b01]
theorem c_isConvoy {d : Nat} {s : nm_S} {Q : nm_K} {a : Int32} : nm_call (d + 2) 97 [.ref 0, .int a] (rep s) Q ↔ Q [.int (if 0 ≤ a ∧ a ≤ gi s 604 - 1 then 1 else 0)] (rep s) := by
  simp only [e_X8_isConvoy, r_X8_isConvoy_0, r_X8_isConvoy_1, r_X8_isConvoy_2, r_X8_isConvoy_3, r_X8_isConvoy_6, r_X8_isConvoy_9, r_X8_isConvoy_10, r_X8_isConvoy_11, r_X8_isConvoy_14, ob_0, gt_0_0, gt_0_1, gt_0_2, gt_0_3, gt_0_4, gt_0_5, gt_0_6, gt_0_7, gt_0_8, gt_0_9, pt_0_9, gt_0_10, pt_0_10, gt_0_11, pt_0_11, ob_6, gt_6_0, gt_6_1, gt_6_2, gt_6_3, gt_6_4, pt_6_4, gt_6_5, pt_6_5, gt_6_6, pt_6_6, c_within, List.cons_append, List.nil_append, List.append_nil, if_true, if_false, true_and, and_true, true_or, or_true, nm_b_some, b01]
theorem c_isStage {d : Nat} {s : nm_S} {Q : nm_K} {a : Int32} : nm_call (d + 2) 98 [.ref 0, .int a] (rep s) Q ↔ Q [.int (if 0 ≤ a ∧ a ≤ gi s 2103 - 1 then 1 else 0)] (rep s) := by
  simp only [e_X8_isStage, r_X8_isStage_0, r_X8_isStage_1, r_X8_isStage_2, r_X8_isStage_3, r_X8_isStage_6, r_X8_isStage_9, r_X8_isStage_10, r_X8_isStage_11, r_X8_isStage_14, ob_0, gt_0_0, gt_0_1, gt_0_2, gt_0_3, gt_0_4, gt_0_5, gt_0_6, gt_0_7, gt_0_8, gt_0_9, pt_0_9, gt_0_10, pt_0_10, gt_0_11, pt_0_11, ob_21, gt_21_0, gt_21_1, gt_21_2, gt_21_3, pt_21_3, gt_21_4, pt_21_4, gt_21_5, gt_21_6, gt_21_7, gt_21_8, gt_21_9, gt_21_10, c_within, List.cons_append, List.nil_append, List.append_nil, if_true, if_false, true_and, and_true, true_or, or_true, nm_b_some, b01]
theorem c_isKnown {d : Nat} {s : nm_S} {Q : nm_K} {a : Int32} : nm_call (d + 2) 99 [.ref 0, .int a] (rep s) Q ↔ Q [.int (if 0 ≤ a ∧ a ≤ gi s 9 then 1 else 0)] (rep s) := by
  simp only [e_X8_isKnown, r_X8_isKnown_0, r_X8_isKnown_1, r_X8_isKnown_2, r_X8_isKnown_3, r_X8_isKnown_6, r_X8_isKnown_9, ob_0, gt_0_0, gt_0_1, gt_0_2, gt_0_3, gt_0_4, gt_0_5, gt_0_6, gt_0_7, gt_0_8, gt_0_9, pt_0_9, gt_0_10, pt_0_10, gt_0_11, pt_0_11, c_within, List.cons_append, List.nil_append, List.append_nil, if_true, if_false, true_and, and_true, true_or, or_true, nm_b_some, b01]
theorem c_MisStage {d : Nat} {s : nm_S} {Q : nm_K} {a : Int32} : nm_call (d + 2) 123 [.ref 40, .int a] (rep s) Q ↔ Q [.int (if 0 ≤ a ∧ a ≤ gi s 4004 - 1 then 1 else 0)] (rep s) := by
  simp only [e_X9_isStage, r_X9_isStage_0, r_X9_isStage_1, r_X9_isStage_2, r_X9_isStage_3, r_X9_isStage_6, r_X9_isStage_7, r_X9_isStage_8, r_X9_isStage_11, ob_40, gt_40_0, pt_40_0, gt_40_1, pt_40_1, gt_40_2, pt_40_2, gt_40_3, pt_40_3, gt_40_4, pt_40_4, gt_40_5, pt_40_5, gt_40_6, pt_40_6, gt_40_7, pt_40_7, gt_40_8, pt_40_8, gt_40_9, pt_40_9, gt_40_10, pt_40_10, gt_40_11, gt_40_12, gt_40_13, gt_40_14, gt_40_15, gt_40_16, gt_40_17, gt_40_18, gt_40_19, gt_40_20, gt_40_21, gt_40_22, pt_40_22, gt_40_23, gt_40_24, gt_40_25, gt_40_26, gt_40_27, gt_40_28, gt_40_29, gt_40_30, gt_40_31, gt_40_32, gt_40_33, gt_40_34, pt_40_34, gt_40_35, pt_40_35, gt_40_36, gt_40_37, gt_40_38, gt_40_39, gt_40_40, gt_40_41, pt_40_41, gt_40_42, pt_40_42, gt_40_43, pt_40_43, gt_40_44, pt_40_44, gt_40_45, pt_40_45, gt_40_46, pt_40_46, gt_40_47, c_in, List.cons_append, List.nil_append, List.append_nil, if_true, if_false, true_and, and_true, true_or, or_true, nm_b_some, b01]
theorem c_forget {d : Nat} {s : nm_S} {Q : nm_K} : nm_call (d + 1) 28 [.ref 11] (rep s) Q ↔ Q [] (rep (si s 1105 0)) := by
  simp only [e_X4_forget, r_X4_forget_0, r_X4_forget_1, r_X4_forget_2, r_X4_forget_5, ob_11, gt_11_0, gt_11_1, gt_11_2, gt_11_3, gt_11_4, pt_11_4, gt_11_5, pt_11_5, List.cons_append, List.nil_append, List.append_nil, if_true, if_false, true_and, and_true, true_or, or_true, nm_b_some]
theorem c_gfull {d : Nat} {s : nm_S} {Q : nm_K} : nm_call (d + 1) 8 [.ref 1] (rep s) Q ↔ Q [.int (if ¬ gi s 104 < 10 then 1 else 0)] (rep s) := by
  simp only [e_X2_isFull, r_X2_isFull_0, r_X2_isFull_1, r_X2_isFull_4, r_X2_isFull_6, r_X2_isFull_9, r_X2_isFull_10, r_X2_isFull_13, r_X2_isFull_14, ob_1, gt_1_0, gt_1_1, gt_1_2, gt_1_3, gt_1_4, pt_1_4, List.cons_append, List.nil_append, List.append_nil, if_true, if_false, true_and, and_true, true_or, or_true, nm_b_some]
  by_cases h : gi s 104 < 10
  · simp only [h, z0, true_and, if_true, if_false, not_true_eq_false]
  · simp only [h, z1, true_and, if_true, if_false, not_false_eq_true]
theorem c_cfull {d : Nat} {s : nm_S} {Q : nm_K} : nm_call (d + 1) 1 [.ref 6] (rep s) Q ↔ Q [.int (if ¬ gi s 604 < 4 then 1 else 0)] (rep s) := by
  simp only [e_X0_isFull, r_X0_isFull_0, r_X0_isFull_1, r_X0_isFull_4, r_X0_isFull_5, r_X0_isFull_8, r_X0_isFull_9, r_X0_isFull_12, r_X0_isFull_13, ob_6, gt_6_0, gt_6_1, gt_6_2, gt_6_3, gt_6_4, pt_6_4, gt_6_5, pt_6_5, gt_6_6, pt_6_6, List.cons_append, List.nil_append, List.append_nil, if_true, if_false, true_and, and_true, true_or, or_true, nm_b_some]
  by_cases h : gi s 604 < 4
  · simp only [h, z0, true_and, if_true, if_false, not_true_eq_false]
  · simp only [h, z1, true_and, if_true, if_false, not_false_eq_true]
/-- a call ends with an answer and a state -/
def Runs (y : Nat) (as : List Value) (s : nm_S) (v : Int32) (t : nm_S) : Prop := ∀ Q : nm_K, Q [.int v] (rep t) → nm_call 60 y as (rep s) Q
/-- all but some numbers and rows stays -/
def Fr (ks cs : List Nat) (s t : nm_S) : Prop := (∀ k, k ∉ ks → gi t k = gi s k) ∧ (∀ c, c ∉ cs → ga t c = ga s c) ∧ gb t = gb s ∧ gp t = gp s
theorem Fr.rf {ks cs : List Nat} {s : nm_S} : Fr ks cs s s := ⟨fun _ _ => rfl, fun _ _ => rfl, rfl, rfl⟩
theorem Fr.si {ks cs : List Nat} {s t : nm_S} (h : Fr ks cs s t) {k : Nat} {x : Int32} (hk : k ∈ ks) : Fr ks cs s (si t k x) := by
  refine ⟨fun j hj => ?_, h.2.1, h.2.2.1, h.2.2.2⟩
  rw [gi_si, if_neg (fun e => hj (by rw [e]; exact hk))]
  exact h.1 j hj
theorem Fr.sa {ks cs : List Nat} {s t : nm_S} (h : Fr ks cs s t) {c : Nat} {f : Nat → Int32} (hc : c ∈ cs) : Fr ks cs s (sa t c f) := by
  refine ⟨h.1, fun j hj => ?_, h.2.2.1, h.2.2.2⟩
  rw [ga_sa, if_neg (fun e => hj (by rw [e]; exact hc))]
  exact h.2.1 j hj
theorem Fr.tr {ks cs : List Nat} {s t u : nm_S} (h : Fr ks cs s t) (h' : Fr ks cs t u) : Fr ks cs s u := ⟨fun k hk => (h'.1 k hk).trans (h.1 k hk), fun c hc => (h'.2.1 c hc).trans (h.2.1 c hc), h'.2.2.1.trans h.2.2.1, h'.2.2.2.trans h.2.2.2⟩
theorem Fr.mono {ks cs ks' cs' : List Nat} {s t : nm_S} (h : Fr ks cs s t) (hk : ∀ k ∈ ks, k ∈ ks') (hc : ∀ c ∈ cs, c ∈ cs') : Fr ks' cs' s t := ⟨fun k z => h.1 k (fun y => z (hk k y)), fun c z => h.2.1 c (fun y => z (hc c y)), h.2.2⟩
/-- what a property reads -/
def Reads (ks cs : List Nat) (P : nm_S → Prop) : Prop := ∀ s t : nm_S, (∀ k ∈ ks, gi t k = gi s k) → (∀ c ∈ cs, ga t c = ga s c) → P s → P t
theorem Reads.fr {ks cs ks' cs' : List Nat} {P : nm_S → Prop} (hR : Reads ks cs P) {s t : nm_S} (h : Fr ks' cs' s t) (hk : ∀ k ∈ ks, k ∉ ks') (hc : ∀ c ∈ cs, c ∉ cs') (hP : P s) : P t := hR s t (fun k z => h.1 k (hk k z)) (fun c z => h.2.1 c (hc c z)) hP
theorem nI_sub1 {n : Nat} (h : n < 2147483648) : (nI n - 1).toInt = (n : Int) - 1 := by
  rw [i_sub] <;> rw [i_nI h, i_l1] <;> omega
/-- an index that was looked at -/
theorem idx_of {x : Int32} {n : Nat} (hn : n < 2147483648) (h : 0 ≤ x ∧ x ≤ nI n - 1) : ∃ j, j < n ∧ x = nI j := by
  rw [i_le, i_le, i_l0, nI_sub1 hn] at h
  exact ⟨x.toInt.toNat, by omega, i_of h.1⟩
theorem idx_iff {j n : Nat} (hj : j < 2147483648) (hn : n < 2147483648) : (0 ≤ nI j ∧ nI j ≤ nI n - 1) ↔ j < n := by
  rw [i_le, i_le, i_l0, nI_sub1 hn, i_nI hj]
  omega
