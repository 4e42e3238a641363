/-! least, share, settle. -/
def FrP (ks cs : List Nat) (s t : nm_S) : Prop := (∀ k, k ∉ ks → gi t k = gi s k) ∧ ∀ c, c ∉ cs → ga t c = ga s c
theorem Fr.P {ks cs : List Nat} {s t : nm_S} (h : Fr ks cs s t) : FrP ks cs s t := ⟨h.1, h.2.1⟩
theorem FrP.rf {ks cs : List Nat} {s : nm_S} : FrP ks cs s s := ⟨fun _ _ => rfl, fun _ _ => rfl⟩
theorem FrP.tr {ks cs : List Nat} {s t u : nm_S} (h : FrP ks cs s t) (h' : FrP ks cs t u) : FrP ks cs s u := ⟨fun k hk => (h'.1 k hk).trans (h.1 k hk), fun c hc => (h'.2 c hc).trans (h.2 c hc)⟩
theorem FrP.mono {ks cs ks' cs' : List Nat} {s t : nm_S} (h : FrP ks cs s t) (hk : ∀ k ∈ ks, k ∈ ks') (hc : ∀ c ∈ cs, c ∈ cs') : FrP ks' cs' s t := ⟨fun k z => h.1 k (fun y => z (hk k y)), fun c z => h.2 c (fun y => z (hc c y))⟩
theorem Reads.frP {ks cs ks' cs' : List Nat} {P : nm_S → Prop} (hR : Reads ks cs P) {s t : nm_S} (h : FrP ks' cs' s t) (hk : ∀ k ∈ ks, k ∉ ks') (hc : ∀ c ∈ cs, c ∉ cs') (hP : P s) : P t := hR s t (fun k z => h.1 k (hk k z)) (fun c z => h.2 c (hc c z)) hP
def Kn (s : nm_S) (T C : Nat) : Prop := (gi s 1105 = 0 ∨ gi s 1105 = 1) ∧ (gi s 1105 = 1 → ∃ A, Pf (dat s) C A T ∧ (∀ B, Pf (dat s) C B T → price (dat s) T A ≤ price (dat s) T B) ∧ gb s = nL (price (dat s) T A))
/-- the class works it out, if need be -/
def wkE (s t : nm_S) (p : Nat) : Prop := gb t = nL p ∧ gi t 1105 = 1 ∧ FrP [1105] [] s t
theorem wkE_is (s : nm_S) (p : Nat) (f : Nat → Int64) : wkE s (si (sb (sp s f) (nL p)) 1105 1) p := by
  refine ⟨rfl, ?_, ⟨fun k hk => ?_, fun c _ => rfl⟩⟩
  · rw [gi_si, if_pos rfl]
  · rw [gi_si, if_neg (fun e => hk (by rw [e]; decide))]
    rfl
theorem wk1 {d : Nat} {s : nm_S} {T C : Nat} {A : Nat → Nat} (hS : SX s (dat s) T C) (h1 : gi s 1105 = 0) (a1 : Pf (dat s) C A T) (a2 : ∀ B, Pf (dat s) C B T → price (dat s) T A ≤ price (dat s) T B) : nm_call (d + 7) 33 [.ref 11] (rep s) (fun v w => ∃ t, v = [] ∧ w = rep t ∧ wkE s t (price (dat s) T A)) := c_workOut hS h1 a1 a2 (fun f => ⟨_, rfl, rfl, wkE_is s _ f⟩)
theorem wk {s : nm_S} {T C : Nat} (hS : SX s (dat s) T C) (hK : Kn s T C) : ∃ t A, (∀ (d : Nat) (Q : nm_K), nm_call (d + 7) 33 [.ref 11] (rep s) Q ↔ Q [] (rep t)) ∧ Pf (dat s) C A T ∧ (∀ B, Pf (dat s) C B T → price (dat s) T A ≤ price (dat s) T B) ∧ gb t = nL (price (dat s) T A) ∧ gi t 1105 = 1 ∧ FrP [1105] [] s t := by
  obtain ⟨h1, h2⟩ := hK
  rcases h1 with h1 | h1
  · obtain ⟨A, a1, a2⟩ := least_is (dat s) T C hS.1.2
    obtain ⟨t, b1, b2'⟩ := call_of (wk1 (d := 0) hS h1 a1 a2)
    exact ⟨t, A, fun d Q => iff_of (fun Q hQ => nm_call_up (by omega) ((b2' Q).mpr hQ)) Q, a1, a2, b1.1, b1.2.1, b1.2.2⟩
  · obtain ⟨A, a1, a2, a3⟩ := h2 h1
    exact ⟨s, A, fun d Q => c_workOut_k h1, a1, a2, a3, h1, FrP.rf⟩
theorem dat_eq {s t : nm_S} (hk : gi t 4007 = gi s 4007) (hc : ∀ c ∈ [41, 42, 43, 44, 45, 46, 47], ga t c = ga s c) : dat t = dat s := by
  unfold dat
  rw [hk, hc 41 (by decide), hc 42 (by decide), hc 43 (by decide), hc 44 (by decide), hc 45 (by decide), hc 46 (by decide), hc 47 (by decide)]
/-- the reference finds it, if need be -/
theorem fb {s : nm_S} {T C : Nat} (hS : SF s (dat s) T C) (hz : gi s 4010 = 0 ∨ (gi s 4010 = 1 ∧ ∃ A, Pf (dat s) C A T ∧ (∀ B, Pf (dat s) C B T → price (dat s) T A ≤ price (dat s) T B) ∧ (∀ k, k < T → ga s 49 k = dg (A k)) ∧ gi s 4022 = nI (dcost (dat s) A T))) : ∃ t B, (∀ (d : Nat) (Q : nm_K), nm_call (d + 12) 107 [.ref 40] (rep s) Q ↔ Q [] (rep t)) ∧ Pf (dat s) C B T ∧ (∀ E, Pf (dat s) C E T → price (dat s) T B ≤ price (dat s) T E) ∧ (∀ k, k < T → ga t 49 k = dg (B k)) ∧ gi t 4022 = nI (dcost (dat s) B T) ∧ Fr [4022] [48, 49, 50, 51] s t := by
  rcases hz with hz | ⟨hz, A, a1, a2, a3, a4⟩
  · have key : nm_call 12 107 [.ref 40] (rep s) (fun v w => ∃ t, v = [] ∧ w = rep t ∧ ∃ B, Fr [4022] [48, 49, 50, 51] s t ∧ Pf (dat s) C B T ∧ (∀ E, Pf (dat s) C E T → price (dat s) T B ≤ price (dat s) T E) ∧ (∀ k, k < T → ga t 49 k = dg (B k)) ∧ gi t 4022 = nI (dcost (dat s) B T)) := c_findBest (d := 0) hS hz (fun t B b1 b2 b3 b4 b5 => ⟨t, rfl, rfl, B, b1, b2, b3, b4, b5⟩)
    obtain ⟨t, ⟨B, b1, b2', b3, b4, b5⟩, b6⟩ := call_of key
    exact ⟨t, B, fun d Q => iff_of (fun Q hQ => nm_call_up (by omega) ((b6 Q).mpr hQ)) Q, b2', b3, b4, b5, b1⟩
  · have h10 : ¬ (1 : Int32) = 0 := by decide
    refine ⟨s, A, fun d Q => ?_, a1, a2, a3, a4, Fr.rf⟩
    rw [show d + 12 = d + 11 + 1 from rfl, e_X9_findBest]
    simp only [r_X9_findBest_0, r_X9_findBest_1, r_X9_findBest_4, r_X9_findBest_7, ob_40, gt_40_0, pt_40_0, gt_40_1, pt_40_1, gt_40_2, pt_40_2, gt_40_3, pt_40_3, gt_40_4, pt_40_4, gt_40_5, pt_40_5, gt_40_6, pt_40_6, gt_40_7, pt_40_7, gt_40_8, pt_40_8, gt_40_9, pt_40_9, gt_40_10, pt_40_10, gt_40_11, gt_40_12, gt_40_13, gt_40_14, gt_40_15, gt_40_16, gt_40_17, gt_40_18, gt_40_19, gt_40_20, gt_40_21, gt_40_22, pt_40_22, gt_40_23, gt_40_24, gt_40_25, gt_40_26, gt_40_27, gt_40_28, gt_40_29, gt_40_30, gt_40_31, gt_40_32, gt_40_33, gt_40_34, pt_40_34, gt_40_35, pt_40_35, gt_40_36, gt_40_37, gt_40_38, gt_40_39, gt_40_40, gt_40_41, pt_40_41, gt_40_42, pt_40_42, gt_40_43, pt_40_43, gt_40_44, pt_40_44, gt_40_45, pt_40_45, gt_40_46, pt_40_46, gt_40_47, List.cons_append, List.nil_append, List.append_nil, if_true, if_false, true_and, and_true, true_or, or_true, nm_b_some, hz, h10]
theorem min_eq' {D : ShD} {T C : Nat} {A B : Nat → Nat} (a1 : Pf D C A T) (a2 : ∀ E, Pf D C E T → price D T A ≤ price D T E) (b1 : Pf D C B T) (b2 : ∀ E, Pf D C E T → price D T B ≤ price D T E) : price D T A = price D T B := Nat.le_antisymm (a2 B b1) (b2 A a1)
theorem c_convoyOf' {d : Nat} {s : nm_S} {Q : nm_K} {x : Int32} : nm_call (d + 2) 30 [.ref 11, .int x] (rep s) Q ↔ Q [.int (cofE (gb s) x)] (rep s) := c_convoyOf
/-- what all three do -/
theorem both {s : nm_S} (hB : IvB s) (hG : IvG s) (hC : IvC s) (hI : IvSh s) : ∃ t1 t2 T C B, (∀ (d : Nat) (Q : nm_K), nm_call (d + 7) 33 [.ref 11] (rep s) Q ↔ Q [] (rep t1)) ∧ (∀ (d : Nat) (Q : nm_K), nm_call (d + 12) 107 [.ref 40] (rep t1) Q ↔ Q [] (rep t2)) ∧ FrP [1105] [] s t1 ∧ Fr [4022] [48, 49, 50, 51] t1 t2 ∧ gb t1 = nL (price (dat s) T B) ∧ gi t1 1105 = 1 ∧ (T ≤ 10 ∧ C ≤ 4) ∧ (gi s 4001 = nI T ∧ gi s 4002 = nI C ∧ gi s 104 = nI T) ∧ Pf (dat s) C B T ∧ (∀ E, Pf (dat s) C E T → price (dat s) T B ≤ price (dat s) T E) ∧ (∀ k, k < T → ga t2 49 k = dg (B k)) ∧ gi t2 4022 = nI (dcost (dat s) B T) ∧ (∀ t, t < T → (dat s).2.2.1 t ≤ 1000) := by
  obtain ⟨i1, i2, i3, T, C, ⟨i4, i5⟩, ⟨i6, i7⟩, i8⟩ := hI
  obtain ⟨T', C', hF, hX⟩ := dat_is hB hG hC i1
  have eT : T' = T := by have := hF.2.1.1; rw [i6] at this; exact ((nI_eq' (by omega) (by have := hF.1.1; omega)).mp this).symm
  have eC : C' = C := by have := hF.2.1.2; rw [i7] at this; exact ((nI_eq' (by omega) (by have := hF.1.2; omega)).mp this).symm
  subst eT eC
  have hzs : gi s 11 = gi s 4010 := hB.1.2.2.1
  have hz01 : gi s 11 = 0 ∨ gi s 11 = 1 := hB.2.2.1
  obtain ⟨t1, A, w1, w2, w3, w4, w5, w6⟩ := wk hX ⟨i2, fun h => by obtain ⟨A, a1, a2, a3, -⟩ := i8 h; exact ⟨A, a1, a2, a3⟩⟩
  have hd : dat t1 = dat s := dat_eq (w6.1 4007 (by decide)) (fun c _ => w6.2 c (by simp))
  have hF1 : SF t1 (dat t1) T' C' := by
    rw [hd]
    unfold SF at hF ⊢
    rw [w6.1 4001 (by decide), w6.1 4002 (by decide), w6.1 4007 (by decide), w6.2 41 (by decide), w6.2 42 (by decide), w6.2 43 (by decide), w6.2 44 (by decide), w6.2 45 (by decide), w6.2 46 (by decide), w6.2 47 (by decide)]
    exact hF
  obtain ⟨t2, B, f1, f2, f3, f4, f5, f6⟩ := fb hF1 (by
    rw [w6.1 4010 (by decide), ← hzs, hd, w6.1 4022 (by decide), w6.2 49 (by decide)]
    rcases hz01 with z | z
    · exact Or.inl z
    · obtain ⟨A, a1, a2, a3, a4⟩ := i8 (i3 z)
      exact Or.inr ⟨z, A, a1, a2, (a4 z).1, (a4 z).2⟩)
  rw [hd] at f2 f3 f5
  refine ⟨t1, t2, T', C', B, w1, f1, w6, f6, ?_, w5, ⟨i4, i5⟩, ⟨i6, i7, hX.2.1.1⟩, f2, f3, f4, f5, fun t ht => (hX.2.2.2.1 t ht).2⟩
  rw [w4, min_eq' w2 w3 f2 f3]
theorem IvSh_end {s t1 t2 : nm_S} {T C : Nat} {B : Nat → Nat} (hI : IvSh s) (w6 : FrP [1105] [] s t1) (f6 : Fr [4022] [48, 49, 50, 51] t1 t2) (hb : gb t1 = nL (price (dat s) T B)) (hk : gi t1 1105 = 1) (hTC : T ≤ 10 ∧ C ≤ 4) (hn : gi s 4001 = nI T ∧ gi s 4002 = nI C) (b1 : Pf (dat s) C B T) (b2 : ∀ E, Pf (dat s) C E T → price (dat s) T B ≤ price (dat s) T E) (b3 : ∀ k, k < T → ga t2 49 k = dg (B k)) (b4 : gi t2 4022 = nI (dcost (dat s) B T)) : IvSh t2 := by
  have hfr : FrP [1105, 4022] [48, 49, 50, 51] s t2 := (w6.mono (by decide) (by simp)).tr (f6.P.mono (by decide) (by decide))
  have hd : dat t2 = dat s := dat_eq (hfr.1 4007 (by decide)) (fun c hc => hfr.2 c (by simp at hc; rcases hc with rfl | rfl | rfl | rfl | rfl | rfl | rfl <;> decide))
  have hk2 : gi t2 1105 = 1 := by rw [f6.1 1105 (by decide)]; exact hk
  refine ⟨by rw [hfr.2 12 (by decide)]; exact hI.1, Or.inr hk2, fun _ => hk2, T, C, hTC, ⟨by rw [hfr.1 4001 (by decide)]; exact hn.1, by rw [hfr.1 4002 (by decide)]; exact hn.2⟩, fun _ => ⟨B, ?_⟩⟩
  rw [hd]
  exact ⟨b1, b2, by rw [f6.2.2.1]; exact hb, fun _ => ⟨b3, b4⟩⟩
theorem st_least {s : nm_S} (hB : IvB s) (hG : IvG s) (hC : IvC s) (hI : IvSh s) : ∃ v s1 s2, Runs 72 [.ref 0] s v s1 ∧ Runs 108 [.ref 40] s1 v s2 ∧ FrP [1105, 4022] [48, 49, 50, 51] s s2 ∧ IvSh s2 := by
  obtain ⟨t1, t2, T, C, B, w1, f1, w6, f6, hb, hk, hTC, ⟨n1, n2, n3⟩, b1, b2', b3, b4, hkk⟩ := both hB hG hC hI
  have hp := (price_lt hTC.1 hTC.2 hkk b1).2
  have hdc : (gb t1 >>> ((30 : Int32).toInt64 &&& 63)).toInt32 = nI (dcost (dat s) B T) := by rw [hb, dcost_of (by omega), price_cost hTC.1 hTC.2 hkk b1]
  refine ⟨nI (dcost (dat s) B T), t1, t2, ?_, ?_, (w6.mono (by decide) (by simp)).tr (f6.P.mono (by decide) (by decide)), IvSh_end hI w6 f6 hb hk hTC ⟨n1, n2⟩ b1 b2' b3 b4⟩
  · intro Q hQ
    simp only [e_X8_least, r_X8_least_0, r_X8_least_1, r_X8_least_4, r_X8_least_7, r_X8_least_8, r_X8_least_11, r_X8_least_14, e_X4_doubledCost, r_X4_doubledCost_0, r_X4_doubledCost_1, r_X4_doubledCost_4, r_X4_doubledCost_6, r_X4_doubledCost_7, r_X4_doubledCost_8, ob_0, gt_0_0, gt_0_1, gt_0_2, gt_0_3, gt_0_4, gt_0_5, gt_0_6, gt_0_7, gt_0_8, gt_0_9, pt_0_9, gt_0_10, pt_0_10, gt_0_11, pt_0_11, ob_11, gt_11_0, gt_11_1, gt_11_2, gt_11_3, gt_11_4, pt_11_4, gt_11_5, pt_11_5, List.cons_append, List.nil_append, List.append_nil, if_true, if_false, true_and, and_true, true_or, or_true, nm_b_some, w1 52, hdc]
    exact hQ
  · intro Q hQ
    simp only [e_X9_least, r_X9_least_0, r_X9_least_1, r_X9_least_4, r_X9_least_5, r_X9_least_8, ob_40, gt_40_0, pt_40_0, gt_40_1, pt_40_1, gt_40_2, pt_40_2, gt_40_3, pt_40_3, gt_40_4, pt_40_4, gt_40_5, pt_40_5, gt_40_6, pt_40_6, gt_40_7, pt_40_7, gt_40_8, pt_40_8, gt_40_9, pt_40_9, gt_40_10, pt_40_10, gt_40_11, gt_40_12, gt_40_13, gt_40_14, gt_40_15, gt_40_16, gt_40_17, gt_40_18, gt_40_19, gt_40_20, gt_40_21, gt_40_22, pt_40_22, gt_40_23, gt_40_24, gt_40_25, gt_40_26, gt_40_27, gt_40_28, gt_40_29, gt_40_30, gt_40_31, gt_40_32, gt_40_33, gt_40_34, pt_40_34, gt_40_35, pt_40_35, gt_40_36, gt_40_37, gt_40_38, gt_40_39, gt_40_40, gt_40_41, pt_40_41, gt_40_42, pt_40_42, gt_40_43, pt_40_43, gt_40_44, pt_40_44, gt_40_45, pt_40_45, gt_40_46, pt_40_46, gt_40_47, List.cons_append, List.nil_append, List.append_nil, if_true, if_false, true_and, and_true, true_or, or_true, nm_b_some, f1 47, b4]
    exact hQ
theorem st_share {s : nm_S} (x : Int32) (hB : IvB s) (hG : IvG s) (hC : IvC s) (hI : IvSh s) : ∃ v s1 s2, Runs 73 [.ref 0, .int x] s v s1 ∧ Runs 109 [.ref 40, .int x] s1 v s2 ∧ FrP [1105, 4022] [48, 49, 50, 51] s s2 ∧ IvSh s2 := by
  obtain ⟨t1, t2, T, C, B, w1, f1, w6, f6, hb, hk, hTC, ⟨n1, n2, n3⟩, b1, b2', b3, b4, hkk⟩ := both hB hG hC hI
  have h10 : ¬ (1 : Int32) = 0 := by decide
  by_cases hx : 0 ≤ x ∧ x ≤ nI T - 1
  · obtain ⟨i, hi, rfl⟩ := idx_of (by omega) hx
    have hp := (price_lt hTC.1 hTC.2 hkk b1).2
    have hcf : cofE (gb t1) (nI i) = dg (B i) := by
      rw [hb, cofE_of (by omega) (by omega), price_dig hTC.1 hTC.2 b1 hi]
      rfl
    have u3 : vp_in (nI i) 10 := vp_in' (by omega) (by omega)
    have u4 : (nI i).toNatClampNeg = i := i_nIc (by omega)
    refine ⟨dg (B i), t1, t2, ?_, ?_, (w6.mono (by decide) (by simp)).tr (f6.P.mono (by decide) (by decide)), IvSh_end hI w6 f6 hb hk hTC ⟨n1, n2⟩ b1 b2' b3 b4⟩
    · intro Q hQ
      simp only [e_X8_share, r_X8_share_0, r_X8_share_1, r_X8_share_2, r_X8_share_5, r_X8_share_8, r_X8_share_10, r_X8_share_11, r_X8_share_12, r_X8_share_15, r_X8_share_18, r_X8_share_19, r_X8_share_22, r_X8_share_23, r_X8_share_26, ob_0, gt_0_0, gt_0_1, gt_0_2, gt_0_3, gt_0_4, gt_0_5, gt_0_6, gt_0_7, gt_0_8, gt_0_9, pt_0_9, gt_0_10, pt_0_10, gt_0_11, pt_0_11, ob_11, List.cons_append, List.nil_append, List.append_nil, if_true, if_false, true_and, and_true, true_or, or_true, nm_b_some, c_isThing, b_0, n3, hx, and_self, not_true_eq_false, w1 52, c_convoyOf', hcf]
      exact hQ
    · intro Q hQ
      have n1' : gi t1 4001 = nI T := by rw [w6.1 4001 (by decide)]; exact n1
      simp only [e_X9_share, r_X9_share_0, r_X9_share_1, r_X9_share_2, r_X9_share_3, r_X9_share_6, r_X9_share_7, r_X9_share_8, r_X9_share_11, r_X9_share_14, r_X9_share_16, r_X9_share_17, r_X9_share_18, r_X9_share_21, r_X9_share_22, r_X9_share_25, r_X9_share_26, r_X9_share_27, ob_40, gt_40_0, pt_40_0, gt_40_1, pt_40_1, gt_40_2, pt_40_2, gt_40_3, pt_40_3, gt_40_4, pt_40_4, gt_40_5, pt_40_5, gt_40_6, pt_40_6, gt_40_7, pt_40_7, gt_40_8, pt_40_8, gt_40_9, pt_40_9, gt_40_10, pt_40_10, gt_40_11, gt_40_12, gt_40_13, gt_40_14, gt_40_15, gt_40_16, gt_40_17, gt_40_18, gt_40_19, gt_40_20, gt_40_21, gt_40_22, pt_40_22, gt_40_23, gt_40_24, gt_40_25, gt_40_26, gt_40_27, gt_40_28, gt_40_29, gt_40_30, gt_40_31, gt_40_32, gt_40_33, gt_40_34, pt_40_34, gt_40_35, pt_40_35, gt_40_36, gt_40_37, gt_40_38, gt_40_39, gt_40_40, gt_40_41, pt_40_41, gt_40_42, pt_40_42, gt_40_43, pt_40_43, gt_40_44, pt_40_44, gt_40_45, pt_40_45, gt_40_46, pt_40_46, gt_40_47, ad_49, as_49, List.cons_append, List.nil_append, List.append_nil, if_true, if_false, true_and, and_true, true_or, or_true, nm_b_some, c_in, b_0, n1', hx, and_self, not_true_eq_false, f1 47, u3, u4, b3 i hi]
      exact hQ
  · refine ⟨-2, s, s, ?_, ?_, FrP.rf, hI⟩
    · intro Q hQ
      simp only [e_X8_share, r_X8_share_0, r_X8_share_1, r_X8_share_2, r_X8_share_5, r_X8_share_8, r_X8_share_10, ob_0, gt_0_0, gt_0_1, gt_0_2, gt_0_3, gt_0_4, gt_0_5, gt_0_6, gt_0_7, gt_0_8, gt_0_9, pt_0_9, gt_0_10, pt_0_10, gt_0_11, pt_0_11, List.cons_append, List.nil_append, List.append_nil, if_true, if_false, true_and, and_true, true_or, or_true, nm_b_some, c_isThing, b_0, n3, hx, not_false_eq_true]
      exact hQ
    · intro Q hQ
      simp only [e_X9_share, r_X9_share_0, r_X9_share_1, r_X9_share_2, r_X9_share_3, r_X9_share_6, r_X9_share_7, r_X9_share_8, r_X9_share_11, r_X9_share_14, r_X9_share_16, ob_40, gt_40_0, pt_40_0, gt_40_1, pt_40_1, gt_40_2, pt_40_2, gt_40_3, pt_40_3, gt_40_4, pt_40_4, gt_40_5, pt_40_5, gt_40_6, pt_40_6, gt_40_7, pt_40_7, gt_40_8, pt_40_8, gt_40_9, pt_40_9, gt_40_10, pt_40_10, gt_40_11, gt_40_12, gt_40_13, gt_40_14, gt_40_15, gt_40_16, gt_40_17, gt_40_18, gt_40_19, gt_40_20, gt_40_21, gt_40_22, pt_40_22, gt_40_23, gt_40_24, gt_40_25, gt_40_26, gt_40_27, gt_40_28, gt_40_29, gt_40_30, gt_40_31, gt_40_32, gt_40_33, gt_40_34, pt_40_34, gt_40_35, pt_40_35, gt_40_36, gt_40_37, gt_40_38, gt_40_39, gt_40_40, gt_40_41, pt_40_41, gt_40_42, pt_40_42, gt_40_43, pt_40_43, gt_40_44, pt_40_44, gt_40_45, pt_40_45, gt_40_46, pt_40_46, gt_40_47, List.cons_append, List.nil_append, List.append_nil, if_true, if_false, true_and, and_true, true_or, or_true, nm_b_some, c_in, b_0, n1, hx, not_false_eq_true]
      exact hQ
