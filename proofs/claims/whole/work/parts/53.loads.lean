/-! SHARING, the class's side: loads of one convoy. -/
def SX (s : nm_S) (D : ShD) (T C : Nat) : Prop := (T ≤ 10 ∧ C ≤ 4) ∧ (gi s 104 = nI T ∧ gi s 604 = nI C) ∧ (∀ S, S < 2 ^ T → ga s 4 S = nI (sumS D.2.1 T S) ∧ ga s 5 S = nI (sumS D.2.2.1 T S)) ∧ (∀ t, t < T → D.2.1 t ≤ 40 ∧ D.2.2.1 t ≤ 1000) ∧ (∀ c, c < C → (ga s 8 c = nI (D.2.2.2.1 c) ∧ D.2.2.2.1 c ≤ 10) ∧ (ga s 9 c = nI (D.2.2.2.2 c) ∧ D.2.2.2.2 c ≤ 200)) ∧ (∀ S, S < 1024 → ga s 12 S = nI (cdS S)) ∧ ∀ c t, c < C → t < T → (D.1 c t ↔ ¬ ga s 7 c < ga s 2 t ∧ ¬ ga s 3 t < ga s 7 c + gi s 605)
theorem SX_sp {s : nm_S} {D : ShD} {T C : Nat} (h : SX s D T C) (f : Nat → Int64) : SX (sp s f) D T C := h
theorem mask_self {n S : Nat} (h : S < 2 ^ n) : mask (fun i => S.testBit i) n = S := by
  apply Nat.eq_of_testBit_eq
  intro i
  rw [mask_bit]
  by_cases hi : i < n
  · simp [hi]
  · rw [hb h (by omega)]; simp
theorem pow_1024 {T : Nat} (h : T ≤ 10) : 2 ^ T ≤ 1024 := Nat.le_trans (Nat.pow_le_pow_right (by decide) h) (by decide)
theorem c_fits {d : Nat} {s : nm_S} {Q : nm_K} {D : ShD} {T C c S : Nat} (hS : SX s D T C) (hc : c < C) (hl : S < 2 ^ T) : nm_call (d + 2) 37 [.ref 11, .int (nI c), .int (nI S)] (rep s) Q ↔ Q [.int (if cnt (fun i => S.testBit i) T ≤ D.2.2.2.1 c ∧ sumS D.2.1 T S ≤ D.2.2.2.2 c then 1 else 0)] (rep s) := by
  obtain ⟨⟨s1, s2⟩, ⟨s3, s4⟩, s5, s6, s7, s8, s9⟩ := hS
  have hp := pow_1024 s1
  have k2 : vp_in (nI c) 4 := vp_in' (by omega) (by omega)
  have k3 : (nI c).toNatClampNeg = c := i_nIc (by omega)
  have g2 : vp_in (nI S) 1024 := vp_in' (by omega) (by omega)
  have g3 : (nI S).toNatClampNeg = S := i_nIc (by omega)
  have hc1 := cnt_le (fun i => S.testBit i) T
  have hc2 : sumS D.2.1 T S ≤ 400 := by
    have := sumS_le (f := D.2.1) (c := 40) (S := S) (n := T) (fun i hi => (s6 i hi).1)
    omega
  have hc3 := (s7 c hc).1.2
  have hc4 := (s7 c hc).2.2
  have q1 : nI (D.2.2.2.1 c) < nI (cnt (fun i => S.testBit i) T) ↔ D.2.2.2.1 c < cnt (fun i => S.testBit i) T := nI_lt' (by omega) (by omega)
  have q2 : nI (D.2.2.2.2 c) < nI (sumS D.2.1 T S) ↔ D.2.2.2.2 c < sumS D.2.1 T S := nI_lt' (by omega) (by omega)
  have hbc : ∀ (w : nm_W) (K : nm_K), nm_call (d + 1) 149 [.int (nI S)] w K ↔ K [.int (nI (cnt (fun i => S.testBit i) T))] w := by
    intro w K
    have := c_countMask (d := d) (w := w) (Q := K) (p := fun i => S.testBit i) s1
    rw [mask_self hl] at this
    exact this
  simp only [e_X4_fits, r_X4_fits_0, r_X4_fits_1, r_X4_fits_4, r_X4_fits_5, r_X4_fits_8, r_X4_fits_11, r_X4_fits_12, r_X4_fits_13, r_X4_fits_16, r_X4_fits_17, r_X4_fits_20, r_X4_fits_23, r_X4_fits_24, r_X4_fits_25, r_X4_fits_26, r_X4_fits_29, r_X4_fits_32, r_X4_fits_33, r_X4_fits_34, r_X4_fits_37, r_X4_fits_38, r_X4_fits_41, r_X4_fits_42, ob_11, gt_11_0, gt_11_1, gt_11_2, gt_11_3, gt_11_4, pt_11_4, gt_11_5, pt_11_5, ob_6, gt_6_0, gt_6_1, gt_6_2, gt_6_3, gt_6_4, pt_6_4, gt_6_5, pt_6_5, gt_6_6, pt_6_6, ad_8, as_8, ad_9, as_9, ob_1, gt_1_0, gt_1_1, gt_1_2, gt_1_3, gt_1_4, pt_1_4, ad_4, as_4, List.cons_append, List.nil_append, List.append_nil, if_true, if_false, true_and, and_true, true_or, or_true, nm_b_some, hbc, k2, k3, g2, g3, (s7 c hc).1.1, (s7 c hc).2.1, (s5 S hl).1, q1, q2]
  by_cases h1 : D.2.2.2.1 c < cnt (fun i => S.testBit i) T
  · have h3 : ¬ (cnt (fun i => S.testBit i) T ≤ D.2.2.2.1 c ∧ sumS D.2.1 T S ≤ D.2.2.2.2 c) := by omega
    simp only [h1, h3, if_true, if_false]
  · by_cases h2 : D.2.2.2.2 c < sumS D.2.1 T S
    · have h3 : ¬ (cnt (fun i => S.testBit i) T ≤ D.2.2.2.1 c ∧ sumS D.2.1 T S ≤ D.2.2.2.2 c) := by omega
      simp only [h1, h2, h3, if_true, if_false]
    · have h3 : cnt (fun i => S.testBit i) T ≤ D.2.2.2.1 c ∧ sumS D.2.1 T S ≤ D.2.2.2.2 c := by omega
      simp only [h1, h2, h3, and_self, if_true, if_false]
/-- one thing more -/
def more (D : ShD) (T c L ab : Nat) : Prop := ∃ t, t < T ∧ ab.testBit t = true ∧ L.testBit t = false ∧ fitsL D T c (L ||| 2 ^ t)
theorem or_lt {T L t : Nat} (hL : L < 2 ^ T) (ht : t < T) : L ||| 2 ^ t < 2 ^ T := Nat.or_lt_two_pow hL (Nat.pow_lt_pow_right (by decide) ht)
theorem or_bit (L t i : Nat) : (L ||| 2 ^ t).testBit i = (L.testBit i || decide (t = i)) := by rw [Nat.testBit_or, Nat.testBit_two_pow]
theorem cnt_or {L t : Nat} (hb : L.testBit t = false) : ∀ n, (n ≤ t → cnt (fun i => (L ||| 2 ^ t).testBit i) n = cnt (fun i => L.testBit i) n) ∧ (t < n → cnt (fun i => (L ||| 2 ^ t).testBit i) n = cnt (fun i => L.testBit i) n + 1)
  | 0 => ⟨fun _ => rfl, fun h => by omega⟩
  | n + 1 => by
    obtain ⟨h1, h2⟩ := cnt_or hb n
    rw [cnt_s, cnt_s, or_bit]
    by_cases e : t = n
    · subst e
      refine ⟨fun h => by omega, fun _ => ?_⟩
      rw [h1 (Nat.le_refl _), hb]
      simp
    · have e2 : decide (t = n) = false := by simp [e]
      rw [e2, Bool.or_false]
      exact ⟨fun h => by rw [h1 (by omega)], fun h => by rw [h2 (by omega)]; omega⟩
theorem sumS_or {f : Nat → Nat} {L t : Nat} (hb : L.testBit t = false) : ∀ n, (n ≤ t → sumS f n (L ||| 2 ^ t) = sumS f n L) ∧ (t < n → sumS f n (L ||| 2 ^ t) = sumS f n L + f t)
  | 0 => ⟨fun _ => rfl, fun h => by omega⟩
  | n + 1 => by
    obtain ⟨h1, h2⟩ := sumS_or (f := f) hb n
    rw [sumS_s, sumS_s, or_bit]
    by_cases e : t = n
    · subst e
      refine ⟨fun h => by omega, fun _ => ?_⟩
      rw [h1 (Nat.le_refl _), hb]
      simp
    · have e2 : decide (t = n) = false := by simp [e]
      rw [e2, Bool.or_false]
      exact ⟨fun h => by rw [h1 (by omega)], fun h => by rw [h2 (by omega)]; omega⟩
theorem left_bit (ab L t : Nat) (hab : ab < 65536) (hL : L < 65536) (ht : t < 16) : (nI ab &&& (nI L ^^^ (-1)) &&& (1 : Int32) <<< (nI t &&& 31) = 0) ↔ ¬ (ab.testBit t = true ∧ L.testBit t = false) := by
  rw [show (-1 : Int32) = nI 4294967295 by decide, fb_xorI, fa_and, mask_and_bit _ t ht, Nat.testBit_and, Nat.testBit_xor, show (4294967295 : Nat) = 2 ^ 32 - 1 by decide, Nat.testBit_two_pow_sub_one]
  have e : decide (t < 32) = true := by simp; omega
  rw [e]
  cases ab.testBit t <;> cases L.testBit t <;> simp
theorem c_more {d : Nat} {s : nm_S} {Q : nm_K} {D : ShD} {T C c L ab : Nat} (hS : SX s D T C) (hc : c < C) (hl : L < 2 ^ T) (hab : ab < 2 ^ T) (hsub : sub L ab) (hy : more D T c L ab → Q [.int 1] (rep s)) (hn : ¬ more D T c L ab → Q [.int 0] (rep s)) : nm_call (d + 3) 38 [.ref 11, .int (nI c), .int (nI L), .int (nI ab)] (rep s) Q := by
  have hS0 := hS
  obtain ⟨⟨s1, s2⟩, ⟨s3, s4⟩, s5, s6, s7, s8, s9⟩ := hS
  have hp := pow_1024 s1
  have h10 : ¬ (1 : Int32) = 0 := by decide
  have k2 : vp_in (nI c) 4 := vp_in' (by omega) (by omega)
  have k3 : (nI c).toNatClampNeg = c := i_nIc (by omega)
  have hc1 := cnt_le (fun i => L.testBit i) T
  have hc3 := (s7 c hc).1.2
  have q0 : nI L = nI ab ↔ L = ab := nI_eq' (by omega) (by omega)
  have q1 : nI (cnt (fun i => L.testBit i) T) < nI (D.2.2.2.1 c) ↔ cnt (fun i => L.testBit i) T < D.2.2.2.1 c := nI_lt' (by omega) (by omega)
  have hbc : ∀ (w : nm_W) (K : nm_K), nm_call (d + 2) 149 [.int (nI L)] w K ↔ K [.int (nI (cnt (fun i => L.testBit i) T))] w := by
    intro w K
    have := c_countMask (d := d + 1) (w := w) (Q := K) (p := fun i => L.testBit i) s1
    rw [mask_self hl] at this
    exact this
  rw [e_X4_fitsOneMore]
  simp only [r_X4_fitsOneMore_0, r_X4_fitsOneMore_1, r_X4_fitsOneMore_2, r_X4_fitsOneMore_5, r_X4_fitsOneMore_6, r_X4_fitsOneMore_9, r_X4_fitsOneMore_10, r_X4_fitsOneMore_13, r_X4_fitsOneMore_16, r_X4_fitsOneMore_17, r_X4_fitsOneMore_18, r_X4_fitsOneMore_21, r_X4_fitsOneMore_22, r_X4_fitsOneMore_23, r_X4_fitsOneMore_24, ob_11, gt_11_0, gt_11_1, gt_11_2, gt_11_3, gt_11_4, pt_11_4, gt_11_5, pt_11_5, ob_6, gt_6_0, gt_6_1, gt_6_2, gt_6_3, gt_6_4, pt_6_4, gt_6_5, pt_6_5, gt_6_6, pt_6_6, ad_8, as_8, List.cons_append, List.nil_append, List.append_nil, if_true, if_false, true_and, and_true, true_or, or_true, nm_b_some, hbc, k2, k3, (s7 c hc).1.1, q0, q1]
  by_cases e0 : L = ab
  · simp only [eq_true e0, if_true]
    refine hn ?_
    rintro ⟨t, -, h2, h3, -⟩
    rw [e0, h2] at h3
    cases h3
  · simp only [eq_false e0, if_false]
    by_cases e1 : cnt (fun i => L.testBit i) T < D.2.2.2.1 c
    · simp only [e1, if_true]
      have loop : ∀ (m t : Nat) (z : Value), t + m = T → (∀ j, j < t → ¬ (ab.testBit j = true ∧ L.testBit j = false ∧ fitsL D T c (L ||| 2 ^ j))) → x_X4_fitsOneMore (d + 2) Q 26 [.ref 11, .int (nI c), .int (nI L), .int (nI ab), .int (nI t), z] [] (rep s) 0 0 := by
        intro m
        induction m with
        | zero =>
          intro t z ht hno
          have : t = T := by omega
          subst this
          have g1 : ¬ nI t < nI t := by rw [nI_lt' (by omega) (by omega)]; omega
          rw [r_X4_fitsOneMore_26]
          simp only [r_X4_fitsOneMore_28, r_X4_fitsOneMore_29, r_X4_fitsOneMore_32, r_X4_fitsOneMore_35, r_X4_fitsOneMore_75, r_X4_fitsOneMore_76, ob_11, gt_11_0, gt_11_1, gt_11_2, gt_11_3, gt_11_4, pt_11_4, gt_11_5, pt_11_5, ob_1, gt_1_0, gt_1_1, gt_1_2, gt_1_3, gt_1_4, pt_1_4, List.cons_append, List.nil_append, List.append_nil, if_true, if_false, true_and, and_true, true_or, or_true, nm_b_some, s3, g1, z0]
          refine hn ?_
          rintro ⟨j, j1, j2, j3, j4⟩
          exact hno j j1 ⟨j2, j3, j4⟩
        | succ m ih =>
          intro t z ht hno
          have htT : t < T := by omega
          have g1 : nI t < nI T := (nI_lt' (by omega) (by omega)).mpr htT
          have hb1 := left_bit ab L t (by omega) (by omega) (by omega)
          have hor : nI L ||| (1 : Int32) <<< (nI t &&& 31) = nI (L ||| 2 ^ t) := by rw [shl1 t (by omega), fa_or]
          rw [r_X4_fitsOneMore_26]
          simp only [r_X4_fitsOneMore_28, r_X4_fitsOneMore_29, r_X4_fitsOneMore_32, r_X4_fitsOneMore_35, r_X4_fitsOneMore_38, r_X4_fitsOneMore_39, r_X4_fitsOneMore_41, r_X4_fitsOneMore_42, r_X4_fitsOneMore_44, r_X4_fitsOneMore_45, r_X4_fitsOneMore_46, r_X4_fitsOneMore_47, r_X4_fitsOneMore_48, r_X4_fitsOneMore_49, r_X4_fitsOneMore_51, r_X4_fitsOneMore_52, r_X4_fitsOneMore_55, r_X4_fitsOneMore_56, r_X4_fitsOneMore_57, r_X4_fitsOneMore_58, r_X4_fitsOneMore_60, r_X4_fitsOneMore_61, r_X4_fitsOneMore_64, r_X4_fitsOneMore_67, r_X4_fitsOneMore_68, r_X4_fitsOneMore_69, r_X4_fitsOneMore_72, ob_11, gt_11_0, gt_11_1, gt_11_2, gt_11_3, gt_11_4, pt_11_4, gt_11_5, pt_11_5, ob_1, gt_1_0, gt_1_1, gt_1_2, gt_1_3, gt_1_4, pt_1_4, List.cons_append, List.nil_append, List.append_nil, if_true, if_false, true_and, and_true, true_or, or_true, nm_b_some, s3, g1, hb1, hor, c_fits hS0 hc (or_lt hl htT), b_0, nI_s, z1]
          by_cases c1 : ab.testBit t = true ∧ L.testBit t = false
          · by_cases c2 : cnt (fun i => (L ||| 2 ^ t).testBit i) T ≤ D.2.2.2.1 c ∧ sumS D.2.1 T (L ||| 2 ^ t) ≤ D.2.2.2.2 c
            · simp only [c1, c2, and_self, not_true_eq_false, if_false]
              exact hy ⟨t, htT, c1.1, c1.2, c2⟩
            · simp only [eq_true c1, eq_false c2, not_true_eq_false, not_false_eq_true, if_true, if_false]
              refine ih (t + 1) _ (by omega) (fun j hj => ?_)
              by_cases e : j = t
              · subst e; exact fun z => c2 z.2.2
              · exact hno j (by omega)
          · simp only [eq_false c1, not_false_eq_true, if_true]
            refine ih (t + 1) _ (by omega) (fun j hj => ?_)
            by_cases e : j = t
            · subst e; exact fun z => c1 ⟨z.1, z.2.1⟩
            · exact hno j (by omega)
      exact loop T 0 .null (by omega) (fun j hj => by omega)
    · simp only [e1, if_false]
      refine hn ?_
      rintro ⟨t, t1, t2, t3, t4⟩
      have := (cnt_or t3 T).2 t1
      have := t4.1
      omega
