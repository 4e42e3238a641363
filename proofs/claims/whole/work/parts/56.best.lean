/-! SHARING, both: least, share, settle. -/
theorem cw_tail {A : Nat → Nat} {n : Nat} : ∀ m, n + m ≤ 10 → (∀ t, n ≤ t → t < n + m → A t ≤ 4) → cw A (n + m) + 8 ^ (10 - (n + m)) ≤ cw A n + 8 ^ (10 - n)
  | 0, _, _ => Nat.le_refl _
  | m + 1, h, hA => by
    have ih := cw_tail m (by omega) (fun t h1 h2 => hA t h1 (by omega))
    have := hA (n + m) (by omega) (by omega)
    rw [show 10 - (n + m) = (9 - (n + m)) + 1 by omega, Nat.pow_succ] at ih
    rw [← Nat.add_assoc, cw_s, show 10 - (n + m + 1) = 9 - (n + m) by omega]
    unfold wt
    have h2 : A (n + m) * 8 ^ (9 - (n + m)) ≤ 4 * 8 ^ (9 - (n + m)) := Nat.mul_le_mul_right _ this
    generalize 8 ^ (9 - (n + m)) = z at *
    generalize 8 ^ (10 - n) = y at *
    omega
theorem two_pow_8 (k : Nat) : (2 : Nat) ^ (3 * k) = 8 ^ k := by rw [Nat.pow_mul]
theorem price_dig {D : ShD} {T C i : Nat} {A : Nat → Nat} (hT : T ≤ 10) (hC : C ≤ 4) (h : Pf D C A T) (hi : i < T) : price D T A / 2 ^ (3 * (9 - i)) % 8 = A i := by
  have h4 : ∀ t, t < T → A t ≤ 4 := fun t ht => by rcases h.1 t ht with z | z <;> omega
  have a := cw_tail (A := A) (n := i + 1) (T - (i + 1)) (by omega) (fun t h1 h2 => h4 t (by omega))
  rw [show i + 1 + (T - (i + 1)) = T by omega, show 10 - (i + 1) = 9 - i by omega] at a
  have b := cw_hcd A (i + 1) (by omega)
  rw [show 10 - (i + 1) = 9 - i by omega] at b
  have mono : cw A (i + 1) ≤ cw A T := by
    have : ∀ m, cw A (i + 1) ≤ cw A (i + 1 + m) := by
      intro m
      induction m with
      | zero => exact Nat.le_refl _
      | succ m ih => exact Nat.le_trans ih (Nat.le_add_right _ _)
    have := this (T - (i + 1))
    rw [show i + 1 + (T - (i + 1)) = T by omega] at this
    exact this
  have p30 : (1073741824 : Nat) = 8 ^ (i + 1) * 8 ^ (9 - i) := by
    rw [← Nat.pow_add, show i + 1 + (9 - i) = 10 by omega]
  have pos : 0 < 8 ^ (9 - i) := Nat.pow_pos (by decide)
  have pos2 : 0 < 8 ^ (10 - T) := Nat.pow_pos (by decide)
  have e : price D T A = (dcost D A T * 8 ^ (i + 1) + hcd A (i + 1)) * 8 ^ (9 - i) + (cw A T - cw A (i + 1)) := by
    unfold price
    rw [p30, Nat.add_mul, ← b, Nat.mul_assoc]
    omega
  rw [two_pow_8, e, Nat.add_comm, Nat.add_mul_div_right _ _ pos, Nat.div_eq_of_lt (by generalize 8 ^ (9 - i) = z at *; generalize 8 ^ (10 - T) = y at *; omega), Nat.zero_add, hcd_s, Nat.pow_succ]
  have := h4 i hi
  rw [← Nat.mul_assoc]
  generalize dcost D A T * 8 ^ i = z
  omega
theorem price_cost {D : ShD} {T C : Nat} {A : Nat → Nat} (hT : T ≤ 10) (hC : C ≤ 4) (hk : ∀ t, t < T → D.2.2.1 t ≤ 1000) (h : Pf D C A T) : price D T A / 1073741824 = dcost D A T := by
  have := (price_lt hT hC hk h).1
  unfold price
  omega
/-- the first least of the search has the least price -/
theorem first_least {D : ShD} {T C : Nat} {B : Nat → Nat} (hT : T ≤ 10) (hC : C ≤ 4) (hk : ∀ t, t < T → D.2.2.1 t ≤ 1000) (hB : Pf D C B T) (h : ∀ E, Pf D C E T → dcost D B T < dcost D E T ∨ (dcost D B T = dcost D E T ∧ hcd B T ≤ hcd E T)) : ∀ E, Pf D C E T → price D T B ≤ price D T E := by
  intro E hE
  have a := (price_lt hT hC hk hB).1
  have b := (price_lt hT hC hk hE).1
  unfold price
  rcases h E hE with z | ⟨z1, z2⟩
  · omega
  · have c : cw B T ≤ cw E T := by
      rw [cw_hcd B T hT, cw_hcd E T hT]
      exact Nat.mul_le_mul_right _ z2
    omega
/-- things and convoys as they stand -/
def dat (s : nm_S) : ShD := (fun c t => ¬ ga s 45 c < ga s 41 t ∧ ¬ ga s 42 t < ga s 45 c + gi s 4007, fun t => (ga s 43 t).toNatClampNeg, fun t => (ga s 44 t).toNatClampNeg, fun c => (ga s 46 c).toNatClampNeg, fun c => (ga s 47 c).toNatClampNeg)
def IvSh (s : nm_S) : Prop := (∀ S, S < 1024 → ga s 12 S = nI (cdS S)) ∧ (gi s 1105 = 0 ∨ gi s 1105 = 1) ∧ (gi s 11 = 1 → gi s 1105 = 1) ∧ ∃ T C, (T ≤ 10 ∧ C ≤ 4) ∧ (gi s 4001 = nI T ∧ gi s 4002 = nI C) ∧ (gi s 1105 = 1 → ∃ A, Pf (dat s) C A T ∧ (∀ B, Pf (dat s) C B T → price (dat s) T A ≤ price (dat s) T B) ∧ gb s = nL (price (dat s) T A) ∧ (gi s 11 = 1 → (∀ k, k < T → ga s 49 k = dg (A k)) ∧ gi s 4022 = nI (dcost (dat s) A T)))
theorem IvSh_eq {s t : nm_S} (hk : ∀ k ∈ [11, 1105, 4001, 4002, 4007, 4022], gi t k = gi s k) (hc : ∀ c ∈ [12, 41, 42, 43, 44, 45, 46, 47, 49], ga t c = ga s c) (hb : gb t = gb s) (h : IvSh s) : IvSh t := by
  have hd : dat t = dat s := by
    unfold dat
    rw [hk 4007 (by decide), hc 41 (by decide), hc 42 (by decide), hc 43 (by decide), hc 44 (by decide), hc 45 (by decide), hc 46 (by decide), hc 47 (by decide)]
  unfold IvSh at h ⊢
  rw [hd, hb, hk 11 (by decide), hk 1105 (by decide), hk 4001 (by decide), hk 4002 (by decide), hk 4022 (by decide), hc 12 (by decide), hc 49 (by decide)]
  exact h
theorem IvSh_fr {ks cs : List Nat} {s t : nm_S} (h : IvSh s) (hf : Fr ks cs s t) (hk : ∀ k ∈ [11, 1105, 4001, 4002, 4007, 4022], k ∉ ks) (hc : ∀ c ∈ [12, 41, 42, 43, 44, 45, 46, 47, 49], c ∉ cs) : IvSh t := IvSh_eq (fun k z => hf.1 k (hk k z)) (fun c z => hf.2.1 c (hc c z)) hf.2.2.1 h
theorem dat_k {s : nm_S} {T : Nat} (hg : IvG s) (hT : T ≤ 10) (h : gi s 4001 = nI T) : ∀ t, t < T → (dat s).2.2.1 t ≤ 1000 := by
  obtain ⟨T', g1, g2, g3, g4, g5⟩ := hg
  have e : T' = T := by rw [g3] at h; exact (nI_eq' (by omega) (by omega)).mp h
  subst e
  intro t ht
  obtain ⟨c, c1, c2⟩ := (g4 t ht).2.2.2
  show (ga s 44 t).toNatClampNeg ≤ 1000
  rw [c2, i_nIc (by omega)]
  exact c1
theorem IvSh_D {s : nm_S} (h : IvSh s) (hg : IvG s) : IvD s := by
  intro hs
  obtain ⟨-, -, h1, T, C, ⟨h2, h3⟩, ⟨h4, h5⟩, h6⟩ := h
  obtain ⟨A, a1, a2, a3, a4⟩ := h6 (h1 hs)
  obtain ⟨b1, b2'⟩ := a4 hs
  refine ⟨T, C, h2, h3, h4, h5, fun i hi => ?_⟩
  have hp := (price_lt h2 h3 (dat_k hg h2 h4) a1).2
  rw [a3, cofE_of (by omega) (by omega), price_dig h2 h3 a1 hi, b1 i hi]
  refine ⟨rfl, ?_⟩
  unfold dg
  rcases a1.1 i hi with z | z
  · right
    rw [if_neg (by omega)]
    exact ⟨A i, z.1, rfl⟩
  · left
    rw [if_pos z]
theorem dat_is {s : nm_S} (hB : IvB s) (hG : IvG s) (hC : IvC s) (hcd : ∀ S, S < 1024 → ga s 12 S = nI (cdS S)) : ∃ T C, SF s (dat s) T C ∧ SX s (dat s) T C := by
  obtain ⟨T, g1, g2, g3, g4, g5⟩ := hG
  obtain ⟨C, c1, c2, c3, c4, -⟩ := hC
  obtain ⟨⟨-, -, -, b4, -⟩, -⟩ := hB
  have l43 : ∀ t, t < T → ga s 43 t = nI ((dat s).2.1 t) ∧ (dat s).2.1 t ≤ 40 := by
    intro t ht
    obtain ⟨l, l1, l2, l3⟩ := (g4 t ht).2.2.1
    have e : (dat s).2.1 t = l := by show (ga s 43 t).toNatClampNeg = l; rw [l3, i_nIc (by omega)]
    rw [e]
    exact ⟨l3, l2⟩
  have l44 : ∀ t, t < T → ga s 44 t = nI ((dat s).2.2.1 t) ∧ (dat s).2.2.1 t ≤ 1000 := by
    intro t ht
    obtain ⟨l, l1, l3⟩ := (g4 t ht).2.2.2
    have e : (dat s).2.2.1 t = l := by show (ga s 44 t).toNatClampNeg = l; rw [l3, i_nIc (by omega)]
    rw [e]
    exact ⟨l3, l1⟩
  have l46 : ∀ c, c < C → ga s 46 c = nI ((dat s).2.2.2.1 c) ∧ (dat s).2.2.2.1 c ≤ 10 := by
    intro c hc
    obtain ⟨l, l1, l2, l3⟩ := (c4 c hc).2.2.1
    have e : (dat s).2.2.2.1 c = l := by show (ga s 46 c).toNatClampNeg = l; rw [l3, i_nIc (by omega)]
    rw [e]
    exact ⟨l3, l2⟩
  have l47 : ∀ c, c < C → ga s 47 c = nI ((dat s).2.2.2.2 c) ∧ (dat s).2.2.2.2 c ≤ 200 := by
    intro c hc
    obtain ⟨l, l1, l2, l3⟩ := (c4 c hc).2.2.2
    have e : (dat s).2.2.2.2 c = l := by show (ga s 47 c).toNatClampNeg = l; rw [l3, i_nIc (by omega)]
    rw [e]
    exact ⟨l3, l2⟩
  refine ⟨T, C, ⟨⟨g1, c1⟩, ⟨g3, c3⟩, fun t ht => ⟨l43 t ht, l44 t ht⟩, fun c hc => ⟨l46 c hc, l47 c hc⟩, fun c t _ _ => Iff.rfl⟩, ⟨⟨g1, c1⟩, ⟨g2, c2⟩, g5, fun t ht => ⟨(l43 t ht).2, (l44 t ht).2⟩, fun c hc => ?_, hcd, fun c t hc ht => ?_⟩⟩
  · rw [(c4 c hc).1.2.1, (c4 c hc).1.2.2]
    exact ⟨l46 c hc, l47 c hc⟩
  · rw [(c4 c hc).1.1, (g4 t ht).1.1, (g4 t ht).1.2, b4]
    exact Iff.rfl
/-- the reference's search from the start -/
theorem c_findBest {d : Nat} {s : nm_S} {Q : nm_K} {T C : Nat} (hS : SF s (dat s) T C) (hz : gi s 4010 = 0) (hQ : ∀ (t : nm_S) (B : Nat → Nat), Fr [4022] [48, 49, 50, 51] s t → Pf (dat s) C B T → (∀ E, Pf (dat s) C E T → price (dat s) T B ≤ price (dat s) T E) → (∀ k, k < T → ga t 49 k = dg (B k)) → gi t 4022 = nI (dcost (dat s) B T) → Q [] (rep t)) : nm_call (d + 12) 107 [.ref 40] (rep s) Q := by
  have hS0 := hS
  obtain ⟨⟨s1, s2⟩, ⟨s3, s4⟩, s5, s6, s7⟩ := hS
  rw [show d + 12 = d + 11 + 1 from rfl, e_X9_findBest]
  simp only [r_X9_findBest_0, r_X9_findBest_1, r_X9_findBest_4, r_X9_findBest_7, r_X9_findBest_8, r_X9_findBest_9, ob_40, gt_40_0, pt_40_0, gt_40_1, pt_40_1, gt_40_2, pt_40_2, gt_40_3, pt_40_3, gt_40_4, pt_40_4, gt_40_5, pt_40_5, gt_40_6, pt_40_6, gt_40_7, pt_40_7, gt_40_8, pt_40_8, gt_40_9, pt_40_9, gt_40_10, pt_40_10, gt_40_11, gt_40_12, gt_40_13, gt_40_14, gt_40_15, gt_40_16, gt_40_17, gt_40_18, gt_40_19, gt_40_20, gt_40_21, gt_40_22, pt_40_22, gt_40_23, gt_40_24, gt_40_25, gt_40_26, gt_40_27, gt_40_28, gt_40_29, gt_40_30, gt_40_31, gt_40_32, gt_40_33, gt_40_34, pt_40_34, gt_40_35, pt_40_35, gt_40_36, gt_40_37, gt_40_38, gt_40_39, gt_40_40, gt_40_41, pt_40_41, gt_40_42, pt_40_42, gt_40_43, pt_40_43, gt_40_44, pt_40_44, gt_40_45, pt_40_45, gt_40_46, pt_40_46, gt_40_47, List.cons_append, List.nil_append, List.append_nil, if_true, if_false, true_and, and_true, true_or, or_true, nm_b_some, hz]
  have loop : ∀ (m c : Nat) (u : nm_S), c + m = C → Fr [4022] [48, 49, 50, 51] s u → (∀ k, k < c → ga u 50 k = 0 ∧ ga u 51 k = 0) → x_X9_findBest (d + 11) Q 10 [.ref 40, .int (nI c)] [] (rep u) 0 0 := by
    intro m
    induction m with
    | zero =>
      intro c u hc hf h0
      have hcC : c = C := by omega
      subst hcC
      have hSu := SF_fr hS0 hf
      have k1 : ¬ nI c < nI c := by rw [nI_lt' (by omega) (by omega)]; omega
      have q4 := hSu.2.1.2
      rw [r_X9_findBest_10]
      simp only [r_X9_findBest_11, r_X9_findBest_12, r_X9_findBest_15, r_X9_findBest_38, r_X9_findBest_39, r_X9_findBest_41, r_X9_findBest_44, r_X9_findBest_45, r_X9_findBest_46, r_X9_findBest_47, ob_40, gt_40_0, pt_40_0, gt_40_1, pt_40_1, gt_40_2, pt_40_2, gt_40_3, pt_40_3, gt_40_4, pt_40_4, gt_40_5, pt_40_5, gt_40_6, pt_40_6, gt_40_7, pt_40_7, gt_40_8, pt_40_8, gt_40_9, pt_40_9, gt_40_10, pt_40_10, gt_40_11, gt_40_12, gt_40_13, gt_40_14, gt_40_15, gt_40_16, gt_40_17, gt_40_18, gt_40_19, gt_40_20, gt_40_21, gt_40_22, pt_40_22, gt_40_23, gt_40_24, gt_40_25, gt_40_26, gt_40_27, gt_40_28, gt_40_29, gt_40_30, gt_40_31, gt_40_32, gt_40_33, gt_40_34, pt_40_34, gt_40_35, pt_40_35, gt_40_36, gt_40_37, gt_40_38, gt_40_39, gt_40_40, gt_40_41, pt_40_41, gt_40_42, pt_40_42, gt_40_43, pt_40_43, gt_40_44, pt_40_44, gt_40_45, pt_40_45, gt_40_46, pt_40_46, gt_40_47, List.cons_append, List.nil_append, List.append_nil, if_true, if_false, true_and, and_true, true_or, or_true, nm_b_some, gi_si, ga_sa, gi_sa, gi_sb, gi_sp, ga_si, ga_sb, ga_sp, gb_si, gb_sa, gb_sb, gb_sp, gp_si, gp_sa, gp_sb, gp_sp, if_true, if_false, ↓reduceIte, Nat.reduceEqDiff, q4, k1]
      have call := sh_run (d := d + 10 - T) (D := dat s) (T := T) (C := c) T 0 (by omega) (si u 4022 1000000) (fun _ => 4) 1000000 (fun v w' => x_X9_findBest (d + 11) Q 50 [.ref 40, .int (nI c)] v w' 0 0) (SF_fr hSu (Fr.rf.si (by decide))) ⟨fun k hk => by omega, fun c' hc' => ?_, by simp only [gi_si, ga_sa, gi_sa, gi_sb, gi_sp, ga_si, ga_sb, ga_sp, gb_si, gb_sa, gb_sb, gb_sp, gp_si, gp_sa, gp_sb, gp_sp, if_true, if_false, ↓reduceIte, Nat.reduceEqDiff]; rfl, Nat.le_refl _⟩ ⟨fun k hk => by omega, fun c' _ => ⟨Nat.zero_le _, Nat.zero_le _⟩⟩ (fun v b hE hP => ?_)
      · rw [show d + 10 - T + T + 1 = d + 11 by omega] at call
        exact call
      · simp only [gi_si, ga_sa, gi_sa, gi_sb, gi_sp, ga_si, ga_sb, ga_sp, gb_si, gb_sa, gb_sb, gb_sp, gp_si, gp_sa, gp_sb, gp_sp, if_true, if_false, ↓reduceIte, Nat.reduceEqDiff]
        exact h0 c' hc'
      · obtain ⟨e1, e2, e3, e4, e5⟩ := hE
        simp only [r_X9_findBest_50, List.cons_append, List.nil_append, List.append_nil, if_true, if_false, true_and, and_true, true_or, or_true, nm_b_some]
        obtain ⟨A0, a1, a2⟩ := least_is (dat s) T c s2
        have hk : ∀ t, t < T → (dat s).2.2.1 t ≤ 1000 := fun t ht => (s5 t ht).2.2
        rcases hP with ⟨p1, p2, p3⟩ | ⟨p1, B, p2, p3, p4, p5⟩
        · have := p3 A0 ⟨a1, fun k hk => by omega⟩
          have := dcost_le (A := A0) s1 hk
          omega
        · refine hQ v B (hf.tr ((Fr.rf.si (by decide)).tr e1)) p2.1 (first_least s1 s2 hk p2.1 (fun E hE => ?_)) p4 (by rw [e4, p3])
          rw [p3]
          exact p5 E ⟨hE, fun k hk => by omega⟩
    | succ m ih =>
      intro c u hc hf h0
      have hSu := SF_fr hS0 hf
      have k1 : nI c < nI C := (nI_lt' (by omega) (by omega)).mpr (by omega)
      have k2 : vp_in (nI c) 4 := vp_in' (by omega) (by omega)
      have k3 : (nI c).toNatClampNeg = c := i_nIc (by omega)
      have q4 := hSu.2.1.2
      rw [r_X9_findBest_10]
      simp only [r_X9_findBest_11, r_X9_findBest_12, r_X9_findBest_15, r_X9_findBest_18, r_X9_findBest_19, r_X9_findBest_22, r_X9_findBest_23, r_X9_findBest_24, r_X9_findBest_25, r_X9_findBest_26, r_X9_findBest_29, r_X9_findBest_30, r_X9_findBest_31, r_X9_findBest_32, r_X9_findBest_35, ob_40, gt_40_0, pt_40_0, gt_40_1, pt_40_1, gt_40_2, pt_40_2, gt_40_3, pt_40_3, gt_40_4, pt_40_4, gt_40_5, pt_40_5, gt_40_6, pt_40_6, gt_40_7, pt_40_7, gt_40_8, pt_40_8, gt_40_9, pt_40_9, gt_40_10, pt_40_10, gt_40_11, gt_40_12, gt_40_13, gt_40_14, gt_40_15, gt_40_16, gt_40_17, gt_40_18, gt_40_19, gt_40_20, gt_40_21, gt_40_22, pt_40_22, gt_40_23, gt_40_24, gt_40_25, gt_40_26, gt_40_27, gt_40_28, gt_40_29, gt_40_30, gt_40_31, gt_40_32, gt_40_33, gt_40_34, pt_40_34, gt_40_35, pt_40_35, gt_40_36, gt_40_37, gt_40_38, gt_40_39, gt_40_40, gt_40_41, pt_40_41, gt_40_42, pt_40_42, gt_40_43, pt_40_43, gt_40_44, pt_40_44, gt_40_45, pt_40_45, gt_40_46, pt_40_46, gt_40_47, ad_50, as_50, ad_51, as_51, List.cons_append, List.nil_append, List.append_nil, if_true, if_false, true_and, and_true, true_or, or_true, nm_b_some, gi_si, ga_sa, gi_sa, gi_sb, gi_sp, ga_si, ga_sb, ga_sp, gb_si, gb_sa, gb_sb, gb_sp, gp_si, gp_sa, gp_sb, gp_sp, if_true, if_false, ↓reduceIte, Nat.reduceEqDiff, q4, k1, k2, k3, nI_s]
      refine ih (c + 1) _ (by omega) ((hf.sa (by decide)).sa (by decide)) (fun k hk => ?_)
      simp only [gi_si, ga_sa, gi_sa, gi_sb, gi_sp, ga_si, ga_sb, ga_sp, gb_si, gb_sa, gb_sb, gb_sp, gp_si, gp_sa, gp_sb, gp_sp, if_true, if_false, ↓reduceIte, Nat.reduceEqDiff]
      by_cases e : k = c
      · subst e; rw [upd_at, upd_at]; exact ⟨rfl, rfl⟩
      · rw [upd_ne e, upd_ne e]; exact h0 k (by omega)
  exact loop C 0 s (by omega) Fr.rf (fun k hk => by omega)
