/-! The class's faultIn and holds. -/
def tpv (s : nm_S) (ky ar n : Nat) (T : Nat → Int32) : Prop := gi s ky = nI n ∧ n ≤ 100 ∧ ∀ i, i < n → ga s ar i = T i ∧ 1 ≤ T i ∧ T i ≤ 255
theorem tpv_fr {s t : nm_S} {ky ar n : Nat} {T : Nat → Int32} (h : tpv s ky ar n T) (hf : FrR s t) (hk : ky ∉ [3706, 3707, 3708, 3709, 3710, 3711]) (ha : ar ∉ [38, 39]) : tpv t ky ar n T := by
  unfold tpv at h ⊢
  rw [hf.1 ky hk, hf.2.1 ar ha]
  exact h
def isTp (tp ky ar : Nat) : Prop := (∀ (s : nm_S) (g : Value → Prop), nm_b (nm_get (rep s) tp 6 1) g ↔ g (.int (gi s ky))) ∧ (∀ (s : nm_S) (g : Value → Prop), nm_b (nm_get (rep s) tp 6 0) g ↔ g (.ref ar)) ∧ (∀ (s : nm_S) (i : Int32) (g : Int32 → Prop), nm_b (nm_ald (rep s) ar 1 i) g ↔ vp_in i 100 ∧ g (ga s ar i.toNatClampNeg)) ∧ ky ∉ [3706, 3707, 3708, 3709, 3710, 3711] ∧ ar ∉ [38, 39]
theorem isTp_33 : isTp 33 3301 34 := ⟨fun _ _ => gt_33_1, fun _ _ => gt_33_0, fun _ _ _ => ad_34, by decide, by decide⟩
theorem isTp_35 : isTp 35 3501 36 := ⟨fun _ _ => gt_35_1, fun _ _ => gt_35_0, fun _ _ _ => ad_36, by decide, by decide⟩
theorem c_fLoop {tp ky ar n : Nat} {T : Nat → Int32} (hI : isTp tp ky ar) {d : Nat} {s : nm_S} {Q : nm_K} {e : rE} {b : rA} {q : Nat} (hs : tpv s ky ar n T) (he : rdv s = e) (hq : q ≤ n) (hQ : ∀ t, RdR t b → FrR s t → x_X3_faultIn (d + 4) Q 16 [.ref 37, .ref tp, .int (nI q)] [] (rep t) 0 0) : ∀ (m p : Nat) (a : rA) (t : nm_S), rdN e T m p a = some b → p + m = q → RdR t a → FrR s t → x_X3_faultIn (d + 4) Q 16 [.ref 37, .ref tp, .int (nI p)] [] (rep t) 0 0
  | 0, p, a, t, h1, h2, h3, h4 => by
    rw [rdN] at h1
    cases h1
    rw [show p = q by omega]
    exact hQ t h3 h4
  | m + 1, p, a, t, h1, h2, h3, h4 => by
    obtain ⟨hL, hB, hA, hk, ha⟩ := hI
    obtain ⟨g1, g2, g3⟩ := tpv_fr hs h4 hk ha
    obtain ⟨g4, g5⟩ := g3 p (by omega)
    have hlt : nI p < nI n := (nI_lt' (by omega) (by omega)).mpr (by omega)
    have hv : vp_in (nI p) 100 := vp_in' (by omega) (by omega)
    have hc : (nI p).toNatClampNeg = p := i_nIc (by omega)
    rw [r_X3_faultIn_16]
    simp only [r_X3_faultIn_17, r_X3_faultIn_18, r_X3_faultIn_21, r_X3_faultIn_24, r_X3_faultIn_25, r_X3_faultIn_26, r_X3_faultIn_29, r_X3_faultIn_30, r_X3_faultIn_31, ob_37, gt_37_0, pt_37_0, gt_37_1, pt_37_1, gt_37_2, pt_37_2, gt_37_3, pt_37_3, gt_37_4, gt_37_5, gt_37_6, pt_37_6, gt_37_7, pt_37_7, gt_37_8, pt_37_8, gt_37_9, pt_37_9, gt_37_10, pt_37_10, gt_37_11, pt_37_11, List.cons_append, List.nil_append, List.append_nil, if_true, if_false, true_and, and_true, true_or, or_true, nm_b_some, hL, hB, hA, g1, hlt, hv, hc, g4]
    rw [rdN] at h1
    refine c_takes h3 g5 ⟨fun c u e1 e2 e3 => ?_, fun e1 u e2 => ?_⟩
    · rw [rdv_fr h4, he] at e1
      rw [e1] at h1
      have h0 : ¬ (1 : Int32) = 0 := by decide
      simp only [r_X3_faultIn_34, r_X3_faultIn_37, r_X3_faultIn_38, r_X3_faultIn_39, r_X3_faultIn_42, List.cons_append, List.nil_append, List.append_nil, if_true, if_false, true_and, and_true, true_or, or_true, nm_b_some, h0, nI_s]
      exact c_fLoop ⟨hL, hB, hA, hk, ha⟩ hs he hq hQ m (p + 1) c u h1 (by omega) e2 (h4.tr e3)
    · rw [rdv_fr h4, he] at e1
      rw [e1] at h1
      cases h1
theorem c_faultIn {tp ky ar n : Nat} {T : Nat → Int32} (hI : isTp tp ky ar) {d : Nat} {s : nm_S} {Q : nm_K} (hs : tpv s ky ar n T) (h : (∃ q, BDt T n 0 0 q ∧ ∀ t, FrR s t → Q [.int (nI q)] (rep t)) ∨ ∃ v, rdW T n v ∧ ∀ t b, RdR t b → FrR s t → rdE b → (∃ l' g' m' k' P' U', fiA (rdv s) b = (0, 4, l', g', m', k', P', U') ∧ (P' 0 || U' 0) = v (rdv s)) → Q [.int (-1)] (rep t)) : nm_call (d + 5) 13 [.ref 37, .ref tp] (rep s) Q := by
  obtain ⟨hL, hB, hA, hk, ha⟩ := hI
  have h0 : nI 0 = 0 := rfl
  have ho := fun (Q : nm_K) => c_openTests (d := d + 3) (s := si (si s 3706 0) 3707 0) (Q := Q) (dp := 0) (by simp only [gi_si, ga_sa, gi_sa, gi_sb, gi_sp, ga_si, ga_sb, ga_sp, gb_si, gb_sa, gb_sb, gb_sp, gp_si, gp_sa, gp_sb, gp_sp, if_true, if_false, ↓reduceIte, Nat.reduceEqDiff]; rfl) (by omega)
  simp only [e_X3_faultIn, r_X3_faultIn_0, r_X3_faultIn_1, r_X3_faultIn_2, r_X3_faultIn_5, r_X3_faultIn_6, r_X3_faultIn_7, r_X3_faultIn_10, r_X3_faultIn_11, r_X3_faultIn_14, r_X3_faultIn_15, ob_37, gt_37_0, pt_37_0, gt_37_1, pt_37_1, gt_37_2, pt_37_2, gt_37_3, pt_37_3, gt_37_4, gt_37_5, gt_37_6, pt_37_6, gt_37_7, pt_37_7, gt_37_8, pt_37_8, gt_37_9, pt_37_9, gt_37_10, pt_37_10, gt_37_11, pt_37_11, List.cons_append, List.nil_append, List.append_nil, if_true, if_false, true_and, and_true, true_or, or_true, nm_b_some, ho, gi_si, ga_sa, gi_sa, gi_sb, gi_sp, ga_si, ga_sb, ga_sp, gb_si, gb_sa, gb_sb, gb_sp, gp_si, gp_sa, gp_sb, gp_sp, if_true, if_false, ↓reduceIte, Nat.reduceEqDiff]
  have hfr : FrR s (sa (sa (si (si s 3706 0) 3707 0) 38 (upd (ga s 38) 0 0)) 39 (upd (ga s 39) 0 1)) := (((Fr.rf.si (by decide)).si (by decide)).sa (by decide)).sa (by decide)
  generalize hs1 : sa (sa (si (si s 3706 0) 3707 0) 38 (upd (ga s 38) 0 0)) 39 (upd (ga s 39) 0 1) = s1 at hfr
  have hR : RdR s1 (0, 0, gi s 3708, gi s 3709, gi s 3710, gi s 3711, updB (fun i => decide (¬ ga s 38 i = 0)) 0 false, updB (fun i => decide (¬ ga s 39 i = 0)) 0 true) := by
    subst hs1
    refine ⟨by simp only [gi_si, ga_sa, gi_sa, gi_sb, gi_sp, ga_si, ga_sb, ga_sp, gb_si, gb_sa, gb_sb, gb_sp, gp_si, gp_sa, gp_sb, gp_sp, if_true, if_false, ↓reduceIte, Nat.reduceEqDiff]; rfl, Nat.zero_le 8, by simp only [gi_si, ga_sa, gi_sa, gi_sb, gi_sp, ga_si, ga_sb, ga_sp, gb_si, gb_sa, gb_sb, gb_sp, gp_si, gp_sa, gp_sb, gp_sp, if_true, if_false, ↓reduceIte, Nat.reduceEqDiff]; rfl, Nat.zero_le 4, by simp only [gi_si, ga_sa, gi_sa, gi_sb, gi_sp, ga_si, ga_sb, ga_sp, gb_si, gb_sa, gb_sb, gb_sp, gp_si, gp_sa, gp_sb, gp_sp, if_true, if_false, ↓reduceIte, Nat.reduceEqDiff], by simp only [gi_si, ga_sa, gi_sa, gi_sb, gi_sp, ga_si, ga_sb, ga_sp, gb_si, gb_sa, gb_sb, gb_sp, gp_si, gp_sa, gp_sb, gp_sp, if_true, if_false, ↓reduceIte, Nat.reduceEqDiff], by simp only [gi_si, ga_sa, gi_sa, gi_sb, gi_sp, ga_si, ga_sb, ga_sp, gb_si, gb_sa, gb_sb, gb_sp, gp_si, gp_sa, gp_sb, gp_sp, if_true, if_false, ↓reduceIte, Nat.reduceEqDiff], by simp only [gi_si, ga_sa, gi_sa, gi_sb, gi_sp, ga_si, ga_sb, ga_sp, gb_si, gb_sa, gb_sb, gb_sp, gp_si, gp_sa, gp_sb, gp_sp, if_true, if_false, ↓reduceIte, Nat.reduceEqDiff], ?_, ?_⟩
    · simp only [gi_si, ga_sa, gi_sa, gi_sb, gi_sp, ga_si, ga_sb, ga_sp, gb_si, gb_sa, gb_sb, gb_sp, gp_si, gp_sa, gp_sb, gp_sp, if_true, if_false, ↓reduceIte, Nat.reduceEqDiff]; exact rd_upd (fun i => rfl) (by decide)
    · simp only [gi_si, ga_sa, gi_sa, gi_sb, gi_sp, ga_si, ga_sb, ga_sp, gb_si, gb_sa, gb_sb, gb_sp, gp_si, gp_sa, gp_sb, gp_sp, if_true, if_false, ↓reduceIte, Nat.reduceEqDiff]; exact rd_upd (fun i => rfl) (by decide)
  rw [← h0]
  rcases h with ⟨q, hq, hbad⟩ | ⟨v, hv, hok⟩
  · obtain ⟨q1, q2, q3⟩ := hq
    obtain ⟨b, b1, b2⟩ := q3 (rdv s) (gi s 3708) (gi s 3709) (gi s 3710) (gi s 3711) _ _ (updB_at (fun i => decide (¬ ga s 39 i = 0)) 0 true)
    refine c_fLoop ⟨hL, hB, hA, hk, ha⟩ (b := b) (q := q) hs rfl q2 (fun t e1 e2 => ?_) q 0 _ s1 b1.2 (by omega) hR hfr
    obtain ⟨g1, g2, g3⟩ := tpv_fr hs e2 hk ha
    rcases b2 with ⟨b3, b4⟩ | ⟨b3, b4⟩
    · obtain ⟨g4, g5⟩ := g3 q b3
      have hlt : nI q < nI n := (nI_lt' (by omega) (by omega)).mpr b3
      have hv : vp_in (nI q) 100 := vp_in' (by omega) (by omega)
      have hc : (nI q).toNatClampNeg = q := i_nIc (by omega)
      rw [r_X3_faultIn_16]
      simp only [r_X3_faultIn_17, r_X3_faultIn_18, r_X3_faultIn_21, r_X3_faultIn_24, r_X3_faultIn_25, r_X3_faultIn_26, r_X3_faultIn_29, r_X3_faultIn_30, r_X3_faultIn_31, ob_37, gt_37_0, pt_37_0, gt_37_1, pt_37_1, gt_37_2, pt_37_2, gt_37_3, pt_37_3, gt_37_4, gt_37_5, gt_37_6, pt_37_6, gt_37_7, pt_37_7, gt_37_8, pt_37_8, gt_37_9, pt_37_9, gt_37_10, pt_37_10, gt_37_11, pt_37_11, List.cons_append, List.nil_append, List.append_nil, if_true, if_false, true_and, and_true, true_or, or_true, nm_b_some, hL, hB, hA, g1, hlt, hv, hc, g4]
      refine c_takes e1 g5 ⟨fun c u e3 e4 e5 => ?_, fun e3 u e4 => ?_⟩
      · rw [rdv_fr e2, b4] at e3
        cases e3
      · simp only [r_X3_faultIn_34, r_X3_faultIn_37, r_X3_faultIn_38, List.cons_append, List.nil_append, List.append_nil, if_true, if_false, true_and, and_true, true_or, or_true, nm_b_some]
        exact hbad u (e2.tr e4)
    · subst b3
      have hlt : ¬ nI q < nI q := fun z => absurd ((nI_lt' (by omega) (by omega)).mp z) (by omega)
      rw [r_X3_faultIn_16]
      simp only [r_X3_faultIn_17, r_X3_faultIn_18, r_X3_faultIn_21, r_X3_faultIn_45, r_X3_faultIn_46, r_X3_faultIn_49, r_X3_faultIn_50, r_X3_faultIn_53, r_X3_faultIn_54, r_X3_faultIn_57, r_X3_faultIn_58, r_X3_faultIn_61, r_X3_faultIn_62, r_X3_faultIn_65, r_X3_faultIn_66, r_X3_faultIn_67, r_X3_faultIn_68, r_X3_faultIn_71, r_X3_faultIn_72, r_X3_faultIn_75, r_X3_faultIn_78, r_X3_faultIn_79, r_X3_faultIn_82, r_X3_faultIn_83, r_X3_faultIn_86, ob_37, gt_37_0, pt_37_0, gt_37_1, pt_37_1, gt_37_2, pt_37_2, gt_37_3, pt_37_3, gt_37_4, gt_37_5, gt_37_6, pt_37_6, gt_37_7, pt_37_7, gt_37_8, pt_37_8, gt_37_9, pt_37_9, gt_37_10, pt_37_10, gt_37_11, pt_37_11, List.cons_append, List.nil_append, List.append_nil, if_true, if_false, true_and, and_true, true_or, or_true, nm_b_some, hL, g1, hlt, e1.1, e1.2.2.1]
      have hx3 : nI b.2.1 = 3 ↔ b.2.1 = 3 := nI_eq' (b := 3) (by have := e1.2.2.2.1; omega) (by omega)
      have hx4 : nI b.2.1 = 4 ↔ b.2.1 = 4 := nI_eq' (b := 4) (by have := e1.2.2.2.1; omega) (by omega)
      have hz : nI b.1 = 0 ↔ b.1 = 0 := nI_eq' (b := 0) (by have := e1.2.1; omega) (by omega)
      have hr := hbad t e2
      simp only [hx3, hx4, hz]
      by_cases h3 : b.2.1 = 3
      · have hd : ¬ b.1 = 0 := fun z => b4 ⟨Or.inl h3, z⟩
        simp only [h3, hd, if_true, if_false]
        simpa using hr
      · by_cases h4 : b.2.1 = 4
        · have hd : ¬ b.1 = 0 := fun z => b4 ⟨Or.inr h4, z⟩
          simp only [h4, hd, if_true, if_false]
          simpa using hr
        · simp only [h3, h4, if_true, if_false]
          exact hr
  · obtain ⟨b, l', g', m', k', P', U', b1, b2, b3, b4⟩ := hv (rdv s) (gi s 3708) (gi s 3709) (gi s 3710) (gi s 3711) _ _ (updB_at (fun i => decide (¬ ga s 39 i = 0)) 0 true) (updB_at (fun i => decide (¬ ga s 38 i = 0)) 0 false)
    refine c_fLoop ⟨hL, hB, hA, hk, ha⟩ (b := b) (q := n) hs rfl (Nat.le_refl n) (fun t e1 e2 => ?_) n 0 _ s1 b1.2 (by omega) hR hfr
    obtain ⟨g1, g2, g3⟩ := tpv_fr hs e2 hk ha
    have hlt : ¬ nI n < nI n := fun z => absurd ((nI_lt' (by omega) (by omega)).mp z) (by omega)
    rw [r_X3_faultIn_16]
    have hz : b.1 = 0 := b2.2
    have hr := hok t b e1 e2 b2 ⟨l', g', m', k', P', U', b3, b4⟩
    have hz2 : ¬ (1 : Int32) = 0 := by decide
    simp only [r_X3_faultIn_17, r_X3_faultIn_18, r_X3_faultIn_21, r_X3_faultIn_45, r_X3_faultIn_46, r_X3_faultIn_49, r_X3_faultIn_50, r_X3_faultIn_53, r_X3_faultIn_54, r_X3_faultIn_57, r_X3_faultIn_58, r_X3_faultIn_61, r_X3_faultIn_62, r_X3_faultIn_65, r_X3_faultIn_66, r_X3_faultIn_67, r_X3_faultIn_68, r_X3_faultIn_71, r_X3_faultIn_72, r_X3_faultIn_75, r_X3_faultIn_78, r_X3_faultIn_79, r_X3_faultIn_82, r_X3_faultIn_83, r_X3_faultIn_86, ob_37, gt_37_0, pt_37_0, gt_37_1, pt_37_1, gt_37_2, pt_37_2, gt_37_3, pt_37_3, gt_37_4, gt_37_5, gt_37_6, pt_37_6, gt_37_7, pt_37_7, gt_37_8, pt_37_8, gt_37_9, pt_37_9, gt_37_10, pt_37_10, gt_37_11, pt_37_11, List.cons_append, List.nil_append, List.append_nil, if_true, if_false, true_and, and_true, true_or, or_true, nm_b_some, hL, g1, hlt, e1.1, e1.2.2.1, hz]
    rcases b2.1 with h3 | h4
    · have e3 : nI 3 = (3 : Int32) := rfl
      simp only [h3]
      simpa [nI_0', e3] using hr
    · have e3 : ¬ nI 4 = (3 : Int32) := by decide
      have e4 : nI 4 = (4 : Int32) := rfl
      simp only [h4]
      simpa [nI_0', e3, e4] using hr
/-- holds, of a text that has no fault -/
theorem c_holds {tp ky ar n : Nat} {T : Nat → Int32} (hI : isTp tp ky ar) {d : Nat} {s : nm_S} {Q : nm_K} {v : rE → Bool} (hs : tpv s ky ar n T) (hv : rdW T n v) (hQ : ∀ t, FrR s t → Q [.int (if v (rdv s) = true then 1 else 0)] (rep t)) : nm_call (d + 6) 14 [.ref 37, .ref tp] (rep s) Q := by
  simp only [e_X3_holds, r_X3_holds_0, r_X3_holds_1, r_X3_holds_2, r_X3_holds_5, r_X3_holds_6, r_X3_holds_9, r_X3_holds_10, r_X3_holds_11, r_X3_holds_12, r_X3_holds_15, r_X3_holds_16, r_X3_holds_19, r_X3_holds_20, r_X3_holds_23, r_X3_holds_24, r_X3_holds_27, ob_37, gt_37_0, pt_37_0, gt_37_1, pt_37_1, gt_37_2, pt_37_2, gt_37_3, pt_37_3, gt_37_4, gt_37_5, gt_37_6, pt_37_6, gt_37_7, pt_37_7, gt_37_8, pt_37_8, gt_37_9, pt_37_9, gt_37_10, pt_37_10, gt_37_11, pt_37_11, List.cons_append, List.nil_append, List.append_nil, if_true, if_false, true_and, and_true, true_or, or_true, nm_b_some]
  refine c_faultIn hI hs (Or.inr ⟨v, hv, fun t b hR hf hE hx => ?_⟩)
  obtain ⟨l', g', m', k', P', U', x1, x2⟩ := hx
  have h0 : ¬ (-1 : Int32) = -1 ↔ False := by decide
  have hx3 : gi t 3707 = 3 ↔ b.2.1 = 3 := by
    rw [hR.2.2.1]
    exact nI_eq' (b := 3) (by have := hR.2.2.2.1; omega) (by omega)
  have hb : ∀ b : Bool, ((if b = true then 1 else 0 : Int32) = 0 ∨ (if b = true then 1 else 0 : Int32) = 1) ↔ True := by decide
  simp only [r_X3_holds_0, r_X3_holds_1, r_X3_holds_2, r_X3_holds_5, r_X3_holds_6, r_X3_holds_9, r_X3_holds_10, r_X3_holds_11, r_X3_holds_12, r_X3_holds_15, r_X3_holds_16, r_X3_holds_19, r_X3_holds_20, r_X3_holds_23, r_X3_holds_24, r_X3_holds_27, ob_37, gt_37_0, pt_37_0, gt_37_1, pt_37_1, gt_37_2, pt_37_2, gt_37_3, pt_37_3, gt_37_4, gt_37_5, gt_37_6, pt_37_6, gt_37_7, pt_37_7, gt_37_8, pt_37_8, gt_37_9, pt_37_9, gt_37_10, pt_37_10, gt_37_11, pt_37_11, List.cons_append, List.nil_append, List.append_nil, if_true, if_false, true_and, and_true, true_or, or_true, nm_b_some, hx3]
  have main : ∀ u, RdR u (fiA (rdv s) b) → FrR s u → nm_call (d + 5) 21 [.ref 37] (rep u) (fun w' w'' => x_X3_holds (d + 5) Q 27 [.ref 37, .ref tp] w' w'' 0 0) := by
    intro u hu1 hu2
    rw [x1] at hu1
    rw [c_testsHold hu1]
    simp only [r_X3_holds_0, r_X3_holds_1, r_X3_holds_2, r_X3_holds_5, r_X3_holds_6, r_X3_holds_9, r_X3_holds_10, r_X3_holds_11, r_X3_holds_12, r_X3_holds_15, r_X3_holds_16, r_X3_holds_19, r_X3_holds_20, r_X3_holds_23, r_X3_holds_24, r_X3_holds_27, List.cons_append, List.nil_append, List.append_nil, if_true, if_false, true_and, and_true, true_or, or_true, nm_b_some, hb]
    have := hQ u hu2
    rw [← x2] at this
    exact this
  by_cases h3 : b.2.1 = 3
  · rw [if_pos h3]
    refine c_endNumber hR (fun u e1 e2 => ?_)
    simp only [r_X3_holds_0, r_X3_holds_1, r_X3_holds_2, r_X3_holds_5, r_X3_holds_6, r_X3_holds_9, r_X3_holds_10, r_X3_holds_11, r_X3_holds_12, r_X3_holds_15, r_X3_holds_16, r_X3_holds_19, r_X3_holds_20, r_X3_holds_23, r_X3_holds_24, r_X3_holds_27, ob_37, gt_37_0, pt_37_0, gt_37_1, pt_37_1, gt_37_2, pt_37_2, gt_37_3, pt_37_3, gt_37_4, gt_37_5, gt_37_6, pt_37_6, gt_37_7, pt_37_7, gt_37_8, pt_37_8, gt_37_9, pt_37_9, gt_37_10, pt_37_10, gt_37_11, pt_37_11, List.cons_append, List.nil_append, List.append_nil, if_true, if_false, true_and, and_true, true_or, or_true, nm_b_some]
    refine main u ?_ (hf.tr e2)
    rw [rdv_fr hf] at e1
    unfold fiA
    rw [if_pos h3]
    exact e1
  · rw [if_neg h3]
    refine main t ?_ hf
    rw [fiA_of h3]
    exact hR
