/-! tick: the class's side, and both. -/
theorem LPf_is (now : Int32) (du pt f : Nat → Int32) (x : Int32) (hx : 0 ≤ x.toInt) : ∀ n, ¬ LPf now du pt f n < x ↔ ∃ p, p < n ∧ f p = 1 ∧ ¬ now < du p ∧ ¬ pt p = 0 ∧ ¬ du p < x
  | 0 => by
    have h : (-1 : Int32) < x := by rw [i_lt, i_lm1]; omega
    constructor
    · intro z; exact absurd h z
    · rintro ⟨p, hp, -⟩; omega
  | n + 1 => by
    have ih := LPf_is now du pt f x hx n
    have ext : (∃ p, p < n + 1 ∧ f p = 1 ∧ ¬ now < du p ∧ ¬ pt p = 0 ∧ ¬ du p < x) ↔ ((∃ p, p < n ∧ f p = 1 ∧ ¬ now < du p ∧ ¬ pt p = 0 ∧ ¬ du p < x) ∨ ((f n = 1 ∧ ¬ now < du n ∧ ¬ pt n = 0) ∧ ¬ du n < x)) := by
      constructor
      · rintro ⟨p, h1, h2, h3, h4, h5⟩
        by_cases e : p = n
        · subst e; exact Or.inr ⟨⟨h2, h3, h4⟩, h5⟩
        · exact Or.inl ⟨p, by omega, h2, h3, h4, h5⟩
      · rintro (⟨p, h1, h2⟩ | ⟨⟨h2, h3, h4⟩, h5⟩)
        · exact ⟨p, by omega, h2⟩
        · exact ⟨n, by omega, h2, h3, h4, h5⟩
    rw [ext, ← ih]
    show ¬ (if f n = 1 ∧ ¬ now < du n ∧ ¬ pt n = 0 then (if LPf now du pt f n < du n then du n else LPf now du pt f n) else LPf now du pt f n) < x ↔ _
    by_cases hc : f n = 1 ∧ ¬ now < du n ∧ ¬ pt n = 0
    · rw [if_pos hc]
      by_cases hl : LPf now du pt f n < du n
      · rw [if_pos hl]
        constructor
        · intro z; exact Or.inr ⟨hc, z⟩
        · rintro (z | z)
          · rw [i_lt] at z hl ⊢; omega
          · exact z.2
      · rw [if_neg hl]
        constructor
        · intro z; exact Or.inl z
        · rintro (z | z)
          · exact z
          · have z2 := z.2
            rw [i_lt] at z2 hl ⊢; omega
    · rw [if_neg hc]
      constructor
      · exact Or.inl
      · rintro (z | z)
        · exact z
        · exact absurd z.1 hc
theorem c_moveTo {d : Nat} {s : nm_S} {Q : nm_K} {N T m r : Nat} {st bg mi nd bk : Nat → Nat} {pt sf : Nat → Bool} {ro en : Nat → Nat} (hN : N ≤ 10) (hm : T ≤ m) (hm2 : m ≤ 2000) (hX : XR s N st bg mi nd bk pt sf) (hW : WF N T st bg mi nd bk sf) (hB : BK N T r st bg bk ro en) (hXB : XB s r ro en) (hQ : ∀ t : nm_S, (∀ (st' : Nat → Nat) (sf' : Nat → Bool) (r' : Nat) (ro' en' : Nat → Nat), Cl N m mi bg pt st sf r ro en st' sf' r' ro' en' → XR t N st' bg mi nd bk pt sf' ∧ XB t r' ro' en') → Fr [] [22, 23, 24, 29] s t → Q [] (rep t)) : nm_call (d + 3) 45 [.ref 21, .int (nI m)] (rep s) Q := by
  obtain ⟨hx1, hx2⟩ := hX
  rw [e_X5_moveTo]
  simp only [r_X5_moveTo_0, r_X5_moveTo_1, r_X5_moveTo_2, r_X5_moveTo_3, r_X5_moveTo_6, r_X5_moveTo_9, r_X5_moveTo_10, r_X5_moveTo_11, r_X5_moveTo_14, ob_21, gt_21_0, gt_21_1, gt_21_2, gt_21_3, pt_21_3, gt_21_4, pt_21_4, gt_21_5, gt_21_6, gt_21_7, gt_21_8, gt_21_9, gt_21_10, List.cons_append, List.nil_append, List.append_nil, if_true, if_false, true_and, and_true, true_or, or_true, nm_b_some]
  obtain ⟨u1, u2⟩ := fr1_is (nI m) (fun i => ga s 23 i + ga s 25 i) (ga s 28) (ga s 22) N
  refine c_finish hx1 hN ?_
  generalize lpf (fr1 (nI m) (fun i => ga s 23 i + ga s 25 i) (ga s 28)) N 0 (ga s 22, -1) = a at u1 u2
  obtain ⟨f1, lp⟩ := a
  dsimp only at u1 u2 ⊢
  simp only [r_X5_moveTo_6, ob_21, gt_21_0, gt_21_1, gt_21_2, gt_21_3, pt_21_3, gt_21_4, pt_21_4, gt_21_5, gt_21_6, gt_21_7, gt_21_8, gt_21_9, gt_21_10, List.cons_append, List.nil_append, List.append_nil, if_true, if_false, true_and, and_true, true_or, or_true, nm_b_some]
  refine c_makeSafe (s := sa s 22 f1) (N := N) (by simp only [gi_si, ga_sa, gi_sa, gi_sb, gi_sp, ga_si, ga_sb, ga_sp, gb_si, gb_sa, gb_sb, gb_sp, gp_si, gp_sa, gp_sb, gp_sp, if_true, if_false, ↓reduceIte, Nat.reduceEqDiff]; exact hx1) hN ?_
  simp only [gi_si, ga_sa, gi_sa, gi_sb, gi_sp, ga_si, ga_sb, ga_sp, gb_si, gb_sa, gb_sb, gb_sp, gp_si, gp_sa, gp_sb, gp_sp, if_true, if_false, ↓reduceIte, Nat.reduceEqDiff]
  have u3 := ms1_is lp (fun i => ga s 23 i + ga s 25 i) f1 (ga s 24) N
  generalize lpf (ms1 lp (fun i => ga s 23 i + ga s 25 i) f1) N 0 (ga s 24) = k1 at u3
  simp only [r_X5_moveTo_9, r_X5_moveTo_10, r_X5_moveTo_11, ob_21, gt_21_0, gt_21_1, gt_21_2, gt_21_3, pt_21_3, gt_21_4, pt_21_4, gt_21_5, gt_21_6, gt_21_7, gt_21_8, gt_21_9, gt_21_10, List.cons_append, List.nil_append, List.append_nil, if_true, if_false, true_and, and_true, true_or, or_true, nm_b_some]
  refine c_clearTB (s := sa (sa s 22 f1) 24 k1) (N := N) (by simp only [gi_si, ga_sa, gi_sa, gi_sb, gi_sp, ga_si, ga_sb, ga_sp, gb_si, gb_sa, gb_sb, gb_sp, gp_si, gp_sa, gp_sb, gp_sp, if_true, if_false, ↓reduceIte, Nat.reduceEqDiff]; exact hx1) hN (fun b hb0 => ?_)
  simp only [gi_si, ga_sa, gi_sa, gi_sb, gi_sp, ga_si, ga_sb, ga_sp, gb_si, gb_sa, gb_sb, gb_sp, gp_si, gp_sa, gp_sb, gp_sp, if_true, if_false, ↓reduceIte, Nat.reduceEqDiff] at hb0
  have u4 := ct1_is (nI m) f1 (ga s 23) (ga s 29) k1 N
  rw [← hb0] at u4
  obtain ⟨f2, g2, h2, k2⟩ := b
  clear hb0
  dsimp only at u4 ⊢
  have hst : ∀ k, k < N → st k < 2147483648 := fun k hk => by have := (hW k hk).2.2.2.1; omega
  have hdu : ∀ i, i < N → st i ≠ 0 → ga s 23 i + ga s 25 i = nI (bg i + mi i) := by
    intro i hi h0
    rw [(hx2 i hi).2.1, (hx2 i hi).2.2.2.1]
    unfold eb
    rw [if_neg h0, nI_ad]
  have hdl : ∀ i, i < N → st i ≠ 0 → bg i + mi i ≤ 2060 := by
    intro i hi h0
    have w := hW i hi
    have : st i = 1 ∨ st i = 2 ∨ st i = 3 := by omega
    rcases this with e | e | e
    · have := w.2.2.2.2.1 e; omega
    · have := w.2.2.2.2.2.1 e; omega
    · have := w.2.2.2.2.2.2.1 e; omega
  have hf1 : ∀ i, i < N → f1 i = nI (if st i = 1 ∧ bg i + mi i ≤ m then 2 else st i) := by
    intro i hi
    rw [u1 i, (hx2 i hi).1]
    by_cases h1 : st i = 1
    · have e : nI m < ga s 23 i + ga s 25 i ↔ m < bg i + mi i := by
        rw [hdu i hi (by omega), nI_lt' (by omega) (by have := hdl i hi (by omega); omega)]
      by_cases h2 : bg i + mi i ≤ m
      · rw [if_pos ⟨hi, by rw [h1]; rfl, fun z => by have := e.mp z; omega⟩, if_pos ⟨h1, h2⟩]; rfl
      · rw [if_neg (fun z => z.2.2 (e.mpr (by omega))), if_neg (fun z => h2 z.2)]
    · rw [if_neg (fun z => h1 ((nI_eq' (hst i hi) (by omega)).mp z.2.1)), if_neg (fun z => h1 z.1)]
  have hlp : ∀ i, i < N → st i ≠ 0 → (¬ lp < ga s 23 i + ga s 25 i ↔ ∃ p, p < N ∧ st p = 1 ∧ pt p = true ∧ bg p + mi p ≤ m ∧ bg i + mi i ≤ bg p + mi p) := by
    intro i hi h0
    have hb := hdl i hi h0
    rw [u2, hdu i hi h0, LPf_is _ _ _ _ _ (by rw [i_nI (by omega)]; omega)]
    constructor
    · rintro ⟨p, p1, p2, p3, p4, p5⟩
      rw [(hx2 p p1).1, nI_1', nI_eq' (hst p p1) (by omega)] at p2
      have hb2 := hdl p p1 (by omega)
      rw [hdu p p1 (by omega), nI_lt' (by omega) (by omega)] at p3
      rw [hdu p p1 (by omega), nI_lt' (by omega) (by omega)] at p5
      rw [(hx2 p p1).2.2.2.2.2.2, b2_0] at p4
      exact ⟨p, p1, p2, by simpa using p4, by omega, by omega⟩
    · rintro ⟨p, p1, p2, p3, p4, p5⟩
      have hb2 := hdl p p1 (by omega)
      refine ⟨p, p1, ?_, ?_, ?_, ?_⟩
      · rw [(hx2 p p1).1, p2]; rfl
      · rw [hdu p p1 (by omega), nI_lt' (by omega) (by omega)]; omega
      · rw [(hx2 p p1).2.2.2.2.2.2, b2_0, p3]; decide
      · rw [hdu p p1 (by omega), nI_lt' (by omega) (by omega)]; omega
  simp only [r_X5_moveTo_14, List.cons_append, List.nil_append, List.append_nil, if_true, if_false, true_and, and_true, true_or, or_true, nm_b_some]
  refine hQ _ (fun st' sf' r' ro' en' hcl => ?_) (by unfold wS; exact (((((Fr.rf.sa (by decide)).sa (by decide)).sa (by decide)).sa (by decide)).sa (by decide)).sa (by decide))
  obtain ⟨c1, c2, c, c3, c4, c5, c6, c7, c8⟩ := hcl
  -- what is cleared
  have hcd : ∀ i, i < N → ((i < N ∧ f1 i = 3 ∧ ¬ nI m < ga s 29 i) ↔ st i = 3 ∧ st' i = 0) := by
    intro i hi
    rw [hf1 i hi, nI_3']
    have hb := c1 i hi
    by_cases h3 : st i = 3
    · obtain ⟨j, j1, j2⟩ := hB.2.2.2.2.1 i hi h3
      have hen := hB.2.1 j j1
      have e29 := hXB j j1
      rw [j2] at e29
      rw [h3, e29, nI_lt' (by omega) (by omega)]
      simp only [show ¬ ((3 : Nat) = 1 ∧ bg i + mi i ≤ m) by omega, if_false, true_and]
      constructor
      · rintro ⟨-, z⟩
        rcases hb with ⟨a1, a2, a3⟩ | ⟨a1, a2, a3⟩ | ⟨a1, a2, a3⟩
        · omega
        · exact a1
        · have := a3 h3 j j1 j2
          omega
      · intro z
        refine ⟨hi, ?_⟩
        rcases hb with ⟨a1, a2, a3⟩ | ⟨a1, a2, k, a3, a4, a5⟩ | ⟨a1, a2, a3⟩
        · omega
        · have := BK_inj hB a3 j1 (by rw [a4, j2])
          subst this
          omega
        · omega
    · constructor
      · rintro ⟨-, z, -⟩
        by_cases h1 : st i = 1 ∧ bg i + mi i ≤ m
        · rw [if_pos h1] at z
          exact absurd z (by decide)
        · rw [if_neg h1, nI_eq' (hst i hi) (by omega)] at z
          exact absurd z h3
      · intro z; exact absurd z.1 h3
  have hs2 : ∀ i, i < N → f2 i = nI (st' i) ∧ g2 i = eb st' bg i ∧ k2 i = b2 (sf' i) := by
    intro i hi
    obtain ⟨v1, v2, v3, v4⟩ := u4 i
    have hb := c1 i hi
    have w := hW i hi
    by_cases hc : st i = 3 ∧ st' i = 0
    · have hc' := (hcd i hi).mpr hc
      rw [if_pos hc'] at v1 v2 v4
      refine ⟨by rw [v1, hc.2]; rfl, by rw [v2]; unfold eb; rw [if_pos hc.2], ?_⟩
      rw [v4]
      have : sf' i = false := by
        cases hsf : sf' i with
        | false => rfl
        | true =>
          rcases (c2 i hi).mp hsf with z | z
          · have := w.2.2.2.2.2.2.2 z
            omega
          · have := z.1; omega
      rw [this]; rfl
    · have hc' := fun z => hc ((hcd i hi).mp z)
      rw [if_neg hc'] at v1 v2 v4
      refine ⟨?_, ?_, ?_⟩
      · rw [v1, hf1 i hi]
        congr 1
        by_cases h1 : st i = 1 ∧ bg i + mi i ≤ m
        · rw [if_pos h1]
          rcases hb with ⟨a1, a2, a3⟩ | ⟨a1, a2, a3⟩ | ⟨a1, a2, a3⟩
          · exact a1.symm
          · omega
          · have := a2 h1.1; omega
        · rw [if_neg h1]
          rcases hb with ⟨a1, a2, a3⟩ | ⟨a1, a2, a3⟩ | ⟨a1, a2, a3⟩
          · exact absurd ⟨a2, a3⟩ h1
          · exact absurd ⟨a2, a1⟩ hc
          · exact a1.symm
      · rw [v2, (hx2 i hi).2.1]
        unfold eb
        have : st' i = 0 ↔ st i = 0 := by
          rcases hb with ⟨a1, a2, a3⟩ | ⟨a1, a2, a3⟩ | ⟨a1, a2, a3⟩
          · omega
          · exact absurd ⟨a2, a1⟩ hc
          · rw [a1]
        by_cases h0 : st i = 0
        · rw [if_pos h0, if_pos (this.mpr h0)]
        · rw [if_neg h0, if_neg (fun z => h0 (this.mp z))]
      · rw [v4, u3 i, (hx2 i hi).2.2.1, hf1 i hi]
        have e2 : nI (if st i = 1 ∧ bg i + mi i ≤ m then 2 else st i) = 2 ↔ st' i = 2 := by
          by_cases h1 : st i = 1 ∧ bg i + mi i ≤ m
          · rw [if_pos h1]
            rcases hb with ⟨a1, a2, a3⟩ | ⟨a1, a2, a3⟩ | ⟨a1, a2, a3⟩
            · exact ⟨fun _ => a1, fun _ => rfl⟩
            · omega
            · have := a2 h1.1; omega
          · rw [if_neg h1, nI_2', nI_eq' (hst i hi) (by omega)]
            rcases hb with ⟨a1, a2, a3⟩ | ⟨a1, a2, a3⟩ | ⟨a1, a2, a3⟩
            · exact absurd ⟨a2, a3⟩ h1
            · omega
            · rw [a1]
        have key : (i < N ∧ nI (if st i = 1 ∧ bg i + mi i ≤ m then 2 else st i) = 2 ∧ ¬ lp < ga s 23 i + ga s 25 i) ↔ (st' i = 2 ∧ ∃ p, p < N ∧ st p = 1 ∧ pt p = true ∧ bg p + mi p ≤ m ∧ bg i + mi i ≤ bg p + mi p) := by
          rw [e2]
          constructor
          · rintro ⟨-, z1, z2⟩
            refine ⟨z1, (hlp i hi ?_).mp z2⟩
            rcases hb with ⟨a1, a2, a3⟩ | ⟨a1, a2, a3⟩ | ⟨a1, a2, a3⟩ <;> omega
          · rintro ⟨z1, z2⟩
            refine ⟨hi, z1, (hlp i hi ?_).mpr z2⟩
            rcases hb with ⟨a1, a2, a3⟩ | ⟨a1, a2, a3⟩ | ⟨a1, a2, a3⟩ <;> omega
        have c2i := c2 i hi
        by_cases hk : (i < N ∧ nI (if st i = 1 ∧ bg i + mi i ≤ m then 2 else st i) = 2 ∧ ¬ lp < ga s 23 i + ga s 25 i)
        · rw [if_pos hk]
          have : sf' i = true := c2i.mpr (Or.inr (key.mp hk))
          rw [this]; rfl
        · rw [if_neg hk]
          congr 1
          cases hsf : sf' i with
          | true =>
            rcases c2i.mp hsf with z | z
            · exact z
            · exact absurd (key.mpr z) hk
          | false =>
            cases hs0 : sf i with
            | false => rfl
            | true =>
              have := c2i.mpr (Or.inl hs0)
              rw [hsf] at this; cases this
  refine ⟨⟨by simp only [gi_wS, gi_si, ga_sa, gi_sa, gi_sb, gi_sp, ga_si, ga_sb, ga_sp, gb_si, gb_sa, gb_sb, gb_sp, gp_si, gp_sa, gp_sb, gp_sp, if_true, if_false, ↓reduceIte, Nat.reduceEqDiff]; exact hx1, fun i hi => ?_⟩, fun k hk => ?_⟩
  · simp only [ga_wS, gi_si, ga_sa, gi_sa, gi_sb, gi_sp, ga_si, ga_sb, ga_sp, gb_si, gb_sa, gb_sb, gb_sp, gp_si, gp_sa, gp_sb, gp_sp, if_true, if_false, ↓reduceIte, Nat.reduceEqDiff]
    obtain ⟨a1, a2, a3⟩ := hs2 i hi
    obtain ⟨b1, b2', b3, b4, b5, b6, b7⟩ := hx2 i hi
    exact ⟨a1, a2, a3, b4, b5, b6, b7⟩
  · simp only [ga_wS, gi_si, ga_sa, gi_sa, gi_sb, gi_sp, ga_si, ga_sb, ga_sp, gb_si, gb_sa, gb_sb, gb_sp, gp_si, gp_sa, gp_sb, gp_sp, if_true, if_false, ↓reduceIte, Nat.reduceEqDiff]
    rw [c7, c8, (u4 _).2.2.1, if_neg, hXB (k + c) (by omega)]
    obtain ⟨q1, q2, q3, q4⟩ := hB.2.1 (k + c) (by omega)
    intro z
    have := (hcd _ q1).mp z
    rcases c1 _ q1 with ⟨a1, a2, a3⟩ | ⟨a1, a2, j, a3, a4, a5⟩ | ⟨a1, a2, a3⟩
    · omega
    · have := BK_inj hB a3 (by omega) a4
      subst this
      have := c6 (by omega)
      have y := BK_mono hB c k (by omega)
      rw [show c + k = k + c by omega] at y
      omega
    · omega
