/-! tick: the class's side, and both. -/
theorem LPf_is (now : Int32) (du pt f : Nat → Int32) (x : Int32) (hx : 0 ≤ x.toInt) : ∀ n, ¬ LPf now du pt f n < x ↔ ∃ p, p < n ∧ f p = 1 ∧ ¬ now < du p ∧ ¬ pt p = 0 ∧ ¬ du p < x
  | 0 => by
    have h : (-1 : Int32) < x := by rw [i_lt, i_lm1]; omega
    constructor
    · intro z; exact absurd h z
    · rintro ⟨p, hp, -⟩; omega
  | n + 1 => by
    have ih := LPf_is now du pt f x hx n
    have ext : (∃ p, p < n + 1 ∧ f p = 1 ∧ ¬ now < du p ∧ ¬ pt p = 0 ∧ ¬ du p < x) ↔ ((∃ p, p < n ∧ f p = 1 ∧ ¬ now < du p ∧ ¬ pt p = 0 ∧ ¬ du p < x) ∨ ((f n = 1 ∧ ¬ now < du n ∧ ¬ pt n = 0) ∧ ¬ du n < x)) := by
      constructor
      · rintro ⟨p, h1, h2, h3, h4, h5⟩
        by_cases e : p = n
        · subst e; exact Or.inr ⟨⟨h2, h3, h4⟩, h5⟩
        · exact Or.inl ⟨p, by omega, h2, h3, h4, h5⟩
      · rintro (⟨p, h1, h2⟩ | ⟨⟨h2, h3, h4⟩, h5⟩)
        · exact ⟨p, by omega, h2⟩
        · exact ⟨n, by omega, h2, h3, h4, h5⟩
    rw [ext, ← ih]
    show ¬ (if f n = 1 ∧ ¬ now < du n ∧ ¬ pt n = 0 then (if LPf now du pt f n < du n then du n else LPf now du pt f n) else LPf now du pt f n) < x ↔ _
    by_cases hc : f n = 1 ∧ ¬ now < du n ∧ ¬ pt n = 0
    · rw [if_pos hc]
      by_cases hl : LPf now du pt f n < du n
      · rw [if_pos hl]
        constructor
        · intro z; exact Or.inr ⟨hc, z⟩
        · rintro (z | z)
          · rw [i_lt] at z hl ⊢; omega
          · exact z.2
      · rw [if_neg hl]
        constructor
        · intro z; exact Or.inl z
        · rintro (z | z)
          · exact z
          · have z2 := z.2
            rw [i_lt] at z2 hl ⊢; omega
    · rw [if_neg hc]
      constructor
      · exact Or.inl
      · rintro (z | z)
        · exact z
        · exact absurd z.1 hc
theorem c_moveTo {d : Nat} {s : nm_S} {Q : nm_K} {N T m r : Nat} {st bg mi nd bk : Nat → Nat} {pt sf : Nat → Bool} {ro en : Nat → Nat} (hN : N ≤ 10) (hm : T ≤ m) (hm2 : m ≤ 2000) (hX : XR s N st bg mi nd bk pt sf) (hW : WF N T st bg mi nd bk sf) (hB : BK N T r st bg bk ro en) (hXB : XB s r ro en) (hQ : ∀ t : nm_S, (∀ (st' : Nat → Nat) (sf' : Nat → Bool) (r' : Nat) (ro' en' : Nat → Nat), Cl N m mi bg pt st sf r ro en st' sf' r' ro' en' → XR t N st' bg mi nd bk pt sf' ∧ XB t r' ro' en') → Fr [] [22, 23, 24, 29] s t → Q [] (rep t)) : nm_call (d + 3) 48 [.ref 21, .int (nI m)] (rep s) Q := by
  obtain ⟨hx1, hx2⟩ := hX
  rw [e_X5_moveTo]
  simp only [r_X5_moveTo_0, r_X5_moveTo_1, r_X5_moveTo_2, r_X5_moveTo_3, r_X5_moveTo_6, r_X5_moveTo_9, r_X5_moveTo_10, r_X5_moveTo_11, r_X5_moveTo_14, ob_21, gt_21_0, gt_21_1, gt_21_2, gt_21_3, pt_21_3, gt_21_4, pt_21_4, gt_21_5, gt_21_6, gt_21_7, gt_21_8, gt_21_9, gt_21_10, List.cons_append, List.nil_append, List.append_nil, if_true, if_false, true_and, and_true, true_or, or_true, nm_b_some]
  obtain ⟨u1, u2⟩ := fr1_is (nI m) (fun i => ga s 23 i + ga s 25 i) (ga s 28) (ga s 22) N
  refine c_finish hx1 hN ?_
  generalize lpf (fr1 (nI m) (fun i => ga s 23 i + ga s 25 i) (ga s 28)) N 0 (ga s 22, -1) = a at u1 u2
  obtain ⟨f1, lp⟩ := a
  dsimp only at u1 u2 ⊢
  simp only [r_X5_moveTo_6, ob_21, gt_21_0, gt_21_1, gt_21_2, gt_21_3, pt_21_3, gt_21_4, pt_21_4, gt_21_5, gt_21_6, gt_21_7, gt_21_8, gt_21_9, gt_21_10, List.cons_append, List.nil_append, List.append_nil, if_true, if_false, true_and, and_true, true_or, or_true, nm_b_some]
  refine c_makeSafe (s := sa s 22 f1) (N := N) (by simp only [gi_si, ga_sa, gi_sa, gi_sb, gi_sp, ga_si, ga_sb, ga_sp, gb_si, gb_sa, gb_sb, gb_sp, gp_si, gp_sa, gp_sb, gp_sp, if_true, if_false, ↓reduceIte, Nat.reduceEqDiff]; exact hx1) hN ?_
  simp only [gi_si, ga_sa, gi_sa, gi_sb, gi_sp, ga_si, ga_sb, ga_sp, gb_si, gb_sa, gb_sb, gb_sp, gp_si, gp_sa, gp_sb, gp_sp, if_true, if_false, ↓reduceIte, Nat.reduceEqDiff]
  have u3 := ms1_is lp (fun i => ga s 23 i + ga s 25 i) f1 (ga s 24) N
  generalize lpf (ms1 lp (fun i => ga s 23 i + ga s 25 i) f1) N 0 (ga s 24) = k1 at u3
  simp only [r_X5_moveTo_9, r_X5_moveTo_10, r_X5_moveTo_11, ob_21, gt_21_0, gt_21_1, gt_21_2, gt_21_3, pt_21_3, gt_21_4, pt_21_4, gt_21_5, gt_21_6, gt_21_7, gt_21_8, gt_21_9, gt_21_10, List.cons_append, List.nil_append, List.append_nil, if_true, if_false, true_and, and_true, true_or, or_true, nm_b_some]
  refine c_clearTB (s := sa (sa s 22 f1) 24 k1) (N := N) (by simp only [gi_si, ga_sa, gi_sa, gi_sb, gi_sp, ga_si, ga_sb, ga_sp, gb_si, gb_sa, gb_sb, gb_sp, gp_si, gp_sa, gp_sb, gp_sp, if_true, if_false, ↓reduceIte, Nat.reduceEqDiff]; exact hx1) hN (fun b hb0 => ?_)
  simp only [gi_si, ga_sa, gi_sa, gi_sb, gi_sp, ga_si, ga_sb, ga_sp, gb_si, gb_sa, gb_sb, gb_sp, gp_si, gp_sa, gp_sb, gp_sp, if_true, if_false, ↓reduceIte, Nat.reduceEqDiff] at hb0
  have u4 := ct1_is (nI m) f1 (ga s 23) (ga s 29) k1 N
  rw [← hb0] at u4
  obtain ⟨f2, g2, h2, k2⟩ := b
  clear hb0
  dsimp only at u4 ⊢
  have hst : ∀ k, k < N → st k < 2147483648 := fun k hk => by have := (hW k hk).2.2.2.1; omega
  have hdu : ∀ i, i < N → st i ≠ 0 → ga s 23 i + ga s 25 i = nI (bg i + mi i) := by
    intro i hi h0
    rw [(hx2 i hi).2.1, (hx2 i hi).2.2.2.1]
    unfold eb
    rw [if_neg h0, nI_ad]
  have hdl : ∀ i, i < N → st i ≠ 0 → bg i + mi i ≤ 2060 := by
    intro i hi h0
    have w := hW i hi
    have : st i = 1 ∨ st i = 2 ∨ st i = 3 := by omega
    rcases this with e | e | e
    · have := w.2.2.2.2.1 e; omega
    · have := w.2.2.2.2.2.1 e; omega
    · have := w.2.2.2.2.2.2.1 e; omega
  have hf1 : ∀ i, i < N → f1 i = nI (if st i = 1 ∧ bg i + mi i ≤ m then 2 else st i) := by
    intro i hi
    rw [u1 i, (hx2 i hi).1]
    by_cases h1 : st i = 1
    · have e : nI m < ga s 23 i + ga s 25 i ↔ m < bg i + mi i := by
        rw [hdu i hi (by omega), nI_lt' (by omega) (by have := hdl i hi (by omega); omega)]
      by_cases h2 : bg i + mi i ≤ m
      · rw [if_pos ⟨hi, by rw [h1]; rfl, fun z => by have := e.mp z; omega⟩, if_pos ⟨h1, h2⟩]; rfl
      · rw [if_neg (fun z => z.2.2 (e.mpr (by omega))), if_neg (fun z => h2 z.2)]
    · rw [if_neg (fun z => h1 ((nI_eq' (hst i hi) (by omega)).mp z.2.1)), if_neg (fun z => h1 z.1)]
  have hlp : ∀ i, i < N → st i ≠ 0 → (¬ lp < ga s 23 i + ga s 25 i ↔ ∃ p, p < N ∧ st p = 1 ∧ pt p = true ∧ bg p + mi p ≤ m ∧ bg i + mi i ≤ bg p + mi p) := by
    intro i hi h0
    have hb := hdl i hi h0
    rw [u2, hdu i hi h0, LPf_is _ _ _ _ _ (by rw [i_nI (by omega)]; omega)]
    constructor
    · rintro ⟨p, p1, p2, p3, p4, p5⟩
      rw [(hx2 p p1).1, nI_1', nI_eq' (hst p p1) (by omega)] at p2
      have hb2 := hdl p p1 (by omega)
      rw [hdu p p1 (by omega), nI_lt' (by omega) (by omega)] at p3
      rw [hdu p p1 (by omega), nI_lt' (by omega) (by omega)] at p5
      rw [(hx2 p p1).2.2.2.2.2.2, b2_0] at p4
      exact ⟨p, p1, p2, by simpa using p4, by omega, by omega⟩
    · rintro ⟨p, p1, p2, p3, p4, p5⟩
      have hb2 := hdl p p1 (by omega)
      refine ⟨p, p1, ?_, ?_, ?_, ?_⟩
      · rw [(hx2 p p1).1, p2]; rfl
      · rw [hdu p p1 (by omega), nI_lt' (by omega) (by omega)]; omega
      · rw [(hx2 p p1).2.2.2.2.2.2, b2_0, p3]; decide
      · rw [hdu p p1 (by omega), nI_lt' (by omega) (by omega)]; omega
  simp only [r_X5_moveTo_14, List.cons_append, List.nil_append, List.append_nil, if_true, if_false, true_and, and_true, true_or, or_true, nm_b_some]
  refine hQ _ (fun st' sf' r' ro' en' hcl => ?_) (by unfold wS; exact (((((Fr.rf.sa (by decide)).sa (by decide)).sa (by decide)).sa (by decide)).sa (by decide)).sa (by decide))
  obtain ⟨c1, c2, c, c3, c4, c5, c6, c7, c8⟩ := hcl
  -- what is cleared
  have hcd : ∀ i, i < N → ((i < N ∧ f1 i = 3 ∧ ¬ nI m < ga s 29 i) ↔ st i = 3 ∧ st' i = 0) := by
    intro i hi
    rw [hf1 i hi, nI_3']
    have hb := c1 i hi
    by_cases h3 : st i = 3
    · obtain ⟨j, j1, j2⟩ := hB.2.2.2.2.1 i hi h3
      have hen := hB.2.1 j j1
      have e29 := hXB j j1
      rw [j2] at e29
      rw [h3, e29, nI_lt' (by omega) (by omega)]
      simp only [show ¬ ((3 : Nat) = 1 ∧ bg i + mi i ≤ m) by omega, if_false, true_and]
      constructor
      · rintro ⟨-, z⟩
        rcases hb with ⟨a1, a2, a3⟩ | ⟨a1, a2, a3⟩ | ⟨a1, a2, a3⟩
        · omega
        · exact a1
        · have := a3 h3 j j1 j2
          omega
      · intro z
        refine ⟨hi, ?_⟩
        rcases hb with ⟨a1, a2, a3⟩ | ⟨a1, a2, k, a3, a4, a5⟩ | ⟨a1, a2, a3⟩
        · omega
        · have := BK_inj hB a3 j1 (by rw [a4, j2])
          subst this
          omega
        · omega
    · constructor
      · rintro ⟨-, z, -⟩
        by_cases h1 : st i = 1 ∧ bg i + mi i ≤ m
        · rw [if_pos h1] at z
          exact absurd z (by decide)
        · rw [if_neg h1, nI_eq' (hst i hi) (by omega)] at z
          exact absurd z h3
      · intro z; exact absurd z.1 h3
  have hs2 : ∀ i, i < N → f2 i = nI (st' i) ∧ g2 i = eb st' bg i ∧ k2 i = b2 (sf' i) := by
    intro i hi
    obtain ⟨v1, v2, v3, v4⟩ := u4 i
    have hb := c1 i hi
    have w := hW i hi
    by_cases hc : st i = 3 ∧ st' i = 0
    · have hc' := (hcd i hi).mpr hc
      rw [if_pos hc'] at v1 v2 v4
      refine ⟨by rw [v1, hc.2]; rfl, by rw [v2]; unfold eb; rw [if_pos hc.2], ?_⟩
      rw [v4]
      have : sf' i = false := by
        cases hsf : sf' i with
        | false => rfl
        | true =>
          rcases (c2 i hi).mp hsf with z | z
          · have := w.2.2.2.2.2.2.2 z
            omega
          · have := z.1; omega
      rw [this]; rfl
    · have hc' := fun z => hc ((hcd i hi).mp z)
      rw [if_neg hc'] at v1 v2 v4
      refine ⟨?_, ?_, ?_⟩
      · rw [v1, hf1 i hi]
        congr 1
        by_cases h1 : st i = 1 ∧ bg i + mi i ≤ m
        · rw [if_pos h1]
          rcases hb with ⟨a1, a2, a3⟩ | ⟨a1, a2, a3⟩ | ⟨a1, a2, a3⟩
          · exact a1.symm
          · omega
          · have := a2 h1.1; omega
        · rw [if_neg h1]
          rcases hb with ⟨a1, a2, a3⟩ | ⟨a1, a2, a3⟩ | ⟨a1, a2, a3⟩
          · exact absurd ⟨a2, a3⟩ h1
          · exact absurd ⟨a2, a1⟩ hc
          · exact a1.symm
      · rw [v2, (hx2 i hi).2.1]
        unfold eb
        have : st' i = 0 ↔ st i = 0 := by
          rcases hb with ⟨a1, a2, a3⟩ | ⟨a1, a2, a3⟩ | ⟨a1, a2, a3⟩
          · omega
          · exact absurd ⟨a2, a1⟩ hc
          · rw [a1]
        by_cases h0 : st i = 0
        · rw [if_pos h0, if_pos (this.mpr h0)]
        · rw [if_neg h0, if_neg (fun z => h0 (this.mp z))]
      · rw [v4, u3 i, (hx2 i hi).2.2.1, hf1 i hi]
        have e2 : nI (if st i = 1 ∧ bg i + mi i ≤ m then 2 else st i) = 2 ↔ st' i = 2 := by
          by_cases h1 : st i = 1 ∧ bg i + mi i ≤ m
          · rw [if_pos h1]
            rcases hb with ⟨a1, a2, a3⟩ | ⟨a1, a2, a3⟩ | ⟨a1, a2, a3⟩
            · exact ⟨fun _ => a1, fun _ => rfl⟩
            · omega
            · have := a2 h1.1; omega
          · rw [if_neg h1, nI_2', nI_eq' (hst i hi) (by omega)]
            rcases hb with ⟨a1, a2, a3⟩ | ⟨a1, a2, a3⟩ | ⟨a1, a2, a3⟩
            · exact absurd ⟨a2, a3⟩ h1
            · omega
            · rw [a1]
        have key : (i < N ∧ nI (if st i = 1 ∧ bg i + mi i ≤ m then 2 else st i) = 2 ∧ ¬ lp < ga s 23 i + ga s 25 i) ↔ (st' i = 2 ∧ ∃ p, p < N ∧ st p = 1 ∧ pt p = true ∧ bg p + mi p ≤ m ∧ bg i + mi i ≤ bg p + mi p) := by
          rw [e2]
          constructor
          · rintro ⟨-, z1, z2⟩
            refine ⟨z1, (hlp i hi ?_).mp z2⟩
            rcases hb with ⟨a1, a2, a3⟩ | ⟨a1, a2, a3⟩ | ⟨a1, a2, a3⟩ <;> omega
          · rintro ⟨z1, z2⟩
            refine ⟨hi, z1, (hlp i hi ?_).mpr z2⟩
            rcases hb with ⟨a1, a2, a3⟩ | ⟨a1, a2, a3⟩ | ⟨a1, a2, a3⟩ <;> omega
        have c2i := c2 i hi
        by_cases hk : (i < N ∧ nI (if st i = 1 ∧ bg i + mi i ≤ m then 2 else st i) = 2 ∧ ¬ lp < ga s 23 i + ga s 25 i)
        · rw [if_pos hk]
          have : sf' i = true := c2i.mpr (Or.inr (key.mp hk))
          rw [this]; rfl
        · rw [if_neg hk]
          congr 1
          cases hsf : sf' i with
          | true =>
            rcases c2i.mp hsf with z | z
            · exact z
            · exact absurd (key.mpr z) hk
          | false =>
            cases hs0 : sf i with
            | false => rfl
            | true =>
              have := c2i.mpr (Or.inl hs0)
              rw [hsf] at this; cases this
  refine ⟨⟨by simp only [gi_wS, gi_si, ga_sa, gi_sa, gi_sb, gi_sp, ga_si, ga_sb, ga_sp, gb_si, gb_sa, gb_sb, gb_sp, gp_si, gp_sa, gp_sb, gp_sp, if_true, if_false, ↓reduceIte, Nat.reduceEqDiff]; exact hx1, fun i hi => ?_⟩, fun k hk => ?_⟩
  · simp only [ga_wS, gi_si, ga_sa, gi_sa, gi_sb, gi_sp, ga_si, ga_sb, ga_sp, gb_si, gb_sa, gb_sb, gb_sp, gp_si, gp_sa, gp_sb, gp_sp, if_true, if_false, ↓reduceIte, Nat.reduceEqDiff]
    obtain ⟨a1, a2, a3⟩ := hs2 i hi
    obtain ⟨b1, b2', b3, b4, b5, b6, b7⟩ := hx2 i hi
    exact ⟨a1, a2, a3, b4, b5, b6, b7⟩
  · simp only [ga_wS, gi_si, ga_sa, gi_sa, gi_sb, gi_sp, ga_si, ga_sb, ga_sp, gb_si, gb_sa, gb_sb, gb_sp, gp_si, gp_sa, gp_sb, gp_sp, if_true, if_false, ↓reduceIte, Nat.reduceEqDiff]
    rw [c7, c8, (u4 _).2.2.1, if_neg, hXB (k + c) (by omega)]
    obtain ⟨q1, q2, q3, q4⟩ := hB.2.1 (k + c) (by omega)
    intro z
    have := (hcd _ q1).mp z
    rcases c1 _ q1 with ⟨a1, a2, a3⟩ | ⟨a1, a2, j, a3, a4, a5⟩ | ⟨a1, a2, a3⟩
    · omega
    · have := BK_inj hB a3 (by omega) a4
      subst this
      have := c6 (by omega)
      have y := BK_mono hB c k (by omega)
      rw [show c + k = k + c by omega] at y
      omega
    · omega
theorem st_tick {s : nm_S} (x : Int32) (h : IvS s) (hb : IvB s) : ∃ v s1 s2, Runs 83 [.ref 0, .int x] s v s1 ∧ Runs 128 [.ref 40, .int x] s1 v s2 ∧ Fr [9, 4000, 4034, 4035] [22, 23, 24, 29, 59, 60, 61, 62] s s2 ∧ IvS s2 ∧ IvB s2 := by
  have hI := h
  obtain ⟨N, T, r, st, bg, mi, nd, bk, pt, sf, ro, en, ⟨h1, h2⟩, ⟨h3, h4⟩, h5, hX, hM, hW, hB, hMB, hXB⟩ := h
  have l500 : (500 : Int32) = nI 500 := rfl
  have l2000 : (2000 : Int32) = nI 2000 := rfl
  by_cases hx : 0 ≤ x ∧ x ≤ 500
  · obtain ⟨n, hn, rfl⟩ : ∃ n : Nat, n ≤ 500 ∧ x = nI n := by
      have hx' := hx
      rw [i_le, i_le, i_l0, i_l500] at hx'
      exact ⟨x.toInt.toNat, by omega, i_of hx'.1⟩
    have hle : (2000 : Int32) < nI T + nI n ↔ 2000 < T + n := by rw [nI_ad, l2000, nI_lt' (by omega) (by omega)]
    by_cases hT : 2000 < T + n
    · have hle' := hle.mpr hT
      refine ⟨-1, s, s, ?_, ?_, Fr.rf, hI, hb⟩
      · intro Q hQ
        simp only [e_X8_tick, r_X8_tick_0, r_X8_tick_1, r_X8_tick_2, r_X8_tick_5, r_X8_tick_8, r_X8_tick_11, r_X8_tick_12, r_X8_tick_15, r_X8_tick_16, r_X8_tick_17, r_X8_tick_20, r_X8_tick_23, r_X8_tick_24, ob_0, gt_0_0, gt_0_1, gt_0_2, gt_0_3, gt_0_4, gt_0_5, gt_0_6, gt_0_7, gt_0_8, gt_0_9, pt_0_9, gt_0_10, pt_0_10, gt_0_11, pt_0_11, List.cons_append, List.nil_append, List.append_nil, if_true, if_false, true_and, and_true, true_or, or_true, nm_b_some, c_within, b_0, hx, and_self, not_true_eq_false, h3, hle']
        exact hQ
      · intro Q hQ
        simp only [e_X9_tick, r_X9_tick_0, r_X9_tick_1, r_X9_tick_2, r_X9_tick_5, r_X9_tick_8, r_X9_tick_11, r_X9_tick_12, r_X9_tick_15, r_X9_tick_16, r_X9_tick_17, r_X9_tick_20, r_X9_tick_23, r_X9_tick_24, ob_40, gt_40_0, pt_40_0, gt_40_1, pt_40_1, gt_40_2, pt_40_2, gt_40_3, pt_40_3, gt_40_4, pt_40_4, gt_40_5, pt_40_5, gt_40_6, pt_40_6, gt_40_7, pt_40_7, gt_40_8, pt_40_8, gt_40_9, pt_40_9, gt_40_10, pt_40_10, gt_40_11, gt_40_12, gt_40_13, gt_40_14, gt_40_15, gt_40_16, gt_40_17, gt_40_18, gt_40_19, gt_40_20, gt_40_21, gt_40_22, pt_40_22, gt_40_23, gt_40_24, gt_40_25, gt_40_26, gt_40_27, gt_40_28, gt_40_29, gt_40_30, gt_40_31, gt_40_32, gt_40_33, gt_40_34, pt_40_34, gt_40_35, pt_40_35, gt_40_36, gt_40_37, gt_40_38, gt_40_39, gt_40_40, gt_40_41, pt_40_41, gt_40_42, pt_40_42, gt_40_43, pt_40_43, gt_40_44, pt_40_44, gt_40_45, pt_40_45, gt_40_46, pt_40_46, gt_40_47, List.cons_append, List.nil_append, List.append_nil, if_true, if_false, true_and, and_true, true_or, or_true, nm_b_some, c_in, b_0, hx, and_self, not_true_eq_false, h4, hle']
        exact hQ
    · have hle' : ¬ (2000 : Int32) < nI T + nI n := fun z => hT (hle.mp z)
      have hle2 : ¬ (2000 : Int32) < nI (T + n) := by rw [← nI_ad]; exact hle'
      have kX : ∃ x t1, Runs 83 [.ref 0, .int (nI n)] s x t1 ∧ (x = nI (T + n) ∧ (∀ (st' : Nat → Nat) (sf' : Nat → Bool) (r' : Nat) (ro' en' : Nat → Nat), Cl N (T + n) mi bg pt st sf r ro en st' sf' r' ro' en' → XR t1 N st' bg mi nd bk pt sf' ∧ XB t1 r' ro' en') ∧ gi t1 9 = nI (T + n) ∧ Fr [9] [22, 23, 24, 29] s t1) := by
        refine Runs_of ?_
        simp only [e_X8_tick, r_X8_tick_0, r_X8_tick_1, r_X8_tick_2, r_X8_tick_5, r_X8_tick_8, r_X8_tick_11, r_X8_tick_12, r_X8_tick_15, r_X8_tick_16, r_X8_tick_17, r_X8_tick_20, r_X8_tick_23, r_X8_tick_24, r_X8_tick_25, r_X8_tick_26, r_X8_tick_27, r_X8_tick_30, r_X8_tick_31, r_X8_tick_32, r_X8_tick_35, r_X8_tick_36, r_X8_tick_39, r_X8_tick_40, r_X8_tick_43, r_X8_tick_46, r_X8_tick_47, r_X8_tick_50, ob_0, gt_0_0, gt_0_1, gt_0_2, gt_0_3, gt_0_4, gt_0_5, gt_0_6, gt_0_7, gt_0_8, gt_0_9, pt_0_9, gt_0_10, pt_0_10, gt_0_11, pt_0_11, ob_21, gt_21_0, gt_21_1, gt_21_2, gt_21_3, pt_21_3, gt_21_4, pt_21_4, gt_21_5, gt_21_6, gt_21_7, gt_21_8, gt_21_9, gt_21_10, List.cons_append, List.nil_append, List.append_nil, if_true, if_false, true_and, and_true, true_or, or_true, nm_b_some, gi_si, ga_sa, gi_sa, gi_sb, gi_sp, ga_si, ga_sb, ga_sp, gb_si, gb_sa, gb_sb, gb_sp, gp_si, gp_sa, gp_sb, gp_sp, if_true, if_false, ↓reduceIte, Nat.reduceEqDiff, c_within, b_0, hx, and_self, not_true_eq_false, h3, hle2, nI_ad]
        refine c_moveTo (s := si s 9 (nI (T + n))) (N := N) (T := T) (r := r) (st := st) (bg := bg) (mi := mi) (nd := nd) (bk := bk) (pt := pt) (sf := sf) (ro := ro) (en := en) h1 (by omega) (by omega) (by unfold XR at hX ⊢; simp only [gi_si, ga_sa, gi_sa, gi_sb, gi_sp, ga_si, ga_sb, ga_sp, gb_si, gb_sa, gb_sb, gb_sp, gp_si, gp_sa, gp_sb, gp_sp, if_true, if_false, ↓reduceIte, Nat.reduceEqDiff]; exact hX) hW hB (by unfold XB at hXB ⊢; simp only [gi_si, ga_sa, gi_sa, gi_sb, gi_sp, ga_si, ga_sb, ga_sp, gb_si, gb_sa, gb_sb, gb_sp, gp_si, gp_sa, gp_sb, gp_sp, if_true, if_false, ↓reduceIte, Nat.reduceEqDiff]; exact hXB) (fun t ht hf => ?_)
        have e9 : gi t 9 = nI (T + n) := by rw [hf.1 9 (by decide)]; simp only [gi_si, ga_sa, gi_sa, gi_sb, gi_sp, ga_si, ga_sb, ga_sp, gb_si, gb_sa, gb_sb, gb_sp, gp_si, gp_sa, gp_sb, gp_sp, if_true, if_false, ↓reduceIte, Nat.reduceEqDiff]
        simp only [r_X8_tick_46, r_X8_tick_47, r_X8_tick_50, ob_0, gt_0_0, gt_0_1, gt_0_2, gt_0_3, gt_0_4, gt_0_5, gt_0_6, gt_0_7, gt_0_8, gt_0_9, pt_0_9, gt_0_10, pt_0_10, gt_0_11, pt_0_11, List.cons_append, List.nil_append, List.append_nil, if_true, if_false, true_and, and_true, true_or, or_true, nm_b_some, e9]
        exact ⟨_, t, rfl, rfl, rfl, ht, e9, (Fr.rf.si (by decide)).tr (hf.mono (by decide) (by decide))⟩
      obtain ⟨x, t1, r1, rfl, x1, x2, x3⟩ := kX
      have kM : ∃ x t2, Runs 128 [.ref 40, .int (nI n)] t1 x t2 ∧ (x = nI (T + n) ∧ ∃ (st' : Nat → Nat) (sf' : Nat → Bool) (r' : Nat) (ro' en' : Nat → Nat), gi t2 4000 = nI (T + n) ∧ MR t2 N st' bg mi nd bk pt sf' ∧ MB t2 (T + n) r' ro' en' ∧ Cl N (T + n) mi bg pt st sf r ro en st' sf' r' ro' en' ∧ Fr [4000, 4034, 4035] [59, 60, 61, 62] t1 t2) := by
        refine Runs_of ?_
        have e4 : gi t1 4000 = nI T := by rw [x3.1 4000 (by decide)]; exact h4
        simp only [e_X9_tick, r_X9_tick_0, r_X9_tick_1, r_X9_tick_2, r_X9_tick_5, r_X9_tick_8, r_X9_tick_11, r_X9_tick_12, r_X9_tick_15, r_X9_tick_16, r_X9_tick_17, r_X9_tick_20, r_X9_tick_23, r_X9_tick_24, r_X9_tick_25, r_X9_tick_26, ob_40, gt_40_0, pt_40_0, gt_40_1, pt_40_1, gt_40_2, pt_40_2, gt_40_3, pt_40_3, gt_40_4, pt_40_4, gt_40_5, pt_40_5, gt_40_6, pt_40_6, gt_40_7, pt_40_7, gt_40_8, pt_40_8, gt_40_9, pt_40_9, gt_40_10, pt_40_10, gt_40_11, gt_40_12, gt_40_13, gt_40_14, gt_40_15, gt_40_16, gt_40_17, gt_40_18, gt_40_19, gt_40_20, gt_40_21, gt_40_22, pt_40_22, gt_40_23, gt_40_24, gt_40_25, gt_40_26, gt_40_27, gt_40_28, gt_40_29, gt_40_30, gt_40_31, gt_40_32, gt_40_33, gt_40_34, pt_40_34, gt_40_35, pt_40_35, gt_40_36, gt_40_37, gt_40_38, gt_40_39, gt_40_40, gt_40_41, pt_40_41, gt_40_42, pt_40_42, gt_40_43, pt_40_43, gt_40_44, pt_40_44, gt_40_45, pt_40_45, gt_40_46, pt_40_46, gt_40_47, List.cons_append, List.nil_append, List.append_nil, if_true, if_false, true_and, and_true, true_or, or_true, nm_b_some, c_in, b_0, hx, and_self, not_true_eq_false, e4, hle']
        refine c_Mtick_loop (s := t1) (pt := pt) h1 (by omega) hW hB (fun t st' sf' r' ro' en' a1 a2 a3 a4 a5 => ⟨_, t, rfl, rfl, rfl, st', sf', r', ro', en', a1, a2, a3, a4, a5⟩) n 0 t1 st sf r ro en (by omega) (by rw [Nat.add_zero]; exact e4) ?_ ?_ (Cl_rf hW hB) Fr.rf
        · refine ⟨(x3.1 4004 (by decide)).trans hM.1, ?_, ?_⟩
          · intro i hi
            rw [x3.2.1 59 (by decide), x3.2.1 60 (by decide), x3.2.1 61 (by decide), x3.2.1 55 (by decide), x3.2.1 56 (by decide), x3.2.1 57 (by decide), x3.2.1 58 (by decide)]
            exact hM.2.1 i hi
          · rw [x3.2.1 59 (by decide), x3.2.1 61 (by decide)]
            exact hM.2.2
        · obtain ⟨b1, b2', b3⟩ := hMB
          refine ⟨(x3.1 4034 (by decide)).trans b1, (x3.1 4035 (by decide)).trans b2', ?_⟩
          rw [x3.2.1 62 (by decide)]
          exact b3
      obtain ⟨x, t2, r2, rfl, st', sf', r', ro', en', m1, m2, m3, m4, m5⟩ := kM
      obtain ⟨y1, y2⟩ := x1 st' sf' r' ro' en' m4
      have e9 : gi t2 9 = nI (T + n) := by rw [m5.1 9 (by decide)]; exact x2
      have hfr : Fr [9, 4000, 4034, 4035] [22, 23, 24, 29, 59, 60, 61, 62] s t2 := (x3.mono (by decide) (by decide)).tr (m5.mono (by decide) (by decide))
      refine ⟨_, _, _, r1, r2, hfr, ?_, ?_⟩
      · refine ⟨N, T + n, r', st', bg, mi, nd, bk, pt, sf', ro', en', ⟨h1, by omega⟩, ⟨e9, m1⟩, ?_, ?_, m2, Cl_WF (by omega) hW m4, Cl_BK hB m4, m3, ?_⟩
        · rw [hfr.1 2104 (by decide), hfr.1 4006 (by decide)]; exact h5
        · refine ⟨(m5.1 2103 (by decide)).trans y1.1, ?_⟩
          rw [m5.2.1 22 (by decide), m5.2.1 23 (by decide), m5.2.1 24 (by decide), m5.2.1 25 (by decide), m5.2.1 26 (by decide), m5.2.1 27 (by decide), m5.2.1 28 (by decide)]
          exact y1.2
        · unfold XB
          rw [m5.2.1 29 (by decide)]
          exact y2
      · unfold IvB at hb ⊢
        rw [e9, m1, hfr.1 10 (by decide), hfr.1 4009 (by decide), hfr.1 11 (by decide), hfr.1 4010 (by decide), hfr.1 605 (by decide), hfr.1 4007 (by decide), hfr.1 606 (by decide), hfr.1 4008 (by decide), i_nI (by omega)]
        refine ⟨⟨rfl, hb.1.2⟩, ⟨by omega, by omega⟩, hb.2.2⟩
  · refine ⟨-1, s, s, ?_, ?_, Fr.rf, hI, hb⟩
    · intro Q hQ
      simp only [e_X8_tick, r_X8_tick_0, r_X8_tick_1, r_X8_tick_2, r_X8_tick_5, r_X8_tick_8, r_X8_tick_11, r_X8_tick_12, r_X8_tick_15, r_X8_tick_16, r_X8_tick_17, r_X8_tick_20, r_X8_tick_23, r_X8_tick_24, ob_0, gt_0_0, gt_0_1, gt_0_2, gt_0_3, gt_0_4, gt_0_5, gt_0_6, gt_0_7, gt_0_8, gt_0_9, pt_0_9, gt_0_10, pt_0_10, gt_0_11, pt_0_11, List.cons_append, List.nil_append, List.append_nil, if_true, if_false, true_and, and_true, true_or, or_true, nm_b_some, c_within, b_0, hx, not_false_eq_true]
      exact hQ
    · intro Q hQ
      simp only [e_X9_tick, r_X9_tick_0, r_X9_tick_1, r_X9_tick_2, r_X9_tick_5, r_X9_tick_8, r_X9_tick_11, r_X9_tick_12, r_X9_tick_15, r_X9_tick_16, r_X9_tick_17, r_X9_tick_20, r_X9_tick_23, r_X9_tick_24, ob_40, gt_40_0, pt_40_0, gt_40_1, pt_40_1, gt_40_2, pt_40_2, gt_40_3, pt_40_3, gt_40_4, pt_40_4, gt_40_5, pt_40_5, gt_40_6, pt_40_6, gt_40_7, pt_40_7, gt_40_8, pt_40_8, gt_40_9, pt_40_9, gt_40_10, pt_40_10, gt_40_11, gt_40_12, gt_40_13, gt_40_14, gt_40_15, gt_40_16, gt_40_17, gt_40_18, gt_40_19, gt_40_20, gt_40_21, gt_40_22, pt_40_22, gt_40_23, gt_40_24, gt_40_25, gt_40_26, gt_40_27, gt_40_28, gt_40_29, gt_40_30, gt_40_31, gt_40_32, gt_40_33, gt_40_34, pt_40_34, gt_40_35, pt_40_35, gt_40_36, gt_40_37, gt_40_38, gt_40_39, gt_40_40, gt_40_41, pt_40_41, gt_40_42, pt_40_42, gt_40_43, pt_40_43, gt_40_44, pt_40_44, gt_40_45, pt_40_45, gt_40_46, pt_40_46, gt_40_47, List.cons_append, List.nil_append, List.append_nil, if_true, if_false, true_and, and_true, true_or, or_true, nm_b_some, c_in, b_0, hx, not_false_eq_true]
      exact hQ
