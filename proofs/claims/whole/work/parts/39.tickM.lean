theorem nI_1' : (1 : Int32) = nI 1 := rfl
theorem nI_2' : (2 : Int32) = nI 2 := rfl
theorem nI_3' : (3 : Int32) = nI 3 := rfl
/-- the first half of a minute: what goes back -/
theorem c_min1 {d : Nat} {s : nm_S} {Q : nm_K} {N T r : Nat} {st bg mi nd bk : Nat → Nat} {pt sf : Nat → Bool} {ro en : Nat → Nat} (hN : N ≤ 10) (hT : T < 2000) (h4 : gi s 4000 = nI T) (hM : MR s N st bg mi nd bk pt sf) (hW : WF N T st bg mi nd bk sf) (hB : BK N T r st bg bk ro en) (hMB : MB s T r ro en) (hQ : ∀ (t : nm_S) (K : Nat), K ≤ r → gi t 4000 = nI (T + 1) → (∀ j, j < K → en j ≤ T + 1) → (K < r → T + 1 < en K) → (∀ i, ((∃ j, j < K ∧ ro j = i) → ga t 59 i = 0 ∧ ga t 60 i = -1) ∧ ((¬ ∃ j, j < K ∧ ro j = i) → ga t 59 i = ga s 59 i ∧ ga t 60 i = ga s 60 i)) → MB t (T + 1) (r - K) (fun j => ro (j + K)) (fun j => en (j + K)) → Fr [4000, 4034, 4035] [59, 60, 62] s t → ∀ z1 z2 : Value, x_X9_minute (d + 1) Q 31 [.ref 40, z1, z2] [] (rep t) 0 0) : nm_call (d + 2) 127 [.ref 40] (rep s) Q := by
  have hr10 : r ≤ 10 := by have := hB.1; omega
  obtain ⟨m1, m2, m3⟩ := hMB
  have g1 : (0 : Int32) < nI r ↔ ¬ r = 0 := by rw [show (0 : Int32) = nI 0 from rfl, nI_lt' (by omega) (by omega)]; omega
  rw [e_X9_minute]
  simp only [r_X9_minute_0, r_X9_minute_1, r_X9_minute_2, r_X9_minute_5, r_X9_minute_6, r_X9_minute_7, r_X9_minute_10, r_X9_minute_11, r_X9_minute_14, r_X9_minute_17, r_X9_minute_18, r_X9_minute_19, r_X9_minute_22, r_X9_minute_23, r_X9_minute_24, r_X9_minute_27, r_X9_minute_28, ob_40, gt_40_0, pt_40_0, gt_40_1, pt_40_1, gt_40_2, pt_40_2, gt_40_3, pt_40_3, gt_40_4, pt_40_4, gt_40_5, pt_40_5, gt_40_6, pt_40_6, gt_40_7, pt_40_7, gt_40_8, pt_40_8, gt_40_9, pt_40_9, gt_40_10, pt_40_10, gt_40_11, gt_40_12, gt_40_13, gt_40_14, gt_40_15, gt_40_16, gt_40_17, gt_40_18, gt_40_19, gt_40_20, gt_40_21, gt_40_22, pt_40_22, gt_40_23, gt_40_24, gt_40_25, gt_40_26, gt_40_27, gt_40_28, gt_40_29, gt_40_30, gt_40_31, gt_40_32, gt_40_33, gt_40_34, pt_40_34, gt_40_35, pt_40_35, gt_40_36, gt_40_37, gt_40_38, gt_40_39, gt_40_40, gt_40_41, pt_40_41, gt_40_42, pt_40_42, gt_40_43, pt_40_43, gt_40_44, pt_40_44, gt_40_45, pt_40_45, gt_40_46, pt_40_46, gt_40_47, List.cons_append, List.nil_append, List.append_nil, if_true, if_false, true_and, and_true, true_or, or_true, nm_b_some, gi_si, ga_sa, gi_sa, gi_sb, gi_sp, ga_si, ga_sb, ga_sp, gb_si, gb_sa, gb_sb, gb_sp, gp_si, gp_sa, gp_sb, gp_sp, if_true, if_false, ↓reduceIte, Nat.reduceEqDiff, h4, nI_s, m1, m2, g1]
  by_cases hr : r = 0
  · subst hr
    simp only [not_true_eq_false, if_false]
    refine hQ _ 0 (Nat.le_refl _) (by simp only [gi_si, ga_sa, gi_sa, gi_sb, gi_sp, ga_si, ga_sb, ga_sp, gb_si, gb_sa, gb_sb, gb_sp, gp_si, gp_sa, gp_sb, gp_sp, if_true, if_false, ↓reduceIte, Nat.reduceEqDiff]) (fun j hj => by omega) (fun h => by omega) (fun i => ⟨fun ⟨j, hj, _⟩ => by omega, fun _ => by simp only [gi_si, ga_sa, gi_sa, gi_sb, gi_sp, ga_si, ga_sb, ga_sp, gb_si, gb_sa, gb_sb, gb_sp, gp_si, gp_sa, gp_sb, gp_sp, if_true, if_false, ↓reduceIte, Nat.reduceEqDiff, and_self]⟩) ?_ (Fr.rf.si (by decide)) _ _
    refine ⟨?_, ?_, fun k hk => by omega⟩
    · simp only [gi_si, ga_sa, gi_sa, gi_sb, gi_sp, ga_si, ga_sb, ga_sp, gb_si, gb_sa, gb_sb, gb_sp, gp_si, gp_sa, gp_sb, gp_sp, if_true, if_false, ↓reduceIte, Nat.reduceEqDiff]; exact m1
    · simp only [gi_si, ga_sa, gi_sa, gi_sb, gi_sp, ga_si, ga_sb, ga_sp, gb_si, gb_sa, gb_sb, gb_sp, gp_si, gp_sa, gp_sb, gp_sp, if_true, if_false, ↓reduceIte, Nat.reduceEqDiff]; rw [m2]; rfl
  · simp only [hr, not_false_eq_true, if_true, if_false]
    obtain ⟨e1, e2, e3, e4⟩ := hB.2.1 0 (by omega)
    have el : nI (en 0 - T) - 1 = nI (en 0 - (T + 1)) := by
      rw [show en 0 - T = en 0 - (T + 1) + 1 by omega, nI_pred]
    rw [el]
    have hlf0 : en 0 - (T + 1) = lfs r (en 0 - (T + 1)) ro bk 0 := by unfold lfs; rw [if_neg (by omega), if_pos rfl]
    have hst : si (si s 4000 (nI (T + 1))) 4035 (nI (en 0 - (T + 1))) = mS (si s 4000 (nI (T + 1))) (ga s 59) (ga s 60) (ga s 62) (nI r) (nI (lfs r (en 0 - (T + 1)) ro bk 0)) := by
      rw [← hlf0]
      have h := mS_self (si s 4000 (nI (T + 1)))
      simp only [gi_si, ga_sa, gi_sa, gi_sb, gi_sp, ga_si, ga_sb, ga_sp, gb_si, gb_sa, gb_sb, gb_sp, gp_si, gp_sa, gp_sb, gp_sp, if_true, if_false, ↓reduceIte, Nat.reduceEqDiff, m1] at h
      rw [← mS_l (lv := gi s 4035), h]
    rw [hst, e_X9_settleBack]
    refine c_settle (s := si s 4000 (nI (T + 1))) (ro := ro) (bk := bk) hr10 (l := en 0 - (T + 1)) (by omega) (fun j hj => ?_) r 0 (ga s 62) (ga s 59) (ga s 60) .null (by omega) (fun j hj => m3 j hj) (fun K w' hK0 hK hz hnz hw' => ?_)
    · obtain ⟨p1, -, -, -⟩ := hB.2.1 j hj
      have := (hM.2.1 (ro j) p1).2.2.2.2.2.1
      refine ⟨by omega, by simp only [gi_si, ga_sa, gi_sa, gi_sb, gi_sp, ga_si, ga_sb, ga_sp, gb_si, gb_sa, gb_sb, gb_sp, gp_si, gp_sa, gp_sb, gp_sp, if_true, if_false, ↓reduceIte, Nat.reduceEqDiff]; exact this, (hW _ p1).2.2.1⟩
    · have hen : ∀ j, j < K → en j = T + 1 := by
        intro j
        induction j with
        | zero =>
          intro hj
          have := hz 0 (Nat.le_refl 0) hj
          rw [← hlf0] at this
          omega
        | succ j ih =>
          intro hj
          have h1 := ih (by omega)
          have h2 := hz (j + 1) (Nat.zero_le _) hj
          have h3 := hB.2.2.1 j (by omega)
          unfold lfs at h2
          rw [if_neg (by omega), if_neg (by omega)] at h2
          omega
      have hlK : lfs r (en 0 - (T + 1)) ro bk K = if r - K = 0 then 0 else en K - (T + 1) := by
        by_cases e : K = r
        · rw [if_pos (by omega)]
          unfold lfs
          rw [if_pos e]
        · rw [if_neg (by omega)]
          cases K with
          | zero => exact hlf0.symm
          | succ K =>
            have h1 := hen K (by omega)
            have h3 := hB.2.2.1 K (by omega)
            unfold lfs
            rw [if_neg e, if_neg (by omega)]
            omega
      have hfr : Fr [4000, 4034, 4035] [59, 60, 62] s (mS (si s 4000 (nI (T + 1))) (zs ro 0 0 (K - 0) (ga s 59)) (zs ro (-1) 0 (K - 0) (ga s 60)) w' (nI (r - K)) (nI (lfs r (en 0 - (T + 1)) ro bk K))) := by
        unfold mS
        exact (((((Fr.rf.si (by decide)).sa (by decide)).sa (by decide)).sa (by decide)).si (by decide)).si (by decide)
      refine hQ _ K hK ?_ (fun j hj => by have := hen j hj; omega) (fun hKr => ?_) (fun i => ?_) ⟨?_, ?_, fun k hk => ?_⟩ hfr _ _
      · rw [gi_mS]; simp only [gi_si, ga_sa, gi_sa, gi_sb, gi_sp, ga_si, ga_sb, ga_sp, gb_si, gb_sa, gb_sb, gb_sp, gp_si, gp_sa, gp_sb, gp_sp, if_true, if_false, ↓reduceIte, Nat.reduceEqDiff]
      · have h1 := hnz hKr
        rw [hlK, if_neg (by omega)] at h1
        omega
      · rw [ga_mS, ga_mS]
        simp only [gi_si, ga_sa, gi_sa, gi_sb, gi_sp, ga_si, ga_sb, ga_sp, gb_si, gb_sa, gb_sb, gb_sp, gp_si, gp_sa, gp_sb, gp_sp, if_true, if_false, ↓reduceIte, Nat.reduceEqDiff, Nat.sub_zero]
        have q1 := zs_is ro 0 K 0 (ga s 59) i
        have q2 := zs_is ro (-1) K 0 (ga s 60) i
        refine ⟨fun ⟨j, j1, j2⟩ => ?_, fun hn => ?_⟩
        · have hh : ∃ j, 0 ≤ j ∧ j < 0 + K ∧ ro j = i := ⟨j, by omega, by omega, j2⟩
          exact ⟨q1.1 hh, q2.1 hh⟩
        · have hh : ¬ ∃ j, 0 ≤ j ∧ j < 0 + K ∧ ro j = i := fun ⟨j, j1, j2, j3⟩ => hn ⟨j, by omega, j3⟩
          exact ⟨q1.2 hh, q2.2 hh⟩
      · rw [gi_mS]; simp only [gi_si, ga_sa, gi_sa, gi_sb, gi_sp, ga_si, ga_sb, ga_sp, gb_si, gb_sa, gb_sb, gb_sp, gp_si, gp_sa, gp_sb, gp_sp, if_true, if_false, ↓reduceIte, Nat.reduceEqDiff]
      · rw [gi_mS]; simp only [gi_si, ga_sa, gi_sa, gi_sb, gi_sp, ga_si, ga_sb, ga_sp, gb_si, gb_sa, gb_sb, gb_sp, gp_si, gp_sa, gp_sb, gp_sp, if_true, if_false, ↓reduceIte, Nat.reduceEqDiff]; rw [hlK, Nat.zero_add]
      · rw [ga_mS]; simp only [gi_si, ga_sa, gi_sa, gi_sb, gi_sp, ga_si, ga_sb, ga_sp, gb_si, gb_sa, gb_sb, gb_sp, gp_si, gp_sa, gp_sb, gp_sp, if_true, if_false, ↓reduceIte, Nat.reduceEqDiff]; exact hw' k (by omega)
theorem c_minute {d : Nat} {s : nm_S} {Q : nm_K} {N T r : Nat} {st bg mi nd bk : Nat → Nat} {pt sf : Nat → Bool} {ro en : Nat → Nat} (hN : N ≤ 10) (hT : T < 2000) (h4 : gi s 4000 = nI T) (hM : MR s N st bg mi nd bk pt sf) (hW : WF N T st bg mi nd bk sf) (hB : BK N T r st bg bk ro en) (hMB : MB s T r ro en) (hQ : ∀ (t : nm_S) (st' : Nat → Nat) (sf' : Nat → Bool) (r' : Nat) (ro' en' : Nat → Nat), gi t 4000 = nI (T + 1) → MR t N st' bg mi nd bk pt sf' → MB t (T + 1) r' ro' en' → Cl N (T + 1) mi bg pt st sf r ro en st' sf' r' ro' en' → Fr [4000, 4034, 4035] [59, 60, 61, 62] s t → Q [] (rep t)) : nm_call (d + 2) 127 [.ref 40] (rep s) Q := by
  classical
  refine c_min1 hN hT h4 hM hW hB hMB (fun t K hK t1 t2 t3 t4 t5 t6 => ?_)
  have f55 : ga t 55 = ga s 55 := t6.2.1 55 (by decide)
  have f56 : ga t 56 = ga s 56 := t6.2.1 56 (by decide)
  have f57 : ga t 57 = ga s 57 := t6.2.1 57 (by decide)
  have f58 : ga t 58 = ga s 58 := t6.2.1 58 (by decide)
  have f61 : ga t 61 = ga s 61 := t6.2.1 61 (by decide)
  have h4004 : gi t 4004 = nI N := (t6.1 4004 (by decide)).trans hM.1
  have hst : ∀ k, k < N → st k < 2147483648 := fun k hk => by have := (hW k hk).2.2.2.1; omega
  -- who is cleared
  have hin : ∀ i, i < N → ((∃ j, j < K ∧ ro j = i) ↔ st i = 3 ∧ ∃ j, j < r ∧ ro j = i ∧ en j ≤ T + 1) := by
    intro i hi
    constructor
    · rintro ⟨j, j1, j2⟩
      have := (hB.2.1 j (by omega)).2.1
      rw [j2] at this
      exact ⟨this, j, by omega, j2, t2 j j1⟩
    · rintro ⟨-, j, j1, j2, j3⟩
      refine ⟨j, ?_, j2⟩
      rcases Nat.lt_or_ge j K with z | z
      · exact z
      · have y1 := t3 (by omega)
        have y2 := BK_mono hB K (j - K) (by omega)
        rw [show K + (j - K) = j by omega] at y2
        omega
  have hrun : ∀ i, i < N → (ga t 59 i = 1 ↔ st i = 1) := by
    intro i hi
    by_cases hc : ∃ j, j < K ∧ ro j = i
    · rw [((t4 i).1 hc).1]
      have := ((hin i hi).mp hc).1
      constructor
      · intro z; exact absurd z (by decide)
      · intro z; omega
    · rw [((t4 i).2 hc).1, (hM.2.1 i hi).1, nI_1', nI_eq' (hst i hi) (by omega)]
  have hdue : ∀ i, i < N → st i = 1 → (ga t 60 i + ga t 55 i = gi t 4000 ↔ bg i + mi i = T + 1) := by
    intro i hi h1
    have hc : ¬ ∃ j, j < K ∧ ro j = i := fun z => by have := ((hin i hi).mp z).1; omega
    have e1 : eb st bg i = nI (bg i) := by unfold eb; rw [if_neg (by omega)]
    have w1 := (hW i hi).1
    have w2 := (hW i hi).2.2.2.2.1 h1
    rw [((t4 i).2 hc).2, (hM.2.1 i hi).2.1, f55, (hM.2.1 i hi).2.2.2.1, e1, t1, nI_ad, nI_eq' (by omega) (by omega)]
  have hdue2 : ∀ i, i < N → st i = 1 → (bg i + mi i = T + 1 ↔ bg i + mi i ≤ T + 1) := by
    intro i hi h1
    have w2 := (hW i hi).2.2.2.2.1 h1
    omega
  have hpts : (∃ p, p < N ∧ ga t 59 p = 1 ∧ ga t 60 p + ga t 55 p = gi t 4000 ∧ ¬ ga t 58 p = 0) ↔ ∃ p, p < N ∧ st p = 1 ∧ pt p = true ∧ bg p + mi p ≤ T + 1 := by
    constructor
    · rintro ⟨p, p1, p2, p3, p4⟩
      have q2 := (hrun p p1).mp p2
      refine ⟨p, p1, q2, ?_, (hdue2 p p1 q2).mp ((hdue p p1 q2).mp p3)⟩
      rw [f58, (hM.2.1 p p1).2.2.2.2.2.2, b2_0] at p4
      simpa using p4
    · rintro ⟨p, p1, p2, p3, p4⟩
      refine ⟨p, p1, (hrun p p1).mpr p2, (hdue p p1 p2).mpr ((hdue2 p p1 p2).mpr p4), ?_⟩
      rw [f58, (hM.2.1 p p1).2.2.2.2.2.2, b2_0, p3]
      decide
  refine c_min2 hN h4004 (fun t' v1 v2 v3 v4 => ?_)
  have f60 : ga t' 60 = ga t 60 := v4.2.1 60 (by decide)
  -- the new states
  have hs' : ∀ i, i < N → ga t' 59 i = nI (if st i = 1 ∧ bg i + mi i ≤ T + 1 then 2 else if st i = 3 ∧ ∃ j, j < r ∧ ro j = i ∧ en j ≤ T + 1 then 0 else st i) := by
    intro i hi
    rw [v1 i]
    by_cases c1 : st i = 1 ∧ bg i + mi i ≤ T + 1
    · rw [if_pos c1, if_pos ⟨hi, (hrun i hi).mpr c1.1, (hdue i hi c1.1).mpr ((hdue2 i hi c1.1).mpr c1.2)⟩]
      rfl
    · rw [if_neg c1, if_neg (fun z => by
        have q := (hrun i hi).mp z.2.1
        exact c1 ⟨q, (hdue2 i hi q).mp ((hdue i hi q).mp z.2.2)⟩)]
      by_cases c2 : st i = 3 ∧ ∃ j, j < r ∧ ro j = i ∧ en j ≤ T + 1
      · rw [if_pos c2, ((t4 i).1 ((hin i hi).mpr c2)).1]
        rfl
      · rw [if_neg c2, ((t4 i).2 (fun z => c2 ((hin i hi).mp z))).1]
        exact (hM.2.1 i hi).1
  generalize hst' : (fun i => if st i = 1 ∧ bg i + mi i ≤ T + 1 then 2 else if st i = 3 ∧ ∃ j, j < r ∧ ro j = i ∧ en j ≤ T + 1 then 0 else st i) = st' at *
  have hs'' : ∀ i, i < N → ga t' 59 i = nI (st' i) := fun i hi => by rw [← hst']; exact hs' i hi
  have hcl1 : ∀ i, i < N → (st' i = 2 ∧ st i = 1 ∧ bg i + mi i ≤ T + 1) ∨ (st' i = 0 ∧ st i = 3 ∧ ∃ j, j < r ∧ ro j = i ∧ en j ≤ T + 1) ∨ (st' i = st i ∧ (st i = 1 → T + 1 < bg i + mi i) ∧ (st i = 3 → ∀ j, j < r → ro j = i → T + 1 < en j)) := by
    intro i hi
    rw [← hst']
    dsimp only
    by_cases c1 : st i = 1 ∧ bg i + mi i ≤ T + 1
    · rw [if_pos c1]
      exact Or.inl ⟨rfl, c1⟩
    · rw [if_neg c1]
      by_cases c2 : st i = 3 ∧ ∃ j, j < r ∧ ro j = i ∧ en j ≤ T + 1
      · rw [if_pos c2]
        exact Or.inr (Or.inl ⟨rfl, c2⟩)
      · rw [if_neg c2]
        refine Or.inr (Or.inr ⟨rfl, fun z => ?_, fun z j j1 j2 => ?_⟩)
        · rcases Nat.lt_or_ge (T + 1) (bg i + mi i) with y | y
          · exact y
          · exact absurd ⟨z, y⟩ c1
        · rcases Nat.lt_or_ge (T + 1) (en j) with y | y
          · exact y
          · exact absurd ⟨z, j, j1, j2, y⟩ c2
  have hlt' : ∀ i, i < N → st' i < 2147483648 := fun i hi => by
    have := hst i hi
    rcases hcl1 i hi with a | a | a <;> omega
  have hsf : ∀ i, i < N → ga t' 61 i = b2 (decide (sf i = true ∨ (st' i = 2 ∧ ∃ p, p < N ∧ st p = 1 ∧ pt p = true ∧ bg p + mi p ≤ T + 1 ∧ bg i + mi i ≤ bg p + mi p))) := by
    intro i hi
    have e61 : ga t 61 i = b2 (sf i) := by rw [f61]; exact (hM.2.1 i hi).2.2.1
    by_cases hp : ∃ p, p < N ∧ ga t 59 p = 1 ∧ ga t 60 p + ga t 55 p = gi t 4000 ∧ ¬ ga t 58 p = 0
    · rw [v2 hp i, if_pos hi, e61]
      cases hb : sf i with
      | true => simp [b2]
      | false =>
        obtain ⟨p, p1, p2, p3, p4⟩ := hpts.mp hp
        have hp5 := (hdue2 p p1 p2).mpr p4
        have q : (ga t' 59 i = 2) ↔ (st' i = 2 ∧ ∃ p, p < N ∧ st p = 1 ∧ pt p = true ∧ bg p + mi p ≤ T + 1 ∧ bg i + mi i ≤ bg p + mi p) := by
          rw [hs'' i hi, nI_2', nI_eq' (hlt' i hi) (by omega)]
          constructor
          · intro z
            refine ⟨z, p, p1, p2, p3, p4, ?_⟩
            rcases hcl1 i hi with ⟨a1, a2, a3⟩ | ⟨a1, a2, a3⟩ | ⟨a1, a2, a3⟩
            · omega
            · omega
            · have := (hW i hi).2.2.2.2.2.1 (by omega)
              omega
          · exact fun z => z.1
        by_cases hq : ga t' 59 i = 2
        · have hq' := q.mp hq
          rw [if_pos hq]
          simp [b2, hq']
        · have hq' := fun z => hq (q.mpr z)
          rw [if_neg hq, decide_eq_false (fun z => z.elim (fun y => by cases y) hq')]
          rfl
    · rw [v3 hp, e61]
      congr 1
      have hno : ¬ (st' i = 2 ∧ ∃ p, p < N ∧ st p = 1 ∧ pt p = true ∧ bg p + mi p ≤ T + 1 ∧ bg i + mi i ≤ bg p + mi p) := by
        rintro ⟨-, p, p1, p2, p3, p4, -⟩
        exact hp (hpts.mpr ⟨p, p1, p2, p3, p4⟩)
      cases hb : sf i <;> simp [hno]
  refine hQ t' st' (fun i => decide (sf i = true ∨ (st' i = 2 ∧ ∃ p, p < N ∧ st p = 1 ∧ pt p = true ∧ bg p + mi p ≤ T + 1 ∧ bg i + mi i ≤ bg p + mi p))) (r - K) (fun j => ro (j + K)) (fun j => en (j + K)) ?_ ?_ ?_ ?_ ?_
  · rw [v4.1 4000 (by decide)]; exact t1
  · refine ⟨(v4.1 4004 (by decide)).trans h4004, fun i hi => ?_, fun i hi1 hi2 => ?_⟩
    · refine ⟨hs'' i hi, ?_, hsf i hi, ?_, ?_, ?_, ?_⟩
      · rw [f60]
        by_cases hc : ∃ j, j < K ∧ ro j = i
        · rw [((t4 i).1 hc).2]
          have := ((hin i hi).mp hc)
          have h0 : st' i = 0 := by
            rcases hcl1 i hi with ⟨a1, a2, a3⟩ | ⟨a1, a2, a3⟩ | ⟨a1, a2, a3⟩
            · omega
            · exact a1
            · obtain ⟨j, j1, j2, j3⟩ := this.2
              have := a3 this.1 j j1 j2
              omega
          unfold eb
          rw [if_pos h0]
        · rw [((t4 i).2 hc).2, (hM.2.1 i hi).2.1]
          unfold eb
          have : st' i = 0 ↔ st i = 0 := by
            rcases hcl1 i hi with ⟨a1, a2, a3⟩ | ⟨a1, a2, a3⟩ | ⟨a1, a2, a3⟩
            · omega
            · exact absurd ((hin i hi).mpr ⟨a2, a3⟩) hc
            · rw [a1]
          by_cases h0 : st i = 0
          · rw [if_pos h0, if_pos (this.mpr h0)]
          · rw [if_neg h0, if_neg (fun z => h0 (this.mp z))]
      · rw [v4.2.1 55 (by decide), f55]; exact (hM.2.1 i hi).2.2.2.1
      · rw [v4.2.1 56 (by decide), f56]; exact (hM.2.1 i hi).2.2.2.2.1
      · rw [v4.2.1 57 (by decide), f57]; exact (hM.2.1 i hi).2.2.2.2.2.1
      · rw [v4.2.1 58 (by decide), f58]; exact (hM.2.1 i hi).2.2.2.2.2.2
    · have hc : ¬ ∃ j, j < K ∧ ro j = i := by
        rintro ⟨j, j1, j2⟩
        have := (hB.2.1 j (by omega)).1
        omega
      refine ⟨?_, ?_⟩
      · rw [v1 i, if_neg (by omega), ((t4 i).2 hc).1]
        exact (hM.2.2 i hi1 hi2).1
      · by_cases hp : ∃ p, p < N ∧ ga t 59 p = 1 ∧ ga t 60 p + ga t 55 p = gi t 4000 ∧ ¬ ga t 58 p = 0
        · rw [v2 hp i, if_neg (by omega), f61]
          exact (hM.2.2 i hi1 hi2).2
        · rw [v3 hp, f61]
          exact (hM.2.2 i hi1 hi2).2
  · obtain ⟨b1, b2', b3⟩ := t5
    refine ⟨?_, ?_, fun k hk => ?_⟩
    · rw [v4.1 4034 (by decide)]; exact b1
    · rw [v4.1 4035 (by decide)]; exact b2'
    · rw [v4.2.1 62 (by decide)]; exact b3 k hk
  · exact ⟨hcl1, fun i hi => by simp only [decide_eq_true_eq], K, hK, rfl, t2, t3, fun _ => rfl, fun _ => rfl⟩
  · exact (t6.mono (by decide) (by decide)).tr (v4.mono (by decide) (by decide))
theorem c_Mtick_loop {s : nm_S} {Q : nm_K} {N T n r : Nat} {st bg mi nd bk : Nat → Nat} {pt sf : Nat → Bool} {ro en : Nat → Nat} (hN : N ≤ 10) (hT : T + n ≤ 2000) (hW : WF N T st bg mi nd bk sf) (hB : BK N T r st bg bk ro en) (hQ : ∀ (t : nm_S) (st' : Nat → Nat) (sf' : Nat → Bool) (r' : Nat) (ro' en' : Nat → Nat), gi t 4000 = nI (T + n) → MR t N st' bg mi nd bk pt sf' → MB t (T + n) r' ro' en' → Cl N (T + n) mi bg pt st sf r ro en st' sf' r' ro' en' → Fr [4000, 4034, 4035] [59, 60, 61, 62] s t → Q [.int (nI (T + n))] (rep t)) : ∀ (m k : Nat) (t : nm_S) (st' : Nat → Nat) (sf' : Nat → Bool) (r' : Nat) (ro' en' : Nat → Nat), k + m = n → gi t 4000 = nI (T + k) → MR t N st' bg mi nd bk pt sf' → MB t (T + k) r' ro' en' → Cl N (T + k) mi bg pt st sf r ro en st' sf' r' ro' en' → Fr [4000, 4034, 4035] [59, 60, 61, 62] s t → x_X9_tick 59 Q 27 [.ref 40, .int (nI n), .int (nI k)] [] (rep t) 0 0
  | 0, k, t, st', sf', r', ro', en', hk, t1, t2, t3, t4, t5 => by
    have : k = n := by omega
    subst this
    have g1 : ¬ nI k < nI k := by rw [nI_lt' (by omega) (by omega)]; omega
    rw [r_X9_tick_27]
    simp only [r_X9_tick_28, r_X9_tick_29, r_X9_tick_32, r_X9_tick_33, r_X9_tick_36, r_X9_tick_39, r_X9_tick_42, r_X9_tick_43, r_X9_tick_46, ob_40, gt_40_0, pt_40_0, gt_40_1, pt_40_1, gt_40_2, pt_40_2, gt_40_3, pt_40_3, gt_40_4, pt_40_4, gt_40_5, pt_40_5, gt_40_6, pt_40_6, gt_40_7, pt_40_7, gt_40_8, pt_40_8, gt_40_9, pt_40_9, gt_40_10, pt_40_10, gt_40_11, gt_40_12, gt_40_13, gt_40_14, gt_40_15, gt_40_16, gt_40_17, gt_40_18, gt_40_19, gt_40_20, gt_40_21, gt_40_22, pt_40_22, gt_40_23, gt_40_24, gt_40_25, gt_40_26, gt_40_27, gt_40_28, gt_40_29, gt_40_30, gt_40_31, gt_40_32, gt_40_33, gt_40_34, pt_40_34, gt_40_35, pt_40_35, gt_40_36, gt_40_37, gt_40_38, gt_40_39, gt_40_40, gt_40_41, pt_40_41, gt_40_42, pt_40_42, gt_40_43, pt_40_43, gt_40_44, pt_40_44, gt_40_45, pt_40_45, gt_40_46, pt_40_46, gt_40_47, List.cons_append, List.nil_append, List.append_nil, if_true, if_false, true_and, and_true, true_or, or_true, nm_b_some, g1, t1]
    exact hQ t st' sf' r' ro' en' t1 t2 t3 t4 t5
  | m + 1, k, t, st', sf', r', ro', en', hk, t1, t2, t3, t4, t5 => by
    have g1 : nI k < nI n := (nI_lt' (by omega) (by omega)).mpr (by omega)
    have hW' := Cl_WF (show T ≤ T + k by omega) hW t4
    have hB' := Cl_BK hB t4
    rw [r_X9_tick_27]
    simp only [r_X9_tick_28, r_X9_tick_29, r_X9_tick_32, r_X9_tick_33, r_X9_tick_36, r_X9_tick_39, ob_40, gt_40_0, pt_40_0, gt_40_1, pt_40_1, gt_40_2, pt_40_2, gt_40_3, pt_40_3, gt_40_4, pt_40_4, gt_40_5, pt_40_5, gt_40_6, pt_40_6, gt_40_7, pt_40_7, gt_40_8, pt_40_8, gt_40_9, pt_40_9, gt_40_10, pt_40_10, gt_40_11, gt_40_12, gt_40_13, gt_40_14, gt_40_15, gt_40_16, gt_40_17, gt_40_18, gt_40_19, gt_40_20, gt_40_21, gt_40_22, pt_40_22, gt_40_23, gt_40_24, gt_40_25, gt_40_26, gt_40_27, gt_40_28, gt_40_29, gt_40_30, gt_40_31, gt_40_32, gt_40_33, gt_40_34, pt_40_34, gt_40_35, pt_40_35, gt_40_36, gt_40_37, gt_40_38, gt_40_39, gt_40_40, gt_40_41, pt_40_41, gt_40_42, pt_40_42, gt_40_43, pt_40_43, gt_40_44, pt_40_44, gt_40_45, pt_40_45, gt_40_46, pt_40_46, gt_40_47, List.cons_append, List.nil_append, List.append_nil, if_true, if_false, true_and, and_true, true_or, or_true, nm_b_some, g1, nI_s]
    refine c_minute (d := 57) hN (by omega) t1 t2 hW' hB' t3 (fun u st2 sf2 r2 ro2 en2 u1 u2 u3 u4 u5 => ?_)
    exact c_Mtick_loop hN hT hW hB hQ m (k + 1) u st2 sf2 r2 ro2 en2 (by omega) u1 u2 u3 (Cl_tr (by omega) t4 u4) (t5.tr u5)
