/-! fail, both. -/
theorem rho_cong {p q : Nat → Bool} {g g' : Nat → Int32} {N : Nat} (h : ∀ i, i < N → p i = q i ∧ g i = g' i) : ∀ k, (∀ i, i < N → pset g N p k i = pset g' N q k i) ∧ rho g N p k = rho g' N q k := by
  have hs : ∀ k, (∀ i, i < N → pset g N p k i = pset g' N q k i) → sel (pset g N p k) g N = sel (pset g' N q k) g' N := fun k hk => sel_cong (fun i hi => ⟨hk i hi, (h i hi).2⟩)
  have hp : ∀ k, ∀ i, i < N → pset g N p k i = pset g' N q k i := by
    intro k
    induction k with
    | zero => exact fun i hi => (h i hi).1
    | succ k ih =>
      intro i hi
      show psn g N (pset g N p k) i = psn g' N (pset g' N q k) i
      unfold psn
      rw [hs k ih]
      cases sel (pset g' N q k) g' N with
      | none => exact ih i hi
      | some m => dsimp only; rw [ih i hi]
  intro k
  refine ⟨hp k, ?_⟩
  unfold rho
  rw [hs k (hp k)]
def pA (st : Nat → Nat) (sf : Nat → Bool) (i : Nat) : Bool := decide (st i = 1 ∨ (st i = 2 ∧ sf i = false))
def FlX (s t : nm_S) (N T R : Nat) (ro en : Nat → Nat) : Prop := Fr [2104] [22, 23, 24, 29] s t ∧ gi t 2104 = gi s 2104 + 1 ∧ (∀ j, j < R → en j ≤ T → ga t 22 (ro j) = 0 ∧ ga t 23 (ro j) = -1 ∧ ga t 24 (ro j) = 0) ∧ (∀ j, j < R → T < en j → ga t 22 (ro j) = 3 ∧ ga t 23 (ro j) = ga s 23 (ro j) ∧ ga t 24 (ro j) = ga s 24 (ro j) ∧ ga t 29 (ro j) = nI (en j)) ∧ ∀ i, i < N → (¬ ∃ j, j < R ∧ ro j = i) → ga t 22 i = ga s 22 i ∧ ga t 23 i = ga s 23 i ∧ ga t 24 i = ga s 24 i
theorem c_takeBack {d : Nat} {s : nm_S} {Q : nm_K} {N T i0 : Nat} {st bg mi nd bk : Nat → Nat} {pt sf : Nat → Bool} (hN : N ≤ 10) (hT : T ≤ 2000) (hX : XR s N st bg mi nd bk pt sf) (hW : WF N T st bg mi nd bk sf) (hno : ∀ i, i < N → st i ≠ 3) (hi : i0 < N) (hr : st i0 = 1) (hQ : ∀ t, FlX s t N T (cnt (pA st sf) N) (rho (eb st bg) N (pA st sf)) (ens T (fun k => bk (rho (eb st bg) N (pA st sf) k))) → Q [.int 1] (rep t)) : nm_call (d + 3) 52 [.ref 21, .int (nI i0), .int (nI T)] (rep s) Q := by
  obtain ⟨hx1, hx2⟩ := hX
  have hst : ∀ k, k < N → st k < 2147483648 := fun k hk => by have := (hW k hk).2.2.2.1; omega
  have u3 : vp_in (nI i0) 10 := vp_in' (by omega) (by omega)
  have u4 : (nI i0).toNatClampNeg = i0 := i_nIc (by omega)
  have h10 : ¬ (1 : Int32) = 0 := by decide
  have e22 : ga s 22 i0 = 1 := by rw [(hx2 i0 hi).1, hr]; rfl
  have hcg : ∀ i, i < N → decide (ga s 22 i = 1 ∨ (ga s 22 i = 2 ∧ ga s 24 i = 0)) = pA st sf i ∧ ga s 23 i = eb st bg i := by
    intro i hi
    refine ⟨?_, (hx2 i hi).2.1⟩
    unfold pA
    have a1 : ga s 22 i = 1 ↔ st i = 1 := by rw [(hx2 i hi).1, nI_1', nI_eq' (hst i hi) (by omega)]
    have a2 : ga s 22 i = 2 ↔ st i = 2 := by rw [(hx2 i hi).1, nI_2', nI_eq' (hst i hi) (by omega)]
    have a3 : ga s 24 i = 0 ↔ sf i = false := by rw [(hx2 i hi).2.2.1, b2_0]
    exact decide_eq_decide.mpr (by rw [a1, a2, a3])
  have hrc := fun k => (rho_cong hcg k).2
  have hcc : cnt (fun i => decide (ga s 22 i = 1 ∨ (ga s 22 i = 2 ∧ ga s 24 i = 0))) N = cnt (pA st sf) N := cnt_cong (fun i hi => (hcg i hi).1)
  have hre : rho (ga s 23) N (fun i => decide (ga s 22 i = 1 ∨ (ga s 22 i = 2 ∧ ga s 24 i = 0))) = rho (eb st bg) N (pA st sf) := funext hrc
  have hin : ∀ j, j < cnt (pA st sf) N → rho (eb st bg) N (pA st sf) j < N := fun j hj => (pk_is hj).1
  have hinj : ∀ j k, j < cnt (pA st sf) N → k < cnt (pA st sf) N → rho (eb st bg) N (pA st sf) j = rho (eb st bg) N (pA st sf) k → j = k := fun j k hj hk e => pk_inj hj hk e
  have hbk : ∀ k, k < cnt (pA st sf) N → bk (rho (eb st bg) N (pA st sf) k) ≤ 60 := fun k hk => (hW _ (hin k hk)).2.2.1
  have loop := c_takeLoop (d := d) (s := si s 2104 (gi s 2104 + 1)) (Q := Q) (N := N) (T := T) (p := fun i => decide (ga s 22 i = 1 ∨ (ga s 22 i = 2 ∧ ga s 24 i = 0))) (bk := bk) (fv := nI i0) hN hT (by simp only [gi_si, ga_sa, gi_sa, gi_sb, gi_sp, ga_si, ga_sb, ga_sp, gb_si, gb_sa, gb_sb, gb_sp, gp_si, gp_sa, gp_sb, gp_sp, if_true, if_false, ↓reduceIte, Nat.reduceEqDiff]; exact hx1) (fun i hi => by simp only [gi_si, ga_sa, gi_sa, gi_sb, gi_sp, ga_si, ga_sb, ga_sp, gb_si, gb_sa, gb_sb, gb_sp, gp_si, gp_sa, gp_sb, gp_sp, if_true, if_false, ↓reduceIte, Nat.reduceEqDiff]; exact ⟨(hx2 i hi).2.2.2.2.2.1, (hW i hi).2.2.1⟩)
  simp only [gi_si, ga_sa, gi_sa, gi_sb, gi_sp, ga_si, ga_sb, ga_sp, gb_si, gb_sa, gb_sb, gb_sp, gp_si, gp_sa, gp_sb, gp_sp, if_true, if_false, ↓reduceIte, Nat.reduceEqDiff] at loop
  simp only [hre, hcc] at loop
  have hcn := cnt_le (pA st sf) N
  generalize hR : cnt (pA st sf) N = R at *
  generalize hro : rho (eb st bg) N (pA st sf) = ro at *
  have hen : ∀ j, j < R → ens T (fun k => bk (ro k)) j < 3000 := by
    intro j hj
    have := mns_le T (fun k => bk (ro k)) hbk (j + 1) (by omega)
    rw [mns_ens] at this
    omega
  simp only [e_X5_takeBack, r_X5_takeBack_0, r_X5_takeBack_1, r_X5_takeBack_4, r_X5_takeBack_5, r_X5_takeBack_6, r_X5_takeBack_7, r_X5_takeBack_10, r_X5_takeBack_11, r_X5_takeBack_12, r_X5_takeBack_13, r_X5_takeBack_14, r_X5_takeBack_17, r_X5_takeBack_18, r_X5_takeBack_19, r_X5_takeBack_22, r_X5_takeBack_23, r_X5_takeBack_26, r_X5_takeBack_27, r_X5_takeBack_28, r_X5_takeBack_30, r_X5_takeBack_31, ob_21, gt_21_0, gt_21_1, gt_21_2, gt_21_3, pt_21_3, gt_21_4, pt_21_4, gt_21_5, gt_21_6, gt_21_7, gt_21_8, gt_21_9, gt_21_10, ad_22, as_22, List.cons_append, List.nil_append, List.append_nil, if_true, if_false, true_and, and_true, true_or, or_true, nm_b_some, gi_si, ga_sa, gi_sa, gi_sb, gi_sp, ga_si, ga_sb, ga_sp, gb_si, gb_sa, gb_sb, gb_sp, gp_si, gp_sa, gp_sb, gp_sp, if_true, if_false, ↓reduceIte, Nat.reduceEqDiff, c_notKept (s := si s 2104 (gi s 2104 + 1)) (N := N) (by simp only [gi_si, ga_sa, gi_sa, gi_sb, gi_sp, ga_si, ga_sb, ga_sp, gb_si, gb_sa, gb_sb, gb_sp, gp_si, gp_sa, gp_sb, gp_sp, if_true, if_false, ↓reduceIte, Nat.reduceEqDiff]; exact hx1) hN, u3, u4, e22]
  have hs0 : si s 2104 (gi s 2104 + 1) = sa (sa (si s 2104 (gi s 2104 + 1)) 22 (ga s 22)) 29 (ga s 29) := by
    have a := sa_self (sa (si s 2104 (gi s 2104 + 1)) 22 (ga s 22)) 29
    simp only [gi_si, ga_sa, gi_sa, gi_sb, gi_sp, ga_si, ga_sb, ga_sp, gb_si, gb_sa, gb_sb, gb_sp, gp_si, gp_sa, gp_sb, gp_sp, if_true, if_false, ↓reduceIte, Nat.reduceEqDiff] at a
    rw [a]
    have b := sa_self (si s 2104 (gi s 2104 + 1)) 22
    simp only [gi_si, ga_sa, gi_sa, gi_sb, gi_sp, ga_si, ga_sb, ga_sp, gb_si, gb_sa, gb_sb, gb_sp, gp_si, gp_sa, gp_sb, gp_sp, if_true, if_false, ↓reduceIte, Nat.reduceEqDiff] at b
    rw [b]
  have loop2 := fun hq => loop hq R 0 (mask (fun i => decide (ga s 22 i = 1 ∨ (ga s 22 i = 2 ∧ ga s 24 i = 0))) N) (ga s 22) (ga s 29) .null (by omega) (mask_small _ (by omega)) (fun i hi => mask_bit _ N i) (fun i => ⟨fun ⟨j, hj, _⟩ => by omega, fun _ => rfl⟩) (fun j hj => by omega)
  rw [← hs0] at loop2
  refine loop2 (fun f h hf hh y1 y2 y3 y4 => ?_)
  simp only [r_X5_takeBack_95, r_X5_takeBack_96, r_X5_takeBack_97, r_X5_takeBack_100, r_X5_takeBack_101, ob_21, gt_21_0, gt_21_1, gt_21_2, gt_21_3, pt_21_3, gt_21_4, pt_21_4, gt_21_5, gt_21_6, gt_21_7, gt_21_8, gt_21_9, gt_21_10, List.cons_append, List.nil_append, List.append_nil, if_true, if_false, true_and, and_true, true_or, or_true, nm_b_some]
  refine c_clearTB (s := sa (sa (si s 2104 (gi s 2104 + 1)) 22 f) 29 h) (N := N) (by simp only [gi_si, ga_sa, gi_sa, gi_sb, gi_sp, ga_si, ga_sb, ga_sp, gb_si, gb_sa, gb_sb, gb_sp, gp_si, gp_sa, gp_sb, gp_sp, if_true, if_false, ↓reduceIte, Nat.reduceEqDiff]; exact hx1) hN (fun b hb0 => ?_)
  simp only [gi_si, ga_sa, gi_sa, gi_sb, gi_sp, ga_si, ga_sb, ga_sp, gb_si, gb_sa, gb_sb, gb_sp, gp_si, gp_sa, gp_sb, gp_sp, if_true, if_false, ↓reduceIte, Nat.reduceEqDiff] at hb0
  have u5 := ct1_is (nI T) f (ga s 23) h (ga s 24) N
  rw [← hb0] at u5
  obtain ⟨f2, g2, h2, k2⟩ := b
  clear hb0
  dsimp only at u5 ⊢
  simp only [r_X5_takeBack_100, r_X5_takeBack_101, List.cons_append, List.nil_append, List.append_nil, if_true, if_false, true_and, and_true, true_or, or_true, nm_b_some, h10, z1]
  refine hQ _ ⟨by unfold wS; exact ((((((Fr.rf.si (by decide)).sa (by decide)).sa (by decide)).sa (by decide)).sa (by decide)).sa (by decide)).sa (by decide), by rw [gi_wS]; simp only [gi_si, ga_sa, gi_sa, gi_sb, gi_sp, ga_si, ga_sb, ga_sp, gb_si, gb_sa, gb_sb, gb_sp, gp_si, gp_sa, gp_sb, gp_sp, if_true, if_false, ↓reduceIte, Nat.reduceEqDiff], fun j hj he => ?_, fun j hj he => ?_, fun i hi hn => ?_⟩
  · have c : ro j < N ∧ f (ro j) = 3 ∧ ¬ nI T < h (ro j) := ⟨hin j hj, (hf _).1 ⟨j, hj, rfl⟩, by rw [hh j hj, nI_lt' (by omega) (by have := hen j hj; omega)]; omega⟩
    simp only [ga_wS, gi_si, ga_sa, gi_sa, gi_sb, gi_sp, ga_si, ga_sb, ga_sp, gb_si, gb_sa, gb_sb, gb_sp, gp_si, gp_sa, gp_sb, gp_sp, if_true, if_false, ↓reduceIte, Nat.reduceEqDiff]
    obtain ⟨v1, v2, v3, v4⟩ := u5 (ro j)
    rw [if_pos c] at v1 v2 v4
    exact ⟨v1, v2, v4⟩
  · have c : ¬ (ro j < N ∧ f (ro j) = 3 ∧ ¬ nI T < h (ro j)) := by
      rintro ⟨-, -, z⟩
      rw [hh j hj, nI_lt' (by omega) (by have := hen j hj; omega)] at z
      omega
    simp only [ga_wS, gi_si, ga_sa, gi_sa, gi_sb, gi_sp, ga_si, ga_sb, ga_sp, gb_si, gb_sa, gb_sb, gb_sp, gp_si, gp_sa, gp_sb, gp_sp, if_true, if_false, ↓reduceIte, Nat.reduceEqDiff]
    obtain ⟨v1, v2, v3, v4⟩ := u5 (ro j)
    rw [if_neg c] at v1 v2 v3 v4
    exact ⟨v1.trans ((hf _).1 ⟨j, hj, rfl⟩), v2, v4, v3.trans (hh j hj)⟩
  · have e : f i = ga s 22 i := (hf i).2 hn
    have c : ¬ (i < N ∧ f i = 3 ∧ ¬ nI T < h i) := by
      rintro ⟨-, z, -⟩
      rw [e, (hx2 i hi).1, nI_3', nI_eq' (hst i hi) (by omega)] at z
      exact hno i hi z
    simp only [ga_wS, gi_si, ga_sa, gi_sa, gi_sb, gi_sp, ga_si, ga_sb, ga_sp, gb_si, gb_sa, gb_sb, gb_sp, gp_si, gp_sa, gp_sb, gp_sp, if_true, if_false, ↓reduceIte, Nat.reduceEqDiff]
    obtain ⟨v1, v2, v3, v4⟩ := u5 i
    rw [if_neg c] at v1 v2 v4
    exact ⟨v1.trans e, v2, v4⟩
