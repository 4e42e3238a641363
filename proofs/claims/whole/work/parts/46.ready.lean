/-! ready. -/
def aft (D : Nat → Nat) (m U : Nat) : Nat → Nat
  | 0 => U
  | n + 1 => if m.testBit n = true then max (aft D m U n) (D n) else aft D m U n
theorem aft_cong {D D' : Nat → Nat} {m U : Nat} : ∀ {n : Nat}, (∀ i, i < n → D i = D' i) → aft D m U n = aft D' m U n
  | 0, _ => rfl
  | n + 1, h => by
    unfold aft
    rw [aft_cong (fun i hi => h i (by omega)), h n (by omega)]
theorem aft_ge (D : Nat → Nat) (m U : Nat) : ∀ n, U ≤ aft D m U n
  | 0 => Nat.le_refl _
  | n + 1 => by
    have := aft_ge D m U n
    unfold aft
    split <;> omega
theorem aft_le {D : Nat → Nat} {m U B : Nat} (hU : U ≤ B) : ∀ n, (∀ i, i < n → D i ≤ B) → aft D m U n ≤ B
  | 0, _ => hU
  | n + 1, h => by
    have := aft_le (m := m) hU n (fun i hi => h i (by omega))
    have := h n (by omega)
    unfold aft
    split <;> omega
def dnV (U : Nat) (st bg mi nd : Nat → Nat) (i : Nat) (D : Nat → Nat) : Nat := if st i = 1 ∨ st i = 2 then bg i + mi i else aft D (nd i) U i + mi i
def dnF (U : Nat) (st bg mi nd : Nat → Nat) : Nat → (Nat → Nat)
  | 0 => fun _ => 0
  | n + 1 => fun k => if k = n then dnV U st bg mi nd n (dnF U st bg mi nd n) else dnF U st bg mi nd n k
def dn (U : Nat) (st bg mi nd : Nat → Nat) (k : Nat) : Nat := dnF U st bg mi nd (k + 1) k
theorem dnF_is (U : Nat) (st bg mi nd : Nat → Nat) (k : Nat) : ∀ m, dnF U st bg mi nd (k + 1 + m) k = dn U st bg mi nd k
  | 0 => rfl
  | m + 1 => by
    have ih := dnF_is U st bg mi nd k m
    show (if k = k + 1 + m then _ else dnF U st bg mi nd (k + 1 + m) k) = _
    rw [if_neg (by omega), ih]
theorem dn_is (U : Nat) (st bg mi nd : Nat → Nat) (i : Nat) : dn U st bg mi nd i = if st i = 1 ∨ st i = 2 then bg i + mi i else aft (dn U st bg mi nd) (nd i) U i + mi i := by
  have e : dn U st bg mi nd i = dnV U st bg mi nd i (dnF U st bg mi nd i) := by
    show (if i = i then _ else _) = _
    rw [if_pos rfl]
  rw [e]
  unfold dnV
  by_cases c : st i = 1 ∨ st i = 2
  · rw [if_pos c, if_pos c]
  · rw [if_neg c, if_neg c]
    congr 1
    refine aft_cong (fun k hk => ?_)
    have := dnF_is U st bg mi nd k (i - (k + 1))
    rw [show k + 1 + (i - (k + 1)) = i by omega] at this
    exact this
def lat (T : Nat) (D : Nat → Nat) : Nat → Nat
  | 0 => T
  | n + 1 => max (lat T D n) (D n)
theorem lat_ge (T : Nat) (D : Nat → Nat) : ∀ n, T ≤ lat T D n
  | 0 => Nat.le_refl _
  | n + 1 => by
    have := lat_ge T D n
    unfold lat
    omega
theorem dn_le {N T U : Nat} {st bg mi nd bk : Nat → Nat} {sf : Nat → Bool} (hT : T ≤ 2000) (hU : U ≤ 2600) (hW : WF N T st bg mi nd bk sf) : ∀ n, n ≤ N → ∀ i, i < n → dn U st bg mi nd i ≤ 2600 + 60 * (i + 1)
  | 0, _, i, hi => by omega
  | n + 1, hn, i, hi => by
    have ih := dn_le hT hU hW n (by omega)
    have w := hW i (by omega)
    rw [dn_is]
    by_cases c : st i = 1 ∨ st i = 2
    · rw [if_pos c]
      rcases c with c | c
      · have := w.2.2.2.2.1 c; omega
      · have := w.2.2.2.2.2.1 c; omega
    · rw [if_neg c]
      have := aft_le (D := dn U st bg mi nd) (m := nd i) (U := U) (B := 2600 + 60 * i) (by omega) i (fun k hk => by have := ih k (by omega); omega)
      omega
theorem lat_le {T B : Nat} {D : Nat → Nat} (hT : T ≤ B) : ∀ n, (∀ i, i < n → D i ≤ B) → lat T D n ≤ B
  | 0, _ => hT
  | n + 1, h => by
    have := lat_le hT n (fun i hi => h i (by omega))
    have := h n (by omega)
    unfold lat
    omega
/-- the class -/
theorem c_afterNeeds {d : Nat} {s : nm_S} {Q : nm_K} {i U m : Nat} {D : Nat → Nat} (hi : i < 10) (hU : U < 2147483648) (hm : m < 65536) (h26 : ga s 26 i = nI m) (hD : ∀ k, k < i → ga s 30 k = nI (D k) ∧ D k ≤ 4000) (hU2 : U ≤ 4000) : nm_call (d + 1) 57 [.ref 21, .int (nI i), .int (nI U)] (rep s) Q ↔ Q [.int (nI (aft D m U i))] (rep s) := by
  rw [e_X5_afterNeeds]
  simp only [r_X5_afterNeeds_0, r_X5_afterNeeds_1, r_X5_afterNeeds_2, r_X5_afterNeeds_3]
  have key := nm_loop0 (fun k (a : Int32) => x_X5_afterNeeds d Q 5 [.ref 21, .int (nI i), .int (nI U), .int a, .int (nI k)] [] (rep s) 0 0) (fun a => Q [.int a] (rep s)) (fun k a => if m.testBit k = false then a else (if a < ga s 30 k then ga s 30 k else a)) i (by
    intro k a hk
    have g1 : nI k < nI i := (nI_lt' (by omega) (by omega)).mpr hk
    have g2 : vp_in (nI k) 10 := vp_in' (by omega) (by omega)
    have g3 : (nI k).toNatClampNeg = k := i_nIc (by omega)
    have g4 : vp_in (nI i) 10 := vp_in' (by omega) (by omega)
    have g5 : (nI i).toNatClampNeg = i := i_nIc (by omega)
    have g6 := mask_and_bit m k (by omega)
    try dsimp only
    rw [r_X5_afterNeeds_5]
    simp only [r_X5_afterNeeds_7, r_X5_afterNeeds_8, r_X5_afterNeeds_11, r_X5_afterNeeds_12, r_X5_afterNeeds_15, r_X5_afterNeeds_16, r_X5_afterNeeds_17, r_X5_afterNeeds_18, r_X5_afterNeeds_20, r_X5_afterNeeds_21, r_X5_afterNeeds_22, r_X5_afterNeeds_25, r_X5_afterNeeds_26, r_X5_afterNeeds_27, r_X5_afterNeeds_30, r_X5_afterNeeds_32, r_X5_afterNeeds_33, r_X5_afterNeeds_36, r_X5_afterNeeds_37, r_X5_afterNeeds_40, ob_21, gt_21_0, gt_21_1, gt_21_2, gt_21_3, pt_21_3, gt_21_4, pt_21_4, gt_21_5, gt_21_6, gt_21_7, gt_21_8, gt_21_9, gt_21_10, ad_26, as_26, ad_30, as_30, List.cons_append, List.nil_append, List.append_nil, if_true, if_false, true_and, and_true, true_or, or_true, nm_b_some, h26, g1, g2, g3, g4, g5, g6, nI_s]
    by_cases h1 : m.testBit k = false
    · simp only [h1, if_true]
    · rw [if_neg h1, if_neg h1]) (by
    intro a
    have g1 : ¬ nI i < nI i := by rw [nI_lt' (by omega) (by omega)]; omega
    try dsimp only
    rw [r_X5_afterNeeds_5]
    simp only [r_X5_afterNeeds_7, r_X5_afterNeeds_8, r_X5_afterNeeds_11, r_X5_afterNeeds_12, r_X5_afterNeeds_15, r_X5_afterNeeds_16, r_X5_afterNeeds_17, r_X5_afterNeeds_18, r_X5_afterNeeds_20, r_X5_afterNeeds_21, r_X5_afterNeeds_22, r_X5_afterNeeds_25, r_X5_afterNeeds_26, r_X5_afterNeeds_27, r_X5_afterNeeds_30, r_X5_afterNeeds_32, r_X5_afterNeeds_33, r_X5_afterNeeds_36, r_X5_afterNeeds_37, r_X5_afterNeeds_40, r_X5_afterNeeds_43, r_X5_afterNeeds_44, List.cons_append, List.nil_append, List.append_nil, if_true, if_false, true_and, and_true, true_or, or_true, nm_b_some, g1]) (nI U)
  have e := lpf_ind (step := fun k (a : Int32) => if m.testBit k = false then a else (if a < ga s 30 k then ga s 30 k else a)) (fun k a => a = nI (aft D m U k)) (N := i) (by
    intro k a hk ha
    subst ha
    have hb := aft_le (D := D) (m := m) (U := U) (B := 4000) hU2 k (fun j hj => (hD j (by omega)).2)
    have hd := hD k hk
    try dsimp only
    show _ = nI (if m.testBit k = true then max (aft D m U k) (D k) else aft D m U k)
    cases hbit : m.testBit k with
    | false => rfl
    | true =>
      rw [if_neg (by decide), if_pos rfl, hd.1, imax (by omega) (by omega)]) i 0 (nI U) (by omega) rfl
  rw [e] at key
  exact key
theorem c_allDone {d : Nat} {s : nm_S} {Q : nm_K} {N T r : Nat} {st bg mi nd bk : Nat → Nat} {pt sf : Nat → Bool} {ro en : Nat → Nat} (hN : N ≤ 10) (hT : T ≤ 2000) (hX : XR s N st bg mi nd bk pt sf) (hW : WF N T st bg mi nd bk sf) (hB : BK N T r st bg bk ro en) (hXB : XB s r ro en) (hQ : ∀ h, Q [.int (nI (lat T (dn (unt T r en) st bg mi nd) N))] (rep (sa s 30 h))) : nm_call (d + 2) 56 [.ref 21, .int (nI T)] (rep s) Q := by
  obtain ⟨hU1, hU2⟩ := unt_le hT hB
  have hst : ∀ k, k < N → st k < 2147483648 := fun k hk => by have := (hW k hk).2.2.2.1; omega
  have hdl := dn_le hT hU2 hW N (Nat.le_refl _)
  have h10 : ¬ (1 : Int32) = 0 := by decide
  rw [e_X5_allDoneBy]
  simp only [r_X5_allDoneBy_0, r_X5_allDoneBy_1, r_X5_allDoneBy_2, r_X5_allDoneBy_5, r_X5_allDoneBy_6, r_X5_allDoneBy_7, r_X5_allDoneBy_8, r_X5_allDoneBy_9, ob_21, gt_21_0, gt_21_1, gt_21_2, gt_21_3, pt_21_3, gt_21_4, pt_21_4, gt_21_5, gt_21_6, gt_21_7, gt_21_8, gt_21_9, gt_21_10, List.cons_append, List.nil_append, List.append_nil, if_true, if_false, true_and, and_true, true_or, or_true, nm_b_some, c_backUntil hN hT hX hW hB hXB]
  obtain ⟨hx1, hx2⟩ := hX
  generalize unt T r en = U at *
  have hs0 : rep s = rep (sa s 30 (ga s 30)) := by rw [sa_self]
  rw [hs0]
  have loop : ∀ (m k : Nat) (h : Nat → Int32) (z : Value), k + m = N → (∀ j, j < k → h j = nI (dn U st bg mi nd j)) → x_X5_allDoneBy (d + 1) Q 11 [.ref 21, .int (nI T), .int (nI U), .int (nI (lat T (dn U st bg mi nd) k)), .int (nI k), z] [] (rep (sa s 30 h)) 0 0 := by
    intro m
    induction m with
    | zero =>
      intro k h z hk hh
      have : k = N := by omega
      subst this
      have g1 : ¬ nI k < nI k := by rw [nI_lt' (by omega) (by omega)]; omega
      rw [r_X5_allDoneBy_11]
      simp only [r_X5_allDoneBy_13, r_X5_allDoneBy_14, r_X5_allDoneBy_17, r_X5_allDoneBy_103, r_X5_allDoneBy_104, ob_21, gt_21_0, gt_21_1, gt_21_2, gt_21_3, pt_21_3, gt_21_4, pt_21_4, gt_21_5, gt_21_6, gt_21_7, gt_21_8, gt_21_9, gt_21_10, List.cons_append, List.nil_append, List.append_nil, if_true, if_false, true_and, and_true, true_or, or_true, nm_b_some, gi_si, ga_sa, gi_sa, gi_sb, gi_sp, ga_si, ga_sb, ga_sp, gb_si, gb_sa, gb_sb, gb_sp, gp_si, gp_sa, gp_sb, gp_sp, if_true, if_false, ↓reduceIte, Nat.reduceEqDiff, hx1, g1]
      exact hQ h
    | succ m ih =>
      intro k h z hk hh
      have hkN : k < N := by omega
      have g1 : nI k < nI N := (nI_lt' (by omega) (by omega)).mpr hkN
      have g2 : vp_in (nI k) 10 := vp_in' (by omega) (by omega)
      have g3 : (nI k).toNatClampNeg = k := i_nIc (by omega)
      obtain ⟨a1, a2, a3, a4, a5, a6, a7⟩ := hx2 k hkN
      have w := hW k hkN
      have e1 : nI (st k) = 1 ↔ st k = 1 := by rw [nI_1', nI_eq' (hst k hkN) (by omega)]
      have e2 : nI (st k) = 2 ↔ st k = 2 := by rw [nI_2', nI_eq' (hst k hkN) (by omega)]
      have hlt := lat_le (T := T) (B := 4000) (D := dn U st bg mi nd) (by omega) k (fun j hj => by have := hdl j (by omega); omega)
      have hdk := hdl k hkN
      have hnx : ∀ z, x_X5_allDoneBy (d + 1) Q 11 [.ref 21, .int (nI T), .int (nI U), .int (nI (lat T (dn U st bg mi nd) (k + 1))), .int (nI (k + 1)), z] [] (rep (sa s 30 (upd h k (nI (dn U st bg mi nd k))))) 0 0 := by
        intro z
        refine ih (k + 1) _ z (by omega) (fun j hj => ?_)
        by_cases e : j = k
        · subst e; rw [upd_at]
        · rw [upd_ne e]; exact hh j (by omega)
      have hmx : (if nI (lat T (dn U st bg mi nd) k) < nI (dn U st bg mi nd k) then nI (dn U st bg mi nd k) else nI (lat T (dn U st bg mi nd) k)) = nI (lat T (dn U st bg mi nd) (k + 1)) := by
        rw [imax (by omega) (by omega)]
        rfl
      have hdn := dn_is U st bg mi nd k
      by_cases c : st k = 1 ∨ st k = 2
      · rw [if_pos c] at hdn
        have eD : eb st bg k + nI (mi k) = nI (dn U st bg mi nd k) := by
          unfold eb
          rw [if_neg (by omega), nI_ad, hdn]
        have hc2 : (nI (st k) = 1 ∨ nI (st k) = 2) := by rw [e1, e2]; exact c
        rw [r_X5_allDoneBy_11]
        simp only [r_X5_allDoneBy_13, r_X5_allDoneBy_14, r_X5_allDoneBy_17, r_X5_allDoneBy_20, r_X5_allDoneBy_21, r_X5_allDoneBy_24, r_X5_allDoneBy_26, r_X5_allDoneBy_27, r_X5_allDoneBy_28, r_X5_allDoneBy_31, r_X5_allDoneBy_32, r_X5_allDoneBy_35, r_X5_allDoneBy_37, r_X5_allDoneBy_38, r_X5_allDoneBy_39, r_X5_allDoneBy_42, r_X5_allDoneBy_43, r_X5_allDoneBy_46, r_X5_allDoneBy_47, ob_21, gt_21_0, gt_21_1, gt_21_2, gt_21_3, pt_21_3, gt_21_4, pt_21_4, gt_21_5, gt_21_6, gt_21_7, gt_21_8, gt_21_9, gt_21_10, ad_22, as_22, List.cons_append, List.nil_append, List.append_nil, if_true, if_false, true_and, and_true, true_or, or_true, nm_b_some, gi_si, ga_sa, gi_sa, gi_sb, gi_sp, ga_si, ga_sb, ga_sp, gb_si, gb_sa, gb_sb, gb_sp, gp_si, gp_sa, gp_sb, gp_sp, if_true, if_false, ↓reduceIte, Nat.reduceEqDiff, hx1, g1, g2, g3, a1, e1, e2]
        rcases c with c | c
        · simp only [eq_true c, if_true, r_X5_allDoneBy_42, r_X5_allDoneBy_43, r_X5_allDoneBy_46, r_X5_allDoneBy_47, r_X5_allDoneBy_49, r_X5_allDoneBy_50, r_X5_allDoneBy_53, r_X5_allDoneBy_55, r_X5_allDoneBy_57, r_X5_allDoneBy_60, r_X5_allDoneBy_61, r_X5_allDoneBy_63, r_X5_allDoneBy_66, r_X5_allDoneBy_69, r_X5_allDoneBy_70, r_X5_allDoneBy_72, r_X5_allDoneBy_73, r_X5_allDoneBy_76, r_X5_allDoneBy_77, r_X5_allDoneBy_80, r_X5_allDoneBy_82, r_X5_allDoneBy_83, r_X5_allDoneBy_84, r_X5_allDoneBy_85, r_X5_allDoneBy_86, r_X5_allDoneBy_87, r_X5_allDoneBy_90, r_X5_allDoneBy_92, r_X5_allDoneBy_93, r_X5_allDoneBy_96, r_X5_allDoneBy_97, r_X5_allDoneBy_100, ob_21, gt_21_0, gt_21_1, gt_21_2, gt_21_3, pt_21_3, gt_21_4, pt_21_4, gt_21_5, gt_21_6, gt_21_7, gt_21_8, gt_21_9, gt_21_10, ad_30, as_30, List.cons_append, List.nil_append, List.append_nil, if_true, if_false, true_and, and_true, true_or, or_true, nm_b_some, gi_si, ga_sa, gi_sa, gi_sb, gi_sp, ga_si, ga_sb, ga_sp, gb_si, gb_sa, gb_sb, gb_sp, gp_si, gp_sa, gp_sb, gp_sp, if_true, if_false, ↓reduceIte, Nat.reduceEqDiff, h10, g2, g3, c_doneMinute (s := sa s 30 h) (show k < 10 by omega), a1, a2, a4, e1, e2, true_or, eD, upd_at, hmx, nI_s, sa_sa]
          exact hnx _
        · have c3 : ¬ st k = 1 := by omega
          simp only [eq_true c, eq_false c3, if_true, if_false, r_X5_allDoneBy_42, r_X5_allDoneBy_43, r_X5_allDoneBy_46, r_X5_allDoneBy_47, r_X5_allDoneBy_49, r_X5_allDoneBy_50, r_X5_allDoneBy_53, r_X5_allDoneBy_55, r_X5_allDoneBy_57, r_X5_allDoneBy_60, r_X5_allDoneBy_61, r_X5_allDoneBy_63, r_X5_allDoneBy_66, r_X5_allDoneBy_69, r_X5_allDoneBy_70, r_X5_allDoneBy_72, r_X5_allDoneBy_73, r_X5_allDoneBy_76, r_X5_allDoneBy_77, r_X5_allDoneBy_80, r_X5_allDoneBy_82, r_X5_allDoneBy_83, r_X5_allDoneBy_84, r_X5_allDoneBy_85, r_X5_allDoneBy_86, r_X5_allDoneBy_87, r_X5_allDoneBy_90, r_X5_allDoneBy_92, r_X5_allDoneBy_93, r_X5_allDoneBy_96, r_X5_allDoneBy_97, r_X5_allDoneBy_100, ob_21, gt_21_0, gt_21_1, gt_21_2, gt_21_3, pt_21_3, gt_21_4, pt_21_4, gt_21_5, gt_21_6, gt_21_7, gt_21_8, gt_21_9, gt_21_10, ad_30, as_30, List.cons_append, List.nil_append, List.append_nil, if_true, if_false, true_and, and_true, true_or, or_true, nm_b_some, gi_si, ga_sa, gi_sa, gi_sb, gi_sp, ga_si, ga_sb, ga_sp, gb_si, gb_sa, gb_sb, gb_sp, gp_si, gp_sa, gp_sb, gp_sp, if_true, if_false, ↓reduceIte, Nat.reduceEqDiff, h10, g2, g3, c_doneMinute (s := sa s 30 h) (show k < 10 by omega), a1, a2, a4, e1, e2, or_true, eD, upd_at, hmx, nI_s, sa_sa]
          exact hnx _
      · rw [if_neg c] at hdn
        have c1 : ¬ st k = 1 := fun z => c (Or.inl z)
        have c2 : ¬ st k = 2 := fun z => c (Or.inr z)
        have hA := fun Q => c_afterNeeds (Q := Q) (d := d) (s := sa s 30 h) (i := k) (U := U) (m := nd k) (D := dn U st bg mi nd) (by omega) (by omega) (nd_small (by omega) w.2.1) (by simp only [gi_si, ga_sa, gi_sa, gi_sb, gi_sp, ga_si, ga_sb, ga_sp, gb_si, gb_sa, gb_sb, gb_sp, gp_si, gp_sa, gp_sb, gp_sp, if_true, if_false, ↓reduceIte, Nat.reduceEqDiff]; exact a5) (fun j hj => ⟨by simp only [gi_si, ga_sa, gi_sa, gi_sb, gi_sp, ga_si, ga_sb, ga_sp, gb_si, gb_sa, gb_sb, gb_sp, gp_si, gp_sa, gp_sb, gp_sp, if_true, if_false, ↓reduceIte, Nat.reduceEqDiff]; exact hh j hj, by have := hdl j (by omega); omega⟩) (by omega)
        rw [r_X5_allDoneBy_11]
        simp only [r_X5_allDoneBy_13, r_X5_allDoneBy_14, r_X5_allDoneBy_17, r_X5_allDoneBy_20, r_X5_allDoneBy_21, r_X5_allDoneBy_24, r_X5_allDoneBy_26, r_X5_allDoneBy_27, r_X5_allDoneBy_28, r_X5_allDoneBy_31, r_X5_allDoneBy_32, r_X5_allDoneBy_35, r_X5_allDoneBy_37, r_X5_allDoneBy_38, r_X5_allDoneBy_39, r_X5_allDoneBy_42, r_X5_allDoneBy_43, r_X5_allDoneBy_46, r_X5_allDoneBy_47, ob_21, gt_21_0, gt_21_1, gt_21_2, gt_21_3, pt_21_3, gt_21_4, pt_21_4, gt_21_5, gt_21_6, gt_21_7, gt_21_8, gt_21_9, gt_21_10, ad_22, as_22, List.cons_append, List.nil_append, List.append_nil, if_true, if_false, true_and, and_true, true_or, or_true, nm_b_some, gi_si, ga_sa, gi_sa, gi_sb, gi_sp, ga_si, ga_sb, ga_sp, gb_si, gb_sa, gb_sb, gb_sp, gp_si, gp_sa, gp_sb, gp_sp, if_true, if_false, ↓reduceIte, Nat.reduceEqDiff, hx1, g1, g2, g3, a1, e1, e2, c1, c2]
        simp only [r_X5_allDoneBy_46, r_X5_allDoneBy_47, r_X5_allDoneBy_49, r_X5_allDoneBy_50, r_X5_allDoneBy_53, r_X5_allDoneBy_55, r_X5_allDoneBy_57, r_X5_allDoneBy_60, r_X5_allDoneBy_61, r_X5_allDoneBy_63, r_X5_allDoneBy_66, r_X5_allDoneBy_69, r_X5_allDoneBy_70, r_X5_allDoneBy_72, r_X5_allDoneBy_73, r_X5_allDoneBy_76, r_X5_allDoneBy_77, r_X5_allDoneBy_80, r_X5_allDoneBy_82, r_X5_allDoneBy_83, r_X5_allDoneBy_84, r_X5_allDoneBy_85, r_X5_allDoneBy_86, r_X5_allDoneBy_87, r_X5_allDoneBy_90, r_X5_allDoneBy_92, r_X5_allDoneBy_93, r_X5_allDoneBy_96, r_X5_allDoneBy_97, r_X5_allDoneBy_100, ob_21, gt_21_0, gt_21_1, gt_21_2, gt_21_3, pt_21_3, gt_21_4, pt_21_4, gt_21_5, gt_21_6, gt_21_7, gt_21_8, gt_21_9, gt_21_10, ad_25, as_25, ad_30, as_30, List.cons_append, List.nil_append, List.append_nil, if_true, if_false, true_and, and_true, true_or, or_true, nm_b_some, gi_si, ga_sa, gi_sa, gi_sb, gi_sp, ga_si, ga_sb, ga_sp, gb_si, gb_sa, gb_sb, gb_sp, gp_si, gp_sa, gp_sb, gp_sp, if_true, if_false, ↓reduceIte, Nat.reduceEqDiff, h10, g2, g3, hA, a4, nI_ad, ← hdn, upd_at, hmx, nI_s, sa_sa]
        exact hnx _
  exact loop N 0 (ga s 30) .null (by omega) (fun j hj => by omega)
