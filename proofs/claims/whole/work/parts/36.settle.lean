/-! The reference's settleBack, minute and tick. -/
def mS (s : nm_S) (f g w : Nat → Int32) (rv lv : Int32) : nm_S := si (si (sa (sa (sa s 59 f) 60 g) 62 w) 4034 rv) 4035 lv
theorem ga_mS (s : nm_S) (f g w : Nat → Int32) (rv lv : Int32) (c : Nat) : ga (mS s f g w rv lv) c = if c = 62 then w else if c = 60 then g else if c = 59 then f else ga s c := by
  unfold mS
  simp only [ga_si, ga_sa]
theorem gi_mS (s : nm_S) (f g w : Nat → Int32) (rv lv : Int32) (k : Nat) : gi (mS s f g w rv lv) k = if k = 4035 then lv else if k = 4034 then rv else gi s k := by
  unfold mS
  simp only [gi_si, gi_sa]
theorem mS_59 (s : nm_S) (f g w f' : Nat → Int32) (rv lv : Int32) : sa (mS s f g w rv lv) 59 f' = mS s f' g w rv lv := by
  refine st_ext (fun _ => rfl) (fun c => ?_) rfl rfl
  rw [ga_sa, ga_mS, ga_mS]
  by_cases h1 : c = 59 <;> simp [h1]
theorem mS_60 (s : nm_S) (f g w f' : Nat → Int32) (rv lv : Int32) : sa (mS s f g w rv lv) 60 f' = mS s f f' w rv lv := by
  refine st_ext (fun _ => rfl) (fun c => ?_) rfl rfl
  rw [ga_sa, ga_mS, ga_mS]
  by_cases h1 : c = 60 <;> simp [h1]
theorem mS_62 (s : nm_S) (f g w f' : Nat → Int32) (rv lv : Int32) : sa (mS s f g w rv lv) 62 f' = mS s f g f' rv lv := by
  refine st_ext (fun _ => rfl) (fun c => ?_) rfl rfl
  rw [ga_sa, ga_mS, ga_mS]
  by_cases h1 : c = 62 <;> simp [h1]
theorem mS_r (s : nm_S) (f g w : Nat → Int32) (rv lv x : Int32) : si (mS s f g w rv lv) 4034 x = mS s f g w x lv := by
  refine st_ext (fun k => ?_) (fun _ => rfl) rfl rfl
  rw [gi_si, gi_mS, gi_mS]
  by_cases h1 : k = 4034 <;> simp [h1]
theorem mS_l (s : nm_S) (f g w : Nat → Int32) (rv lv x : Int32) : si (mS s f g w rv lv) 4035 x = mS s f g w rv x := by
  refine st_ext (fun k => ?_) (fun _ => rfl) rfl rfl
  rw [gi_si, gi_mS, gi_mS]
  by_cases h1 : k = 4035 <;> simp [h1]
theorem mS_self (s : nm_S) : mS s (ga s 59) (ga s 60) (ga s 62) (gi s 4034) (gi s 4035) = s := by
  refine st_ext (fun k => ?_) (fun c => ?_) rfl rfl
  · rw [gi_mS]
    by_cases h1 : k = 4035
    · simp [h1]
    · by_cases h2 : k = 4034 <;> simp [h1, h2]
  · rw [ga_mS]
    by_cases h1 : c = 62
    · simp [h1]
    · by_cases h2 : c = 60
      · simp [h2]
      · by_cases h3 : c = 59 <;> simp [h1, h2, h3]
def zs (ro : Nat → Nat) (v : Int32) : Nat → Nat → (Nat → Int32) → (Nat → Int32)
  | _, 0, F => F
  | k, n + 1, F => zs ro v (k + 1) n (upd F (ro k) v)
theorem zs_is (ro : Nat → Nat) (v : Int32) : ∀ (n k : Nat) (F : Nat → Int32) (i : Nat), ((∃ j, k ≤ j ∧ j < k + n ∧ ro j = i) → zs ro v k n F i = v) ∧ ((¬ ∃ j, k ≤ j ∧ j < k + n ∧ ro j = i) → zs ro v k n F i = F i)
  | 0, k, F, i => ⟨fun ⟨j, h1, h2, _⟩ => by omega, fun _ => rfl⟩
  | n + 1, k, F, i => by
    obtain ⟨ih1, ih2⟩ := zs_is ro v n (k + 1) (upd F (ro k) v) i
    show (_ → zs ro v (k + 1) n (upd F (ro k) v) i = v) ∧ (_ → zs ro v (k + 1) n (upd F (ro k) v) i = F i)
    by_cases hc : ∃ j, k + 1 ≤ j ∧ j < k + 1 + n ∧ ro j = i
    · refine ⟨fun _ => ih1 hc, fun z => ?_⟩
      obtain ⟨j, h1, h2, h3⟩ := hc
      exact absurd ⟨j, by omega, by omega, h3⟩ z
    · rw [ih2 hc]
      by_cases hk : i = ro k
      · subst hk
        rw [upd_at]
        exact ⟨fun _ => rfl, fun z => absurd ⟨k, Nat.le_refl k, by omega, rfl⟩ z⟩
      · rw [upd_ne hk]
        refine ⟨fun ⟨j, h1, h2, h3⟩ => ?_, fun _ => rfl⟩
        by_cases e : j = k
        · subst e; exact absurd h3.symm hk
        · exact absurd ⟨j, by omega, by omega, h3⟩ hc
def lfs (r l : Nat) (ro bk : Nat → Nat) (k : Nat) : Nat := if k = r then 0 else if k = 0 then l else bk (ro k)
theorem sh_is (w : Nat → Int32) (q : Nat) : ∀ j, j < q → lpf (fun k (v : Nat → Int32) => upd v k (v (k + 1))) q 0 w j = w (j + 1) := by
  have key := lpf_ind (step := fun k (v : Nat → Int32) => upd v k (v (k + 1))) (fun i v => (∀ j, j < i → v j = w (j + 1)) ∧ ∀ j, i ≤ j → v j = w j) (N := q) (by
    intro i v hi hv
    refine ⟨fun j hj => ?_, fun j hj => ?_⟩
    · try dsimp only
      by_cases e : j = i
      · subst e; rw [upd_at]; exact hv.2 (j + 1) (by omega)
      · rw [upd_ne e]; exact hv.1 j (by omega)
    · try dsimp only
      rw [upd_ne (by omega)]; exact hv.2 j (by omega)) q 0 w (by omega) ⟨fun j hj => by omega, fun j _ => rfl⟩
  exact key.1
theorem c_settle {d : Nat} {s : nm_S} {Q : nm_K} {r l : Nat} (hr : r ≤ 10) (hl : l ≤ 3000) {ro bk : Nat → Nat} (hro : ∀ j, j < r → ro j < 10 ∧ ga s 57 (ro j) = nI (bk (ro j)) ∧ bk (ro j) ≤ 60) : ∀ (m k : Nat) (w F G : Nat → Int32) (z : Value), k + m = r → (∀ j, j < m → w j = nI (ro (j + k))) → (∀ (K : Nat) (w' : Nat → Int32), k ≤ K → K ≤ r → (∀ j, k ≤ j → j < K → lfs r l ro bk j = 0) → (K < r → lfs r l ro bk K ≠ 0) → (∀ j, j + K < r → w' j = nI (ro (j + K))) → Q [] (rep (mS s (zs ro 0 k (K - k) F) (zs ro (-1) k (K - k) G) w' (nI (r - K)) (nI (lfs r l ro bk K))))) → x_X9_settleBack d Q 0 [.ref 40, z] [] (rep (mS s F G w (nI m) (nI (lfs r l ro bk k)))) 0 0
  | 0, k, w, F, G, z, hk, hw, hQ => by
    have g1 : ¬ (0 : Int32) < nI 0 := by decide
    rw [r_X9_settleBack_0]
    simp only [r_X9_settleBack_1, r_X9_settleBack_4, r_X9_settleBack_7, r_X9_settleBack_8, r_X9_settleBack_11, r_X9_settleBack_14, r_X9_settleBack_15, r_X9_settleBack_18, r_X9_settleBack_19, r_X9_settleBack_22, r_X9_settleBack_23, r_X9_settleBack_24, r_X9_settleBack_25, r_X9_settleBack_26, r_X9_settleBack_27, r_X9_settleBack_30, r_X9_settleBack_31, r_X9_settleBack_34, r_X9_settleBack_35, r_X9_settleBack_36, r_X9_settleBack_37, r_X9_settleBack_38, r_X9_settleBack_39, r_X9_settleBack_40, r_X9_settleBack_43, r_X9_settleBack_44, r_X9_settleBack_45, r_X9_settleBack_48, r_X9_settleBack_49, r_X9_settleBack_50, r_X9_settleBack_51, r_X9_settleBack_52, r_X9_settleBack_55, r_X9_settleBack_58, r_X9_settleBack_59, r_X9_settleBack_62, r_X9_settleBack_63, r_X9_settleBack_64, r_X9_settleBack_67, r_X9_settleBack_68, r_X9_settleBack_69, r_X9_settleBack_70, r_X9_settleBack_71, r_X9_settleBack_72, r_X9_settleBack_75, r_X9_settleBack_78, r_X9_settleBack_79, r_X9_settleBack_80, r_X9_settleBack_83, r_X9_settleBack_86, r_X9_settleBack_87, r_X9_settleBack_90, r_X9_settleBack_91, r_X9_settleBack_94, r_X9_settleBack_95, r_X9_settleBack_96, r_X9_settleBack_97, r_X9_settleBack_100, r_X9_settleBack_101, r_X9_settleBack_104, r_X9_settleBack_107, ob_40, gt_40_0, pt_40_0, gt_40_1, pt_40_1, gt_40_2, pt_40_2, gt_40_3, pt_40_3, gt_40_4, pt_40_4, gt_40_5, pt_40_5, gt_40_6, pt_40_6, gt_40_7, pt_40_7, gt_40_8, pt_40_8, gt_40_9, pt_40_9, gt_40_10, pt_40_10, gt_40_11, gt_40_12, gt_40_13, gt_40_14, gt_40_15, gt_40_16, gt_40_17, gt_40_18, gt_40_19, gt_40_20, gt_40_21, gt_40_22, pt_40_22, gt_40_23, gt_40_24, gt_40_25, gt_40_26, gt_40_27, gt_40_28, gt_40_29, gt_40_30, gt_40_31, gt_40_32, gt_40_33, gt_40_34, pt_40_34, gt_40_35, pt_40_35, gt_40_36, gt_40_37, gt_40_38, gt_40_39, gt_40_40, gt_40_41, pt_40_41, gt_40_42, pt_40_42, gt_40_43, pt_40_43, gt_40_44, pt_40_44, gt_40_45, pt_40_45, gt_40_46, pt_40_46, gt_40_47, List.cons_append, List.nil_append, List.append_nil, if_true, if_false, true_and, and_true, true_or, or_true, nm_b_some, gi_mS, gi_si, ga_sa, gi_sa, gi_sb, gi_sp, ga_si, ga_sb, ga_sp, gb_si, gb_sa, gb_sb, gb_sp, gp_si, gp_sa, gp_sb, gp_sp, if_true, if_false, ↓reduceIte, Nat.reduceEqDiff, g1]
    have := hQ k w (Nat.le_refl k) (by omega) (fun j h1 h2 => by omega) (fun h => by omega) (fun j hj => by omega)
    rw [Nat.sub_self, show r - k = 0 by omega] at this
    exact this
  | m + 1, k, w, F, G, z, hk, hw, hQ => by
    have g1 : (0 : Int32) < nI (m + 1) := (nI_lt' (a := 0) (by omega) (by omega)).mpr (by omega)
    obtain ⟨p1, p2, p3⟩ := hro k (by omega)
    have hlf : lfs r l ro bk k ≤ 3000 := by
      unfold lfs
      split
      · omega
      · split
        · omega
        · omega
    have g2 : nI (lfs r l ro bk k) = 0 ↔ lfs r l ro bk k = 0 := nI_z (by omega)
    have w0 : w 0 = nI (ro k) := by have := hw 0 (by omega); rw [Nat.zero_add] at this; exact this
    have g0 : vp_in (0 : Int32) 10 := vp_in' (a := 0) (by omega) (by omega)
    have g0' : (0 : Int32).toNatClampNeg = 0 := by decide
    have g3 : vp_in (nI (ro k)) 10 := vp_in' p1 (by omega)
    have g4 : (nI (ro k)).toNatClampNeg = ro k := i_nIc (by omega)
    by_cases hz : lfs r l ro bk k = 0
    · rw [r_X9_settleBack_0]
      simp only [r_X9_settleBack_1, r_X9_settleBack_4, r_X9_settleBack_7, r_X9_settleBack_8, r_X9_settleBack_11, r_X9_settleBack_14, r_X9_settleBack_15, r_X9_settleBack_18, r_X9_settleBack_19, r_X9_settleBack_22, r_X9_settleBack_23, r_X9_settleBack_24, r_X9_settleBack_25, r_X9_settleBack_26, r_X9_settleBack_27, r_X9_settleBack_30, r_X9_settleBack_31, r_X9_settleBack_34, r_X9_settleBack_35, r_X9_settleBack_36, r_X9_settleBack_37, r_X9_settleBack_38, r_X9_settleBack_39, r_X9_settleBack_40, r_X9_settleBack_43, r_X9_settleBack_44, r_X9_settleBack_45, r_X9_settleBack_48, r_X9_settleBack_49, ob_40, gt_40_0, pt_40_0, gt_40_1, pt_40_1, gt_40_2, pt_40_2, gt_40_3, pt_40_3, gt_40_4, pt_40_4, gt_40_5, pt_40_5, gt_40_6, pt_40_6, gt_40_7, pt_40_7, gt_40_8, pt_40_8, gt_40_9, pt_40_9, gt_40_10, pt_40_10, gt_40_11, gt_40_12, gt_40_13, gt_40_14, gt_40_15, gt_40_16, gt_40_17, gt_40_18, gt_40_19, gt_40_20, gt_40_21, gt_40_22, pt_40_22, gt_40_23, gt_40_24, gt_40_25, gt_40_26, gt_40_27, gt_40_28, gt_40_29, gt_40_30, gt_40_31, gt_40_32, gt_40_33, gt_40_34, pt_40_34, gt_40_35, pt_40_35, gt_40_36, gt_40_37, gt_40_38, gt_40_39, gt_40_40, gt_40_41, pt_40_41, gt_40_42, pt_40_42, gt_40_43, pt_40_43, gt_40_44, pt_40_44, gt_40_45, pt_40_45, gt_40_46, pt_40_46, gt_40_47, ad_59, as_59, ad_60, as_60, ad_62, as_62, List.cons_append, List.nil_append, List.append_nil, if_true, if_false, true_and, and_true, true_or, or_true, nm_b_some, gi_mS, ga_mS, mS_59, mS_60, mS_r, gi_si, ga_sa, gi_sa, gi_sb, gi_sp, ga_si, ga_sb, ga_sp, gb_si, gb_sa, gb_sb, gb_sp, gp_si, gp_sa, gp_sb, gp_sp, if_true, if_false, ↓reduceIte, Nat.reduceEqDiff, g1, g2, hz, g0, g0', w0, g3, g4, nI_pred]
      refine nm_loopI (fun i (v : Nat → Int32) => x_X9_settleBack d Q 50 [.ref 40, .int (nI i)] [] (rep (mS s (upd F (ro k) 0) (upd G (ro k) (-1)) v (nI m) (nI 0))) 0 0) (fun v => ∀ z : Value, x_X9_settleBack d Q 78 [.ref 40, z] [] (rep (mS s (upd F (ro k) 0) (upd G (ro k) (-1)) v (nI m) (nI 0))) 0 0) (fun k (v : Nat → Int32) => upd v k (v (k + 1))) (fun _ _ => True) (N := m) ?_ ?_ m 0 w (by omega) trivial ?_
      · intro i v hi _
        refine ⟨trivial, fun hnx => ?_⟩
        have e1 : nI i < nI m := (nI_lt' (by omega) (by omega)).mpr hi
        have e2 : vp_in (nI i) 10 := vp_in' (by omega) (by omega)
        have e3 : (nI i).toNatClampNeg = i := i_nIc (by omega)
        have e4 : vp_in (nI (i + 1)) 10 := vp_in' (by omega) (by omega)
        have e5 : (nI (i + 1)).toNatClampNeg = i + 1 := i_nIc (by omega)
        rw [r_X9_settleBack_50]
        simp only [r_X9_settleBack_51, r_X9_settleBack_52, r_X9_settleBack_55, r_X9_settleBack_58, r_X9_settleBack_59, r_X9_settleBack_62, r_X9_settleBack_63, r_X9_settleBack_64, r_X9_settleBack_67, r_X9_settleBack_68, r_X9_settleBack_69, r_X9_settleBack_70, r_X9_settleBack_71, r_X9_settleBack_72, r_X9_settleBack_75, ob_40, gt_40_0, pt_40_0, gt_40_1, pt_40_1, gt_40_2, pt_40_2, gt_40_3, pt_40_3, gt_40_4, pt_40_4, gt_40_5, pt_40_5, gt_40_6, pt_40_6, gt_40_7, pt_40_7, gt_40_8, pt_40_8, gt_40_9, pt_40_9, gt_40_10, pt_40_10, gt_40_11, gt_40_12, gt_40_13, gt_40_14, gt_40_15, gt_40_16, gt_40_17, gt_40_18, gt_40_19, gt_40_20, gt_40_21, gt_40_22, pt_40_22, gt_40_23, gt_40_24, gt_40_25, gt_40_26, gt_40_27, gt_40_28, gt_40_29, gt_40_30, gt_40_31, gt_40_32, gt_40_33, gt_40_34, pt_40_34, gt_40_35, pt_40_35, gt_40_36, gt_40_37, gt_40_38, gt_40_39, gt_40_40, gt_40_41, pt_40_41, gt_40_42, pt_40_42, gt_40_43, pt_40_43, gt_40_44, pt_40_44, gt_40_45, pt_40_45, gt_40_46, pt_40_46, gt_40_47, ad_62, as_62, List.cons_append, List.nil_append, List.append_nil, if_true, if_false, true_and, and_true, true_or, or_true, nm_b_some, gi_mS, ga_mS, mS_62, gi_si, ga_sa, gi_sa, gi_sb, gi_sp, ga_si, ga_sb, ga_sp, gb_si, gb_sa, gb_sb, gb_sp, gp_si, gp_sa, gp_sb, gp_sp, if_true, if_false, ↓reduceIte, Nat.reduceEqDiff, e1, e2, e3, nI_s, e4, e5]
        exact hnx
      · intro v _ hrr
        have e1 : ¬ nI m < nI m := by rw [nI_lt' (by omega) (by omega)]; omega
        rw [r_X9_settleBack_50]
        simp only [r_X9_settleBack_51, r_X9_settleBack_52, r_X9_settleBack_55, r_X9_settleBack_58, r_X9_settleBack_59, r_X9_settleBack_62, r_X9_settleBack_63, r_X9_settleBack_64, r_X9_settleBack_67, r_X9_settleBack_68, r_X9_settleBack_69, r_X9_settleBack_70, r_X9_settleBack_71, r_X9_settleBack_72, r_X9_settleBack_75, ob_40, gt_40_0, pt_40_0, gt_40_1, pt_40_1, gt_40_2, pt_40_2, gt_40_3, pt_40_3, gt_40_4, pt_40_4, gt_40_5, pt_40_5, gt_40_6, pt_40_6, gt_40_7, pt_40_7, gt_40_8, pt_40_8, gt_40_9, pt_40_9, gt_40_10, pt_40_10, gt_40_11, gt_40_12, gt_40_13, gt_40_14, gt_40_15, gt_40_16, gt_40_17, gt_40_18, gt_40_19, gt_40_20, gt_40_21, gt_40_22, pt_40_22, gt_40_23, gt_40_24, gt_40_25, gt_40_26, gt_40_27, gt_40_28, gt_40_29, gt_40_30, gt_40_31, gt_40_32, gt_40_33, gt_40_34, pt_40_34, gt_40_35, pt_40_35, gt_40_36, gt_40_37, gt_40_38, gt_40_39, gt_40_40, gt_40_41, pt_40_41, gt_40_42, pt_40_42, gt_40_43, pt_40_43, gt_40_44, pt_40_44, gt_40_45, pt_40_45, gt_40_46, pt_40_46, gt_40_47, ad_62, as_62, List.cons_append, List.nil_append, List.append_nil, if_true, if_false, true_and, and_true, true_or, or_true, nm_b_some, gi_mS, ga_mS, gi_si, ga_sa, gi_sa, gi_sb, gi_sp, ga_si, ga_sb, ga_sp, gb_si, gb_sa, gb_sb, gb_sp, gp_si, gp_sa, gp_sb, gp_sp, if_true, if_false, ↓reduceIte, Nat.reduceEqDiff, e1]
        exact hrr _
      · have hsh := sh_is w m
        generalize lpf (fun k (v : Nat → Int32) => upd v k (v (k + 1))) m 0 w = w2 at hsh
        have hw2 : ∀ j, j < m → w2 j = nI (ro (j + (k + 1))) := fun j hj => by
          rw [hsh j hj, hw (j + 1) (by omega), show j + 1 + k = j + (k + 1) by omega]
        intro z2
        have ih := c_settle (d := d) (Q := Q) hr hl hro m (k + 1) w2 (upd F (ro k) 0) (upd G (ro k) (-1)) z2 (by omega) hw2 (fun K w' h1 h2 h3 h4 h5 => by
          have := hQ K w' (by omega) h2 (fun j a b => by
            by_cases e : j = k
            · subst e; exact hz
            · exact h3 j (by omega) b) h4 h5
          rw [show K - k = (K - (k + 1)) + 1 by omega] at this
          exact this)
        by_cases hm : m = 0
        · subst hm
          have e0 : ¬ (0 : Int32) < nI 0 := by decide
          simp only [r_X9_settleBack_78, r_X9_settleBack_79, r_X9_settleBack_80, r_X9_settleBack_83, r_X9_settleBack_86, r_X9_settleBack_87, r_X9_settleBack_90, r_X9_settleBack_91, r_X9_settleBack_94, r_X9_settleBack_95, r_X9_settleBack_96, r_X9_settleBack_97, r_X9_settleBack_100, r_X9_settleBack_101, r_X9_settleBack_104, ob_40, gt_40_0, pt_40_0, gt_40_1, pt_40_1, gt_40_2, pt_40_2, gt_40_3, pt_40_3, gt_40_4, pt_40_4, gt_40_5, pt_40_5, gt_40_6, pt_40_6, gt_40_7, pt_40_7, gt_40_8, pt_40_8, gt_40_9, pt_40_9, gt_40_10, pt_40_10, gt_40_11, gt_40_12, gt_40_13, gt_40_14, gt_40_15, gt_40_16, gt_40_17, gt_40_18, gt_40_19, gt_40_20, gt_40_21, gt_40_22, pt_40_22, gt_40_23, gt_40_24, gt_40_25, gt_40_26, gt_40_27, gt_40_28, gt_40_29, gt_40_30, gt_40_31, gt_40_32, gt_40_33, gt_40_34, pt_40_34, gt_40_35, pt_40_35, gt_40_36, gt_40_37, gt_40_38, gt_40_39, gt_40_40, gt_40_41, pt_40_41, gt_40_42, pt_40_42, gt_40_43, pt_40_43, gt_40_44, pt_40_44, gt_40_45, pt_40_45, gt_40_46, pt_40_46, gt_40_47, List.cons_append, List.nil_append, List.append_nil, if_true, if_false, true_and, and_true, true_or, or_true, nm_b_some, gi_mS, mS_l, gi_si, ga_sa, gi_sa, gi_sb, gi_sp, ga_si, ga_sb, ga_sp, gb_si, gb_sa, gb_sb, gb_sp, gp_si, gp_sa, gp_sb, gp_sp, if_true, if_false, ↓reduceIte, Nat.reduceEqDiff, e0]
          have e1 : lfs r l ro bk (k + 1) = 0 := by unfold lfs; rw [if_pos (by omega)]
          rw [e1] at ih
          exact ih
        · have e0 : (0 : Int32) < nI m := (nI_lt' (a := 0) (by omega) (by omega)).mpr (by omega)
          obtain ⟨q1, q2, q3⟩ := hro (k + 1) (by omega)
          have w20 : w2 0 = nI (ro (k + 1)) := by have := hw2 0 (by omega); rw [Nat.zero_add] at this; exact this
          have e3 : vp_in (nI (ro (k + 1))) 10 := vp_in' q1 (by omega)
          have e4 : (nI (ro (k + 1))).toNatClampNeg = ro (k + 1) := i_nIc (by omega)
          simp only [r_X9_settleBack_78, r_X9_settleBack_79, r_X9_settleBack_80, r_X9_settleBack_83, r_X9_settleBack_86, r_X9_settleBack_87, r_X9_settleBack_90, r_X9_settleBack_91, r_X9_settleBack_94, r_X9_settleBack_95, r_X9_settleBack_96, r_X9_settleBack_97, r_X9_settleBack_100, r_X9_settleBack_101, r_X9_settleBack_104, ob_40, gt_40_0, pt_40_0, gt_40_1, pt_40_1, gt_40_2, pt_40_2, gt_40_3, pt_40_3, gt_40_4, pt_40_4, gt_40_5, pt_40_5, gt_40_6, pt_40_6, gt_40_7, pt_40_7, gt_40_8, pt_40_8, gt_40_9, pt_40_9, gt_40_10, pt_40_10, gt_40_11, gt_40_12, gt_40_13, gt_40_14, gt_40_15, gt_40_16, gt_40_17, gt_40_18, gt_40_19, gt_40_20, gt_40_21, gt_40_22, pt_40_22, gt_40_23, gt_40_24, gt_40_25, gt_40_26, gt_40_27, gt_40_28, gt_40_29, gt_40_30, gt_40_31, gt_40_32, gt_40_33, gt_40_34, pt_40_34, gt_40_35, pt_40_35, gt_40_36, gt_40_37, gt_40_38, gt_40_39, gt_40_40, gt_40_41, pt_40_41, gt_40_42, pt_40_42, gt_40_43, pt_40_43, gt_40_44, pt_40_44, gt_40_45, pt_40_45, gt_40_46, pt_40_46, gt_40_47, ad_57, as_57, ad_62, as_62, List.cons_append, List.nil_append, List.append_nil, if_true, if_false, true_and, and_true, true_or, or_true, nm_b_some, gi_mS, ga_mS, mS_l, gi_si, ga_sa, gi_sa, gi_sb, gi_sp, ga_si, ga_sb, ga_sp, gb_si, gb_sa, gb_sb, gb_sp, gp_si, gp_sa, gp_sb, gp_sp, if_true, if_false, ↓reduceIte, Nat.reduceEqDiff, e0, g0, g0', w20, e3, e4, q2]
          have e1 : lfs r l ro bk (k + 1) = bk (ro (k + 1)) := by unfold lfs; rw [if_neg (by omega), if_neg (by omega)]
          rw [e1] at ih
          exact ih
    · rw [r_X9_settleBack_0]
      simp only [r_X9_settleBack_1, r_X9_settleBack_4, r_X9_settleBack_7, r_X9_settleBack_8, r_X9_settleBack_11, r_X9_settleBack_107, ob_40, gt_40_0, pt_40_0, gt_40_1, pt_40_1, gt_40_2, pt_40_2, gt_40_3, pt_40_3, gt_40_4, pt_40_4, gt_40_5, pt_40_5, gt_40_6, pt_40_6, gt_40_7, pt_40_7, gt_40_8, pt_40_8, gt_40_9, pt_40_9, gt_40_10, pt_40_10, gt_40_11, gt_40_12, gt_40_13, gt_40_14, gt_40_15, gt_40_16, gt_40_17, gt_40_18, gt_40_19, gt_40_20, gt_40_21, gt_40_22, pt_40_22, gt_40_23, gt_40_24, gt_40_25, gt_40_26, gt_40_27, gt_40_28, gt_40_29, gt_40_30, gt_40_31, gt_40_32, gt_40_33, gt_40_34, pt_40_34, gt_40_35, pt_40_35, gt_40_36, gt_40_37, gt_40_38, gt_40_39, gt_40_40, gt_40_41, pt_40_41, gt_40_42, pt_40_42, gt_40_43, pt_40_43, gt_40_44, pt_40_44, gt_40_45, pt_40_45, gt_40_46, pt_40_46, gt_40_47, List.cons_append, List.nil_append, List.append_nil, if_true, if_false, true_and, and_true, true_or, or_true, nm_b_some, gi_mS, gi_si, ga_sa, gi_sa, gi_sb, gi_sp, ga_si, ga_sb, ga_sp, gb_si, gb_sa, gb_sb, gb_sp, gp_si, gp_sa, gp_sb, gp_sp, if_true, if_false, ↓reduceIte, Nat.reduceEqDiff, g1, g2, hz]
      have := hQ k w (Nat.le_refl k) (by omega) (fun j h1 h2 => by omega) (fun _ => hz) (fun j hj => by
        exact hw j (by omega))
      rw [Nat.sub_self, show r - k = m + 1 by omega] at this
      exact this
