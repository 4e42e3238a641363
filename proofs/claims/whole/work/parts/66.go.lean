/-! go on both sides. -/
def pil (f : Nat → Int32) : List Bool → Prop
  | [] => True
  | b :: st => f st.length = b2 b ∧ pil f st
theorem pil_upd {f : Nat → Int32} {k : Nat} {x : Int32} : ∀ {st : List Bool}, pil f st → st.length ≤ k → pil (upd f k x) st
  | [], _, _ => trivial
  | b :: st, h, hk => by
    have hk' : st.length + 1 ≤ k := hk
    refine ⟨?_, pil_upd h.2 (by omega)⟩
    rw [upd_ne (by omega)]
    exact h.1
theorem nI_dec (m : Nat) : nI (m + 1) + (-1) = nI m := by
  rw [← nI_pred m, Int32.sub_eq_add_neg]
def env4 (a b c d : Int32) : rE := fun l => if l = 108 then a else if l = 110 then b else if l = 102 then c else d
theorem b2_n1 (b : Bool) : b2 b &&& 1 = b2 b := by cases b <;> decide
theorem c_goLoop {s : nm_S} {Q : nm_K} {ta tb tc td : Int32} {r : Bool} (hQ : ∀ f, Q [.int (b2 r)] (rep (sa s 68 f))) : ∀ (N : Nat) (D : List Int32) (st : List Bool) (k : Nat) (f : Nat → Int32) (z7 z8 z9 : Value), D.length < N → lies (ga s 66) k (D ++ [3]) → cev (env4 ta tb tc td) D st = some [r] → pil f st → 4 * st.length ≤ k → k + D.length ≤ 200 → x_X9_go 59 Q 50 [.ref 40, .int ta, .int tb, .int tc, .int td, .int (nI k), .int (nI st.length), z7, z8, z9] [] (rep (sa s 68 f)) 0 0
  | 0, _, _, _, _, _, _, _, h, _, _, _, _, _ => by omega
  | N + 1, [], st, k, f, z7, z8, z9, h, hl, hc, hp, hm, hk => by
    have hv : vp_in (nI k) 240 := vp_in' (by simp at hk; omega) (by omega)
    have hcl : (nI k).toNatClampNeg = k := i_nIc (by simp at hk; omega)
    have h3 : ga s 66 k = 3 := hl 0 3 rfl
    rw [cev] at hc
    cases hc
    have h0 : f 0 = b2 r := hp.1
    have hv0 : vp_in 0 120 := vp_in' (a := 0) (by omega) (by omega)
    have hc0 : (0 : Int32).toNatClampNeg = 0 := by decide
    rw [r_X9_go_50]
    simp only [r_X9_go_51, r_X9_go_54, r_X9_go_56, r_X9_go_57, r_X9_go_58, r_X9_go_302, r_X9_go_303, r_X9_go_306, r_X9_go_307, r_X9_go_308, r_X9_go_311, r_X9_go_312, r_X9_go_315, r_X9_go_316, ob_40, gt_40_0, pt_40_0, gt_40_1, pt_40_1, gt_40_2, pt_40_2, gt_40_3, pt_40_3, gt_40_4, pt_40_4, gt_40_5, pt_40_5, gt_40_6, pt_40_6, gt_40_7, pt_40_7, gt_40_8, pt_40_8, gt_40_9, pt_40_9, gt_40_10, pt_40_10, gt_40_11, gt_40_12, gt_40_13, gt_40_14, gt_40_15, gt_40_16, gt_40_17, gt_40_18, gt_40_19, gt_40_20, gt_40_21, gt_40_22, pt_40_22, gt_40_23, gt_40_24, gt_40_25, gt_40_26, gt_40_27, gt_40_28, gt_40_29, gt_40_30, gt_40_31, gt_40_32, gt_40_33, gt_40_34, pt_40_34, gt_40_35, pt_40_35, gt_40_36, gt_40_37, gt_40_38, gt_40_39, gt_40_40, gt_40_41, pt_40_41, gt_40_42, pt_40_42, gt_40_43, pt_40_43, gt_40_44, pt_40_44, gt_40_45, pt_40_45, gt_40_46, pt_40_46, gt_40_47, ad_66, as_66, ad_68, as_68, List.cons_append, List.nil_append, List.append_nil, if_true, if_false, true_and, and_true, true_or, or_true, nm_b_some, gi_si, ga_sa, gi_sa, gi_sb, gi_sp, ga_si, ga_sb, ga_sp, gb_si, gb_sa, gb_sb, gb_sp, gp_si, gp_sa, gp_sb, gp_sp, if_true, if_false, ↓reduceIte, Nat.reduceEqDiff, hv, hcl, h3, hv0, hc0, h0]
    have := hQ f
    cases r
    · simpa [b2] using this
    · simpa [b2] using this
  | N + 1, c :: D, st, k, f, z7, z8, z9, h, hl, hc, hp, hm, hk => by
    have hk' : k + (D.length + 1) ≤ 200 := hk
    have hN : D.length + 1 < N + 1 := h
    have hv : vp_in (nI k) 240 := vp_in' (by omega) (by omega)
    have hcl : (nI k).toNatClampNeg = k := i_nIc (by omega)
    have e0 : ga s 66 k = c := hl 0 c rfl
    rw [cev.eq_def] at hc
    dsimp only at hc
    by_cases hc0 : c = 0
    · rw [if_pos hc0] at hc
      match D, hc, hl, hk', hN with
      | [], hc, _, _, _ => cases hc
      | [_], hc, _, _, _ => cases hc
      | [_, _], hc, _, _, _ => cases hc
      | l :: g :: x :: D', hc, hl, hk', hN =>
        dsimp only at hc
        have hk'' : k + (D'.length + 1 + 1 + 1 + 1) ≤ 200 := hk'
        have hN' : D'.length + 1 + 1 + 1 + 1 < N + 1 := hN
        by_cases hg : sgn g
        · rw [if_pos hg] at hc
          have e1 : ga s 66 (k + 1) = l := hl 1 l rfl
          have e2 : ga s 66 (k + 2) = g := hl 2 g rfl
          have e3 : ga s 66 (k + 3) = x := hl 3 x rfl
          have k1 : nI k + 1 = nI (k + 1) := nI_add k 1
          have k2 : nI k + 2 = nI (k + 2) := nI_add k 2
          have k3 : nI k + 3 = nI (k + 3) := nI_add k 3
          have k4 : nI k + 4 = nI (k + 4) := nI_add k 4
          have v1 : vp_in (nI (k + 1)) 240 := vp_in' (by omega) (by omega)
          have v2 : vp_in (nI (k + 2)) 240 := vp_in' (by omega) (by omega)
          have v3 : vp_in (nI (k + 3)) 240 := vp_in' (by omega) (by omega)
          have c1 : (nI (k + 1)).toNatClampNeg = k + 1 := i_nIc (by omega)
          have c2 : (nI (k + 2)).toNatClampNeg = k + 2 := i_nIc (by omega)
          have c3 : (nI (k + 3)).toNatClampNeg = k + 3 := i_nIc (by omega)
          have vm : vp_in (nI st.length) 120 := vp_in' (by omega) (by omega)
          have cm : (nI st.length).toNatClampNeg = st.length := i_nIc (by omega)
          have h03 : ¬ (0 : Int32) = 3 := by decide
          have h00 : (0 : Int32) &&& 1 = 0 := by decide
          have h11 : (1 : Int32) &&& 1 = 1 := by decide
          have nx := fun z7 z8 z9 => c_goLoop hQ N D' (cmpv g (env4 ta tb tc td l) x :: st) (k + 4) (upd f st.length (b2 (cmpv g (env4 ta tb tc td l) x))) z7 z8 z9 (by omega) (fun i y hy => by have := hl (i + 4) y (by simpa using hy); rw [show k + (i + 4) = k + 4 + i by omega] at this; exact this) hc ⟨upd_at _ _ _, pil_upd hp (Nat.le_refl _)⟩ (by show 4 * (st.length + 1) ≤ k + 4; omega) (by omega)
          have at206 : ∀ z7 z8 z9, x_X9_go 59 Q 206 [.ref 40, .int ta, .int tb, .int tc, .int td, .int (nI k), .int (nI st.length), z7, z8, z9] [.int (b2 (cmpv g (env4 ta tb tc td l) x)), .int (nI st.length), .ref 68] (rep (sa s 68 f)) 0 0 := by
            intro z7 z8 z9
            simp only [r_X9_go_206, r_X9_go_207, r_X9_go_210, r_X9_go_213, ob_40, gt_40_0, pt_40_0, gt_40_1, pt_40_1, gt_40_2, pt_40_2, gt_40_3, pt_40_3, gt_40_4, pt_40_4, gt_40_5, pt_40_5, gt_40_6, pt_40_6, gt_40_7, pt_40_7, gt_40_8, pt_40_8, gt_40_9, pt_40_9, gt_40_10, pt_40_10, gt_40_11, gt_40_12, gt_40_13, gt_40_14, gt_40_15, gt_40_16, gt_40_17, gt_40_18, gt_40_19, gt_40_20, gt_40_21, gt_40_22, pt_40_22, gt_40_23, gt_40_24, gt_40_25, gt_40_26, gt_40_27, gt_40_28, gt_40_29, gt_40_30, gt_40_31, gt_40_32, gt_40_33, gt_40_34, pt_40_34, gt_40_35, pt_40_35, gt_40_36, gt_40_37, gt_40_38, gt_40_39, gt_40_40, gt_40_41, pt_40_41, gt_40_42, pt_40_42, gt_40_43, pt_40_43, gt_40_44, pt_40_44, gt_40_45, pt_40_45, gt_40_46, pt_40_46, gt_40_47, ad_68, as_68, List.cons_append, List.nil_append, List.append_nil, if_true, if_false, true_and, and_true, true_or, or_true, nm_b_some, gi_si, ga_sa, gi_sa, gi_sb, gi_sp, ga_si, ga_sb, ga_sp, gb_si, gb_sa, gb_sb, gb_sp, gp_si, gp_sa, gp_sb, gp_sp, if_true, if_false, ↓reduceIte, Nat.reduceEqDiff, vm, cm, b2_n1, nI_s, k4, sa_sa]
            exact nx z7 z8 z9
          have at119 : ∀ z7 z9, x_X9_go 59 Q 119 [.ref 40, .int ta, .int tb, .int tc, .int td, .int (nI k), .int (nI st.length), z7, .int (env4 ta tb tc td l), z9] [] (rep (sa s 68 f)) 0 0 := by
            intro z7 z9
            generalize hvl : env4 ta tb tc td l = vl at at206
            simp only [r_X9_go_119, r_X9_go_120, r_X9_go_123, r_X9_go_125, r_X9_go_126, r_X9_go_127, r_X9_go_128, r_X9_go_130, r_X9_go_131, r_X9_go_134, r_X9_go_136, r_X9_go_137, r_X9_go_140, r_X9_go_142, r_X9_go_143, r_X9_go_144, r_X9_go_145, r_X9_go_147, r_X9_go_150, r_X9_go_152, r_X9_go_154, r_X9_go_157, r_X9_go_158, r_X9_go_161, r_X9_go_162, r_X9_go_165, r_X9_go_166, r_X9_go_169, r_X9_go_171, r_X9_go_172, r_X9_go_173, r_X9_go_174, r_X9_go_176, r_X9_go_179, r_X9_go_181, r_X9_go_183, r_X9_go_186, r_X9_go_187, r_X9_go_190, r_X9_go_191, r_X9_go_194, r_X9_go_196, r_X9_go_198, r_X9_go_201, r_X9_go_202, r_X9_go_205, ob_40, gt_40_0, pt_40_0, gt_40_1, pt_40_1, gt_40_2, pt_40_2, gt_40_3, pt_40_3, gt_40_4, pt_40_4, gt_40_5, pt_40_5, gt_40_6, pt_40_6, gt_40_7, pt_40_7, gt_40_8, pt_40_8, gt_40_9, pt_40_9, gt_40_10, pt_40_10, gt_40_11, gt_40_12, gt_40_13, gt_40_14, gt_40_15, gt_40_16, gt_40_17, gt_40_18, gt_40_19, gt_40_20, gt_40_21, gt_40_22, pt_40_22, gt_40_23, gt_40_24, gt_40_25, gt_40_26, gt_40_27, gt_40_28, gt_40_29, gt_40_30, gt_40_31, gt_40_32, gt_40_33, gt_40_34, pt_40_34, gt_40_35, pt_40_35, gt_40_36, gt_40_37, gt_40_38, gt_40_39, gt_40_40, gt_40_41, pt_40_41, gt_40_42, pt_40_42, gt_40_43, pt_40_43, gt_40_44, pt_40_44, gt_40_45, pt_40_45, gt_40_46, pt_40_46, gt_40_47, ad_66, as_66, ad_68, as_68, List.cons_append, List.nil_append, List.append_nil, if_true, if_false, true_and, and_true, true_or, or_true, nm_b_some, gi_si, ga_sa, gi_sa, gi_sb, gi_sp, ga_si, ga_sb, ga_sp, gb_si, gb_sa, gb_sb, gb_sp, gp_si, gp_sa, gp_sb, gp_sp, if_true, if_false, ↓reduceIte, Nat.reduceEqDiff, k2, k3, v2, v3, c2, c3, e2, e3]
            rcases hg with hg | hg | hg
            · have hh := at206 z7 (.int vl) (.int x)
              rw [hg] at hh ⊢
              simp only [if_true]
              by_cases hx : vl = x
              · simpa [hx, cmpv, b2] using hh
              · simpa [hx, cmpv, b2] using hh
            · have hh := at206 z7 (.int vl) (.int x)
              rw [hg] at hh ⊢
              rw [if_neg (by decide), if_pos rfl]
              by_cases hx : vl < x
              · simpa [hx, cmpv, b2] using hh
              · simpa [hx, cmpv, b2] using hh
            · have hh := at206 z7 (.int vl) (.int x)
              rw [hg] at hh ⊢
              rw [if_neg (by decide), if_neg (by decide)]
              by_cases hx : x < vl
              · simpa [hx, cmpv, b2] using hh
              · simpa [hx, cmpv, b2] using hh
          rw [hc0] at e0
          rw [r_X9_go_50]
          simp only [r_X9_go_51, r_X9_go_54, r_X9_go_56, r_X9_go_57, r_X9_go_58, r_X9_go_61, r_X9_go_62, r_X9_go_65, r_X9_go_67, r_X9_go_68, r_X9_go_71, r_X9_go_72, r_X9_go_75, r_X9_go_77, r_X9_go_78, r_X9_go_79, r_X9_go_80, ob_40, gt_40_0, pt_40_0, gt_40_1, pt_40_1, gt_40_2, pt_40_2, gt_40_3, pt_40_3, gt_40_4, pt_40_4, gt_40_5, pt_40_5, gt_40_6, pt_40_6, gt_40_7, pt_40_7, gt_40_8, pt_40_8, gt_40_9, pt_40_9, gt_40_10, pt_40_10, gt_40_11, gt_40_12, gt_40_13, gt_40_14, gt_40_15, gt_40_16, gt_40_17, gt_40_18, gt_40_19, gt_40_20, gt_40_21, gt_40_22, pt_40_22, gt_40_23, gt_40_24, gt_40_25, gt_40_26, gt_40_27, gt_40_28, gt_40_29, gt_40_30, gt_40_31, gt_40_32, gt_40_33, gt_40_34, pt_40_34, gt_40_35, pt_40_35, gt_40_36, gt_40_37, gt_40_38, gt_40_39, gt_40_40, gt_40_41, pt_40_41, gt_40_42, pt_40_42, gt_40_43, pt_40_43, gt_40_44, pt_40_44, gt_40_45, pt_40_45, gt_40_46, pt_40_46, gt_40_47, ad_66, as_66, ad_68, as_68, List.cons_append, List.nil_append, List.append_nil, if_true, if_false, true_and, and_true, true_or, or_true, nm_b_some, gi_si, ga_sa, gi_sa, gi_sb, gi_sp, ga_si, ga_sb, ga_sp, gb_si, gb_sa, gb_sb, gb_sp, gp_si, gp_sa, gp_sb, gp_sp, if_true, if_false, ↓reduceIte, Nat.reduceEqDiff, hv, hcl, e0, h03, k1, v1, c1, e1]
          have hh := at119 (.int l) z9
          by_cases l1 : l = 108
          · simp only [r_X9_go_82, r_X9_go_84, r_X9_go_86, r_X9_go_89, r_X9_go_90, r_X9_go_93, r_X9_go_95, r_X9_go_97, r_X9_go_100, r_X9_go_101, r_X9_go_104, r_X9_go_106, r_X9_go_108, r_X9_go_111, r_X9_go_112, r_X9_go_115, r_X9_go_117, List.cons_append, List.nil_append, List.append_nil, if_true, if_false, true_and, and_true, true_or, or_true, nm_b_some, l1, env4] at hh ⊢
            exact hh
          · by_cases l2 : l = 110
            · simp only [r_X9_go_82, r_X9_go_84, r_X9_go_86, r_X9_go_89, r_X9_go_90, r_X9_go_93, r_X9_go_95, r_X9_go_97, r_X9_go_100, r_X9_go_101, r_X9_go_104, r_X9_go_106, r_X9_go_108, r_X9_go_111, r_X9_go_112, r_X9_go_115, r_X9_go_117, List.cons_append, List.nil_append, List.append_nil, if_true, if_false, true_and, and_true, true_or, or_true, nm_b_some, l2, env4] at hh ⊢
              simpa using hh
            · by_cases l3 : l = 102
              · simp only [r_X9_go_82, r_X9_go_84, r_X9_go_86, r_X9_go_89, r_X9_go_90, r_X9_go_93, r_X9_go_95, r_X9_go_97, r_X9_go_100, r_X9_go_101, r_X9_go_104, r_X9_go_106, r_X9_go_108, r_X9_go_111, r_X9_go_112, r_X9_go_115, r_X9_go_117, List.cons_append, List.nil_append, List.append_nil, if_true, if_false, true_and, and_true, true_or, or_true, nm_b_some, l3, env4] at hh ⊢
                simpa using hh
              · simp only [r_X9_go_82, r_X9_go_84, r_X9_go_86, r_X9_go_89, r_X9_go_90, r_X9_go_93, r_X9_go_95, r_X9_go_97, r_X9_go_100, r_X9_go_101, r_X9_go_104, r_X9_go_106, r_X9_go_108, r_X9_go_111, r_X9_go_112, r_X9_go_115, r_X9_go_117, List.cons_append, List.nil_append, List.append_nil, if_true, if_false, true_and, and_true, true_or, or_true, nm_b_some, l1, l2, l3, env4] at hh ⊢
                exact hh
        · rw [if_neg hg] at hc
          cases hc
    · rw [if_neg hc0] at hc
      by_cases hc3 : c = 3
      · rw [if_pos hc3] at hc
        cases hc
      · rw [if_neg hc3] at hc
        match st, hc, hp, hm with
        | [], hc, _, _ => cases hc
        | [_], hc, _, _ => cases hc
        | b :: a :: st', hc, hp, hm =>
          dsimp only at hc
          have hm' : 4 * (st'.length + 1 + 1) ≤ k := hm
          have pb : f (st'.length + 1) = b2 b := hp.1
          have pa : f st'.length = b2 a := hp.2.1
          have va : vp_in (nI st'.length) 120 := vp_in' (by omega) (by omega)
          have vb : vp_in (nI (st'.length + 1)) 120 := vp_in' (by omega) (by omega)
          have ca : (nI st'.length).toNatClampNeg = st'.length := i_nIc (by omega)
          have cb : (nI (st'.length + 1)).toNatClampNeg = st'.length + 1 := i_nIc (by omega)
          have h00 : (0 : Int32) &&& 1 = 0 := by decide
          have h11 : (1 : Int32) &&& 1 = 1 := by decide
          have nx := c_goLoop hQ N D ((if c = 1 then a && b else a || b) :: st') (k + 1) (upd f st'.length (b2 (if c = 1 then a && b else a || b))) z7 z8 z9 (by omega) (fun i y hy => by have := hl (i + 1) y (by simpa using hy); rw [show k + (i + 1) = k + 1 + i by omega] at this; exact this) hc ⟨upd_at _ _ _, pil_upd hp.2.2 (Nat.le_refl _)⟩ (by show 4 * (st'.length + 1) ≤ k + 1; omega) (by omega)
          show x_X9_go 59 Q 50 [.ref 40, .int ta, .int tb, .int tc, .int td, .int (nI k), .int (nI (st'.length + 1 + 1)), z7, z8, z9] [] (rep (sa s 68 f)) 0 0
          have nx' : x_X9_go 59 Q 295 [.ref 40, .int ta, .int tb, .int tc, .int td, .int (nI k), .int (nI (st'.length + 1)), z7, z8, z9] [.int (b2 (if c = 1 then a && b else a || b)), .int (nI st'.length), .ref 68] (rep (sa s 68 f)) 0 0 := by
            simp only [r_X9_go_295, r_X9_go_296, r_X9_go_299, ob_40, gt_40_0, pt_40_0, gt_40_1, pt_40_1, gt_40_2, pt_40_2, gt_40_3, pt_40_3, gt_40_4, pt_40_4, gt_40_5, pt_40_5, gt_40_6, pt_40_6, gt_40_7, pt_40_7, gt_40_8, pt_40_8, gt_40_9, pt_40_9, gt_40_10, pt_40_10, gt_40_11, gt_40_12, gt_40_13, gt_40_14, gt_40_15, gt_40_16, gt_40_17, gt_40_18, gt_40_19, gt_40_20, gt_40_21, gt_40_22, pt_40_22, gt_40_23, gt_40_24, gt_40_25, gt_40_26, gt_40_27, gt_40_28, gt_40_29, gt_40_30, gt_40_31, gt_40_32, gt_40_33, gt_40_34, pt_40_34, gt_40_35, pt_40_35, gt_40_36, gt_40_37, gt_40_38, gt_40_39, gt_40_40, gt_40_41, pt_40_41, gt_40_42, pt_40_42, gt_40_43, pt_40_43, gt_40_44, pt_40_44, gt_40_45, pt_40_45, gt_40_46, pt_40_46, gt_40_47, ad_68, as_68, List.cons_append, List.nil_append, List.append_nil, if_true, if_false, true_and, and_true, true_or, or_true, nm_b_some, gi_si, ga_sa, gi_sa, gi_sb, gi_sp, ga_si, ga_sb, ga_sp, gb_si, gb_sa, gb_sb, gb_sp, gp_si, gp_sa, gp_sb, gp_sp, if_true, if_false, ↓reduceIte, Nat.reduceEqDiff, va, ca, b2_n1, nI_s, sa_sa]
            exact nx
          rw [r_X9_go_50]
          simp only [r_X9_go_51, r_X9_go_54, r_X9_go_56, r_X9_go_57, r_X9_go_58, r_X9_go_61, r_X9_go_62, r_X9_go_65, r_X9_go_67, r_X9_go_68, r_X9_go_216, r_X9_go_219, r_X9_go_220, r_X9_go_223, r_X9_go_225, r_X9_go_226, r_X9_go_227, r_X9_go_228, r_X9_go_231, r_X9_go_233, r_X9_go_234, r_X9_go_235, r_X9_go_238, r_X9_go_239, r_X9_go_242, r_X9_go_244, r_X9_go_245, r_X9_go_246, r_X9_go_247, r_X9_go_250, r_X9_go_251, r_X9_go_254, r_X9_go_256, r_X9_go_257, r_X9_go_260, r_X9_go_261, r_X9_go_264, r_X9_go_265, r_X9_go_268, r_X9_go_269, r_X9_go_272, r_X9_go_274, r_X9_go_275, r_X9_go_276, r_X9_go_277, r_X9_go_280, r_X9_go_281, r_X9_go_284, r_X9_go_286, r_X9_go_287, r_X9_go_290, r_X9_go_291, r_X9_go_294, ob_40, gt_40_0, pt_40_0, gt_40_1, pt_40_1, gt_40_2, pt_40_2, gt_40_3, pt_40_3, gt_40_4, pt_40_4, gt_40_5, pt_40_5, gt_40_6, pt_40_6, gt_40_7, pt_40_7, gt_40_8, pt_40_8, gt_40_9, pt_40_9, gt_40_10, pt_40_10, gt_40_11, gt_40_12, gt_40_13, gt_40_14, gt_40_15, gt_40_16, gt_40_17, gt_40_18, gt_40_19, gt_40_20, gt_40_21, gt_40_22, pt_40_22, gt_40_23, gt_40_24, gt_40_25, gt_40_26, gt_40_27, gt_40_28, gt_40_29, gt_40_30, gt_40_31, gt_40_32, gt_40_33, gt_40_34, pt_40_34, gt_40_35, pt_40_35, gt_40_36, gt_40_37, gt_40_38, gt_40_39, gt_40_40, gt_40_41, pt_40_41, gt_40_42, pt_40_42, gt_40_43, pt_40_43, gt_40_44, pt_40_44, gt_40_45, pt_40_45, gt_40_46, pt_40_46, gt_40_47, ad_66, as_66, ad_68, as_68, List.cons_append, List.nil_append, List.append_nil, if_true, if_false, true_and, and_true, true_or, or_true, nm_b_some, gi_si, ga_sa, gi_sa, gi_sb, gi_sp, ga_si, ga_sb, ga_sp, gb_si, gb_sa, gb_sb, gb_sp, gp_si, gp_sa, gp_sb, gp_sp, if_true, if_false, ↓reduceIte, Nat.reduceEqDiff, hv, hcl, e0, hc0, hc3, nI_dec, nI_pred, va, vb, ca, cb, pa, pb, b2_0]
          by_cases hc1 : c = 1
          · simp only [hc1, if_true] at nx' ⊢
            cases a
            · simpa [b2] using nx'
            · cases b
              · simpa [b2] using nx'
              · simpa [b2] using nx'
          · simp only [hc1, if_false] at nx' ⊢
            cases a
            · cases b
              · simpa [b2] using nx'
              · simpa [b2] using nx'
            · simpa [b2] using nx'
theorem st_go {s : nm_S} (h : IvS s) (hb : IvB s) (hf : IvF s) (hr : IvR s) : ∃ v s1 s2, Runs 94 [.ref 0] s v s1 ∧ Runs 147 [.ref 40] s1 v s2 ∧ Fr [3700, 3701, 3702, 3703, 3706, 3707, 3708, 3709, 3710, 3711] [30, 38, 39, 63, 68] s s2 := by
  rcases hr with ⟨g1, g2⟩ | ⟨g1, n, TX, C, v, n1, n2, n3, n4, n5, n6⟩
  · have kX : Runs 94 [.ref 0] s 1 s := by
      intro Q hQ
      simp only [e_X8_go, r_X8_go_0, r_X8_go_1, r_X8_go_4, r_X8_go_7, r_X8_go_10, r_X8_go_11, ob_0, gt_0_0, gt_0_1, gt_0_2, gt_0_3, gt_0_4, gt_0_5, gt_0_6, gt_0_7, gt_0_8, gt_0_9, pt_0_9, gt_0_10, pt_0_10, gt_0_11, pt_0_11, ob_35, gt_35_0, gt_35_1, pt_35_1, List.cons_append, List.nil_append, List.append_nil, if_true, if_false, true_and, and_true, true_or, or_true, nm_b_some, g2]
      exact hQ
    have kM : Runs 147 [.ref 40] s 1 s := by
      intro Q hQ
      simp only [e_X9_go, r_X9_go_0, r_X9_go_1, r_X9_go_4, r_X9_go_7, r_X9_go_8, ob_40, gt_40_0, pt_40_0, gt_40_1, pt_40_1, gt_40_2, pt_40_2, gt_40_3, pt_40_3, gt_40_4, pt_40_4, gt_40_5, pt_40_5, gt_40_6, pt_40_6, gt_40_7, pt_40_7, gt_40_8, pt_40_8, gt_40_9, pt_40_9, gt_40_10, pt_40_10, gt_40_11, gt_40_12, gt_40_13, gt_40_14, gt_40_15, gt_40_16, gt_40_17, gt_40_18, gt_40_19, gt_40_20, gt_40_21, gt_40_22, pt_40_22, gt_40_23, gt_40_24, gt_40_25, gt_40_26, gt_40_27, gt_40_28, gt_40_29, gt_40_30, gt_40_31, gt_40_32, gt_40_33, gt_40_34, pt_40_34, gt_40_35, pt_40_35, gt_40_36, gt_40_37, gt_40_38, gt_40_39, gt_40_40, gt_40_41, pt_40_41, gt_40_42, pt_40_42, gt_40_43, pt_40_43, gt_40_44, pt_40_44, gt_40_45, pt_40_45, gt_40_46, pt_40_46, gt_40_47, List.cons_append, List.nil_append, List.append_nil, if_true, if_false, true_and, and_true, true_or, or_true, nm_b_some, g1]
      exact hQ
    exact ⟨1, s, s, kX, kM, Fr.rf⟩
  · obtain ⟨N, T, r, st, bg, mi, nd, bk, pt, sf, ro, en, ⟨h1, h2⟩, ⟨h3, h4⟩, h5, hX, hM, hW, hB, hMB, hXB⟩ := h
    obtain ⟨⟨-, b2', -, -, -⟩, -⟩ := hb
    obtain ⟨nf, f0, f1, f2, f3, -, f4⟩ := hf
    have hdone : cnt (fun i => decide (ga s 22 i = 2)) N = cnt (fun i => decide (ga s 59 i = 2)) N := cnt_cong (fun i hi => by rw [(hX.2 i hi).1, (hM.2.1 i hi).1])
    have hopen : cnt (fun i => decide (ga s 32 i = 0)) nf = cnt (fun i => decide (ga s 64 i = 0)) nf := cnt_cong (fun i hi => by rw [(f3 i (by omega)).1])
    generalize hta : (if (0 : Int32) < gi s 10 - nI T then gi s 10 - nI T else 0) = ta
    generalize htb : nI (lat T (dn (unt T r en) st bg mi nd) N) - nI T = tb
    generalize htc : nI (cnt (fun i => decide (ga s 32 i = 0)) nf) = tc
    generalize htd : nI (cnt (fun i => decide (ga s 22 i = 2)) N) = td
    have hnz : ¬ nI n = 0 := fun z => by have := (nI_z (by have := n2.2.1; omega)).mp z; omega
    have kX : ∃ x t, Runs 94 [.ref 0] s x t ∧ (x = b2 (v (env4 ta tb tc td)) ∧ Fr [3700, 3701, 3702, 3703, 3706, 3707, 3708, 3709, 3710, 3711] [30, 38, 39, 63, 68] s t) := by
      refine Runs_of ?_
      simp only [e_X8_go, r_X8_go_0, r_X8_go_1, r_X8_go_4, r_X8_go_7, r_X8_go_10, r_X8_go_11, r_X8_go_12, r_X8_go_13, r_X8_go_16, r_X8_go_17, r_X8_go_18, r_X8_go_21, r_X8_go_22, r_X8_go_25, r_X8_go_26, r_X8_go_29, r_X8_go_32, r_X8_go_33, r_X8_go_36, r_X8_go_37, r_X8_go_40, r_X8_go_41, r_X8_go_44, ob_0, gt_0_0, gt_0_1, gt_0_2, gt_0_3, gt_0_4, gt_0_5, gt_0_6, gt_0_7, gt_0_8, gt_0_9, pt_0_9, gt_0_10, pt_0_10, gt_0_11, pt_0_11, ob_21, gt_21_0, gt_21_1, gt_21_2, gt_21_3, pt_21_3, gt_21_4, pt_21_4, gt_21_5, gt_21_6, gt_21_7, gt_21_8, gt_21_9, gt_21_10, ob_35, gt_35_0, gt_35_1, pt_35_1, ob_37, gt_37_0, pt_37_0, gt_37_1, pt_37_1, gt_37_2, pt_37_2, gt_37_3, pt_37_3, gt_37_4, gt_37_5, gt_37_6, pt_37_6, gt_37_7, pt_37_7, gt_37_8, pt_37_8, gt_37_9, pt_37_9, gt_37_10, pt_37_10, gt_37_11, pt_37_11, List.cons_append, List.nil_append, List.append_nil, if_true, if_false, true_and, and_true, true_or, or_true, nm_b_some, gi_si, ga_sa, gi_sa, gi_sb, gi_sp, ga_si, ga_sb, ga_sp, gb_si, gb_sa, gb_sb, gb_sp, gp_si, gp_sa, gp_sb, gp_sp, if_true, if_false, ↓reduceIte, Nat.reduceEqDiff, n2.1, hnz, h3, hta]
      refine c_allDone (s := si s 3700 ta) (pt := pt) (sf := sf) (bk := bk) (ro := ro) h1 h2 (by unfold XR at hX ⊢; simp only [gi_si, ga_sa, gi_sa, gi_sb, gi_sp, ga_si, ga_sb, ga_sp, gb_si, gb_sa, gb_sb, gb_sp, gp_si, gp_sa, gp_sb, gp_sp, if_true, if_false, ↓reduceIte, Nat.reduceEqDiff]; exact hX) hW hB (by unfold XB at hXB ⊢; simp only [gi_si, ga_sa, gi_sa, gi_sb, gi_sp, ga_si, ga_sb, ga_sp, gb_si, gb_sa, gb_sb, gb_sp, gp_si, gp_sa, gp_sb, gp_sp, if_true, if_false, ↓reduceIte, Nat.reduceEqDiff]; exact hXB) (fun hh => ?_)
      have cT := fun (d : Nat) (s' : nm_S) (Q : nm_K) (hs : gi s' 2103 = nI N) => c_allThat (d := d) (s := s') (Q := Q) (v := 2) hs h1
      simp only [r_X8_go_47, r_X8_go_48, r_X8_go_51, r_X8_go_52, r_X8_go_55, r_X8_go_56, r_X8_go_59, r_X8_go_60, r_X8_go_63, r_X8_go_66, r_X8_go_69, r_X8_go_70, r_X8_go_73, r_X8_go_74, r_X8_go_77, r_X8_go_78, ob_0, gt_0_0, gt_0_1, gt_0_2, gt_0_3, gt_0_4, gt_0_5, gt_0_6, gt_0_7, gt_0_8, gt_0_9, pt_0_9, gt_0_10, pt_0_10, gt_0_11, pt_0_11, ob_21, gt_21_0, gt_21_1, gt_21_2, gt_21_3, pt_21_3, gt_21_4, pt_21_4, gt_21_5, gt_21_6, gt_21_7, gt_21_8, gt_21_9, gt_21_10, ob_31, gt_31_0, gt_31_1, pt_31_1, gt_31_2, pt_31_2, ob_37, gt_37_0, pt_37_0, gt_37_1, pt_37_1, gt_37_2, pt_37_2, gt_37_3, pt_37_3, gt_37_4, gt_37_5, gt_37_6, pt_37_6, gt_37_7, pt_37_7, gt_37_8, pt_37_8, gt_37_9, pt_37_9, gt_37_10, pt_37_10, gt_37_11, pt_37_11, List.cons_append, List.nil_append, List.append_nil, if_true, if_false, true_and, and_true, true_or, or_true, nm_b_some, gi_si, ga_sa, gi_sa, gi_sb, gi_sp, ga_si, ga_sb, ga_sp, gb_si, gb_sa, gb_sb, gb_sp, gp_si, gp_sa, gp_sb, gp_sp, if_true, if_false, ↓reduceIte, Nat.reduceEqDiff, h3, htb, f4, htc]
      rw [cT _ _ _ (by simp only [gi_si, ga_sa, gi_sa, gi_sb, gi_sp, ga_si, ga_sb, ga_sp, gb_si, gb_sa, gb_sb, gb_sp, gp_si, gp_sa, gp_sb, gp_sp, if_true, if_false, ↓reduceIte, Nat.reduceEqDiff]; exact hX.1)]
      simp only [r_X8_go_81, r_X8_go_84, r_X8_go_87, r_X8_go_88, r_X8_go_91, r_X8_go_92, r_X8_go_95, ob_0, gt_0_0, gt_0_1, gt_0_2, gt_0_3, gt_0_4, gt_0_5, gt_0_6, gt_0_7, gt_0_8, gt_0_9, pt_0_9, gt_0_10, pt_0_10, gt_0_11, pt_0_11, ob_35, gt_35_0, gt_35_1, pt_35_1, ob_37, gt_37_0, pt_37_0, gt_37_1, pt_37_1, gt_37_2, pt_37_2, gt_37_3, pt_37_3, gt_37_4, gt_37_5, gt_37_6, pt_37_6, gt_37_7, pt_37_7, gt_37_8, pt_37_8, gt_37_9, pt_37_9, gt_37_10, pt_37_10, gt_37_11, pt_37_11, List.cons_append, List.nil_append, List.append_nil, if_true, if_false, true_and, and_true, true_or, or_true, nm_b_some, gi_si, ga_sa, gi_sa, gi_sb, gi_sp, ga_si, ga_sb, ga_sp, gb_si, gb_sa, gb_sb, gb_sp, gp_si, gp_sa, gp_sb, gp_sp, if_true, if_false, ↓reduceIte, Nat.reduceEqDiff, c_countMask h1, htd]
      have hF : Fr [3700, 3701, 3702, 3703, 3706, 3707, 3708, 3709, 3710, 3711] [30, 38, 39, 63, 68] s (si (si (si (sa (si s 3700 ta) 30 hh) 3701 tb) 3702 tc) 3703 td) := ((((Fr.rf.si (by decide)).sa (by decide)).si (by decide)).si (by decide)).si (by decide)
      have hE : rdv (si (si (si (sa (si s 3700 ta) 30 hh) 3701 tb) 3702 tc) 3703 td) = env4 ta tb tc td := by
        unfold rdv env4
        simp only [gi_si, ga_sa, gi_sa, gi_sb, gi_sp, ga_si, ga_sb, ga_sp, gb_si, gb_sa, gb_sb, gb_sp, gp_si, gp_sa, gp_sb, gp_sp, if_true, if_false, ↓reduceIte, Nat.reduceEqDiff]
      refine c_holds isTp_35 (n := n) (T := TX) (v := v) (by unfold tpv at n2 ⊢; simp only [gi_si, ga_sa, gi_sa, gi_sb, gi_sp, ga_si, ga_sb, ga_sp, gb_si, gb_sa, gb_sb, gb_sp, gp_si, gp_sa, gp_sb, gp_sp, if_true, if_false, ↓reduceIte, Nat.reduceEqDiff]; exact n2) n3 (fun t ht => ?_)
      rw [hE]
      simp only [r_X8_go_98, r_X8_go_101, r_X8_go_102, r_X8_go_105, r_X8_go_106, List.cons_append, List.nil_append, List.append_nil, if_true, if_false, true_and, and_true, true_or, or_true, nm_b_some]
      have hF2 := Fr.tr hF (Fr.mono ht (by decide) (by decide))
      cases hvv : v (env4 ta tb tc td)
      · simp only [Bool.false_eq_true, if_false, if_true]
        exact ⟨_, t, rfl, rfl, rfl, hF2⟩
      · have h10 : ¬ (1 : Int32) = 0 := by decide
        simp only [if_true, h10, if_false]
        exact ⟨_, t, rfl, rfl, rfl, hF2⟩
    obtain ⟨x, t, r1, rfl, hF⟩ := kX
    have kM : ∃ x u, Runs 147 [.ref 40] t x u ∧ (x = b2 (v (env4 ta tb tc td)) ∧ Fr [3700, 3701, 3702, 3703, 3706, 3707, 3708, 3709, 3710, 3711] [30, 38, 39, 63, 68] t u) := by
      refine Runs_of ?_
      have q1 : gi t 4046 = 1 := by rw [hF.1 4046 (by decide)]; exact g1
      have q2 : gi t 4009 = gi s 10 := by rw [hF.1 4009 (by decide)]; exact b2'.symm
      have q3 : gi t 4000 = nI T := by rw [hF.1 4000 (by decide)]; exact h4
      have h10 : ¬ (1 : Int32) = 0 := by decide
      simp only [e_X9_go, r_X9_go_0, r_X9_go_1, r_X9_go_4, r_X9_go_7, r_X9_go_8, r_X9_go_9, r_X9_go_10, r_X9_go_11, r_X9_go_14, r_X9_go_15, r_X9_go_18, r_X9_go_19, r_X9_go_22, r_X9_go_23, r_X9_go_24, ob_40, gt_40_0, pt_40_0, gt_40_1, pt_40_1, gt_40_2, pt_40_2, gt_40_3, pt_40_3, gt_40_4, pt_40_4, gt_40_5, pt_40_5, gt_40_6, pt_40_6, gt_40_7, pt_40_7, gt_40_8, pt_40_8, gt_40_9, pt_40_9, gt_40_10, pt_40_10, gt_40_11, gt_40_12, gt_40_13, gt_40_14, gt_40_15, gt_40_16, gt_40_17, gt_40_18, gt_40_19, gt_40_20, gt_40_21, gt_40_22, pt_40_22, gt_40_23, gt_40_24, gt_40_25, gt_40_26, gt_40_27, gt_40_28, gt_40_29, gt_40_30, gt_40_31, gt_40_32, gt_40_33, gt_40_34, pt_40_34, gt_40_35, pt_40_35, gt_40_36, gt_40_37, gt_40_38, gt_40_39, gt_40_40, gt_40_41, pt_40_41, gt_40_42, pt_40_42, gt_40_43, pt_40_43, gt_40_44, pt_40_44, gt_40_45, pt_40_45, gt_40_46, pt_40_46, gt_40_47, List.cons_append, List.nil_append, List.append_nil, if_true, if_false, true_and, and_true, true_or, or_true, nm_b_some, q1, q2, q3, h10, hta]
      refine c_Mready (s := t) (pt := pt) (sf := sf) (bk := bk) (ro := ro) (mi := mi) (nd := nd) (st := st) (bg := bg) (en := en) (N := N) (T := T) (r := r) h1 h2 q3 ?_ hW hB ?_ (fun hh => ?_)
      · unfold MR at hM ⊢
        rw [hF.1 4004 (by decide), hF.2.1 55 (by decide), hF.2.1 56 (by decide), hF.2.1 57 (by decide), hF.2.1 58 (by decide), hF.2.1 59 (by decide), hF.2.1 60 (by decide), hF.2.1 61 (by decide)]
        exact hM
      · unfold MB at hMB ⊢
        rw [hF.1 4034 (by decide), hF.1 4035 (by decide), hF.2.1 62 (by decide)]
        exact hMB
      · have q4 : gi (sa t 63 hh) 4005 = nI nf := by simp only [gi_si, ga_sa, gi_sa, gi_sb, gi_sp, ga_si, ga_sb, ga_sp, gb_si, gb_sa, gb_sb, gb_sp, gp_si, gp_sa, gp_sb, gp_sp, if_true, if_false, ↓reduceIte, Nat.reduceEqDiff]; rw [hF.1 4005 (by decide)]; exact f2
        have q5 : gi (sa t 63 hh) 4004 = nI N := by simp only [gi_si, ga_sa, gi_sa, gi_sb, gi_sp, ga_si, ga_sb, ga_sp, gb_si, gb_sa, gb_sb, gb_sp, gp_si, gp_sa, gp_sb, gp_sp, if_true, if_false, ↓reduceIte, Nat.reduceEqDiff]; rw [hF.1 4004 (by decide)]; exact hM.1
        have q6 : ga t 64 = ga s 64 := hF.2.1 64 (by decide)
        have q7 : ga t 59 = ga s 59 := hF.2.1 59 (by decide)
        simp only [r_X9_go_27, r_X9_go_28, r_X9_go_31, r_X9_go_32, r_X9_go_33, r_X9_go_34, ob_40, gt_40_0, pt_40_0, gt_40_1, pt_40_1, gt_40_2, pt_40_2, gt_40_3, pt_40_3, gt_40_4, pt_40_4, gt_40_5, pt_40_5, gt_40_6, pt_40_6, gt_40_7, pt_40_7, gt_40_8, pt_40_8, gt_40_9, pt_40_9, gt_40_10, pt_40_10, gt_40_11, gt_40_12, gt_40_13, gt_40_14, gt_40_15, gt_40_16, gt_40_17, gt_40_18, gt_40_19, gt_40_20, gt_40_21, gt_40_22, pt_40_22, gt_40_23, gt_40_24, gt_40_25, gt_40_26, gt_40_27, gt_40_28, gt_40_29, gt_40_30, gt_40_31, gt_40_32, gt_40_33, gt_40_34, pt_40_34, gt_40_35, pt_40_35, gt_40_36, gt_40_37, gt_40_38, gt_40_39, gt_40_40, gt_40_41, pt_40_41, gt_40_42, pt_40_42, gt_40_43, pt_40_43, gt_40_44, pt_40_44, gt_40_45, pt_40_45, gt_40_46, pt_40_46, gt_40_47, List.cons_append, List.nil_append, List.append_nil, if_true, if_false, true_and, and_true, true_or, or_true, nm_b_some, gi_si, ga_sa, gi_sa, gi_sb, gi_sp, ga_si, ga_sb, ga_sp, gb_si, gb_sa, gb_sb, gb_sp, gp_si, gp_sa, gp_sb, gp_sp, if_true, if_false, ↓reduceIte, Nat.reduceEqDiff, q3, htb]
        rw [c_openMany q4 f0]
        simp only [r_X9_go_37, r_X9_go_38, r_X9_go_39, ob_40, gt_40_0, pt_40_0, gt_40_1, pt_40_1, gt_40_2, pt_40_2, gt_40_3, pt_40_3, gt_40_4, pt_40_4, gt_40_5, pt_40_5, gt_40_6, pt_40_6, gt_40_7, pt_40_7, gt_40_8, pt_40_8, gt_40_9, pt_40_9, gt_40_10, pt_40_10, gt_40_11, gt_40_12, gt_40_13, gt_40_14, gt_40_15, gt_40_16, gt_40_17, gt_40_18, gt_40_19, gt_40_20, gt_40_21, gt_40_22, pt_40_22, gt_40_23, gt_40_24, gt_40_25, gt_40_26, gt_40_27, gt_40_28, gt_40_29, gt_40_30, gt_40_31, gt_40_32, gt_40_33, gt_40_34, pt_40_34, gt_40_35, pt_40_35, gt_40_36, gt_40_37, gt_40_38, gt_40_39, gt_40_40, gt_40_41, pt_40_41, gt_40_42, pt_40_42, gt_40_43, pt_40_43, gt_40_44, pt_40_44, gt_40_45, pt_40_45, gt_40_46, pt_40_46, gt_40_47, List.cons_append, List.nil_append, List.append_nil, if_true, if_false, true_and, and_true, true_or, or_true, nm_b_some]
        rw [c_doneMany q5 h1]
        simp only [r_X9_go_42, r_X9_go_44, r_X9_go_45, r_X9_go_47, r_X9_go_48, List.cons_append, List.nil_append, List.append_nil, if_true, if_false, true_and, and_true, true_or, or_true, nm_b_some, gi_si, ga_sa, gi_sa, gi_sb, gi_sp, ga_si, ga_sb, ga_sp, gb_si, gb_sa, gb_sb, gb_sp, gp_si, gp_sa, gp_sb, gp_sp, if_true, if_false, ↓reduceIte, Nat.reduceEqDiff, q6, q7, ← hopen, ← hdone, htc, htd]
        have hlp := c_goLoop (s := sa t 63 hh) (Q := fun v' w => ∃ x u, v' = [.int x] ∧ w = rep u ∧ (x = b2 (v (env4 ta tb tc td)) ∧ Fr [3700, 3701, 3702, 3703, 3706, 3707, 3708, 3709, 3710, 3711] [30, 38, 39, 63, 68] t u)) (ta := ta) (tb := tb) (tc := tc) (td := td) (r := v (env4 ta tb tc td)) (fun f => ⟨_, _, rfl, rfl, rfl, (Fr.rf.sa (by decide)).sa (by decide)⟩) (C.length + 1) C [] 0 (ga t 68) .null .null .null (by omega) (by simp only [gi_si, ga_sa, gi_sa, gi_sb, gi_sp, ga_si, ga_sb, ga_sp, gb_si, gb_sa, gb_sb, gb_sp, gp_si, gp_sa, gp_sb, gp_sp, if_true, if_false, ↓reduceIte, Nat.reduceEqDiff]; rw [hF.2.1 66 (by decide)]; exact n4) (by have := n5 (env4 ta tb tc td) [] []; rw [List.append_nil] at this; rw [this]; rfl) trivial (by simp) (by omega)
        have hs0 : sa (sa t 63 hh) 68 (ga t 68) = sa t 63 hh := by
          have := sa_self (sa t 63 hh) 68
          simp only [gi_si, ga_sa, gi_sa, gi_sb, gi_sp, ga_si, ga_sb, ga_sp, gb_si, gb_sa, gb_sb, gb_sp, gp_si, gp_sa, gp_sb, gp_sp, if_true, if_false, ↓reduceIte, Nat.reduceEqDiff] at this
          exact this
        rw [hs0] at hlp
        exact hlp
    obtain ⟨x, u, r2, rfl, hF2⟩ := kM
    exact ⟨_, t, u, r1, r2, hF.tr hF2⟩
