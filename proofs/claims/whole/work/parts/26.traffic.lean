/-! The CONVOYS as they run: what is foreseen. -/
def lvM (lv lo lb lt : Nat → Int32) (n : Nat) (c : Nat) (q : Int32) : Int32 := lpf (fun k m => if lo k = nI c ∧ ¬ q < lt k then m + lb k else m + 0) n 0 (lv c)
def IvL (s : nm_S) : Prop := ∃ n C : Nat, n ≤ 60 ∧ gi s 1407 = nI n ∧ gi s 4003 = nI n ∧ gi s 4002 = nI C ∧ C ≤ 4 ∧ (gi s 11 = 0 → n = 0) ∧ ∀ k, k < n → (ga s 18 k = ga s 52 k ∧ ga s 19 k = ga s 53 k ∧ ga s 20 k = ga s 54 k) ∧ (∃ c, c < C ∧ ga s 52 k = nI c) ∧ (∃ m, 1 ≤ m ∧ m ≤ 200 ∧ ga s 53 k = nI m)
theorem IvL_reads : Reads [11, 1407, 4002, 4003] [18, 19, 20, 52, 53, 54] IvL := by
  intro s t hk hc h
  unfold IvL at h ⊢
  rw [hk 11 (by decide), hk 1407 (by decide), hk 4002 (by decide), hk 4003 (by decide), hc 18 (by decide), hc 19 (by decide), hc 20 (by decide), hc 52 (by decide), hc 53 (by decide), hc 54 (by decide)]
  exact h
def brF (own : Nat → Int32) (hw : Int32) (o : Nat → Nat) : Nat → Int32
  | 0 => own (o 0)
  | k + 1 => if own (o (k + 1)) < brF own hw o k + hw then brF own hw o k + hw else own (o (k + 1))
/-- one late telling, on the row of leavings -/
def lst (lo lb lt : Nat → Int32) (q : Int32) (k : Nat) (f : Nat → Int32) : Nat → Int32 := if q < lt k then f else upd f (lo k).toNatClampNeg (f (lo k).toNatClampNeg + lb k)
theorem lst_is {lo lb lt : Nat → Int32} {q : Int32} {n C : Nat} (hC : C ≤ 4) (hlo : ∀ k, k < n → ∃ c, c < C ∧ lo k = nI c) (f : Nat → Int32) (lv : Nat → Int32) (hf : ∀ c, c < C → f c = lv c) : ∀ c, c < C → lpf (lst lo lb lt q) n 0 f c = lvM lv lo lb lt n c q := by
  intro c hc
  have key : ∀ m, m ≤ n → lpf (lst lo lb lt q) m 0 f c = lvM lv lo lb lt m c q := by
    intro m
    induction m with
    | zero => intro _; exact hf c hc
    | succ m ih =>
      intro hm
      have ih := ih (by omega)
      unfold lvM at ih ⊢
      rw [lpf_last, lpf_last, ← ih, Nat.zero_add]
      obtain ⟨c', hc', e⟩ := hlo m (by omega)
      have e2 : (lo m).toNatClampNeg = c' := by rw [e]; exact i_nIc (by omega)
      unfold lst
      rw [e2]
      by_cases hq : q < lt m
      · rw [if_pos hq, if_neg (fun z => z.2 hq)]
        simp
      · rw [if_neg hq]
        by_cases hcc : c = c'
        · subst hcc
          rw [upd_at, if_pos ⟨e, hq⟩]
        · rw [upd_ne hcc, if_neg (fun z => hcc (by rw [e] at z; exact ((nI_eq' (by omega) (by omega)).mp z.1).symm))]
          simp
  exact key n (Nat.le_refl n)
def cst (F : Nat → Int32) (half way hw : Int32) (o : Nat → Nat) (k : Nat) (a : (Nat → Int32) × (Nat → Int32) × Int32) : (Nat → Int32) × (Nat → Int32) × Int32 :=
  (upd a.1 (o k) (if F (o k) + half < a.2.2 then a.2.2 else F (o k) + half), upd a.2.1 (o k) ((if F (o k) + half < a.2.2 then a.2.2 else F (o k) + half) + way - half), (if F (o k) + half < a.2.2 then a.2.2 else F (o k) + half) + hw)
theorem cst_is {F : Nat → Int32} {half way hw : Int32} {o : Nat → Nat} {C : Nat} (hinj : ∀ j k, j < k → k < C → o j ≠ o k) (h0 : 0 < C → 0 ≤ (F (o 0) + half).toInt) (G H : Nat → Int32) : ∀ k, k < C → (lpf (cst F half way hw o) C 0 (G, H, 0)).1 (o k) = brF (fun c => F c + half) hw o k ∧ (lpf (cst F half way hw o) C 0 (G, H, 0)).2.1 (o k) = brF (fun c => F c + half) hw o k + way - half := by
  have key := lpf_ind (step := cst F half way hw o) (fun i a => (∀ k, k < i → a.1 (o k) = brF (fun c => F c + half) hw o k ∧ a.2.1 (o k) = brF (fun c => F c + half) hw o k + way - half) ∧ a.2.2 = (if i = 0 then 0 else brF (fun c => F c + half) hw o (i - 1) + hw)) (N := C) (by
    intro i a hi ha
    obtain ⟨ha1, ha2⟩ := ha
    have hb : (if F (o i) + half < a.2.2 then a.2.2 else F (o i) + half) = brF (fun c => F c + half) hw o i := by
      cases i with
      | zero =>
        rw [ha2, if_pos rfl]
        have : ¬ F (o 0) + half < 0 := by rw [i_lt, i_l0]; have := h0 (by omega); omega
        rw [if_neg this]
        rfl
      | succ i =>
        have ha3 : a.2.2 = brF (fun c => F c + half) hw o i + hw := by
          rw [ha2, if_neg (Nat.succ_ne_zero i)]
          rfl
        rw [ha3]
        rfl
    unfold cst
    rw [hb]
    refine ⟨fun k hk => ?_, ?_⟩
    · dsimp only
      by_cases hki : k = i
      · subst hki
        rw [upd_at, upd_at]
        exact ⟨rfl, rfl⟩
      · rw [upd_ne (hinj k i (by omega) hi), upd_ne (hinj k i (by omega) hi)]
        exact ha1 k (by omega)
    · dsimp only
      rw [if_neg (by omega)]
      rfl) C 0 (G, H, 0) (by omega) ⟨fun k hk => by omega, by rw [if_pos rfl]⟩
  exact key.1
theorem bfr_irr {f : Nat → Int32} {a : Nat} (h : bfr f a a) : False := by unfold bfr at h; omega
theorem bfr_asy {f : Nat → Int32} {a b : Nat} (h : bfr f a b) (h' : bfr f b a) : False := by unfold bfr at h h'; omega
theorem Ord.inj {f g : Nat → Int32} {C : Nat} {o : Nat → Nat} (h : Ord f g C o) : ∀ j k, j < k → k < C → o j ≠ o k := fun j k a b e => by
  have := h.2.1 j k a b
  rw [e] at this
  exact bfr_irr this
theorem lvM_rng {lv lo lb lt : Nat → Int32} {n c : Nat} {q : Int32} (hn : n ≤ 60) (h0 : 0 ≤ (lv c).toInt ∧ (lv c).toInt ≤ 2000) (hb : ∀ k, k < n → ∃ m, 1 ≤ m ∧ m ≤ 200 ∧ lb k = nI m) : 0 ≤ (lvM lv lo lb lt n c q).toInt ∧ (lvM lv lo lb lt n c q).toInt ≤ 14000 := by
  have key := lpf_ind (step := fun k m => if lo k = nI c ∧ ¬ q < lt k then m + lb k else m + 0) (fun i m => 0 ≤ m.toInt ∧ m.toInt ≤ 2000 + 200 * i) (N := n) (by
    intro i m hi hm
    try dsimp only
    obtain ⟨x, h1, h2, h3⟩ := hb i hi
    split
    · rw [h3, i_add] <;> rw [i_nI (by omega)] <;> omega
    · rw [i_add] <;> rw [i_l0] <;> omega) n 0 (lv c) (by omega) (by omega)
  unfold lvM
  omega
theorem half_is {w : Int32} (h : 2 ≤ w.toInt ∧ w.toInt ≤ 120) : ∃ k, k ≤ 60 ∧ w / 2 = nI k := by
  have e := i_of (x := w) (by omega)
  refine ⟨w.toInt.toNat / 2, by omega, ?_⟩
  have h := pk_div (a := w.toInt.toNat) (d := 2) (by omega) (by omega) (by omega)
  rw [← e] at h
  exact h
theorem c_cross {d : Nat} {s : nm_S} {Q : nm_K} {C : Nat} {o : Nat → Nat} {f : Nat → Int32} (hC : C ≤ 4) (hg : gi s 604 = nI C) (ho : Ord f (ga s 10) C o) (hQ : Q [] (rep (sa (sa s 16 (lpf (cst (ga s 15) (gi s 605 / 2) (gi s 605) (gi s 606) o) C 0 (ga s 16, ga s 17, 0)).1) 17 (lpf (cst (ga s 15) (gi s 605 / 2) (gi s 605) (gi s 606) o) C 0 (ga s 16, ga s 17, 0)).2.1))) : nm_call (d + 1) 66 [.ref 14] (rep s) Q := by
  have h20 : ¬ (2 : Int32) = 0 := by decide
  rw [e_X7_crossBridge]
  simp only [r_X7_crossBridge_0, r_X7_crossBridge_1, r_X7_crossBridge_4, r_X7_crossBridge_7, r_X7_crossBridge_8, r_X7_crossBridge_9, r_X7_crossBridge_10, r_X7_crossBridge_11, r_X7_crossBridge_12, r_X7_crossBridge_13, ob_14, gt_14_0, gt_14_1, gt_14_2, gt_14_3, gt_14_4, gt_14_5, gt_14_6, gt_14_7, pt_14_7, ob_6, gt_6_0, gt_6_1, gt_6_2, gt_6_3, gt_6_4, pt_6_4, gt_6_5, pt_6_5, gt_6_6, pt_6_6, List.cons_append, List.nil_append, List.append_nil, if_true, if_false, true_and, and_true, true_or, or_true, nm_b_some, h20, not_false_eq_true]
  have hs0 : rep s = rep (sa (sa s 16 (ga s 16)) 17 (ga s 17)) := by rw [sa_self, sa_self]
  rw [hs0]
  refine nm_loopI (fun k (a : (Nat → Int32) × (Nat → Int32) × Int32) => ∀ z : Value, x_X7_crossBridge d Q 14 [.ref 14, .int (gi s 605 / 2), .int a.2.2, .int (nI k), z] [] (rep (sa (sa s 16 a.1) 17 a.2.1)) 0 0) (fun a => Q [] (rep (sa (sa s 16 a.1) 17 a.2.1))) (cst (ga s 15) (gi s 605 / 2) (gi s 605) (gi s 606) o) (fun _ _ => True) (N := C) ?_ ?_ C 0 (ga s 16, ga s 17, 0) (by omega) trivial hQ .null
  · intro k a hk _
    refine ⟨trivial, fun hn z => ?_⟩
    obtain ⟨g0, g1⟩ := ho.1 k hk
    have g2 : nI k < nI C := (nI_lt' (by omega) (by omega)).mpr hk
    have g3 : vp_in (nI k) 4 := vp_in' (by omega) (by omega)
    have g4 : (nI k).toNatClampNeg = k := i_nIc (by omega)
    have g5 : vp_in (nI (o k)) 4 := vp_in' (by omega) (by omega)
    have g6 : (nI (o k)).toNatClampNeg = o k := i_nIc (by omega)
    rw [r_X7_crossBridge_14]
    simp only [r_X7_crossBridge_0, r_X7_crossBridge_1, r_X7_crossBridge_4, r_X7_crossBridge_7, r_X7_crossBridge_8, r_X7_crossBridge_9, r_X7_crossBridge_10, r_X7_crossBridge_11, r_X7_crossBridge_12, r_X7_crossBridge_13, r_X7_crossBridge_15, r_X7_crossBridge_16, r_X7_crossBridge_19, r_X7_crossBridge_22, r_X7_crossBridge_25, r_X7_crossBridge_26, r_X7_crossBridge_29, r_X7_crossBridge_32, r_X7_crossBridge_33, r_X7_crossBridge_34, r_X7_crossBridge_36, r_X7_crossBridge_37, r_X7_crossBridge_40, r_X7_crossBridge_42, r_X7_crossBridge_43, r_X7_crossBridge_46, r_X7_crossBridge_48, r_X7_crossBridge_49, r_X7_crossBridge_50, r_X7_crossBridge_51, r_X7_crossBridge_52, r_X7_crossBridge_55, r_X7_crossBridge_56, r_X7_crossBridge_57, r_X7_crossBridge_60, r_X7_crossBridge_62, r_X7_crossBridge_63, r_X7_crossBridge_66, r_X7_crossBridge_68, r_X7_crossBridge_69, r_X7_crossBridge_70, r_X7_crossBridge_73, r_X7_crossBridge_76, r_X7_crossBridge_77, r_X7_crossBridge_78, r_X7_crossBridge_79, r_X7_crossBridge_80, r_X7_crossBridge_81, r_X7_crossBridge_84, r_X7_crossBridge_86, r_X7_crossBridge_87, r_X7_crossBridge_88, r_X7_crossBridge_91, r_X7_crossBridge_94, r_X7_crossBridge_95, r_X7_crossBridge_96, r_X7_crossBridge_99, r_X7_crossBridge_102, ob_14, gt_14_0, gt_14_1, gt_14_2, gt_14_3, gt_14_4, gt_14_5, gt_14_6, gt_14_7, pt_14_7, ob_6, gt_6_0, gt_6_1, gt_6_2, gt_6_3, gt_6_4, pt_6_4, gt_6_5, pt_6_5, gt_6_6, pt_6_6, ad_10, as_10, ad_15, as_15, ad_16, as_16, ad_17, as_17, List.cons_append, List.nil_append, List.append_nil, if_true, if_false, true_and, and_true, true_or, or_true, nm_b_some, gi_si, ga_sa, gi_sa, gi_sb, gi_sp, ga_si, ga_sb, ga_sp, gb_si, gb_sa, gb_sb, gb_sp, gp_si, gp_sa, gp_sb, gp_sp, if_true, if_false, ↓reduceIte, Nat.reduceEqDiff, hg, g0, g2, g3, g4, g5, g6, sa_sw (show (16 : Nat) ≠ 17 by decide), sa_sa, nI_s, upd_at]
    exact hn _
  · intro a _ hr z
    have g2 : ¬ nI C < nI C := by rw [nI_lt' (by omega) (by omega)]; omega
    rw [r_X7_crossBridge_14]
    simp only [r_X7_crossBridge_0, r_X7_crossBridge_1, r_X7_crossBridge_4, r_X7_crossBridge_7, r_X7_crossBridge_8, r_X7_crossBridge_9, r_X7_crossBridge_10, r_X7_crossBridge_11, r_X7_crossBridge_12, r_X7_crossBridge_13, r_X7_crossBridge_15, r_X7_crossBridge_16, r_X7_crossBridge_19, r_X7_crossBridge_22, r_X7_crossBridge_25, r_X7_crossBridge_26, r_X7_crossBridge_29, r_X7_crossBridge_32, r_X7_crossBridge_33, r_X7_crossBridge_34, r_X7_crossBridge_36, r_X7_crossBridge_37, r_X7_crossBridge_40, r_X7_crossBridge_42, r_X7_crossBridge_43, r_X7_crossBridge_46, r_X7_crossBridge_48, r_X7_crossBridge_49, r_X7_crossBridge_50, r_X7_crossBridge_51, r_X7_crossBridge_52, r_X7_crossBridge_55, r_X7_crossBridge_56, r_X7_crossBridge_57, r_X7_crossBridge_60, r_X7_crossBridge_62, r_X7_crossBridge_63, r_X7_crossBridge_66, r_X7_crossBridge_68, r_X7_crossBridge_69, r_X7_crossBridge_70, r_X7_crossBridge_73, r_X7_crossBridge_76, r_X7_crossBridge_77, r_X7_crossBridge_78, r_X7_crossBridge_79, r_X7_crossBridge_80, r_X7_crossBridge_81, r_X7_crossBridge_84, r_X7_crossBridge_86, r_X7_crossBridge_87, r_X7_crossBridge_88, r_X7_crossBridge_91, r_X7_crossBridge_94, r_X7_crossBridge_95, r_X7_crossBridge_96, r_X7_crossBridge_99, r_X7_crossBridge_102, ob_14, gt_14_0, gt_14_1, gt_14_2, gt_14_3, gt_14_4, gt_14_5, gt_14_6, gt_14_7, pt_14_7, ob_6, gt_6_0, gt_6_1, gt_6_2, gt_6_3, gt_6_4, pt_6_4, gt_6_5, pt_6_5, gt_6_6, pt_6_6, ad_10, as_10, ad_15, as_15, ad_16, as_16, ad_17, as_17, List.cons_append, List.nil_append, List.append_nil, if_true, if_false, true_and, and_true, true_or, or_true, nm_b_some, gi_si, ga_sa, gi_sa, gi_sb, gi_sp, ga_si, ga_sb, ga_sp, gb_si, gb_sa, gb_sb, gb_sp, gp_si, gp_sa, gp_sb, gp_sp, if_true, if_false, ↓reduceIte, Nat.reduceEqDiff, hg, g2]
    exact hr
theorem cpy_is (lv f : Nat → Int32) (C : Nat) : ∀ c, c < C → lpf (fun k (g : Nat → Int32) => upd g k (lv k)) C 0 f c = lv c := by
  have key := lpf_ind (step := fun k (g : Nat → Int32) => upd g k (lv k)) (fun i g => ∀ c, c < i → g c = lv c) (N := C) (by
    intro i g hi hg c hc
    try dsimp only
    by_cases h : c = i
    · subst h; rw [upd_at]
    · rw [upd_ne h]; exact hg c (by omega)) C 0 f (by omega) (fun c hc => by omega)
  exact key
/-- foresee: leavings, bridge and arrivals as known in q -/
theorem c_foresee {d : Nat} {s : nm_S} {q : Int32} {n C : Nat} {o : Nat → Nat} (hn : n ≤ 60) (hC : C ≤ 4) (hg : gi s 604 = nI C) (hl : gi s 1407 = nI n) (hlo : ∀ k, k < n → ∃ c, c < C ∧ ga s 18 k = nI c) (hlb : ∀ k, k < n → ∃ m, 1 ≤ m ∧ m ≤ 200 ∧ ga s 19 k = nI m) (hlv : ∀ c, c < C → 0 ≤ (ga s 7 c).toInt ∧ (ga s 7 c).toInt ≤ 2000) (hw : 2 ≤ (gi s 605).toInt ∧ (gi s 605).toInt ≤ 120) (ho : Ord (ga s 7) (ga s 10) C o) :
    ∃ F G H : Nat → Int32, (∀ c, c < C → F c = lvM (ga s 7) (ga s 18) (ga s 19) (ga s 20) n c q) ∧ (∀ k, k < C → G (o k) = brF (fun c => lvM (ga s 7) (ga s 18) (ga s 19) (ga s 20) n c q + gi s 605 / 2) (gi s 606) o k ∧ H (o k) = brF (fun c => lvM (ga s 7) (ga s 18) (ga s 19) (ga s 20) n c q + gi s 605 / 2) (gi s 606) o k + gi s 605 - gi s 605 / 2) ∧ ∀ Q : nm_K, Q [] (rep (sa (sa (sa s 15 F) 16 G) 17 H)) → nm_call (d + 2) 65 [.ref 14, .int q] (rep s) Q := by
  have c1 := cpy_is (ga s 7) (ga s 15) C
  generalize hF0 : lpf (fun k (g : Nat → Int32) => upd g k (ga s 7 k)) C 0 (ga s 15) = F0 at c1
  have c2 := lst_is (q := q) (lb := ga s 19) (lt := ga s 20) hC hlo F0 (ga s 7) c1
  generalize hF : lpf (lst (ga s 18) (ga s 19) (ga s 20) q) n 0 F0 = F at c2
  have hbr : ∀ k, k < C → brF (fun c => F c + gi s 605 / 2) (gi s 606) o k = brF (fun c => lvM (ga s 7) (ga s 18) (ga s 19) (ga s 20) n c q + gi s 605 / 2) (gi s 606) o k := by
    intro k
    induction k with
    | zero => intro hk; unfold brF; rw [c2 _ (ho.1 0 hk).2]
    | succ k ih => intro hk; unfold brF; rw [ih (by omega), c2 _ (ho.1 (k + 1) hk).2]
  have c3 := cst_is (F := F) (half := gi s 605 / 2) (way := gi s 605) (hw := gi s 606) ho.inj (by
    intro h0
    have hb := (ho.1 0 h0).2
    rw [c2 _ hb]
    have hr := lvM_rng (lo := ga s 18) (lt := ga s 20) (q := q) hn (hlv _ hb) hlb
    obtain ⟨k, hk, ek⟩ := half_is hw
    rw [ek, i_add] <;> rw [i_nI (by omega)] <;> omega) (ga s 16) (ga s 17)
  refine ⟨F, (lpf (cst F (gi s 605 / 2) (gi s 605) (gi s 606) o) C 0 (ga s 16, ga s 17, 0)).1, (lpf (cst F (gi s 605 / 2) (gi s 605) (gi s 606) o) C 0 (ga s 16, ga s 17, 0)).2.1, c2, fun k hk => by rw [← hbr k hk]; exact c3 k hk, ?_⟩
  intro Q hQ
  rw [e_X7_foresee]
  simp only [r_X7_foresee_0, r_X7_foresee_1]
  have hs0 : rep s = rep (sa s 15 (ga s 15)) := by rw [sa_self]
  rw [hs0]
  refine nm_loopI (fun k (g : Nat → Int32) => x_X7_foresee (d + 1) Q 2 [.ref 14, .int q, .int (nI k)] [] (rep (sa s 15 g)) 0 0) (fun g => ∀ z : Value, x_X7_foresee (d + 1) Q 34 [.ref 14, .int q, z] [] (rep (sa s 15 g)) 0 0) (fun k g => upd g k (ga s 7 k)) (fun _ _ => True) (N := C) ?_ ?_ C 0 (ga s 15) (by omega) trivial ?_
  · intro k g hk _
    refine ⟨trivial, fun hn => ?_⟩
    have g2 : nI k < nI C := (nI_lt' (by omega) (by omega)).mpr hk
    have g3 : vp_in (nI k) 4 := vp_in' (by omega) (by omega)
    have g4 : (nI k).toNatClampNeg = k := i_nIc (by omega)
    rw [r_X7_foresee_2]
    simp only [r_X7_foresee_3, r_X7_foresee_4, r_X7_foresee_7, r_X7_foresee_10, r_X7_foresee_13, r_X7_foresee_14, r_X7_foresee_17, r_X7_foresee_18, r_X7_foresee_19, r_X7_foresee_22, r_X7_foresee_25, r_X7_foresee_26, r_X7_foresee_27, r_X7_foresee_28, r_X7_foresee_31, ob_14, gt_14_0, gt_14_1, gt_14_2, gt_14_3, gt_14_4, gt_14_5, gt_14_6, gt_14_7, pt_14_7, ob_6, gt_6_0, gt_6_1, gt_6_2, gt_6_3, gt_6_4, pt_6_4, gt_6_5, pt_6_5, gt_6_6, pt_6_6, ad_7, as_7, ad_15, as_15, List.cons_append, List.nil_append, List.append_nil, if_true, if_false, true_and, and_true, true_or, or_true, nm_b_some, gi_si, ga_sa, gi_sa, gi_sb, gi_sp, ga_si, ga_sb, ga_sp, gb_si, gb_sa, gb_sb, gb_sp, gp_si, gp_sa, gp_sb, gp_sp, if_true, if_false, ↓reduceIte, Nat.reduceEqDiff, hg, g2, g3, g4, sa_sa, nI_s]
    exact hn
  · intro g _ hr
    have g2 : ¬ nI C < nI C := by rw [nI_lt' (by omega) (by omega)]; omega
    rw [r_X7_foresee_2]
    simp only [r_X7_foresee_3, r_X7_foresee_4, r_X7_foresee_7, r_X7_foresee_10, r_X7_foresee_13, r_X7_foresee_14, r_X7_foresee_17, r_X7_foresee_18, r_X7_foresee_19, r_X7_foresee_22, r_X7_foresee_25, r_X7_foresee_26, r_X7_foresee_27, r_X7_foresee_28, r_X7_foresee_31, ob_14, gt_14_0, gt_14_1, gt_14_2, gt_14_3, gt_14_4, gt_14_5, gt_14_6, gt_14_7, pt_14_7, ob_6, gt_6_0, gt_6_1, gt_6_2, gt_6_3, gt_6_4, pt_6_4, gt_6_5, pt_6_5, gt_6_6, pt_6_6, ad_7, as_7, ad_15, as_15, List.cons_append, List.nil_append, List.append_nil, if_true, if_false, true_and, and_true, true_or, or_true, nm_b_some, gi_si, ga_sa, gi_sa, gi_sb, gi_sp, ga_si, ga_sb, ga_sp, gb_si, gb_sa, gb_sb, gb_sp, gp_si, gp_sa, gp_sb, gp_sp, if_true, if_false, ↓reduceIte, Nat.reduceEqDiff, hg, g2]
    exact hr _
  · rw [hF0]
    intro z
    simp only [r_X7_foresee_34, r_X7_foresee_35]
    refine nm_loopI (fun k (g : Nat → Int32) => x_X7_foresee (d + 1) Q 36 [.ref 14, .int q, .int (nI k)] [] (rep (sa s 15 g)) 0 0) (fun g => ∀ z : Value, x_X7_foresee (d + 1) Q 80 [.ref 14, .int q, z] [] (rep (sa s 15 g)) 0 0) (lst (ga s 18) (ga s 19) (ga s 20) q) (fun _ _ => True) (N := n) ?_ ?_ n 0 F0 (by omega) trivial ?_
    · intro k g hk _
      refine ⟨trivial, fun hn => ?_⟩
      obtain ⟨c, hc, ec⟩ := hlo k hk
      have g2 : nI k < nI n := (nI_lt' (by omega) (by omega)).mpr hk
      have g3 : vp_in (nI k) 60 := vp_in' (by omega) (by omega)
      have g4 : (nI k).toNatClampNeg = k := i_nIc (by omega)
      have g5 : vp_in (nI c) 4 := vp_in' (by omega) (by omega)
      have g6 : (nI c).toNatClampNeg = c := i_nIc (by omega)
      unfold lst at hn
      rw [ec, g6] at hn
      rw [r_X7_foresee_36]
      simp only [r_X7_foresee_37, r_X7_foresee_38, r_X7_foresee_41, r_X7_foresee_44, r_X7_foresee_45, r_X7_foresee_48, r_X7_foresee_49, r_X7_foresee_50, r_X7_foresee_51, r_X7_foresee_54, r_X7_foresee_55, r_X7_foresee_58, r_X7_foresee_59, r_X7_foresee_62, r_X7_foresee_63, r_X7_foresee_64, r_X7_foresee_65, r_X7_foresee_66, r_X7_foresee_67, r_X7_foresee_70, r_X7_foresee_71, r_X7_foresee_72, r_X7_foresee_73, r_X7_foresee_74, r_X7_foresee_77, ob_14, gt_14_0, gt_14_1, gt_14_2, gt_14_3, gt_14_4, gt_14_5, gt_14_6, gt_14_7, pt_14_7, ad_15, as_15, ad_18, as_18, ad_19, as_19, ad_20, as_20, List.cons_append, List.nil_append, List.append_nil, if_true, if_false, true_and, and_true, true_or, or_true, nm_b_some, gi_si, ga_sa, gi_sa, gi_sb, gi_sp, ga_si, ga_sb, ga_sp, gb_si, gb_sa, gb_sb, gb_sp, gp_si, gp_sa, gp_sb, gp_sp, if_true, if_false, ↓reduceIte, Nat.reduceEqDiff, hl, g2, g3, g4, ec, g5, g6, sa_sa, nI_s]
      by_cases hq : q < ga s 20 k
      · simp only [hq, if_true] at hn ⊢
        exact hn
      · simp only [hq, if_false] at hn ⊢
        exact hn
    · intro g _ hr
      have g2 : ¬ nI n < nI n := by rw [nI_lt' (by omega) (by omega)]; omega
      rw [r_X7_foresee_36]
      simp only [r_X7_foresee_37, r_X7_foresee_38, r_X7_foresee_41, r_X7_foresee_44, r_X7_foresee_45, r_X7_foresee_48, r_X7_foresee_49, r_X7_foresee_50, r_X7_foresee_51, r_X7_foresee_54, r_X7_foresee_55, r_X7_foresee_58, r_X7_foresee_59, r_X7_foresee_62, r_X7_foresee_63, r_X7_foresee_64, r_X7_foresee_65, r_X7_foresee_66, r_X7_foresee_67, r_X7_foresee_70, r_X7_foresee_71, r_X7_foresee_72, r_X7_foresee_73, r_X7_foresee_74, r_X7_foresee_77, ob_14, gt_14_0, gt_14_1, gt_14_2, gt_14_3, gt_14_4, gt_14_5, gt_14_6, gt_14_7, pt_14_7, ad_15, as_15, ad_18, as_18, ad_19, as_19, ad_20, as_20, List.cons_append, List.nil_append, List.append_nil, if_true, if_false, true_and, and_true, true_or, or_true, nm_b_some, gi_si, ga_sa, gi_sa, gi_sb, gi_sp, ga_si, ga_sb, ga_sp, gb_si, gb_sa, gb_sb, gb_sp, gp_si, gp_sa, gp_sb, gp_sp, if_true, if_false, ↓reduceIte, Nat.reduceEqDiff, hl, g2]
      exact hr _
    · rw [hF]
      intro z
      simp only [r_X7_foresee_80, r_X7_foresee_81, ob_14, gt_14_0, gt_14_1, gt_14_2, gt_14_3, gt_14_4, gt_14_5, gt_14_6, gt_14_7, pt_14_7]
      refine ⟨trivial, ?_⟩
      refine c_cross (s := sa s 15 F) (C := C) (o := o) (f := ga s 7) hC (by simp only [gi_si, ga_sa, gi_sa, gi_sb, gi_sp, ga_si, ga_sb, ga_sp, gb_si, gb_sa, gb_sb, gb_sp, gp_si, gp_sa, gp_sb, gp_sp, if_true, if_false, ↓reduceIte, Nat.reduceEqDiff]; exact hg) (by simp only [gi_si, ga_sa, gi_sa, gi_sb, gi_sp, ga_si, ga_sb, ga_sp, gb_si, gb_sa, gb_sb, gb_sp, gp_si, gp_sa, gp_sb, gp_sp, if_true, if_false, ↓reduceIte, Nat.reduceEqDiff]; exact ho) ?_
      simp only [r_X7_foresee_0, r_X7_foresee_1, r_X7_foresee_2, r_X7_foresee_3, r_X7_foresee_4, r_X7_foresee_7, r_X7_foresee_10, r_X7_foresee_13, r_X7_foresee_14, r_X7_foresee_17, r_X7_foresee_18, r_X7_foresee_19, r_X7_foresee_22, r_X7_foresee_25, r_X7_foresee_26, r_X7_foresee_27, r_X7_foresee_28, r_X7_foresee_31, r_X7_foresee_34, r_X7_foresee_35, r_X7_foresee_36, r_X7_foresee_37, r_X7_foresee_38, r_X7_foresee_41, r_X7_foresee_44, r_X7_foresee_45, r_X7_foresee_48, r_X7_foresee_49, r_X7_foresee_50, r_X7_foresee_51, r_X7_foresee_54, r_X7_foresee_55, r_X7_foresee_58, r_X7_foresee_59, r_X7_foresee_62, r_X7_foresee_63, r_X7_foresee_64, r_X7_foresee_65, r_X7_foresee_66, r_X7_foresee_67, r_X7_foresee_70, r_X7_foresee_71, r_X7_foresee_72, r_X7_foresee_73, r_X7_foresee_74, r_X7_foresee_77, r_X7_foresee_80, r_X7_foresee_81, r_X7_foresee_84, List.cons_append, List.nil_append, List.append_nil, if_true, if_false, true_and, and_true, true_or, or_true, nm_b_some, gi_si, ga_sa, gi_sa, gi_sb, gi_sp, ga_si, ga_sb, ga_sp, gb_si, gb_sa, gb_sb, gb_sp, gp_si, gp_sa, gp_sb, gp_sp, if_true, if_false, ↓reduceIte, Nat.reduceEqDiff]
      exact hQ
