/-! The reference's reading: codes, and small methods. -/
def cev (e : rE) : List Int32 → List Bool → Option (List Bool)
  | [], st => some st
  | c :: r, st => if c = 0 then (match r with
      | l :: g :: x :: r' => if sgn g then cev e r' (cmpv g (e l) x :: st) else none
      | _ => none) else if c = 3 then none else (match st with
      | b :: a :: st' => cev e r ((if c = 1 then a && b else a || b) :: st')
      | _ => none)
def Blk (C : List Int32) (v : rE → Bool) : Prop := ∀ (e : rE) (D : List Int32) (st : List Bool), cev e (C ++ D) st = cev e D (v e :: st)
theorem Blk_b {l g x : Int32} (hg : sgn g) : Blk [0, l, g, x] (fun e => cmpv g (e l) x) := by
  intro e D st
  show cev e (0 :: l :: g :: x :: D) st = _
  rw [cev.eq_def]
  dsimp only
  rw [if_pos rfl, if_pos hg]
theorem Blk_and {C C' : List Int32} {v v' : rE → Bool} (h : Blk C v) (h' : Blk C' v') : Blk (C ++ C' ++ [1]) (fun e => v e && v' e) := by
  intro e D st
  rw [List.append_assoc, List.append_assoc, h e, h' e]
  show cev e (1 :: D) _ = _
  rw [cev.eq_def]
  dsimp only
  rw [if_neg (by decide), if_neg (by decide), if_pos rfl]
theorem Blk_or {C C' : List Int32} {v v' : rE → Bool} (h : Blk C v) (h' : Blk C' v') : Blk (C ++ C' ++ [2]) (fun e => v e || v' e) := by
  intro e D st
  rw [List.append_assoc, List.append_assoc, h e, h' e]
  show cev e (2 :: D) _ = _
  rw [cev.eq_def]
  dsimp only
  rw [if_neg (by decide), if_neg (by decide), if_neg (by decide)]
/-- codes lie in a row from k on -/
def lies (f : Nat → Int32) (k : Nat) (C : List Int32) : Prop := ∀ i c, C[i]? = some c → f (k + i) = c
theorem lies_nil {f : Nat → Int32} {k : Nat} : lies f k [] := fun i c h => by simp at h
theorem lies_app {f : Nat → Int32} {k : Nat} {C C' : List Int32} (h : lies f k C) (h' : lies f (k + C.length) C') : lies f k (C ++ C') := by
  intro i c hc
  by_cases hi : i < C.length
  · rw [List.getElem?_append_left hi] at hc
    exact h i c hc
  · rw [List.getElem?_append_right (by omega)] at hc
    have := h' _ c hc
    rw [show k + C.length + (i - C.length) = k + i by omega] at this
    exact this
theorem lies_1 {f : Nat → Int32} {k : Nat} {c : Int32} (h : f k = c) : lies f k [c] := by
  intro i x hx
  match i, hx with
  | 0, hx => simp at hx; rw [← hx]; exact h
  | i + 1, hx => simp at hx
theorem lies_lt {C : List Int32} {i : Nat} {c : Int32} (h : C[i]? = some c) : i < C.length := by
  rcases Nat.lt_or_ge i C.length with z | z
  · exact z
  · rw [List.getElem?_eq_none z] at h; cases h
theorem lies_cong {f g : Nat → Int32} {k : Nat} {C : List Int32} (h : lies f k C) (he : ∀ i, k ≤ i → i < k + C.length → g i = f i) : lies g k C := by
  intro i c hc
  rw [he (k + i) (by omega) (by have := lies_lt hc; omega)]
  exact h i c hc
theorem c_look {d : Nat} {s : nm_S} {Q : nm_K} {n p : Nat} {T : Nat → Int32} (hT : tpv s 4041 65 n T) (hp : gi s 4042 = nI p) (hpn : p ≤ n) (hQ : ∀ q, skp T p q → q ≤ n → (q < n → ¬ T q = 32) → Q [.int (if q < n then T q else -1)] (rep (si s 4042 (nI q)))) : nm_call (d + 1) 139 [.ref 40] (rep s) Q := by
  obtain ⟨h1, h2, h3⟩ := hT
  have loop : ∀ m q, q + m = n → skp T p q → x_X9_look d Q 0 [.ref 40] [] (rep (si s 4042 (nI q))) 0 0 := by
    intro m
    induction m with
    | zero =>
      intro q hq hs
      have hlt : ¬ nI q < nI n := fun z => absurd ((nI_lt' (by omega) (by omega)).mp z) (by omega)
      have := hQ q hs (by omega) (fun z => by omega)
      rw [if_neg (by omega)] at this
      rw [r_X9_look_0]
      simp only [r_X9_look_1, r_X9_look_4, r_X9_look_5, r_X9_look_8, r_X9_look_11, r_X9_look_12, r_X9_look_15, r_X9_look_16, r_X9_look_19, r_X9_look_20, r_X9_look_22, r_X9_look_25, r_X9_look_26, r_X9_look_27, r_X9_look_30, r_X9_look_31, r_X9_look_32, r_X9_look_35, r_X9_look_38, r_X9_look_39, r_X9_look_42, r_X9_look_43, r_X9_look_46, r_X9_look_49, r_X9_look_50, r_X9_look_53, r_X9_look_54, r_X9_look_57, r_X9_look_58, r_X9_look_61, r_X9_look_62, ob_40, gt_40_0, pt_40_0, gt_40_1, pt_40_1, gt_40_2, pt_40_2, gt_40_3, pt_40_3, gt_40_4, pt_40_4, gt_40_5, pt_40_5, gt_40_6, pt_40_6, gt_40_7, pt_40_7, gt_40_8, pt_40_8, gt_40_9, pt_40_9, gt_40_10, pt_40_10, gt_40_11, gt_40_12, gt_40_13, gt_40_14, gt_40_15, gt_40_16, gt_40_17, gt_40_18, gt_40_19, gt_40_20, gt_40_21, gt_40_22, pt_40_22, gt_40_23, gt_40_24, gt_40_25, gt_40_26, gt_40_27, gt_40_28, gt_40_29, gt_40_30, gt_40_31, gt_40_32, gt_40_33, gt_40_34, pt_40_34, gt_40_35, pt_40_35, gt_40_36, gt_40_37, gt_40_38, gt_40_39, gt_40_40, gt_40_41, pt_40_41, gt_40_42, pt_40_42, gt_40_43, pt_40_43, gt_40_44, pt_40_44, gt_40_45, pt_40_45, gt_40_46, pt_40_46, gt_40_47, ad_65, as_65, List.cons_append, List.nil_append, List.append_nil, if_true, if_false, true_and, and_true, true_or, or_true, nm_b_some, gi_si, ga_sa, gi_sa, gi_sb, gi_sp, ga_si, ga_sb, ga_sp, gb_si, gb_sa, gb_sb, gb_sp, gp_si, gp_sa, gp_sb, gp_sp, if_true, if_false, ↓reduceIte, Nat.reduceEqDiff, h1, hlt]
      exact this
    | succ m ih =>
      intro q hq hs
      have hlt : nI q < nI n := (nI_lt' (by omega) (by omega)).mpr (by omega)
      have hv : vp_in (nI q) 100 := vp_in' (by omega) (by omega)
      have hc : (nI q).toNatClampNeg = q := i_nIc (by omega)
      have hTq := (h3 q (by omega)).1
      rw [r_X9_look_0]
      simp only [r_X9_look_1, r_X9_look_4, r_X9_look_5, r_X9_look_8, r_X9_look_11, r_X9_look_12, r_X9_look_15, r_X9_look_16, r_X9_look_19, r_X9_look_20, r_X9_look_22, r_X9_look_25, r_X9_look_26, r_X9_look_27, r_X9_look_30, r_X9_look_31, r_X9_look_32, r_X9_look_35, r_X9_look_38, r_X9_look_39, r_X9_look_42, r_X9_look_43, r_X9_look_46, r_X9_look_49, r_X9_look_50, r_X9_look_53, r_X9_look_54, r_X9_look_57, r_X9_look_58, r_X9_look_61, r_X9_look_62, ob_40, gt_40_0, pt_40_0, gt_40_1, pt_40_1, gt_40_2, pt_40_2, gt_40_3, pt_40_3, gt_40_4, pt_40_4, gt_40_5, pt_40_5, gt_40_6, pt_40_6, gt_40_7, pt_40_7, gt_40_8, pt_40_8, gt_40_9, pt_40_9, gt_40_10, pt_40_10, gt_40_11, gt_40_12, gt_40_13, gt_40_14, gt_40_15, gt_40_16, gt_40_17, gt_40_18, gt_40_19, gt_40_20, gt_40_21, gt_40_22, pt_40_22, gt_40_23, gt_40_24, gt_40_25, gt_40_26, gt_40_27, gt_40_28, gt_40_29, gt_40_30, gt_40_31, gt_40_32, gt_40_33, gt_40_34, pt_40_34, gt_40_35, pt_40_35, gt_40_36, gt_40_37, gt_40_38, gt_40_39, gt_40_40, gt_40_41, pt_40_41, gt_40_42, pt_40_42, gt_40_43, pt_40_43, gt_40_44, pt_40_44, gt_40_45, pt_40_45, gt_40_46, pt_40_46, gt_40_47, ad_65, as_65, List.cons_append, List.nil_append, List.append_nil, if_true, if_false, true_and, and_true, true_or, or_true, nm_b_some, gi_si, ga_sa, gi_sa, gi_sb, gi_sp, ga_si, ga_sb, ga_sp, gb_si, gb_sa, gb_sb, gb_sp, gp_si, gp_sa, gp_sb, gp_sp, if_true, if_false, ↓reduceIte, Nat.reduceEqDiff, h1, hlt, hv, hc, hTq, nI_s, si_si]
      by_cases h32 : T q = 32
      · rw [if_pos h32]
        refine ih (q + 1) (by omega) ⟨by have := hs.1; omega, fun i hi hi2 => ?_⟩
        by_cases hiq : i = q
        · rw [hiq]; exact h32
        · exact hs.2 i hi (by omega)
      · rw [if_neg h32]
        have := hQ q hs (by omega) (fun _ => h32)
        rw [if_pos (by omega)] at this
        exact this
  rw [e_X9_look]
  have := loop (n - p) p (by omega) ⟨Nat.le_refl p, fun i hi hi2 => by omega⟩
  rw [← hp, si_self] at this
  exact this
theorem c_bad {d : Nat} {s : nm_S} {Q : nm_K} (hw : gi s 4043 = -1) : nm_call (d + 1) 140 [.ref 40] (rep s) Q ↔ Q [] (rep (si s 4043 (gi s 4042))) := by
  simp only [e_X9_bad, r_X9_bad_0, r_X9_bad_1, r_X9_bad_2, r_X9_bad_5, r_X9_bad_6, r_X9_bad_9, r_X9_bad_10, r_X9_bad_13, r_X9_bad_16, r_X9_bad_17, r_X9_bad_20, r_X9_bad_23, ob_40, gt_40_0, pt_40_0, gt_40_1, pt_40_1, gt_40_2, pt_40_2, gt_40_3, pt_40_3, gt_40_4, pt_40_4, gt_40_5, pt_40_5, gt_40_6, pt_40_6, gt_40_7, pt_40_7, gt_40_8, pt_40_8, gt_40_9, pt_40_9, gt_40_10, pt_40_10, gt_40_11, gt_40_12, gt_40_13, gt_40_14, gt_40_15, gt_40_16, gt_40_17, gt_40_18, gt_40_19, gt_40_20, gt_40_21, gt_40_22, pt_40_22, gt_40_23, gt_40_24, gt_40_25, gt_40_26, gt_40_27, gt_40_28, gt_40_29, gt_40_30, gt_40_31, gt_40_32, gt_40_33, gt_40_34, pt_40_34, gt_40_35, pt_40_35, gt_40_36, gt_40_37, gt_40_38, gt_40_39, gt_40_40, gt_40_41, pt_40_41, gt_40_42, pt_40_42, gt_40_43, pt_40_43, gt_40_44, pt_40_44, gt_40_45, pt_40_45, gt_40_46, pt_40_46, gt_40_47, List.cons_append, List.nil_append, List.append_nil, if_true, if_false, true_and, and_true, true_or, or_true, nm_b_some, hw]
theorem c_say {d : Nat} {s : nm_S} {Q : nm_K} {k : Nat} {c : Int32} (hk : gi s 4045 = nI k) (hk2 : k < 240) : nm_call (d + 1) 141 [.ref 40, .int c] (rep s) Q ↔ Q [] (rep (si (sa s 67 (upd (ga s 67) k c)) 4045 (nI (k + 1)))) := by
  have hv : vp_in (nI k) 240 := vp_in' (by omega) (by omega)
  have hc : (nI k).toNatClampNeg = k := i_nIc (by omega)
  simp only [e_X9_say, r_X9_say_0, r_X9_say_1, r_X9_say_4, r_X9_say_5, r_X9_say_8, r_X9_say_9, r_X9_say_10, r_X9_say_11, r_X9_say_12, r_X9_say_15, r_X9_say_16, r_X9_say_17, r_X9_say_20, ob_40, gt_40_0, pt_40_0, gt_40_1, pt_40_1, gt_40_2, pt_40_2, gt_40_3, pt_40_3, gt_40_4, pt_40_4, gt_40_5, pt_40_5, gt_40_6, pt_40_6, gt_40_7, pt_40_7, gt_40_8, pt_40_8, gt_40_9, pt_40_9, gt_40_10, pt_40_10, gt_40_11, gt_40_12, gt_40_13, gt_40_14, gt_40_15, gt_40_16, gt_40_17, gt_40_18, gt_40_19, gt_40_20, gt_40_21, gt_40_22, pt_40_22, gt_40_23, gt_40_24, gt_40_25, gt_40_26, gt_40_27, gt_40_28, gt_40_29, gt_40_30, gt_40_31, gt_40_32, gt_40_33, gt_40_34, pt_40_34, gt_40_35, pt_40_35, gt_40_36, gt_40_37, gt_40_38, gt_40_39, gt_40_40, gt_40_41, pt_40_41, gt_40_42, pt_40_42, gt_40_43, pt_40_43, gt_40_44, pt_40_44, gt_40_45, pt_40_45, gt_40_46, pt_40_46, gt_40_47, ad_67, as_67, List.cons_append, List.nil_append, List.append_nil, if_true, if_false, true_and, and_true, true_or, or_true, nm_b_some, gi_si, ga_sa, gi_sa, gi_sb, gi_sp, ga_si, ga_sb, ga_sp, gb_si, gb_sa, gb_sb, gb_sp, gp_si, gp_sa, gp_sb, gp_sp, if_true, if_false, ↓reduceIte, Nat.reduceEqDiff, hk, hv, hc, nI_s]
def FrM (s t : nm_S) : Prop := Fr [4042, 4043, 4044, 4045] [67] s t
/-- the reference reads at p, depth d, with k codes said -/
def RP (s : nm_S) (T : Nat → Int32) (n p d k : Nat) : Prop := tpv s 4041 65 n T ∧ gi s 4042 = nI p ∧ p ≤ n ∧ gi s 4043 = -1 ∧ gi s 4044 = nI d ∧ gi s 4045 = nI k ∧ 3 * k ≤ 4 * p
theorem tpv_frM {s t : nm_S} {n : Nat} {T : Nat → Int32} (h : tpv s 4041 65 n T) (hf : FrM s t) : tpv t 4041 65 n T := by
  unfold tpv at h ⊢
  rw [hf.1 4041 (by decide), hf.2.1 65 (by decide)]
  exact h
def RO (s t : nm_S) (T : Nat → Int32) (n d p k q : Nat) (v : rE → Bool) (C : List Int32) : Prop := RP t T n q d (k + C.length) ∧ FrM s t ∧ (∀ i, i < k → ga t 67 i = ga s 67 i) ∧ lies (ga t 67) k C ∧ Blk C v ∧ 3 * C.length + 4 * p ≤ 4 * q
def RF (s t : nm_S) (n d p k q : Nat) : Prop := gi t 4043 = nI q ∧ FrM s t ∧ ∃ k' p', gi t 4045 = nI k' ∧ gi t 4042 = nI p' ∧ 3 * k' + 4 * p ≤ 4 * p' + 3 * k ∧ p' + d ≤ n + 8
def Sp (y X h : Nat) (OK : (Nat → Int32) → Nat → Nat → Nat → Nat → (rE → Bool) → Prop) (BD : (Nat → Int32) → Nat → Nat → Nat → Nat → Prop) (E : Int32 → Prop) : Prop := ∀ (D d : Nat) (s : nm_S) (Q : nm_K) (T : Nat → Int32) (n p k : Nat), d + h = 8 → RP s T n p d k → (∀ t q C v, RO s t T n d p k q v C → OK T n d p q v → (q < n → E (T q)) → Q [] (rep t)) → (∀ t q, RF s t n d p k q → BD T n d p q → Q [] (rep t)) → nm_call (3 * h + D + X) y [.ref 40] (rep s) Q
theorem nI_m1 {q : Nat} (h : q < 2147483648) : ¬ nI q = -1 := by
  rw [i_eq, i_nI h, i_lm1]
  omega
/-- unit & unit & .. -/
theorem sp_part {h : Nat} (hu : Sp 142 3 h OKu BDu (fun _ => True)) : Sp 143 4 h OKu BDu (fun c => ¬ c = 32 ∧ ¬ c = 38) := by
  intro D d s Q T n p k hd hR hok hbad
  have hn : n ≤ 100 := hR.1.2.1
  have loop : ∀ m t q C v, n - q < m → RO s t T n d p k q v C → OKu T n d p q v → x_X9_part (3 * h + D + 3) Q 4 [.ref 40] [] (rep t) 0 0 := by
    intro m
    induction m with
    | zero => intro t q C v hm; omega
    | succ m ih =>
      intro t q C v hm o1 o2
      have o1' := o1
      obtain ⟨⟨a1, a2, a3, a4, a5, a6, a7⟩, o3, o4, o5, o6, o7⟩ := o1
      have hpq := o2.1
      rw [r_X9_part_4]
      simp only [r_X9_part_5, r_X9_part_8, r_X9_part_9, r_X9_part_12, r_X9_part_13, ob_40, gt_40_0, pt_40_0, gt_40_1, pt_40_1, gt_40_2, pt_40_2, gt_40_3, pt_40_3, gt_40_4, pt_40_4, gt_40_5, pt_40_5, gt_40_6, pt_40_6, gt_40_7, pt_40_7, gt_40_8, pt_40_8, gt_40_9, pt_40_9, gt_40_10, pt_40_10, gt_40_11, gt_40_12, gt_40_13, gt_40_14, gt_40_15, gt_40_16, gt_40_17, gt_40_18, gt_40_19, gt_40_20, gt_40_21, gt_40_22, pt_40_22, gt_40_23, gt_40_24, gt_40_25, gt_40_26, gt_40_27, gt_40_28, gt_40_29, gt_40_30, gt_40_31, gt_40_32, gt_40_33, gt_40_34, pt_40_34, gt_40_35, pt_40_35, gt_40_36, gt_40_37, gt_40_38, gt_40_39, gt_40_40, gt_40_41, pt_40_41, gt_40_42, pt_40_42, gt_40_43, pt_40_43, gt_40_44, pt_40_44, gt_40_45, pt_40_45, gt_40_46, pt_40_46, gt_40_47, List.cons_append, List.nil_append, List.append_nil, if_true, if_false, true_and, and_true, true_or, or_true, nm_b_some, a4]
      refine c_look a1 a2 a3 (fun r r1 r2 r3 => ?_)
      have o2r := OKu_skp o2 r1 r2
      have hqr := r1.1
      have hF1 : FrM s (si t 4042 (nI r)) := Fr.tr o3 (Fr.rf.si (by decide))
      have hstop : (r < n → ¬ T r = 38) → Q [] (rep (si t 4042 (nI r))) := by
        intro hx
        refine hok _ r C v ⟨⟨tpv_frM hR.1 hF1, by simp only [gi_si, ga_sa, gi_sa, gi_sb, gi_sp, ga_si, ga_sb, ga_sp, gb_si, gb_sa, gb_sb, gb_sp, gp_si, gp_sa, gp_sb, gp_sp, if_true, if_false, ↓reduceIte, Nat.reduceEqDiff], r2, by simp only [gi_si, ga_sa, gi_sa, gi_sb, gi_sp, ga_si, ga_sb, ga_sp, gb_si, gb_sa, gb_sb, gb_sp, gp_si, gp_sa, gp_sb, gp_sp, if_true, if_false, ↓reduceIte, Nat.reduceEqDiff]; exact a4, by simp only [gi_si, ga_sa, gi_sa, gi_sb, gi_sp, ga_si, ga_sb, ga_sp, gb_si, gb_sa, gb_sb, gb_sp, gp_si, gp_sa, gp_sb, gp_sp, if_true, if_false, ↓reduceIte, Nat.reduceEqDiff]; exact a5, by simp only [gi_si, ga_sa, gi_sa, gi_sb, gi_sp, ga_si, ga_sb, ga_sp, gb_si, gb_sa, gb_sb, gb_sp, gp_si, gp_sa, gp_sb, gp_sp, if_true, if_false, ↓reduceIte, Nat.reduceEqDiff]; exact a6, by omega⟩, hF1, by simp only [gi_si, ga_sa, gi_sa, gi_sb, gi_sp, ga_si, ga_sb, ga_sp, gb_si, gb_sa, gb_sb, gb_sp, gp_si, gp_sa, gp_sb, gp_sp, if_true, if_false, ↓reduceIte, Nat.reduceEqDiff]; exact o4, by simp only [gi_si, ga_sa, gi_sa, gi_sb, gi_sp, ga_si, ga_sb, ga_sp, gb_si, gb_sa, gb_sb, gb_sp, gp_si, gp_sa, gp_sb, gp_sp, if_true, if_false, ↓reduceIte, Nat.reduceEqDiff]; exact o5, o6, by omega⟩ o2r (fun z => ⟨r3 z, hx z⟩)
      by_cases hr : r < n
      · rw [if_pos hr]
        by_cases h38 : T r = 38
        · simp only [r_X9_part_16, r_X9_part_18, r_X9_part_21, r_X9_part_22, r_X9_part_23, r_X9_part_26, r_X9_part_27, r_X9_part_28, r_X9_part_31, r_X9_part_32, ob_40, gt_40_0, pt_40_0, gt_40_1, pt_40_1, gt_40_2, pt_40_2, gt_40_3, pt_40_3, gt_40_4, pt_40_4, gt_40_5, pt_40_5, gt_40_6, pt_40_6, gt_40_7, pt_40_7, gt_40_8, pt_40_8, gt_40_9, pt_40_9, gt_40_10, pt_40_10, gt_40_11, gt_40_12, gt_40_13, gt_40_14, gt_40_15, gt_40_16, gt_40_17, gt_40_18, gt_40_19, gt_40_20, gt_40_21, gt_40_22, pt_40_22, gt_40_23, gt_40_24, gt_40_25, gt_40_26, gt_40_27, gt_40_28, gt_40_29, gt_40_30, gt_40_31, gt_40_32, gt_40_33, gt_40_34, pt_40_34, gt_40_35, pt_40_35, gt_40_36, gt_40_37, gt_40_38, gt_40_39, gt_40_40, gt_40_41, pt_40_41, gt_40_42, pt_40_42, gt_40_43, pt_40_43, gt_40_44, pt_40_44, gt_40_45, pt_40_45, gt_40_46, pt_40_46, gt_40_47, List.cons_append, List.nil_append, List.append_nil, if_true, if_false, true_and, and_true, true_or, or_true, nm_b_some, gi_si, ga_sa, gi_sa, gi_sb, gi_sp, ga_si, ga_sb, ga_sp, gb_si, gb_sa, gb_sb, gb_sp, gp_si, gp_sa, gp_sb, gp_sp, if_true, if_false, ↓reduceIte, Nat.reduceEqDiff, h38, nI_s, si_si]
          have hF2 : FrM s (si t 4042 (nI (r + 1))) := Fr.tr o3 (Fr.rf.si (by decide))
          refine hu D d _ _ T n (r + 1) (k + C.length) hd ⟨tpv_frM hR.1 hF2, by simp only [gi_si, ga_sa, gi_sa, gi_sb, gi_sp, ga_si, ga_sb, ga_sp, gb_si, gb_sa, gb_sb, gb_sp, gp_si, gp_sa, gp_sb, gp_sp, if_true, if_false, ↓reduceIte, Nat.reduceEqDiff], by omega, by simp only [gi_si, ga_sa, gi_sa, gi_sb, gi_sp, ga_si, ga_sb, ga_sp, gb_si, gb_sa, gb_sb, gb_sp, gp_si, gp_sa, gp_sb, gp_sp, if_true, if_false, ↓reduceIte, Nat.reduceEqDiff]; exact a4, by simp only [gi_si, ga_sa, gi_sa, gi_sb, gi_sp, ga_si, ga_sb, ga_sp, gb_si, gb_sa, gb_sb, gb_sp, gp_si, gp_sa, gp_sb, gp_sp, if_true, if_false, ↓reduceIte, Nat.reduceEqDiff]; exact a5, by simp only [gi_si, ga_sa, gi_sa, gi_sb, gi_sp, ga_si, ga_sb, ga_sp, gb_si, gb_sa, gb_sb, gb_sp, gp_si, gp_sa, gp_sb, gp_sp, if_true, if_false, ↓reduceIte, Nat.reduceEqDiff]; exact a6, by omega⟩ (fun t' q' C' v' p1 p2 _ => ?_) (fun t' q' p1 p2 => ?_)
          · obtain ⟨⟨b1, b2, b3, b4, b5, b6, b7⟩, p3, p4, p5, p6, p7⟩ := p1
            simp only [gi_si, ga_sa, gi_sa, gi_sb, gi_sp, ga_si, ga_sb, ga_sp, gb_si, gb_sa, gb_sb, gb_sp, gp_si, gp_sa, gp_sb, gp_sp, if_true, if_false, ↓reduceIte, Nat.reduceEqDiff] at p4
            have hlt : k + C.length + C'.length < 240 := by omega
            simp only [r_X9_part_35, r_X9_part_36, r_X9_part_37, r_X9_part_40, ob_40, gt_40_0, pt_40_0, gt_40_1, pt_40_1, gt_40_2, pt_40_2, gt_40_3, pt_40_3, gt_40_4, pt_40_4, gt_40_5, pt_40_5, gt_40_6, pt_40_6, gt_40_7, pt_40_7, gt_40_8, pt_40_8, gt_40_9, pt_40_9, gt_40_10, pt_40_10, gt_40_11, gt_40_12, gt_40_13, gt_40_14, gt_40_15, gt_40_16, gt_40_17, gt_40_18, gt_40_19, gt_40_20, gt_40_21, gt_40_22, pt_40_22, gt_40_23, gt_40_24, gt_40_25, gt_40_26, gt_40_27, gt_40_28, gt_40_29, gt_40_30, gt_40_31, gt_40_32, gt_40_33, gt_40_34, pt_40_34, gt_40_35, pt_40_35, gt_40_36, gt_40_37, gt_40_38, gt_40_39, gt_40_40, gt_40_41, pt_40_41, gt_40_42, pt_40_42, gt_40_43, pt_40_43, gt_40_44, pt_40_44, gt_40_45, pt_40_45, gt_40_46, pt_40_46, gt_40_47, List.cons_append, List.nil_append, List.append_nil, if_true, if_false, true_and, and_true, true_or, or_true, nm_b_some]
            rw [c_say b6 hlt]
            have hF3 : FrM s (si (sa t' 67 (upd (ga t' 67) (k + C.length + C'.length) 1)) 4045 (nI (k + C.length + C'.length + 1))) := (Fr.tr hF2 p3).tr ((Fr.rf.sa (by decide)).si (by decide))
            have hlen : (C ++ C' ++ [1]).length = C.length + C'.length + 1 := by simp [Nat.add_assoc]
            refine ih _ q' (C ++ C' ++ [1]) (fun e => v e && v' e) (by have := p2.1; omega) ⟨⟨tpv_frM hR.1 hF3, by simp only [gi_si, ga_sa, gi_sa, gi_sb, gi_sp, ga_si, ga_sb, ga_sp, gb_si, gb_sa, gb_sb, gb_sp, gp_si, gp_sa, gp_sb, gp_sp, if_true, if_false, ↓reduceIte, Nat.reduceEqDiff]; exact b2, b3, by simp only [gi_si, ga_sa, gi_sa, gi_sb, gi_sp, ga_si, ga_sb, ga_sp, gb_si, gb_sa, gb_sb, gb_sp, gp_si, gp_sa, gp_sb, gp_sp, if_true, if_false, ↓reduceIte, Nat.reduceEqDiff]; exact b4, by simp only [gi_si, ga_sa, gi_sa, gi_sb, gi_sp, ga_si, ga_sb, ga_sp, gb_si, gb_sa, gb_sb, gb_sp, gp_si, gp_sa, gp_sb, gp_sp, if_true, if_false, ↓reduceIte, Nat.reduceEqDiff]; exact b5, ?_, ?_⟩, hF3, ?_, ?_, Blk_and o6 p6, ?_⟩ (p_and o2r hr h38 p2)
            · simp only [gi_si, ga_sa, gi_sa, gi_sb, gi_sp, ga_si, ga_sb, ga_sp, gb_si, gb_sa, gb_sb, gb_sp, gp_si, gp_sa, gp_sb, gp_sp, if_true, if_false, ↓reduceIte, Nat.reduceEqDiff]
              rw [hlen]
              congr 1
              omega
            · rw [hlen]; have := p2.1; omega
            · simp only [gi_si, ga_sa, gi_sa, gi_sb, gi_sp, ga_si, ga_sb, ga_sp, gb_si, gb_sa, gb_sb, gb_sp, gp_si, gp_sa, gp_sb, gp_sp, if_true, if_false, ↓reduceIte, Nat.reduceEqDiff]
              intro i hi
              rw [upd_ne (by omega), p4 i (by omega), o4 i hi]
            · simp only [gi_si, ga_sa, gi_sa, gi_sb, gi_sp, ga_si, ga_sb, ga_sp, gb_si, gb_sa, gb_sb, gb_sp, gp_si, gp_sa, gp_sb, gp_sp, if_true, if_false, ↓reduceIte, Nat.reduceEqDiff]
              refine lies_app (lies_app (lies_cong o5 ?_) (lies_cong p5 ?_)) (lies_1 ?_)
              · intro i hi hi2
                rw [upd_ne (by omega), p4 i (by omega)]
              · intro i hi hi2
                rw [upd_ne (by omega)]
              · rw [List.length_append, ← Nat.add_assoc, upd_at]
            · rw [hlen]; omega
          · obtain ⟨f1, f2, k', p', f3, f4, f5, f6⟩ := p1
            have hq' := p2.2.1
            have hlt : k' < 240 := by omega
            simp only [r_X9_part_35, r_X9_part_36, r_X9_part_37, r_X9_part_40, ob_40, gt_40_0, pt_40_0, gt_40_1, pt_40_1, gt_40_2, pt_40_2, gt_40_3, pt_40_3, gt_40_4, pt_40_4, gt_40_5, pt_40_5, gt_40_6, pt_40_6, gt_40_7, pt_40_7, gt_40_8, pt_40_8, gt_40_9, pt_40_9, gt_40_10, pt_40_10, gt_40_11, gt_40_12, gt_40_13, gt_40_14, gt_40_15, gt_40_16, gt_40_17, gt_40_18, gt_40_19, gt_40_20, gt_40_21, gt_40_22, pt_40_22, gt_40_23, gt_40_24, gt_40_25, gt_40_26, gt_40_27, gt_40_28, gt_40_29, gt_40_30, gt_40_31, gt_40_32, gt_40_33, gt_40_34, pt_40_34, gt_40_35, pt_40_35, gt_40_36, gt_40_37, gt_40_38, gt_40_39, gt_40_40, gt_40_41, pt_40_41, gt_40_42, pt_40_42, gt_40_43, pt_40_43, gt_40_44, pt_40_44, gt_40_45, pt_40_45, gt_40_46, pt_40_46, gt_40_47, List.cons_append, List.nil_append, List.append_nil, if_true, if_false, true_and, and_true, true_or, or_true, nm_b_some]
            rw [c_say f3 hlt]
            rw [r_X9_part_4]
            have hm1 : ¬ nI q' = -1 := nI_m1 (by omega)
            simp only [r_X9_part_5, r_X9_part_8, r_X9_part_9, r_X9_part_43, ob_40, gt_40_0, pt_40_0, gt_40_1, pt_40_1, gt_40_2, pt_40_2, gt_40_3, pt_40_3, gt_40_4, pt_40_4, gt_40_5, pt_40_5, gt_40_6, pt_40_6, gt_40_7, pt_40_7, gt_40_8, pt_40_8, gt_40_9, pt_40_9, gt_40_10, pt_40_10, gt_40_11, gt_40_12, gt_40_13, gt_40_14, gt_40_15, gt_40_16, gt_40_17, gt_40_18, gt_40_19, gt_40_20, gt_40_21, gt_40_22, pt_40_22, gt_40_23, gt_40_24, gt_40_25, gt_40_26, gt_40_27, gt_40_28, gt_40_29, gt_40_30, gt_40_31, gt_40_32, gt_40_33, gt_40_34, pt_40_34, gt_40_35, pt_40_35, gt_40_36, gt_40_37, gt_40_38, gt_40_39, gt_40_40, gt_40_41, pt_40_41, gt_40_42, pt_40_42, gt_40_43, pt_40_43, gt_40_44, pt_40_44, gt_40_45, pt_40_45, gt_40_46, pt_40_46, gt_40_47, List.cons_append, List.nil_append, List.append_nil, if_true, if_false, true_and, and_true, true_or, or_true, nm_b_some, gi_si, ga_sa, gi_sa, gi_sb, gi_sp, ga_si, ga_sb, ga_sp, gb_si, gb_sa, gb_sb, gb_sp, gp_si, gp_sa, gp_sb, gp_sp, if_true, if_false, ↓reduceIte, Nat.reduceEqDiff, f1, hm1]
            refine hbad _ q' ⟨by simp only [gi_si, ga_sa, gi_sa, gi_sb, gi_sp, ga_si, ga_sb, ga_sp, gb_si, gb_sa, gb_sb, gb_sp, gp_si, gp_sa, gp_sb, gp_sp, if_true, if_false, ↓reduceIte, Nat.reduceEqDiff]; exact f1, (Fr.tr hF2 f2).tr ((Fr.rf.sa (by decide)).si (by decide)), k' + 1, p', by simp only [gi_si, ga_sa, gi_sa, gi_sb, gi_sp, ga_si, ga_sb, ga_sp, gb_si, gb_sa, gb_sb, gb_sp, gp_si, gp_sa, gp_sb, gp_sp, if_true, if_false, ↓reduceIte, Nat.reduceEqDiff], by simp only [gi_si, ga_sa, gi_sa, gi_sb, gi_sp, ga_si, ga_sb, ga_sp, gb_si, gb_sa, gb_sb, gb_sp, gp_si, gp_sa, gp_sb, gp_sp, if_true, if_false, ↓reduceIte, Nat.reduceEqDiff]; exact f4, by omega, f6⟩ (p_andB o2r hr h38 p2)
        · simp only [r_X9_part_16, r_X9_part_18, r_X9_part_43, List.cons_append, List.nil_append, List.append_nil, if_true, if_false, true_and, and_true, true_or, or_true, nm_b_some, h38]
          exact hstop (fun _ => h38)
      · rw [if_neg hr]
        have hm1 : ¬ (-1 : Int32) = 38 := by decide
        simp only [r_X9_part_16, r_X9_part_18, r_X9_part_43, List.cons_append, List.nil_append, List.append_nil, if_true, if_false, true_and, and_true, true_or, or_true, nm_b_some, hm1]
        exact hstop (fun z => absurd z hr)
  rw [e_X9_part]
  simp only [r_X9_part_0, r_X9_part_1, ob_40, gt_40_0, pt_40_0, gt_40_1, pt_40_1, gt_40_2, pt_40_2, gt_40_3, pt_40_3, gt_40_4, pt_40_4, gt_40_5, pt_40_5, gt_40_6, pt_40_6, gt_40_7, pt_40_7, gt_40_8, pt_40_8, gt_40_9, pt_40_9, gt_40_10, pt_40_10, gt_40_11, gt_40_12, gt_40_13, gt_40_14, gt_40_15, gt_40_16, gt_40_17, gt_40_18, gt_40_19, gt_40_20, gt_40_21, gt_40_22, pt_40_22, gt_40_23, gt_40_24, gt_40_25, gt_40_26, gt_40_27, gt_40_28, gt_40_29, gt_40_30, gt_40_31, gt_40_32, gt_40_33, gt_40_34, pt_40_34, gt_40_35, pt_40_35, gt_40_36, gt_40_37, gt_40_38, gt_40_39, gt_40_40, gt_40_41, pt_40_41, gt_40_42, pt_40_42, gt_40_43, pt_40_43, gt_40_44, pt_40_44, gt_40_45, pt_40_45, gt_40_46, pt_40_46, gt_40_47, List.cons_append, List.nil_append, List.append_nil, if_true, if_false, true_and, and_true, true_or, or_true, nm_b_some]
  refine hu D d s _ T n p k hd hR (fun t q C v o1 o2 _ => loop (n - q + 1) t q C v (by omega) o1 o2) (fun t q f1 f2 => ?_)
  have hq := f2.2.1
  have hm1 : ¬ nI q = -1 := nI_m1 (by omega)
  rw [r_X9_part_4]
  simp only [r_X9_part_5, r_X9_part_8, r_X9_part_9, r_X9_part_43, ob_40, gt_40_0, pt_40_0, gt_40_1, pt_40_1, gt_40_2, pt_40_2, gt_40_3, pt_40_3, gt_40_4, pt_40_4, gt_40_5, pt_40_5, gt_40_6, pt_40_6, gt_40_7, pt_40_7, gt_40_8, pt_40_8, gt_40_9, pt_40_9, gt_40_10, pt_40_10, gt_40_11, gt_40_12, gt_40_13, gt_40_14, gt_40_15, gt_40_16, gt_40_17, gt_40_18, gt_40_19, gt_40_20, gt_40_21, gt_40_22, pt_40_22, gt_40_23, gt_40_24, gt_40_25, gt_40_26, gt_40_27, gt_40_28, gt_40_29, gt_40_30, gt_40_31, gt_40_32, gt_40_33, gt_40_34, pt_40_34, gt_40_35, pt_40_35, gt_40_36, gt_40_37, gt_40_38, gt_40_39, gt_40_40, gt_40_41, pt_40_41, gt_40_42, pt_40_42, gt_40_43, pt_40_43, gt_40_44, pt_40_44, gt_40_45, pt_40_45, gt_40_46, pt_40_46, gt_40_47, List.cons_append, List.nil_append, List.append_nil, if_true, if_false, true_and, and_true, true_or, or_true, nm_b_some, f1.1, hm1]
  exact hbad t q f1 f2
