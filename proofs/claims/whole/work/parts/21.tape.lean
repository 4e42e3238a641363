/-! The TAPE: feed and end. -/
theorem sa_si (s : nm_S) (k c : Nat) (x : Int32) (f : Nat → Int32) : sa (si s k x) c f = si (sa s c f) k x := rfl
theorem si_si (s : nm_S) (k : Nat) (x y : Int32) : si (si s k x) k y = si s k y := by
  unfold si
  congr 1
  funext j
  cases h : Nat.beq j k <;> simp [h]
theorem sa_sa (s : nm_S) (c : Nat) (f g : Nat → Int32) : sa (sa s c f) c g = sa s c g := by
  unfold sa
  congr 1
  congr 1
  funext j
  cases h : Nat.beq j c <;> simp [h]
theorem si_self (s : nm_S) (k : Nat) : si s k (gi s k) = s := by
  unfold si gi
  refine Prod.ext ?_ rfl
  funext j
  cases h : Nat.beq j k with
  | false => simp [h]
  | true => simp [h, Nat.eq_of_beq_eq_true h]
theorem sa_self (s : nm_S) (c : Nat) : sa s c (ga s c) = s := by
  unfold sa ga
  refine Prod.ext rfl (Prod.ext ?_ rfl)
  funext j
  cases h : Nat.beq j c with
  | false => simp [h]
  | true => simp [h, Nat.eq_of_beq_eq_true h]
/-- byte j of an int, the highest first -/
def bt (x : Int32) (j : Nat) : Nat := x.toBitVec.toNat / 2 ^ (24 - 8 * j) % 256
theorem bt_lt (x : Int32) (j : Nat) : bt x j < 256 := Nat.mod_lt _ (by decide)
def shX : Nat → Int32
  | 0 => 24
  | n + 1 => shX n + (-8)
def kM : Nat → Int32
  | 0 => 3
  | n + 1 => kM n + (-1)
theorem shX_s (n : Nat) : shX n + (-8) = shX (n + 1) := rfl
theorem kM_s (n : Nat) : kM n + (-1) = kM (n + 1) := rfl
theorem shX_pos : ∀ j, j < 4 → ¬ shX j < 0 := by decide
theorem shX_4 : shX 4 < 0 := by decide
theorem kM_pos : ∀ j, j < 4 → ¬ kM j < 0 := by decide
theorem kM_4 : kM 4 < 0 := by decide
theorem bt_u (x s : Int32) (k : Nat) (hs : ((s.toUInt32 &&& Int32.toUInt32 31).toBitVec % 32).toNat = k) : (x.toUInt32 >>> (s.toUInt32 &&& Int32.toUInt32 31)).toInt32 &&& 255 = nI (x.toBitVec.toNat / 2 ^ k % 256) := by
  rw [pk_and _ 8 (by decide), pk_ushr x s k hs]
theorem bt_X (x : Int32) : ∀ j, j < 4 → (x.toUInt32 >>> ((shX j).toUInt32 &&& Int32.toUInt32 31)).toInt32 &&& 255 = nI (bt x j)
  | 0, _ => bt_u x (shX 0) 24 (by decide)
  | 1, _ => bt_u x (shX 1) 16 (by decide)
  | 2, _ => bt_u x (shX 2) 8 (by decide)
  | 3, _ => bt_u x (shX 3) 0 (by decide)
  | n + 4, h => by omega
theorem bv_of (x : Int32) : x.toInt = (if x.toBitVec.toNat < 2147483648 then (x.toBitVec.toNat : Int) else (x.toBitVec.toNat : Int) - 4294967296) := by
  have h : x.toInt = x.toBitVec.toInt := rfl
  rw [h, BitVec.toInt_eq_toNat_cond]
  split <;> split <;> omega
theorem bt_s (x s : Int32) (k p : Nat) (hs : (s.toBitVec.smod 32).toNat = k) (hp : 2 ^ k = p) (hk : p = 1 ∨ p = 256 ∨ p = 65536 ∨ p = 16777216) : (x >>> s) &&& 255 = nI (x.toBitVec.toNat / p % 256) := by
  rw [pk_and _ 8 (by decide)]
  have h1 := pk_shr x s k hs
  have h2 := bv_of x
  have h3 := bv_of (x >>> s)
  rw [Int.shiftRight_eq_div_pow] at h1
  have h4 : ((2 ^ k : Nat) : Int) = (p : Int) := by rw [hp]
  rw [h4] at h1
  have h5 : x.toBitVec.toNat < 4294967296 := x.toBitVec.isLt
  have h6 : (x >>> s).toBitVec.toNat < 4294967296 := (x >>> s).toBitVec.isLt
  congr 1
  rw [h2] at h1
  rw [h3] at h1
  show (x >>> s).toBitVec.toNat % 256 = x.toBitVec.toNat / p % 256
  rcases hk with rfl | rfl | rfl | rfl <;> (split at h1 <;> split at h1 <;> omega)
theorem bt_M (x : Int32) : ∀ j, j < 4 → x >>> ((8 * kM j) &&& 31) &&& 255 = nI (bt x j)
  | 0, _ => bt_s x _ 24 _ (by decide) rfl (by decide)
  | 1, _ => bt_s x _ 16 _ (by decide) rfl (by decide)
  | 2, _ => bt_s x _ 8 _ (by decide) rfl (by decide)
  | 3, _ => bt_s x _ 0 _ (by decide) rfl (by decide)
  | n + 4, h => by omega
theorem bt_M2 (x : Int32) : ∀ k, k < 4 → x >>> ((8 * nI k) &&& 31) &&& 255 = nI (bt x (3 - k))
  | 0, _ => bt_s x _ 0 _ (by decide) rfl (by decide)
  | 1, _ => bt_s x _ 8 _ (by decide) rfl (by decide)
  | 2, _ => bt_s x _ 16 _ (by decide) rfl (by decide)
  | 3, _ => bt_s x _ 24 _ (by decide) rfl (by decide)
  | n + 4, h => by omega
theorem nI_z {n : Nat} (h : n < 2147483648) : nI n = 0 ↔ n = 0 := by
  rw [show (0 : Int32) = nI 0 from rfl, nI_eq' h (by omega)]
def bts (x : Int32) : Nat → Bool := fun j => decide (¬ bt x j = 0)
theorem c_bytesIn {d : Nat} {w : nm_W} {Q : nm_K} {x : Int32} : nm_call (d + 1) 60 [.int x] w Q ↔ Q [.int (nI (cnt (bts x) 4))] w := by
  rw [e_X6_bytesIn]
  simp only [r_X6_bytesIn_0, r_X6_bytesIn_1, r_X6_bytesIn_2, r_X6_bytesIn_4]
  have key := nm_loop0 (fun j a => x_X6_bytesIn d Q 5 [.int x, .int a, .int (shX j)] [] w 0 0) (fun a => Q [.int a] w) (fun j acc => if bt x j = 0 then acc else acc + 1) 4 (by
    intro j a hj
    have h1 := shX_pos j hj
    have h2 := bt_X x j hj
    have h3 : nI (bt x j) = 0 ↔ bt x j = 0 := nI_z (by have := bt_lt x j; omega)
    try dsimp only
    rw [r_X6_bytesIn_5]
    simp only [r_X6_bytesIn_0, r_X6_bytesIn_1, r_X6_bytesIn_2, r_X6_bytesIn_4, r_X6_bytesIn_6, r_X6_bytesIn_9, r_X6_bytesIn_10, r_X6_bytesIn_11, r_X6_bytesIn_12, r_X6_bytesIn_15, r_X6_bytesIn_16, r_X6_bytesIn_19, r_X6_bytesIn_22, r_X6_bytesIn_25, r_X6_bytesIn_28, r_X6_bytesIn_29, List.cons_append, List.nil_append, List.append_nil, if_true, if_false, true_and, and_true, true_or, or_true, nm_b_some, h1, h2, h3, shX_s]
    by_cases hv : bt x j = 0
    · simp only [hv, if_true]
    · simp only [hv, if_false]) (by
    intro a
    have h1 := shX_4
    try dsimp only
    rw [r_X6_bytesIn_5]
    simp only [r_X6_bytesIn_0, r_X6_bytesIn_1, r_X6_bytesIn_2, r_X6_bytesIn_4, r_X6_bytesIn_6, r_X6_bytesIn_9, r_X6_bytesIn_10, r_X6_bytesIn_11, r_X6_bytesIn_12, r_X6_bytesIn_15, r_X6_bytesIn_16, r_X6_bytesIn_19, r_X6_bytesIn_22, r_X6_bytesIn_25, r_X6_bytesIn_28, r_X6_bytesIn_29, List.cons_append, List.nil_append, List.append_nil, if_true, if_false, true_and, and_true, true_or, or_true, nm_b_some, h1]) 0
  have e : lpf (fun j (acc : Int32) => if bt x j = 0 then acc else acc + 1) 4 0 0 = nI (cnt (bts x) 4) := by
    exact lpf_ind (fun i a => a = nI (cnt (bts x) i)) (by
      intro i a hi ha
      subst ha
      rw [cnt_s]
      unfold bts
      by_cases hv : bt x i = 0
      · simp [hv]
      · simp [hv, nI_s]) 4 0 0 (by omega) rfl
  rw [e] at key
  exact key
def fst (x : Int32) (j : Nat) (a : (Nat → Int32) × Nat) : (Nat → Int32) × Nat := if bt x j = 0 then a else (upd a.1 a.2 (nI (bt x j)), a.2 + 1)
theorem cnt_mono (p : Nat → Bool) {a b : Nat} (h : a ≤ b) : cnt p a ≤ cnt p b := by
  obtain ⟨k, rfl⟩ : ∃ k, b = a + k := ⟨b - a, by omega⟩
  clear h
  induction k with
  | zero => exact Nat.le_refl _
  | succ k ih => rw [show a + (k + 1) = a + k + 1 by omega, cnt_s]; omega
theorem fst_ok {x : Int32} {j : Nat} {a : (Nat → Int32) × Nat} (hj : j < 4) (h : a.2 + cnt (bts x) 4 ≤ 100 + cnt (bts x) j) : (fst x j a).2 + cnt (bts x) 4 ≤ 100 + cnt (bts x) (j + 1) ∧ (¬ bt x j = 0 → a.2 < 100) := by
  have hm := cnt_mono (bts x) (show j + 1 ≤ 4 by omega)
  rw [cnt_s (bts x) j] at hm ⊢
  unfold fst
  by_cases hb : bt x j = 0
  · have : bts x j = false := by simp [bts, hb]
    simp [hb, this]
    exact h
  · have e : bts x j = true := by simp [bts, hb]
    simp only [hb, e, if_true, if_false] at hm ⊢
    constructor
    · show a.2 + 1 + _ ≤ _
      omega
    · intro _; omega
theorem nar_c : ∀ b, b < 256 → vp_nar .char ((nI b).toUInt32 % 65536).toInt32 = nI b := by decide +kernel
theorem c_tadd {s : nm_S} {x : Int32} {n : Nat} (hl : gi s 3301 = nI n) (hn : n ≤ 100) : Runs 90 [.ref 0, .int x] s (if n + cnt (bts x) 4 ≤ 100 then nI (lpf (fst x) 4 0 (ga s 34, n)).2 else -1) (if n + cnt (bts x) 4 ≤ 100 then si (sa s 34 (lpf (fst x) 4 0 (ga s 34, n)).1) 3301 (nI (lpf (fst x) 4 0 (ga s 34, n)).2) else s) := by
  intro Q hQ
  have hc := cnt_le (bts x) 4
  simp only [e_X8_feed, r_X8_feed_0, r_X8_feed_1, r_X8_feed_4, r_X8_feed_5, r_X8_feed_8, e_X6_add, r_X6_add_0, r_X6_add_1, r_X6_add_4, r_X6_add_5, r_X6_add_8, r_X6_add_9, r_X6_add_11, r_X6_add_14, r_X6_add_15, r_X6_add_16, r_X6_add_18, ob_0, gt_0_0, gt_0_1, gt_0_2, gt_0_3, gt_0_4, gt_0_5, gt_0_6, gt_0_7, gt_0_8, gt_0_9, pt_0_9, gt_0_10, pt_0_10, gt_0_11, pt_0_11, ob_33, gt_33_0, gt_33_1, pt_33_1, List.cons_append, List.nil_append, List.append_nil, if_true, if_false, true_and, and_true, true_or, or_true, nm_b_some, c_bytesIn, hl, nI_add]
  by_cases h : n + cnt (bts x) 4 ≤ 100
  · have h2 : ¬ (100 : Int32) < nI (n + cnt (bts x) 4) := by
      rw [show (100 : Int32) = nI 100 from rfl, nI_lt' (by omega) (by omega)]; omega
    simp only [h, h2, if_true, if_false] at hQ ⊢
    have hs0 : rep s = rep (si (sa s 34 (ga s 34)) 3301 (nI n)) := by rw [sa_self, ← hl, si_self]
    rw [hs0]
    refine nm_loopI (fun j (a : (Nat → Int32) × Nat) => ∀ z : Value, x_X6_add 58 (fun v w' => x_X8_feed 59 Q 8 [.ref 0, .int x] v w' 0 0) 19 [.ref 33, .int x, .int (shX j), z] [] (rep (si (sa s 34 a.1) 3301 (nI a.2))) 0 0) (fun a => Q [.int (nI a.2)] (rep (si (sa s 34 a.1) 3301 (nI a.2)))) (fst x) (fun j a => a.2 + cnt (bts x) 4 ≤ 100 + cnt (bts x) j) (N := 4) ?_ ?_ 4 0 (ga s 34, n) (by omega) (by show n + _ ≤ 100 + 0; omega) hQ .null
    · intro j a hj hok
      obtain ⟨g1, g2⟩ := fst_ok hj hok
      refine ⟨g1, fun hn z => ?_⟩
      have h1 := shX_pos j hj
      have h2 := bt_X x j hj
      have hb := bt_lt x j
      have h3 : nI (bt x j) = 0 ↔ bt x j = 0 := nI_z (by omega)
      rw [r_X6_add_19]
      simp only [r_X6_add_0, r_X6_add_1, r_X6_add_4, r_X6_add_5, r_X6_add_8, r_X6_add_9, r_X6_add_11, r_X6_add_14, r_X6_add_15, r_X6_add_16, r_X6_add_18, r_X6_add_20, r_X6_add_23, r_X6_add_24, r_X6_add_25, r_X6_add_26, r_X6_add_29, r_X6_add_30, r_X6_add_31, r_X6_add_32, r_X6_add_35, r_X6_add_36, r_X6_add_39, r_X6_add_41, r_X6_add_44, r_X6_add_45, r_X6_add_48, r_X6_add_49, r_X6_add_52, r_X6_add_53, r_X6_add_54, r_X6_add_55, r_X6_add_56, r_X6_add_57, r_X6_add_60, r_X6_add_61, r_X6_add_62, r_X6_add_65, r_X6_add_68, r_X6_add_71, r_X6_add_72, r_X6_add_75, ob_33, gt_33_0, gt_33_1, pt_33_1, ad_34, as_34, List.cons_append, List.nil_append, List.append_nil, if_true, if_false, true_and, and_true, true_or, or_true, nm_b_some, gi_si, ga_sa, gi_sa, gi_sb, gi_sp, ga_si, ga_sb, ga_sp, gb_si, gb_sa, gb_sb, gb_sp, gp_si, gp_sa, gp_sb, gp_sp, if_true, if_false, ↓reduceIte, Nat.reduceEqDiff, h1, h2, h3, shX_s]
      by_cases hv : bt x j = 0
      · have e1 : fst x j a = a := by simp [fst, hv]
        rw [e1] at hn
        simp only [hv, if_true]
        exact hn _
      · have g3 := g2 hv
        have h4 : nI a.2 < 100 := (nI_lt' (b := 100) (by omega) (by omega)).mpr g3
        have h5 : vp_in (nI a.2) 100 := vp_in' g3 (by omega)
        have h6 : (nI a.2).toNatClampNeg = a.2 := i_nIc (by omega)
        have e1 : fst x j a = (upd a.1 a.2 (nI (bt x j)), a.2 + 1) := by simp [fst, hv]
        rw [e1] at hn
        simp only [hv, if_false, h4, h5, h6, if_true, true_and, nar_c _ hb, nI_s, sa_si, si_si, sa_sa]
        exact hn _
    · intro a hok hr z
      have h1 := shX_4
      rw [r_X6_add_19]
      simp only [r_X6_add_0, r_X6_add_1, r_X6_add_4, r_X6_add_5, r_X6_add_8, r_X6_add_9, r_X6_add_11, r_X6_add_14, r_X6_add_15, r_X6_add_16, r_X6_add_18, r_X6_add_20, r_X6_add_23, r_X6_add_24, r_X6_add_25, r_X6_add_26, r_X6_add_29, r_X6_add_30, r_X6_add_31, r_X6_add_32, r_X6_add_35, r_X6_add_36, r_X6_add_39, r_X6_add_41, r_X6_add_44, r_X6_add_45, r_X6_add_48, r_X6_add_49, r_X6_add_52, r_X6_add_53, r_X6_add_54, r_X6_add_55, r_X6_add_56, r_X6_add_57, r_X6_add_60, r_X6_add_61, r_X6_add_62, r_X6_add_65, r_X6_add_68, r_X6_add_71, r_X6_add_72, r_X6_add_75, r_X8_feed_0, r_X8_feed_1, r_X8_feed_4, r_X8_feed_5, r_X8_feed_8, ob_33, gt_33_0, gt_33_1, pt_33_1, ad_34, as_34, List.cons_append, List.nil_append, List.append_nil, if_true, if_false, true_and, and_true, true_or, or_true, nm_b_some, gi_si, ga_sa, gi_sa, gi_sb, gi_sp, ga_si, ga_sb, ga_sp, gb_si, gb_sa, gb_sb, gb_sp, gp_si, gp_sa, gp_sb, gp_sp, if_true, if_false, ↓reduceIte, Nat.reduceEqDiff, h1]
      exact hr
  · have h2 : (100 : Int32) < nI (n + cnt (bts x) 4) := by
      rw [show (100 : Int32) = nI 100 from rfl, nI_lt' (by omega) (by omega)]; omega
    simp only [h, h2, if_true, if_false] at hQ ⊢
    simpa only [r_X6_add_0, r_X6_add_1, r_X6_add_4, r_X6_add_5, r_X6_add_8, r_X6_add_9, r_X6_add_11, r_X6_add_14, r_X6_add_15, r_X6_add_16, r_X6_add_18, r_X6_add_19, r_X6_add_20, r_X6_add_23, r_X6_add_24, r_X6_add_25, r_X6_add_26, r_X6_add_29, r_X6_add_30, r_X6_add_31, r_X6_add_32, r_X6_add_35, r_X6_add_36, r_X6_add_39, r_X6_add_41, r_X6_add_44, r_X6_add_45, r_X6_add_48, r_X6_add_49, r_X6_add_52, r_X6_add_53, r_X6_add_54, r_X6_add_55, r_X6_add_56, r_X6_add_57, r_X6_add_60, r_X6_add_61, r_X6_add_62, r_X6_add_65, r_X6_add_68, r_X6_add_71, r_X6_add_72, r_X6_add_75, r_X8_feed_0, r_X8_feed_1, r_X8_feed_4, r_X8_feed_5, r_X8_feed_8, List.cons_append, List.nil_append, List.append_nil, if_true, if_false, true_and, and_true, true_or, or_true, nm_b_some] using hQ
