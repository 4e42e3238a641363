/-! late, road, place, lacks, many. -/
def cofE (b : Int64) (x : Int32) : Int32 := if (b >>> ((3 * (9 - x)).toInt64 &&& 63)).toInt32 &&& 7 = 4 then -1 else (b >>> ((3 * (9 - x)).toInt64 &&& 63)).toInt32 &&& 7
theorem c_convoyOf {d : Nat} {s : nm_S} {Q : nm_K} {x : Int32} : nm_call (d + 2) 30 [.ref 11, .int x] (rep s) Q ↔ Q [.int (cofE (gb s) x)] (rep s) := by
  simp only [e_X4_convoyOf, r_X4_convoyOf_0, r_X4_convoyOf_1, r_X4_convoyOf_4, r_X4_convoyOf_5, r_X4_convoyOf_8, r_X4_convoyOf_9, r_X4_convoyOf_10, r_X4_convoyOf_12, r_X4_convoyOf_13, r_X4_convoyOf_14, r_X4_convoyOf_15, r_X4_convoyOf_16, r_X4_convoyOf_19, r_X4_convoyOf_20, r_X4_convoyOf_23, r_X4_convoyOf_24, e_X4_digitPlace, r_X4_digitPlace_0, r_X4_digitPlace_1, r_X4_digitPlace_3, r_X4_digitPlace_4, r_X4_digitPlace_5, r_X4_digitPlace_6, ob_11, gt_11_0, gt_11_1, gt_11_2, gt_11_3, gt_11_4, pt_11_4, gt_11_5, pt_11_5, List.cons_append, List.nil_append, List.append_nil, if_true, if_false, true_and, and_true, true_or, or_true, nm_b_some]
  unfold cofE
  by_cases h : (gb s >>> ((3 * (9 - x)).toInt64 &&& 63)).toInt32 &&& 7 = 4
  · simp only [h, if_true]
  · simp only [h, if_false]
theorem c_goodsOf {d : Nat} {s : nm_S} {Q : nm_K} {v : Int32} {T : Nat} (hT : gi s 104 = nI T) (hn : T ≤ 10) : nm_call (d + 3) 31 [.ref 11, .int v] (rep s) Q ↔ Q [.int (nI (mask (fun i => decide (cofE (gb s) (nI i) = v)) T))] (rep s) := by
  rw [e_X4_goodsOf]
  simp only [r_X4_goodsOf_0, r_X4_goodsOf_1, r_X4_goodsOf_2, r_X4_goodsOf_3]
  have key := nm_loop0 (fun i a => x_X4_goodsOf (d + 2) Q 4 [.ref 11, .int v, .int a, .int (nI i)] [] (rep s) 0 0) (fun a => Q [.int a] (rep s)) (fun i acc => if cofE (gb s) (nI i) = v then acc ||| (1 : Int32) <<< (nI i &&& 31) else acc) T (by
    intro i a hi
    have h1 : nI i < nI T := (nI_lt' (by omega) (by omega)).mpr hi
    try dsimp only
    rw [r_X4_goodsOf_4]
    simp only [r_X4_goodsOf_0, r_X4_goodsOf_1, r_X4_goodsOf_2, r_X4_goodsOf_3, r_X4_goodsOf_5, r_X4_goodsOf_6, r_X4_goodsOf_9, r_X4_goodsOf_12, r_X4_goodsOf_15, r_X4_goodsOf_16, r_X4_goodsOf_17, r_X4_goodsOf_20, r_X4_goodsOf_21, r_X4_goodsOf_24, r_X4_goodsOf_25, r_X4_goodsOf_26, r_X4_goodsOf_27, r_X4_goodsOf_28, r_X4_goodsOf_29, r_X4_goodsOf_30, r_X4_goodsOf_33, r_X4_goodsOf_36, r_X4_goodsOf_37, ob_11, gt_11_0, gt_11_1, gt_11_2, gt_11_3, gt_11_4, pt_11_4, gt_11_5, pt_11_5, ob_1, gt_1_0, gt_1_1, gt_1_2, gt_1_3, gt_1_4, pt_1_4, List.cons_append, List.nil_append, List.append_nil, if_true, if_false, true_and, and_true, true_or, or_true, nm_b_some, hT, h1, c_convoyOf, nI_s]
    by_cases hv : cofE (gb s) (nI i) = v
    · simp only [hv, if_true]
    · simp only [hv, if_false]) (by
    intro a
    have h1 : ¬ nI T < nI T := by rw [nI_lt' (by omega) (by omega)]; omega
    try dsimp only
    rw [r_X4_goodsOf_4]
    simp only [r_X4_goodsOf_0, r_X4_goodsOf_1, r_X4_goodsOf_2, r_X4_goodsOf_3, r_X4_goodsOf_5, r_X4_goodsOf_6, r_X4_goodsOf_9, r_X4_goodsOf_12, r_X4_goodsOf_15, r_X4_goodsOf_16, r_X4_goodsOf_17, r_X4_goodsOf_20, r_X4_goodsOf_21, r_X4_goodsOf_24, r_X4_goodsOf_25, r_X4_goodsOf_26, r_X4_goodsOf_27, r_X4_goodsOf_28, r_X4_goodsOf_29, r_X4_goodsOf_30, r_X4_goodsOf_33, r_X4_goodsOf_36, r_X4_goodsOf_37, ob_11, gt_11_0, gt_11_1, gt_11_2, gt_11_3, gt_11_4, pt_11_4, gt_11_5, pt_11_5, ob_1, gt_1_0, gt_1_1, gt_1_2, gt_1_3, gt_1_4, pt_1_4, List.cons_append, List.nil_append, List.append_nil, if_true, if_false, true_and, and_true, true_or, or_true, nm_b_some, hT, h1]) 0
  rw [mask_lpf (fun i => cofE (gb s) (nI i) = v) (by omega)] at key
  exact key
def bc1 (x : Int32) : Int32 := x - ((x.toUInt32 >>> ((1 : Int32).toUInt32 &&& Int32.toUInt32 31)).toInt32 &&& 1431655765)
def bc2 (x : Int32) : Int32 := (x &&& 858993459) + ((x.toUInt32 >>> ((2 : Int32).toUInt32 &&& Int32.toUInt32 31)).toInt32 &&& 858993459)
def bc3 (x : Int32) : Int32 := (x + (x.toUInt32 >>> ((4 : Int32).toUInt32 &&& Int32.toUInt32 31)).toInt32) &&& 252645135
def bc4 (x : Int32) : Int32 := x + (x.toUInt32 >>> ((8 : Int32).toUInt32 &&& Int32.toUInt32 31)).toInt32
def bc5 (x : Int32) : Int32 := x + (x.toUInt32 >>> ((16 : Int32).toUInt32 &&& Int32.toUInt32 31)).toInt32
theorem bc_small : ∀ m, m < 1024 → bc5 (bc4 (bc3 (bc2 (bc1 (nI m))))) &&& 63 = nI (cnt (fun i => m.testBit i) 10) := by decide +kernel
theorem c_bitCount {d : Nat} {w : nm_W} {Q : nm_K} {x : Int32} : nm_call (d + 1) 149 [.int x] w Q ↔ Q [.int (bc5 (bc4 (bc3 (bc2 (bc1 x)))) &&& 63)] w := by
  simp only [e_J6_bitCount_0f7a4, r_J6_bitCount_0f7a4_0, r_J6_bitCount_0f7a4_1, r_J6_bitCount_0f7a4_2, r_J6_bitCount_0f7a4_3, r_J6_bitCount_0f7a4_4, r_J6_bitCount_0f7a4_7, r_J6_bitCount_0f7a4_8, r_J6_bitCount_0f7a4_9, r_J6_bitCount_0f7a4_10, r_J6_bitCount_0f7a4_11, r_J6_bitCount_0f7a4_14, r_J6_bitCount_0f7a4_15, r_J6_bitCount_0f7a4_16, r_J6_bitCount_0f7a4_17, r_J6_bitCount_0f7a4_18, r_J6_bitCount_0f7a4_21, r_J6_bitCount_0f7a4_22, r_J6_bitCount_0f7a4_23, r_J6_bitCount_0f7a4_24, r_J6_bitCount_0f7a4_25, r_J6_bitCount_0f7a4_26, r_J6_bitCount_0f7a4_27, r_J6_bitCount_0f7a4_28, r_J6_bitCount_0f7a4_29, r_J6_bitCount_0f7a4_32, r_J6_bitCount_0f7a4_33, r_J6_bitCount_0f7a4_34, r_J6_bitCount_0f7a4_35, r_J6_bitCount_0f7a4_36, r_J6_bitCount_0f7a4_38, r_J6_bitCount_0f7a4_39, r_J6_bitCount_0f7a4_40, r_J6_bitCount_0f7a4_41, r_J6_bitCount_0f7a4_42, r_J6_bitCount_0f7a4_43, r_J6_bitCount_0f7a4_45, r_J6_bitCount_0f7a4_46, r_J6_bitCount_0f7a4_47, r_J6_bitCount_0f7a4_48, r_J6_bitCount_0f7a4_49, r_J6_bitCount_0f7a4_51, r_J6_bitCount_0f7a4_52]
  exact Iff.rfl
theorem cnt_more (p : Nat → Bool) : ∀ (k n : Nat), (∀ i, n ≤ i → p i = false) → cnt p (n + k) = cnt p n
  | 0, n, _ => rfl
  | k + 1, n, h => by
    rw [show n + (k + 1) = n + k + 1 by omega, cnt_s, cnt_more p k n h, h (n + k) (by omega)]
    simp
theorem bc_mask (p : Nat → Bool) {n : Nat} (hn : n ≤ 10) : bc5 (bc4 (bc3 (bc2 (bc1 (nI (mask p n)))))) &&& 63 = nI (cnt p n) := by
  have h1 := mask_lt p n
  have h2 := pow_le_1024 hn
  rw [bc_small _ (by omega)]
  congr 1
  have e : (fun i => (mask p n).testBit i) = (fun i => decide (i < n) && p i) := by funext i; exact mask_bit p n i
  rw [e]
  have h3 := cnt_more (fun i => decide (i < n) && p i) (10 - n) n (fun i hi => by simp; omega)
  rw [show n + (10 - n) = 10 by omega] at h3
  rw [h3]
  exact cnt_cong (fun i hi => by simp [hi])
theorem c_countMask {d : Nat} {w : nm_W} {Q : nm_K} {p : Nat → Bool} {n : Nat} (hn : n ≤ 10) : nm_call (d + 1) 149 [.int (nI (mask p n))] w Q ↔ Q [.int (nI (cnt p n))] w := by
  rw [c_bitCount, bc_mask p hn]
abbrev LV (s : nm_S) (n c : Nat) (q : Int32) : Int32 := lvM (ga s 45) (ga s 52) (ga s 53) (ga s 54) n c q
abbrev BR (s : nm_S) (n : Nat) (o : Nat → Nat) (q : Int32) (k : Nat) : Int32 := brF (fun c => LV s n c q + gi s 4007 / 2) (gi s 4008) o k
theorem lvM_cong {lv lo lb lt lv' lo' lb' lt' : Nat → Int32} {n c : Nat} {q : Int32} (h0 : lv c = lv' c) (h : ∀ k, k < n → lo k = lo' k ∧ lb k = lb' k ∧ lt k = lt' k) : lvM lv lo lb lt n c q = lvM lv' lo' lb' lt' n c q := by
  have key : ∀ m, m ≤ n → lvM lv lo lb lt m c q = lvM lv' lo' lb' lt' m c q := by
    intro m
    induction m with
    | zero => intro _; exact h0
    | succ m ih =>
      intro hm
      have ih := ih (by omega)
      obtain ⟨e1, e2, e3⟩ := h m (by omega)
      unfold lvM at ih ⊢
      rw [lpf_last, lpf_last, ih, Nat.zero_add, e1, e2, e3]
  exact key n (Nat.le_refl n)
theorem brF_cong {f g : Nat → Int32} {hw : Int32} {o : Nat → Nat} : ∀ k, (∀ j, j ≤ k → f (o j) = g (o j)) → brF f hw o k = brF g hw o k
  | 0, h => h 0 (Nat.le_refl 0)
  | k + 1, h => by
    unfold brF
    rw [brF_cong k (fun j hj => h j (by omega)), h (k + 1) (Nat.le_refl _)]
/-- what the traffic rests on -/
def TrH (s : nm_S) (n C : Nat) (o : Nat → Nat) : Prop := n ≤ 60 ∧ C ≤ 4 ∧ (gi s 604 = nI C ∧ gi s 4002 = nI C) ∧ (gi s 1407 = nI n ∧ gi s 4003 = nI n) ∧ (gi s 605 = gi s 4007 ∧ gi s 606 = gi s 4008) ∧ (2 ≤ (gi s 605).toInt ∧ (gi s 605).toInt ≤ 120) ∧ (∀ c, c < C → ga s 7 c = ga s 45 c ∧ 0 ≤ (ga s 45 c).toInt ∧ (ga s 45 c).toInt ≤ 2000) ∧ (∀ k, k < n → (ga s 18 k = ga s 52 k ∧ ga s 19 k = ga s 53 k ∧ ga s 20 k = ga s 54 k) ∧ (∃ c, c < C ∧ ga s 52 k = nI c) ∧ (∃ m, 1 ≤ m ∧ m ≤ 200 ∧ ga s 53 k = nI m)) ∧ Ord (ga s 45) (ga s 10) C o
theorem TrH.of {s : nm_S} (hB : IvB s) (hC : IvC s) (hL : IvL s) : ∃ n C o, TrH s n C o := by
  obtain ⟨⟨b1, b2, b3, b4, b5⟩, b6, b7, b8, b9, b10⟩ := hB
  obtain ⟨C, c1, c2, c3, c4, o, c5⟩ := hC
  obtain ⟨n, C', l1, l2, l3, l4, l5, l6, l7⟩ := hL
  have : C' = C := by
    rw [c3] at l4
    exact ((nI_eq' (by omega) (by omega)).mp l4).symm
  subst this
  exact ⟨n, C', o, l1, c1, ⟨c2, c3⟩, ⟨l2, l3⟩, ⟨b4, b5⟩, b8, fun c hc => ⟨(c4 c hc).1.1, (c4 c hc).2.1⟩, l7, c5⟩
theorem TrH.fore {s : nm_S} {n C : Nat} {o : Nat → Nat} (h : TrH s n C o) (q : Int32) : ∃ F G H : Nat → Int32, (∀ c, c < C → F c = LV s n c q) ∧ (∀ k, k < C → G (o k) = BR s n o q k ∧ H (o k) = BR s n o q k + gi s 4007 - gi s 4007 / 2) ∧ ∀ (d : Nat) (Q : nm_K), Q [] (rep (sa (sa (sa s 15 F) 16 G) 17 H)) → nm_call (d + 2) 65 [.ref 14, .int q] (rep s) Q := by
  obtain ⟨h1, h2, ⟨h3, h4⟩, ⟨h5, h6⟩, ⟨h7, h8⟩, h9, h10, h11, h12⟩ := h
  have ho : Ord (ga s 7) (ga s 10) C o := by
    refine ⟨h12.1, fun j k a b => ?_, h12.2.2⟩
    have := h12.2.1 j k a b
    unfold bfr at this ⊢
    rw [(h10 _ (h12.1 j (by omega)).2).1, (h10 _ (h12.1 k b).2).1]
    exact this
  have hlv : ∀ c, c < C → lvM (ga s 7) (ga s 18) (ga s 19) (ga s 20) n c q = LV s n c q := fun c hc => lvM_cong (h10 c hc).1 (fun k hk => (h11 k hk).1)
  obtain ⟨F, G, H, a1, a2, -⟩ := c_foresee (d := 0) (q := q) h1 h2 h3 h5 (fun k hk => by rw [(h11 k hk).1.1]; exact (h11 k hk).2.1) (fun k hk => by rw [(h11 k hk).1.2.1]; exact (h11 k hk).2.2) (fun c hc => by rw [(h10 c hc).1]; exact (h10 c hc).2) h9 ho
  have hbr : ∀ k, k < C → brF (fun c => lvM (ga s 7) (ga s 18) (ga s 19) (ga s 20) n c q + gi s 605 / 2) (gi s 606) o k = BR s n o q k := by
    intro k hk
    unfold BR
    rw [h7, h8]
    exact brF_cong k (fun j hj => by rw [hlv _ (h12.1 j (by omega)).2])
  have e : ∀ d : Nat, ∃ F G H : Nat → Int32, (∀ c, c < C → F c = lvM (ga s 7) (ga s 18) (ga s 19) (ga s 20) n c q) ∧ (∀ k, k < C → G (o k) = brF (fun c => lvM (ga s 7) (ga s 18) (ga s 19) (ga s 20) n c q + gi s 605 / 2) (gi s 606) o k ∧ H (o k) = brF (fun c => lvM (ga s 7) (ga s 18) (ga s 19) (ga s 20) n c q + gi s 605 / 2) (gi s 606) o k + gi s 605 - gi s 605 / 2) ∧ ∀ Q : nm_K, Q [] (rep (sa (sa (sa s 15 F) 16 G) 17 H)) → nm_call (d + 2) 65 [.ref 14, .int q] (rep s) Q := fun d => c_foresee (d := d) (q := q) h1 h2 h3 h5 (fun k hk => by rw [(h11 k hk).1.1]; exact (h11 k hk).2.1) (fun k hk => by rw [(h11 k hk).1.2.1]; exact (h11 k hk).2.2) (fun c hc => by rw [(h10 c hc).1]; exact (h10 c hc).2) h9 ho
  obtain ⟨F, G, H, a1, a2, a3⟩ := e 0
  refine ⟨F, G, H, fun c hc => by rw [a1 c hc, hlv c hc], fun k hk => by rw [← hbr k hk, ← h7]; exact a2 k hk, fun d Q hQ => ?_⟩
  have h0 := a3 (fun v w => v = [] ∧ w = rep (sa (sa (sa s 15 F) 16 G) 17 H)) ⟨rfl, rfl⟩
  exact (nm_call_iff (nm_call_up (show 0 + 2 ≤ d + 2 by omega) h0) Q).mpr hQ
