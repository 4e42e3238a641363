/-! fail: in which order stages go back. -/
theorem cnt_rm (q : Nat → Bool) (m : Nat) : ∀ N, (m < N → q m = true → cnt (fun i => q i && decide (i ≠ m)) N + 1 = cnt q N) ∧ (N ≤ m → cnt (fun i => q i && decide (i ≠ m)) N = cnt q N)
  | 0 => ⟨fun h => by omega, fun _ => rfl⟩
  | N + 1 => by
    obtain ⟨h1, h2⟩ := cnt_rm q m N
    rw [cnt_s, cnt_s]
    refine ⟨fun h hq => ?_, fun h => ?_⟩
    · by_cases e : m = N
      · subst e
        rw [h2 (Nat.le_refl _)]
        simp [hq]
      · have := h1 (by omega) hq
        have e2 : decide (N ≠ m) = true := by simp; omega
        rw [e2, Bool.and_true]
        omega
    · have e2 : decide (N ≠ m) = true := by simp; omega
      rw [h2 (by omega), e2, Bool.and_true]
theorem cnt_pos (q : Nat → Bool) : ∀ N, cnt q N = 0 ↔ ∀ i, i < N → q i = false
  | 0 => ⟨fun _ i hi => by omega, fun _ => rfl⟩
  | N + 1 => by
    rw [cnt_s]
    constructor
    · intro h i hi
      have h0 : cnt q N = 0 := by omega
      by_cases e : i = N
      · subst e
        cases hq : q i with
        | false => rfl
        | true => rw [hq] at h; simp at h
      · exact (cnt_pos q N).mp h0 i (by omega)
    · intro h
      rw [(cnt_pos q N).mpr (fun i hi => h i (by omega)), h N (by omega)]
      rfl
def psn (g : Nat → Int32) (N : Nat) (p : Nat → Bool) : Nat → Bool := match sel p g N with
  | none => p
  | some m => fun i => p i && decide (i ≠ m)
def pset (g : Nat → Int32) (N : Nat) (p : Nat → Bool) : Nat → (Nat → Bool)
  | 0 => p
  | k + 1 => psn g N (pset g N p k)
def rho (g : Nat → Int32) (N : Nat) (p : Nat → Bool) (k : Nat) : Nat := (sel (pset g N p k) g N).getD 0
section PK
variable {g : Nat → Int32} {N : Nat} {p : Nat → Bool}
theorem pk_cnt : ∀ k, k ≤ cnt p N → cnt (pset g N p k) N = cnt p N - k
  | 0, _ => rfl
  | k + 1, h => by
    have ih := pk_cnt k (by omega)
    have hs := sel_is (pset g N p k) g N
    show cnt (psn g N (pset g N p k)) N = _
    unfold psn
    cases he : sel (pset g N p k) g N with
    | none =>
      rw [he] at hs
      have := (cnt_pos (pset g N p k) N).mpr hs
      omega
    | some m =>
      rw [he] at hs
      have := (cnt_rm (pset g N p k) m N).1 hs.1 hs.2.1
      dsimp only
      omega
theorem pk_sel {k : Nat} (h : k < cnt p N) : sel (pset g N p k) g N = some (rho g N p k) := by
  have hc := pk_cnt (g := g) (p := p) (N := N) k (by omega)
  have hs := sel_is (pset g N p k) g N
  unfold rho
  cases he : sel (pset g N p k) g N with
  | none =>
    rw [he] at hs
    have := (cnt_pos (pset g N p k) N).mpr hs
    omega
  | some m => rfl
theorem pk_is {k : Nat} (h : k < cnt p N) : rho g N p k < N ∧ pset g N p k (rho g N p k) = true ∧ ∀ i, i < N → pset g N p k i = true → i = rho g N p k ∨ ltr g (rho g N p k) i := by
  have hs := sel_is (pset g N p k) g N
  rw [pk_sel h] at hs
  exact hs
theorem pk_mem : ∀ k, k ≤ cnt p N → ∀ i, pset g N p k i = true ↔ p i = true ∧ ∀ j, j < k → rho g N p j ≠ i
  | 0, _, i => ⟨fun h => ⟨h, fun j hj => by omega⟩, fun h => h.1⟩
  | k + 1, h, i => by
    have ih := pk_mem k (by omega) i
    have e : pset g N p (k + 1) = fun i => pset g N p k i && decide (i ≠ rho g N p k) := by
      show psn g N (pset g N p k) = _
      unfold psn
      rw [pk_sel (by omega)]
    rw [e]
    simp only [Bool.and_eq_true, decide_eq_true_eq, ih]
    constructor
    · rintro ⟨⟨h1, h2⟩, h3⟩
      refine ⟨h1, fun j hj => ?_⟩
      by_cases e : j = k
      · subst e; exact fun z => h3 z.symm
      · exact h2 j (by omega)
    · rintro ⟨h1, h2⟩
      exact ⟨⟨h1, fun j hj => h2 j (by omega)⟩, fun z => h2 k (by omega) z.symm⟩
theorem pk_p {k : Nat} (h : k < cnt p N) : p (rho g N p k) = true := ((pk_mem k (by omega) _).mp (pk_is h).2.1).1
theorem pk_all {i : Nat} (hi : i < N) (hp : p i = true) : ∃ k, k < cnt p N ∧ rho g N p k = i := by
  refine Classical.byContradiction fun hn => ?_
  have h1 := (pk_mem (g := g) (p := p) (N := N) (cnt p N) (Nat.le_refl _) i).mpr ⟨hp, fun j hj z => hn ⟨j, hj, z⟩⟩
  have h2 := pk_cnt (g := g) (p := p) (N := N) (cnt p N) (Nat.le_refl _)
  rw [Nat.sub_self] at h2
  have := (cnt_pos _ N).mp h2 i hi
  rw [this] at h1
  cases h1
theorem pk_ord {j k : Nat} (hjk : j < k) (hk : k < cnt p N) : ltr g (rho g N p j) (rho g N p k) := by
  have h1 := pk_is (g := g) (show k < cnt p N from hk)
  have h2 := pk_is (g := g) (show j < cnt p N by omega)
  have h3 := (pk_mem (g := g) k (by omega) _).mp h1.2.1
  have h4 := (pk_mem (g := g) j (by omega) (rho g N p k)).mpr ⟨h3.1, fun l hl => h3.2 l (by omega)⟩
  rcases h2.2.2 _ h1.1 h4 with e | e
  · exact absurd e.symm (h3.2 j hjk)
  · exact e
theorem pk_inj {j k : Nat} (hj : j < cnt p N) (hk : k < cnt p N) (e : rho g N p j = rho g N p k) : j = k := by
  rcases Nat.lt_trichotomy j k with z | z | z
  · have := pk_ord (g := g) z hk
    unfold ltr at this
    rw [e] at this
    omega
  · exact z
  · have := pk_ord (g := g) z hj
    unfold ltr at this
    rw [e] at this
    omega
end PK
/-- when each is back -/
def ens (T : Nat) (b : Nat → Nat) : Nat → Nat
  | 0 => T + b 0
  | k + 1 => ens T b k + b (k + 1)
def mns (T : Nat) (b : Nat → Nat) : Nat → Nat
  | 0 => T
  | k + 1 => mns T b k + b k
theorem mns_ens (T : Nat) (b : Nat → Nat) : ∀ k, mns T b (k + 1) = ens T b k
  | 0 => rfl
  | k + 1 => by
    show mns T b (k + 1) + b (k + 1) = _
    rw [mns_ens T b k]
    rfl
theorem mns_le (T : Nat) (b : Nat → Nat) {n : Nat} (hb : ∀ k, k < n → b k ≤ 60) : ∀ k, k ≤ n → mns T b k ≤ T + 60 * k
  | 0, _ => Nat.le_refl _
  | k + 1, h => by
    have := mns_le T b hb k (by omega)
    have := hb k (by omega)
    show mns T b k + b k ≤ _
    omega
theorem ens_ge (T : Nat) (b : Nat → Nat) : ∀ k, T ≤ ens T b k
  | 0 => by show T ≤ T + b 0; omega
  | k + 1 => by
    have := ens_ge T b k
    show T ≤ ens T b k + b (k + 1)
    omega
theorem ens_mono (T : Nat) (b : Nat → Nat) (j : Nat) : ∀ n, ens T b j ≤ ens T b (j + n)
  | 0 => Nat.le_refl _
  | n + 1 => by
    have := ens_mono T b j n
    show _ ≤ ens T b (j + n) + b (j + n + 1)
    omega
theorem bits_0 {w n : Nat} (hw : w < 65536) (h : ∀ i, i < 16 → w.testBit i = false) : w = 0 := by
  apply Nat.eq_of_testBit_eq
  intro i
  rw [Nat.zero_testBit]
  by_cases hi : i < 16
  · exact h i hi
  · exact Nat.testBit_lt_two_pow (Nat.lt_of_lt_of_le hw (Nat.le_trans (show 65536 ≤ 2 ^ 16 by decide) (Nat.pow_le_pow_right (by decide) (by omega))))
/-- the class's loop -/
theorem c_takeLoop {d : Nat} {s : nm_S} {Q : nm_K} {N T : Nat} {p : Nat → Bool} {bk : Nat → Nat} {fv : Int32} (hN : N ≤ 10) (hT : T ≤ 2000) (hN1 : gi s 2103 = nI N) (hb : ∀ i, i < N → ga s 27 i = nI (bk i) ∧ bk i ≤ 60) (hQ : ∀ f h : Nat → Int32, (∀ i, ((∃ j, j < cnt p N ∧ rho (ga s 23) N p j = i) → f i = 3) ∧ ((¬ ∃ j, j < cnt p N ∧ rho (ga s 23) N p j = i) → f i = ga s 22 i)) → (∀ j, j < cnt p N → h (rho (ga s 23) N p j) = nI (ens T (fun k => bk (rho (ga s 23) N p k)) j)) → ∀ z1 z2 z3 z4 : Value, x_X5_takeBack (d + 2) Q 95 [.ref 21, .int fv, .int (nI T), z1, z2, z3, z4] [] (rep (sa (sa s 22 f) 29 h)) 0 0) : ∀ (m k w : Nat) (f h : Nat → Int32) (z : Value), k + m = cnt p N → w < 65536 → (∀ i, i < 16 → w.testBit i = (decide (i < N) && pset (ga s 23) N p k i)) → (∀ i, ((∃ j, j < k ∧ rho (ga s 23) N p j = i) → f i = 3) ∧ ((¬ ∃ j, j < k ∧ rho (ga s 23) N p j = i) → f i = ga s 22 i)) → (∀ j, j < k → h (rho (ga s 23) N p j) = nI (ens T (fun k => bk (rho (ga s 23) N p k)) j)) → x_X5_takeBack (d + 2) Q 33 [.ref 21, .int fv, .int (nI T), .int (nI w), .int (nI (mns T (fun k => bk (rho (ga s 23) N p k)) k)), .int (nI k), z] [] (rep (sa (sa s 22 f) 29 h)) 0 0
  | 0, k, w, f, h, z, hk, hw, hwb, hf, hh => by
    have hke : k = cnt p N := by omega
    subst hke
    have hcn := cnt_le p N
    have hc := pk_cnt (g := ga s 23) (p := p) (N := N) _ (Nat.le_refl _)
    rw [Nat.sub_self] at hc
    have w0 : w = 0 := by
      refine bits_0 (n := 0) hw (fun i hi => ?_)
      rw [hwb i hi]
      by_cases hiN : i < N
      · rw [(cnt_pos _ N).mp hc i hiN, Bool.and_false]
      · simp [hiN]
    subst w0
    have g1 : (10 : Int32) = nI 10 := rfl
    have g2 : nI 0 = 0 := rfl
    rw [r_X5_takeBack_33]
    simp only [r_X5_takeBack_35, r_X5_takeBack_37, r_X5_takeBack_40, r_X5_takeBack_41, List.cons_append, List.nil_append, List.append_nil, if_true, if_false, true_and, and_true, true_or, or_true, nm_b_some, g1, g2, nI_lt' (show cnt p N < 2147483648 by omega) (show 10 < 2147483648 by omega), ite_self]
    exact hQ f h hf hh _ _ _ _
  | m + 1, k, w, f, h, z, hk, hw, hwb, hf, hh => by
    have hcn := cnt_le p N
    have hkc : k < cnt p N := by omega
    obtain ⟨q1, q2, q3⟩ := pk_is (g := ga s 23) (p := p) (N := N) hkc
    have g1 : nI k < 10 := (nI_lt' (b := 10) (by omega) (by omega)).mpr (by omega)
    have g2 : ¬ nI w = 0 := by
      rw [nI_z (by omega)]
      intro e
      have := hwb (rho (ga s 23) N p k) (by omega)
      rw [e, Nat.zero_testBit, q2] at this
      simp [q1] at this
    have hsel : sel (fun i => w.testBit i) (ga s 23) N = some (rho (ga s 23) N p k) := by
      rw [← pk_sel hkc]
      refine sel_cong (fun i hi => ⟨?_, rfl⟩)
      rw [hwb i (by omega)]
      simp [hi]
    have g3 : vp_in (nI (rho (ga s 23) N p k)) 10 := vp_in' (by omega) (by omega)
    have g4 : (nI (rho (ga s 23) N p k)).toNatClampNeg = rho (ga s 23) N p k := i_nIc (by omega)
    have hb1 := hb _ q1
    rw [r_X5_takeBack_33]
    simp only [r_X5_takeBack_35, r_X5_takeBack_37, r_X5_takeBack_40, r_X5_takeBack_41, r_X5_takeBack_44, r_X5_takeBack_45, r_X5_takeBack_46, r_X5_takeBack_49, r_X5_takeBack_51, r_X5_takeBack_52, r_X5_takeBack_53, r_X5_takeBack_55, r_X5_takeBack_56, r_X5_takeBack_57, r_X5_takeBack_58, r_X5_takeBack_59, r_X5_takeBack_60, r_X5_takeBack_62, r_X5_takeBack_63, r_X5_takeBack_66, r_X5_takeBack_68, r_X5_takeBack_69, r_X5_takeBack_70, r_X5_takeBack_72, r_X5_takeBack_73, r_X5_takeBack_76, r_X5_takeBack_78, r_X5_takeBack_79, r_X5_takeBack_80, r_X5_takeBack_81, r_X5_takeBack_84, r_X5_takeBack_86, r_X5_takeBack_88, r_X5_takeBack_89, r_X5_takeBack_92, ob_21, gt_21_0, gt_21_1, gt_21_2, gt_21_3, pt_21_3, gt_21_4, pt_21_4, gt_21_5, gt_21_6, gt_21_7, gt_21_8, gt_21_9, gt_21_10, ad_22, as_22, ad_27, as_27, ad_29, as_29, List.cons_append, List.nil_append, List.append_nil, if_true, if_false, true_and, and_true, true_or, or_true, nm_b_some, gi_si, ga_sa, gi_sa, gi_sb, gi_sp, ga_si, ga_sb, ga_sp, gb_si, gb_sa, gb_sb, gb_sp, gp_si, gp_sa, gp_sb, gp_sp, if_true, if_false, ↓reduceIte, Nat.reduceEqDiff, g1, g2, c_lastBegun (m := w) (s := sa (sa s 22 f) 29 h) (N := N) (by simp only [gi_si, ga_sa, gi_sa, gi_sb, gi_sp, ga_si, ga_sb, ga_sp, gb_si, gb_sa, gb_sb, gb_sp, gp_si, gp_sa, gp_sb, gp_sp, if_true, if_false, ↓reduceIte, Nat.reduceEqDiff]; exact hN1) hN, hsel, oenc, g3, g4, hb1.1, nI_ad, mask_clear w (rho (ga s 23) N p k) hw (by omega), nI_s, wS_22]
    have hst : sa (sa (sa (sa s 22 f) 29 h) 22 (upd f (rho (ga s 23) N p k) 3)) 29 (upd h (rho (ga s 23) N p k) (nI (mns T (fun k => bk (rho (ga s 23) N p k)) k + bk (rho (ga s 23) N p k)))) = sa (sa s 22 (upd f (rho (ga s 23) N p k) 3)) 29 (upd h (rho (ga s 23) N p k) (nI (mns T (fun k => bk (rho (ga s 23) N p k)) (k + 1)))) := by
      refine st_ext (fun _ => rfl) (fun c => ?_) rfl rfl
      simp only [ga_sa]
      by_cases h1 : c = 29
      · simp [h1]; rfl
      · by_cases h2 : c = 22 <;> simp [h1, h2]
    rw [hst]
    have ewb : ∀ i, i < 16 → (w &&& (2 ^ rho (ga s 23) N p k ^^^ 4294967295)).testBit i = (decide (i < N) && pset (ga s 23) N p (k + 1) i) := by
      intro i hi
      rw [mask_clear_bit w _ i hw (by omega), hwb i hi]
      have e : pset (ga s 23) N p (k + 1) i = (pset (ga s 23) N p k i && decide (i ≠ rho (ga s 23) N p k)) := by
        show psn (ga s 23) N (pset (ga s 23) N p k) i = _
        unfold psn
        rw [pk_sel hkc]
      rw [e, Bool.and_assoc]
    refine c_takeLoop hN hT hN1 hb hQ m (k + 1) _ _ _ _ (by omega) (Nat.lt_of_le_of_lt Nat.and_le_left hw) ewb (fun i => ?_) (fun j hj => ?_)
    · by_cases e : i = rho (ga s 23) N p k
      · subst e
        rw [upd_at]
        exact ⟨fun _ => rfl, fun z => absurd ⟨k, by omega, rfl⟩ z⟩
      · rw [upd_ne e]
        refine ⟨fun ⟨j, j1, j2⟩ => (hf i).1 ⟨j, ?_, j2⟩, fun z => (hf i).2 (fun ⟨j, j1, j2⟩ => z ⟨j, by omega, j2⟩)⟩
        rcases Nat.lt_or_ge j k with y | y
        · exact y
        · have : j = k := by omega
          subst this
          exact absurd j2.symm e
    · by_cases e : j = k
      · subst e
        rw [upd_at, mns_ens]
      · rw [upd_ne (fun z => e (pk_inj (g := ga s 23) (by omega) hkc z))]
        exact hh j (by omega)
