/-! The constructors of Sharing and of the class. -/
theorem nw_get {w0 r : nm_W} {c j : Nat} {fs : List Value} {g : Value → Prop} : nm_b (nm_get (w0 ++ .inr (c, fs) :: r) w0.length c j) g ↔ nm_b fs[j]? g := by
  have h1 : (w0 ++ .inr (c, fs) :: r)[w0.length]? = some (.inr (c, fs)) := by simp
  unfold nm_get
  rw [h1]
  dsimp only
  rw [if_pos rfl]
theorem nw_ald1 {w0 r : nm_W} {x : nm_E} {t n : Nat} {f : Nat → Int32} {i : Int32} {g : Int32 → Prop} : nm_b (nm_ald (w0 ++ x :: .inl (t, n, .inl f) :: r) (w0.length + 1) t i) g ↔ vp_in i n ∧ g (f i.toNatClampNeg) := nm_b_ald (by simp)
theorem nw_ast1 {w0 r : nm_W} {x : nm_E} {n : Nat} {f : Nat → Int32} {i v : Int32} {g : nm_W → Prop} : nm_b (nm_ast (w0 ++ x :: .inl (2, n, .inl f) :: r) (w0.length + 1) 2 i v) g ↔ vp_in i n ∧ g (w0 ++ x :: .inl (2, n, .inl (upd f i.toNatClampNeg v)) :: r) := nm_b_ast (W' := fun f => w0 ++ x :: .inl (2, n, .inl f) :: r) (by simp) (fun f' => by simp)
theorem shl_wt : ∀ t, t < 10 → (1 : Int32) <<< ((3 * (9 - nI t)) &&& 31) = nI (wt t) := by decide +kernel
theorem cdS_hi {o t : Nat} (ht : t < 10) (ho : o < 2 ^ t) : cdS (o + 2 ^ t) = cdS o + wt t := by
  have e1 : 2 ^ (t + 1) = 2 ^ t + 2 ^ t := by rw [Nat.pow_succ]; omega
  obtain ⟨b1, b2⟩ := bit_hi (S := o + 2 ^ t) (T := t) (by omega) (by omega)
  rw [cdS_T (T := t + 1) (by omega) (by omega), sumS_s, if_pos b1, cdS_T (T := t) (by omega) ho]
  congr 1
  exact sumS_cong (fun i hi => ⟨rfl, by rw [b2 i hi]; congr 1; omega⟩)
def w4 (w0 : nm_W) (y1 y2 : Nat) (f : Nat → Int32) : nm_W := w0 ++ [.inr (4, [.ref y1, .ref y2, .ref (w0.length + 1), .ref (w0.length + 2), .long 0, .int 0]), .inl (2, 1024, .inl f), .inl (3, 1024, .inr (fun _ => 0))]
theorem c_X4_init {d : Nat} {w0 : nm_W} {Q : nm_K} {y1 y2 : Nat} (hQ : ∀ f, (∀ S, S < 1024 → f S = nI (cdS S)) → Q [] (w4 w0 y1 y2 f)) : nm_call (d + 2) 27 [.ref w0.length, .ref y1, .ref y2] (w0 ++ [.inr (4, [.null, .null, .null, .null, .long 0, .int 0])]) Q := by
  have inner : ∀ t, t < 10 → (∀ f, (∀ S, S < 2 ^ (t + 1) → f S = nI (cdS S)) → ∀ z4 z5 : Value, x_X4_init (d + 1) Q 44 [.ref w0.length, .ref y1, .ref y2, .int (nI (t + 1)), z4, z5] [] (w4 w0 y1 y2 f) 2 2048) → ∀ m o f, o + m = 2 ^ t → (∀ S, S < 2 ^ t + o → f S = nI (cdS S)) → x_X4_init (d + 1) Q 58 [.ref w0.length, .ref y1, .ref y2, .int (nI t), .int (nI (2 ^ t)), .int (nI o)] [] (w4 w0 y1 y2 f) 2 2048 := by
    intro t ht hnx
    have hp := pow_le_1024 (show t + 1 ≤ 10 by omega)
    have hp2 : 2 ^ (t + 1) = 2 ^ t + 2 ^ t := by rw [Nat.pow_succ]; omega
    intro m
    induction m with
    | zero =>
      intro o f ho hf
      have hlt : ¬ nI o < nI (2 ^ t) := fun z => absurd ((nI_lt' (by omega) (by omega)).mp z) (by omega)
      rw [r_X4_init_58]
      simp only [r_X4_init_60, r_X4_init_62, r_X4_init_95, r_X4_init_98, List.cons_append, List.nil_append, List.append_nil, if_true, if_false, true_and, and_true, true_or, or_true, nm_b_some, hlt, nI_s]
      exact hnx f (fun S hS => hf S (by omega)) _ _
    | succ m ih =>
      intro o f ho hf
      have hlt : nI o < nI (2 ^ t) := (nI_lt' (by omega) (by omega)).mpr (by omega)
      have hv : vp_in (nI o) 1024 := vp_in' (by omega) (by omega)
      have hc : (nI o).toNatClampNeg = o := i_nIc (by omega)
      have hv2 : vp_in (nI (o + 2 ^ t)) 1024 := vp_in' (by omega) (by omega)
      have hc2 : (nI (o + 2 ^ t)).toNatClampNeg = o + 2 ^ t := i_nIc (by omega)
      have hor : o ||| 2 ^ t = o + 2 ^ t := or_pow (by omega)
      have hsh := shl_wt t ht
      have hfo := hf o (by omega)
      rw [r_X4_init_58]
      unfold w4
      simp only [r_X4_init_60, r_X4_init_62, r_X4_init_65, r_X4_init_66, r_X4_init_69, r_X4_init_71, r_X4_init_73, r_X4_init_74, r_X4_init_75, r_X4_init_78, r_X4_init_80, r_X4_init_81, r_X4_init_82, r_X4_init_83, r_X4_init_86, r_X4_init_87, r_X4_init_88, r_X4_init_89, r_X4_init_92, e_X4_digitPlace, r_X4_digitPlace_0, r_X4_digitPlace_1, r_X4_digitPlace_3, r_X4_digitPlace_4, r_X4_digitPlace_5, r_X4_digitPlace_6, nw_get, nw_ald1, nw_ast1, List.cons_append, List.nil_append, List.append_nil, if_true, if_false, true_and, and_true, true_or, or_true, nm_b_some, List.getElem?_cons_succ, List.getElem?_cons_zero, hlt, hv, hc, fa_or, hor, hv2, hc2, hsh, hfo, nI_ad, nI_s, Nat.le_refl, and_self]
      refine ih (o + 1) _ (by omega) (fun S hS => ?_)
      by_cases hSo : S = o + 2 ^ t
      · subst hSo
        rw [upd_at, cdS_hi ht (by omega)]
      · rw [upd_ne hSo]
        exact hf S (by omega)
  have outer : ∀ m t f, t + m = 10 → (∀ S, S < 2 ^ t → f S = nI (cdS S)) → ∀ z4 z5 : Value, x_X4_init (d + 1) Q 44 [.ref w0.length, .ref y1, .ref y2, .int (nI t), z4, z5] [] (w4 w0 y1 y2 f) 2 2048 := by
    intro m
    induction m with
    | zero =>
      intro t f ht hf z4 z5
      have e : t = 10 := by omega
      subst e
      have hlt : ¬ nI 10 < 10 := by decide
      rw [r_X4_init_44]
      simp only [r_X4_init_45, r_X4_init_47, r_X4_init_101, List.cons_append, List.nil_append, List.append_nil, if_true, if_false, true_and, and_true, true_or, or_true, nm_b_some, hlt, Nat.le_refl, and_self]
      exact hQ f hf
    | succ m ih =>
      intro t f ht hf z4 z5
      have hlt : nI t < 10 := (nI_lt' (b := 10) (by omega) (by omega)).mpr (by omega)
      have hpos : 0 < 2 ^ t := Nat.two_pow_pos t
      rw [r_X4_init_44]
      simp only [r_X4_init_45, r_X4_init_47, r_X4_init_50, r_X4_init_51, r_X4_init_52, r_X4_init_53, r_X4_init_55, r_X4_init_56, List.cons_append, List.nil_append, List.append_nil, if_true, if_false, true_and, and_true, true_or, or_true, nm_b_some, hlt, shl1 t (by omega)]
      exact inner t (by omega) (fun f' hf' z4 z5 => ih (t + 1) f' (by omega) hf' z4 z5) (2 ^ t) 0 f (by omega) (fun S hS => hf S (by omega))
  have h := outer 10 0 (fun _ => 0) (by omega) (fun S hS => by
    have : S = 0 := by simp at hS; omega
    subst this
    have : cdS 0 = 0 := by decide
    rw [this]
    rfl) .null .null
  simp only [e_X4_init, r_X4_init_0, r_X4_init_1, r_X4_init_4, r_X4_init_5, r_X4_init_8, r_X4_init_10, r_X4_init_13, r_X4_init_14, r_X4_init_17, r_X4_init_19, r_X4_init_22, r_X4_init_23, r_X4_init_24, r_X4_init_27, r_X4_init_28, r_X4_init_29, r_X4_init_32, r_X4_init_33, r_X4_init_34, r_X4_init_37, r_X4_init_38, r_X4_init_39, r_X4_init_42, r_X4_init_43, nw_put, nm_b_some, z0, tn_1024, tp_1024, List.length_append, List.length_cons, List.length_nil, List.append_assoc, List.cons_append, List.nil_append, List.set_cons_zero, List.set_cons_succ, Nat.reduceAdd, Nat.reduceLeDiff, Nat.reduceLT, Nat.zero_add, Nat.add_zero, Nat.le_refl, Nat.add_assoc, not_false_eq_true, and_self, and_true, true_and, true_or, or_true]
  exact h
