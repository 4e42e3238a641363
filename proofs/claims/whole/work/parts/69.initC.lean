/-! The class's constructor, and the state that both begin with. -/
def s0b : nm_S := (fun _ => 0, fun _ _ => 0, 0, fun _ => 0)
def s0 (f : Nat → Int32) : nm_S := sa (si (si (si (si (si (si (si (si s0b 10 480) 605 40) 606 3) 3708 32) 3709 32) 4007 40) 4008 3) 4009 480) 12 f
theorem c_X8_init {d : Nat} {Q : nm_K} (hQ : ∀ f, (∀ S, S < 1024 → f S = nI (cdS S)) → Q [] ((rep (s0 f)).take 40)) : nm_call (d + 3) 68 [.ref 0] [.inr (8, [.null, .null, .null, .null, .null, .null, .null, .null, .null, .int 0, .int 0, .int 0])] Q := by
  have hw : ([.inr (8, [.null, .null, .null, .null, .null, .null, .null, .null, .null, .int 0, .int 0, .int 0])] : nm_W).length = 1 := rfl
  simp only [e_X8_init, r_X8_init_0, r_X8_init_1, r_X8_init_4, r_X8_init_7, r_X8_init_8, nw_obj, List.nil_append, Nat.reduceAdd, Nat.reduceLeDiff, Nat.zero_add, Nat.le_refl, and_self, and_true, true_and]
  rw [c_X2_init]
  simp only [r_X8_init_11, r_X8_init_12, r_X8_init_15, r_X8_init_16, nw_obj, List.nil_append, Nat.reduceAdd, Nat.reduceLeDiff, Nat.zero_add, Nat.le_refl, and_self, and_true, true_and]
  rw [c_X0_init]
  simp only [r_X8_init_19, r_X8_init_20, r_X8_init_21, r_X8_init_22, r_X8_init_25, r_X8_init_26, r_X8_init_27, r_X8_init_30, nw_put0, nm_b_some, z0, List.length_append, List.length_cons, List.length_nil, List.append_assoc, List.cons_append, List.nil_append, List.set_cons_zero, List.set_cons_succ, Nat.reduceAdd, Nat.reduceLeDiff, Nat.reduceLT, Nat.zero_add, Nat.add_zero, Nat.le_refl, and_self, and_true, true_and, true_or, or_true]
  simp only [r_X8_init_31, r_X8_init_34, r_X8_init_35, r_X8_init_36, r_X8_init_37, nw_obj, List.nil_append, Nat.reduceAdd, Nat.reduceLeDiff, Nat.zero_add, Nat.le_refl, and_self, and_true, true_and]
  refine c_X4_init (fun f hf => ?_)
  unfold w4
  simp only [r_X8_init_40, r_X8_init_43, nw_put0, nm_b_some, z0, List.length_append, List.length_cons, List.length_nil, List.append_assoc, List.cons_append, List.nil_append, List.set_cons_zero, List.set_cons_succ, Nat.reduceAdd, Nat.reduceLeDiff, Nat.reduceLT, Nat.zero_add, Nat.add_zero, Nat.le_refl, and_self, and_true, true_and, true_or, or_true]
  simp only [r_X8_init_44, r_X8_init_47, r_X8_init_48, r_X8_init_49, nw_obj, List.nil_append, Nat.reduceAdd, Nat.reduceLeDiff, Nat.zero_add, Nat.le_refl, and_self, and_true, true_and]
  rw [c_X7_init]
  simp only [r_X8_init_52, r_X8_init_55, nw_put0, nm_b_some, z0, List.length_append, List.length_cons, List.length_nil, List.append_assoc, List.cons_append, List.nil_append, List.set_cons_zero, List.set_cons_succ, Nat.reduceAdd, Nat.reduceLeDiff, Nat.reduceLT, Nat.zero_add, Nat.add_zero, Nat.le_refl, and_self, and_true, true_and, true_or, or_true]
  simp only [r_X8_init_56, r_X8_init_59, r_X8_init_60, nw_obj, List.nil_append, Nat.reduceAdd, Nat.reduceLeDiff, Nat.zero_add, Nat.le_refl, and_self, and_true, true_and]
  rw [c_X5_init]
  simp only [r_X8_init_63, r_X8_init_66, nw_put0, nm_b_some, z0, List.length_append, List.length_cons, List.length_nil, List.append_assoc, List.cons_append, List.nil_append, List.set_cons_zero, List.set_cons_succ, Nat.reduceAdd, Nat.reduceLeDiff, Nat.reduceLT, Nat.zero_add, Nat.add_zero, Nat.le_refl, and_self, and_true, true_and, true_or, or_true]
  simp only [r_X8_init_67, r_X8_init_70, r_X8_init_71, nw_obj, List.nil_append, Nat.reduceAdd, Nat.reduceLeDiff, Nat.zero_add, Nat.le_refl, and_self, and_true, true_and]
  rw [c_X1_init]
  simp only [r_X8_init_74, r_X8_init_77, nw_put0, nm_b_some, z0, List.length_append, List.length_cons, List.length_nil, List.append_assoc, List.cons_append, List.nil_append, List.set_cons_zero, List.set_cons_succ, Nat.reduceAdd, Nat.reduceLeDiff, Nat.reduceLT, Nat.zero_add, Nat.add_zero, Nat.le_refl, and_self, and_true, true_and, true_or, or_true]
  simp only [r_X8_init_78, r_X8_init_81, r_X8_init_82, nw_obj, List.nil_append, Nat.reduceAdd, Nat.reduceLeDiff, Nat.zero_add, Nat.le_refl, and_self, and_true, true_and]
  rw [c_X6_init]
  simp only [r_X8_init_85, r_X8_init_88, nw_put0, nm_b_some, z0, List.length_append, List.length_cons, List.length_nil, List.append_assoc, List.cons_append, List.nil_append, List.set_cons_zero, List.set_cons_succ, Nat.reduceAdd, Nat.reduceLeDiff, Nat.reduceLT, Nat.zero_add, Nat.add_zero, Nat.le_refl, and_self, and_true, true_and, true_or, or_true]
  simp only [r_X8_init_89, r_X8_init_92, r_X8_init_93, nw_obj, List.nil_append, Nat.reduceAdd, Nat.reduceLeDiff, Nat.zero_add, Nat.le_refl, and_self, and_true, true_and]
  rw [c_X6_init]
  simp only [r_X8_init_96, r_X8_init_99, nw_put0, nm_b_some, z0, List.length_append, List.length_cons, List.length_nil, List.append_assoc, List.cons_append, List.nil_append, List.set_cons_zero, List.set_cons_succ, Nat.reduceAdd, Nat.reduceLeDiff, Nat.reduceLT, Nat.zero_add, Nat.add_zero, Nat.le_refl, and_self, and_true, true_and, true_or, or_true]
  simp only [r_X8_init_100, r_X8_init_103, r_X8_init_104, nw_obj, List.nil_append, Nat.reduceAdd, Nat.reduceLeDiff, Nat.zero_add, Nat.le_refl, and_self, and_true, true_and]
  rw [c_X3_init]
  simp only [r_X8_init_107, r_X8_init_110, r_X8_init_111, r_X8_init_112, r_X8_init_115, r_X8_init_116, r_X8_init_119, r_X8_init_122, r_X8_init_123, r_X8_init_124, r_X8_init_127, nw_put0, nm_b_some, z0, List.length_append, List.length_cons, List.length_nil, List.append_assoc, List.cons_append, List.nil_append, List.set_cons_zero, List.set_cons_succ, Nat.reduceAdd, Nat.reduceLeDiff, Nat.reduceLT, Nat.zero_add, Nat.add_zero, Nat.le_refl, and_self, and_true, true_and, true_or, or_true]
  exact hQ f hf
/-- the reference beside it -/
theorem c_both {d : Nat} {Q : nm_K} {f : Nat → Int32} (hQ : Q [] (rep (s0 f))) : nm_call (d + 1) 102 [.ref 40] ((rep (s0 f)).take 40 ++ [.inr (9, [.int 0, .int 0, .int 0, .int 0, .int 0, .int 0, .int 0, .int 0, .int 0, .int 0, .int 0, .null, .null, .null, .null, .null, .null, .null, .null, .null, .null, .null, .int 0, .null, .null, .null, .null, .null, .null, .null, .null, .null, .null, .null, .int 0, .int 0, .null, .null, .null, .null, .null, .int 0, .int 0, .int 0, .int 0, .int 0, .int 0, .null])]) Q := by
  have h := (c_X9_init (d := d) (w0 := (rep (s0 f)).take 40) (Q := Q)).mpr hQ
  exact h
