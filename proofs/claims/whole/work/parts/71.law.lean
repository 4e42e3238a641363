/-! The law's loop. -/
theorem and31 (x : Int32) : ∃ j, j < 32 ∧ x &&& 31 = nI j := by
  refine ⟨x.toBitVec.toNat % 2 ^ 5, Nat.mod_lt _ (by decide), ?_⟩
  exact pk_and x 5 (by decide)
def lawAt (L : Nat) (xs : Nat → Int32) (z : UInt32) (Q : nm_K) (m : Nat) (s : nm_S) : Prop := x_L_law L xs 60 Q 18 [.float z, .ref 0, .ref 40, .int (nI (5 * m))] [] (rep s) 69 5998
theorem w_thing {L : Nat} {xs : Nat → Int32} {z : UInt32} {Q : nm_K} {m : Nat} {s : nm_S} (hL : L ≤ 2560) (hm : 5 * m + 5 ≤ L) (hI : Inv s) (hn : ∀ t, Inv t → lawAt L xs z Q (m + 1) t) : x_L_law L xs 60 Q 156 [.float z, .ref 0, .ref 40, .int (nI (5 * m))] [] (rep s) 69 5998 := by
  have k1 : nI (5 * m) + 1 = nI (5 * m + 1) := nI_add _ _
  have v1 : vp_in (nI (5 * m + 1)) L := vp_in' (by omega) (by omega)
  have c1 : (nI (5 * m + 1)).toNatClampNeg = 5 * m + 1 := i_nIc (by omega)
  have k2 : nI (5 * m) + 2 = nI (5 * m + 2) := nI_add _ _
  have v2 : vp_in (nI (5 * m + 2)) L := vp_in' (by omega) (by omega)
  have c2 : (nI (5 * m + 2)).toNatClampNeg = 5 * m + 2 := i_nIc (by omega)
  have k3 : nI (5 * m) + 3 = nI (5 * m + 3) := nI_add _ _
  have v3 : vp_in (nI (5 * m + 3)) L := vp_in' (by omega) (by omega)
  have c3 : (nI (5 * m + 3)).toNatClampNeg = 5 * m + 3 := i_nIc (by omega)
  have k4 : nI (5 * m) + 4 = nI (5 * m + 4) := nI_add _ _
  have v4 : vp_in (nI (5 * m + 4)) L := vp_in' (by omega) (by omega)
  have c4 : (nI (5 * m + 4)).toNatClampNeg = 5 * m + 4 := i_nIc (by omega)
  have k5 : nI (5 * m) + 5 = nI (5 * (m + 1)) := nI_add _ _
  obtain ⟨v, s1, s2, r1, r2, hI2⟩ := v_thing (xs (5 * m + 1)) (xs (5 * m + 2)) (xs (5 * m + 3)) (xs (5 * m + 4)) hI
  simp only [r_L_law_156, r_L_law_157, r_L_law_158, r_L_law_159, r_L_law_160, r_L_law_161, r_L_law_162, r_L_law_163, r_L_law_164, r_L_law_165, r_L_law_166, r_L_law_167, r_L_law_168, r_L_law_169, r_L_law_170, r_L_law_171, r_L_law_172, r_L_law_173, r_L_law_174, r_L_law_175, r_L_law_176, r_L_law_177, ob_0, k1, v1, c1, k2, v2, c2, k3, v3, c3, k4, v4, c4, List.cons_append, List.nil_append, List.append_nil, if_true, if_false, true_and, and_true, true_or, or_true, nm_b_some, Nat.add_zero, Nat.reduceLeDiff, and_self, true_and, and_true]
  refine r1 _ ?_
  simp only [r_L_law_180, r_L_law_181, r_L_law_182, r_L_law_183, r_L_law_184, r_L_law_185, r_L_law_186, r_L_law_187, r_L_law_188, r_L_law_189, r_L_law_190, r_L_law_191, r_L_law_192, r_L_law_193, r_L_law_194, r_L_law_195, r_L_law_196, r_L_law_197, r_L_law_198, r_L_law_199, r_L_law_200, r_L_law_201, ob_40, k1, v1, c1, k2, v2, c2, k3, v3, c3, k4, v4, c4, List.cons_append, List.nil_append, List.append_nil, if_true, if_false, true_and, and_true, true_or, or_true, nm_b_some, Nat.add_zero, Nat.reduceLeDiff, and_self, true_and, and_true]
  refine r2 _ ?_
  simp only [r_L_law_204, r_L_law_893, r_L_law_896, List.cons_append, List.nil_append, List.append_nil, if_true, if_false, true_and, and_true, true_or, or_true, nm_b_some, k5]
  exact hn s2 hI2
theorem w_convoy {L : Nat} {xs : Nat → Int32} {z : UInt32} {Q : nm_K} {m : Nat} {s : nm_S} (hL : L ≤ 2560) (hm : 5 * m + 5 ≤ L) (hI : Inv s) (hn : ∀ t, Inv t → lawAt L xs z Q (m + 1) t) : x_L_law L xs 60 Q 209 [.float z, .ref 0, .ref 40, .int (nI (5 * m))] [] (rep s) 69 5998 := by
  have k1 : nI (5 * m) + 1 = nI (5 * m + 1) := nI_add _ _
  have v1 : vp_in (nI (5 * m + 1)) L := vp_in' (by omega) (by omega)
  have c1 : (nI (5 * m + 1)).toNatClampNeg = 5 * m + 1 := i_nIc (by omega)
  have k2 : nI (5 * m) + 2 = nI (5 * m + 2) := nI_add _ _
  have v2 : vp_in (nI (5 * m + 2)) L := vp_in' (by omega) (by omega)
  have c2 : (nI (5 * m + 2)).toNatClampNeg = 5 * m + 2 := i_nIc (by omega)
  have k3 : nI (5 * m) + 3 = nI (5 * m + 3) := nI_add _ _
  have v3 : vp_in (nI (5 * m + 3)) L := vp_in' (by omega) (by omega)
  have c3 : (nI (5 * m + 3)).toNatClampNeg = 5 * m + 3 := i_nIc (by omega)
  have k5 : nI (5 * m) + 5 = nI (5 * (m + 1)) := nI_add _ _
  obtain ⟨v, s1, s2, r1, r2, hI2⟩ := v_convoy (xs (5 * m + 1)) (xs (5 * m + 2)) (xs (5 * m + 3)) hI
  simp only [r_L_law_209, r_L_law_210, r_L_law_211, r_L_law_212, r_L_law_213, r_L_law_214, r_L_law_215, r_L_law_216, r_L_law_217, r_L_law_218, r_L_law_219, r_L_law_220, r_L_law_221, r_L_law_222, r_L_law_223, r_L_law_224, r_L_law_225, ob_0, k1, v1, c1, k2, v2, c2, k3, v3, c3, List.cons_append, List.nil_append, List.append_nil, if_true, if_false, true_and, and_true, true_or, or_true, nm_b_some, Nat.add_zero, Nat.reduceLeDiff, and_self, true_and, and_true]
  refine r1 _ ?_
  simp only [r_L_law_228, r_L_law_229, r_L_law_230, r_L_law_231, r_L_law_232, r_L_law_233, r_L_law_234, r_L_law_235, r_L_law_236, r_L_law_237, r_L_law_238, r_L_law_239, r_L_law_240, r_L_law_241, r_L_law_242, r_L_law_243, r_L_law_244, ob_40, k1, v1, c1, k2, v2, c2, k3, v3, c3, List.cons_append, List.nil_append, List.append_nil, if_true, if_false, true_and, and_true, true_or, or_true, nm_b_some, Nat.add_zero, Nat.reduceLeDiff, and_self, true_and, and_true]
  refine r2 _ ?_
  simp only [r_L_law_247, r_L_law_893, r_L_law_896, List.cons_append, List.nil_append, List.append_nil, if_true, if_false, true_and, and_true, true_or, or_true, nm_b_some, k5]
  exact hn s2 hI2
theorem w_set {L : Nat} {xs : Nat → Int32} {z : UInt32} {Q : nm_K} {m : Nat} {s : nm_S} (hL : L ≤ 2560) (hm : 5 * m + 5 ≤ L) (hI : Inv s) (hn : ∀ t, Inv t → lawAt L xs z Q (m + 1) t) : x_L_law L xs 60 Q 252 [.float z, .ref 0, .ref 40, .int (nI (5 * m))] [] (rep s) 69 5998 := by
  have k1 : nI (5 * m) + 1 = nI (5 * m + 1) := nI_add _ _
  have v1 : vp_in (nI (5 * m + 1)) L := vp_in' (by omega) (by omega)
  have c1 : (nI (5 * m + 1)).toNatClampNeg = 5 * m + 1 := i_nIc (by omega)
  have k2 : nI (5 * m) + 2 = nI (5 * m + 2) := nI_add _ _
  have v2 : vp_in (nI (5 * m + 2)) L := vp_in' (by omega) (by omega)
  have c2 : (nI (5 * m + 2)).toNatClampNeg = 5 * m + 2 := i_nIc (by omega)
  have k3 : nI (5 * m) + 3 = nI (5 * m + 3) := nI_add _ _
  have v3 : vp_in (nI (5 * m + 3)) L := vp_in' (by omega) (by omega)
  have c3 : (nI (5 * m + 3)).toNatClampNeg = 5 * m + 3 := i_nIc (by omega)
  have k5 : nI (5 * m) + 5 = nI (5 * (m + 1)) := nI_add _ _
  obtain ⟨v, s1, s2, r1, r2, hI2⟩ := v_set (xs (5 * m + 1)) (xs (5 * m + 2)) (xs (5 * m + 3)) hI
  simp only [r_L_law_252, r_L_law_253, r_L_law_254, r_L_law_255, r_L_law_256, r_L_law_257, r_L_law_258, r_L_law_259, r_L_law_260, r_L_law_261, r_L_law_262, r_L_law_263, r_L_law_264, r_L_law_265, r_L_law_266, r_L_law_267, r_L_law_268, ob_0, k1, v1, c1, k2, v2, c2, k3, v3, c3, List.cons_append, List.nil_append, List.append_nil, if_true, if_false, true_and, and_true, true_or, or_true, nm_b_some, Nat.add_zero, Nat.reduceLeDiff, and_self, true_and, and_true]
  refine r1 _ ?_
  simp only [r_L_law_271, r_L_law_272, r_L_law_273, r_L_law_274, r_L_law_275, r_L_law_276, r_L_law_277, r_L_law_278, r_L_law_279, r_L_law_280, r_L_law_281, r_L_law_282, r_L_law_283, r_L_law_284, r_L_law_285, r_L_law_286, r_L_law_287, ob_40, k1, v1, c1, k2, v2, c2, k3, v3, c3, List.cons_append, List.nil_append, List.append_nil, if_true, if_false, true_and, and_true, true_or, or_true, nm_b_some, Nat.add_zero, Nat.reduceLeDiff, and_self, true_and, and_true]
  refine r2 _ ?_
  simp only [r_L_law_290, r_L_law_893, r_L_law_896, List.cons_append, List.nil_append, List.append_nil, if_true, if_false, true_and, and_true, true_or, or_true, nm_b_some, k5]
  exact hn s2 hI2
theorem w_least {L : Nat} {xs : Nat → Int32} {z : UInt32} {Q : nm_K} {m : Nat} {s : nm_S} (hL : L ≤ 2560) (hm : 5 * m + 5 ≤ L) (hI : Inv s) (hn : ∀ t, Inv t → lawAt L xs z Q (m + 1) t) : x_L_law L xs 60 Q 295 [.float z, .ref 0, .ref 40, .int (nI (5 * m))] [] (rep s) 69 5998 := by
  have k5 : nI (5 * m) + 5 = nI (5 * (m + 1)) := nI_add _ _
  obtain ⟨v, s1, s2, r1, r2, hI2⟩ := v_least  hI
  simp only [r_L_law_295, r_L_law_296, ob_0, List.cons_append, List.nil_append, List.append_nil, if_true, if_false, true_and, and_true, true_or, or_true, nm_b_some, Nat.add_zero, Nat.reduceLeDiff, and_self, true_and, and_true]
  refine r1 _ ?_
  simp only [r_L_law_299, r_L_law_300, ob_40, List.cons_append, List.nil_append, List.append_nil, if_true, if_false, true_and, and_true, true_or, or_true, nm_b_some, Nat.add_zero, Nat.reduceLeDiff, and_self, true_and, and_true]
  refine r2 _ ?_
  simp only [r_L_law_303, r_L_law_893, r_L_law_896, List.cons_append, List.nil_append, List.append_nil, if_true, if_false, true_and, and_true, true_or, or_true, nm_b_some, k5]
  exact hn s2 hI2
theorem w_share {L : Nat} {xs : Nat → Int32} {z : UInt32} {Q : nm_K} {m : Nat} {s : nm_S} (hL : L ≤ 2560) (hm : 5 * m + 5 ≤ L) (hI : Inv s) (hn : ∀ t, Inv t → lawAt L xs z Q (m + 1) t) : x_L_law L xs 60 Q 308 [.float z, .ref 0, .ref 40, .int (nI (5 * m))] [] (rep s) 69 5998 := by
  have k1 : nI (5 * m) + 1 = nI (5 * m + 1) := nI_add _ _
  have v1 : vp_in (nI (5 * m + 1)) L := vp_in' (by omega) (by omega)
  have c1 : (nI (5 * m + 1)).toNatClampNeg = 5 * m + 1 := i_nIc (by omega)
  have k5 : nI (5 * m) + 5 = nI (5 * (m + 1)) := nI_add _ _
  obtain ⟨v, s1, s2, r1, r2, hI2⟩ := v_share (xs (5 * m + 1)) hI
  simp only [r_L_law_308, r_L_law_309, r_L_law_310, r_L_law_311, r_L_law_312, r_L_law_313, r_L_law_314, ob_0, k1, v1, c1, List.cons_append, List.nil_append, List.append_nil, if_true, if_false, true_and, and_true, true_or, or_true, nm_b_some, Nat.add_zero, Nat.reduceLeDiff, and_self, true_and, and_true]
  refine r1 _ ?_
  simp only [r_L_law_317, r_L_law_318, r_L_law_319, r_L_law_320, r_L_law_321, r_L_law_322, r_L_law_323, ob_40, k1, v1, c1, List.cons_append, List.nil_append, List.append_nil, if_true, if_false, true_and, and_true, true_or, or_true, nm_b_some, Nat.add_zero, Nat.reduceLeDiff, and_self, true_and, and_true]
  refine r2 _ ?_
  simp only [r_L_law_326, r_L_law_893, r_L_law_896, List.cons_append, List.nil_append, List.append_nil, if_true, if_false, true_and, and_true, true_or, or_true, nm_b_some, k5]
  exact hn s2 hI2
theorem w_settle {L : Nat} {xs : Nat → Int32} {z : UInt32} {Q : nm_K} {m : Nat} {s : nm_S} (hL : L ≤ 2560) (hm : 5 * m + 5 ≤ L) (hI : Inv s) (hn : ∀ t, Inv t → lawAt L xs z Q (m + 1) t) : x_L_law L xs 60 Q 331 [.float z, .ref 0, .ref 40, .int (nI (5 * m))] [] (rep s) 69 5998 := by
  have k5 : nI (5 * m) + 5 = nI (5 * (m + 1)) := nI_add _ _
  obtain ⟨v, s1, s2, r1, r2, hI2⟩ := v_settle  hI
  simp only [r_L_law_331, r_L_law_332, ob_0, List.cons_append, List.nil_append, List.append_nil, if_true, if_false, true_and, and_true, true_or, or_true, nm_b_some, Nat.add_zero, Nat.reduceLeDiff, and_self, true_and, and_true]
  refine r1 _ ?_
  simp only [r_L_law_335, r_L_law_336, ob_40, List.cons_append, List.nil_append, List.append_nil, if_true, if_false, true_and, and_true, true_or, or_true, nm_b_some, Nat.add_zero, Nat.reduceLeDiff, and_self, true_and, and_true]
  refine r2 _ ?_
  simp only [r_L_law_339, r_L_law_893, r_L_law_896, List.cons_append, List.nil_append, List.append_nil, if_true, if_false, true_and, and_true, true_or, or_true, nm_b_some, k5]
  exact hn s2 hI2
theorem w_late {L : Nat} {xs : Nat → Int32} {z : UInt32} {Q : nm_K} {m : Nat} {s : nm_S} (hL : L ≤ 2560) (hm : 5 * m + 5 ≤ L) (hI : Inv s) (hn : ∀ t, Inv t → lawAt L xs z Q (m + 1) t) : x_L_law L xs 60 Q 344 [.float z, .ref 0, .ref 40, .int (nI (5 * m))] [] (rep s) 69 5998 := by
  have k1 : nI (5 * m) + 1 = nI (5 * m + 1) := nI_add _ _
  have v1 : vp_in (nI (5 * m + 1)) L := vp_in' (by omega) (by omega)
  have c1 : (nI (5 * m + 1)).toNatClampNeg = 5 * m + 1 := i_nIc (by omega)
  have k2 : nI (5 * m) + 2 = nI (5 * m + 2) := nI_add _ _
  have v2 : vp_in (nI (5 * m + 2)) L := vp_in' (by omega) (by omega)
  have c2 : (nI (5 * m + 2)).toNatClampNeg = 5 * m + 2 := i_nIc (by omega)
  have k5 : nI (5 * m) + 5 = nI (5 * (m + 1)) := nI_add _ _
  obtain ⟨v, s1, s2, r1, r2, hI2⟩ := v_late (xs (5 * m + 1)) (xs (5 * m + 2)) hI
  simp only [r_L_law_344, r_L_law_345, r_L_law_346, r_L_law_347, r_L_law_348, r_L_law_349, r_L_law_350, r_L_law_351, r_L_law_352, r_L_law_353, r_L_law_354, r_L_law_355, ob_0, k1, v1, c1, k2, v2, c2, List.cons_append, List.nil_append, List.append_nil, if_true, if_false, true_and, and_true, true_or, or_true, nm_b_some, Nat.add_zero, Nat.reduceLeDiff, and_self, true_and, and_true]
  refine r1 _ ?_
  simp only [r_L_law_358, r_L_law_359, r_L_law_360, r_L_law_361, r_L_law_362, r_L_law_363, r_L_law_364, r_L_law_365, r_L_law_366, r_L_law_367, r_L_law_368, r_L_law_369, ob_40, k1, v1, c1, k2, v2, c2, List.cons_append, List.nil_append, List.append_nil, if_true, if_false, true_and, and_true, true_or, or_true, nm_b_some, Nat.add_zero, Nat.reduceLeDiff, and_self, true_and, and_true]
  refine r2 _ ?_
  simp only [r_L_law_372, r_L_law_893, r_L_law_896, List.cons_append, List.nil_append, List.append_nil, if_true, if_false, true_and, and_true, true_or, or_true, nm_b_some, k5]
  exact hn s2 hI2
theorem w_road {L : Nat} {xs : Nat → Int32} {z : UInt32} {Q : nm_K} {m : Nat} {s : nm_S} (hL : L ≤ 2560) (hm : 5 * m + 5 ≤ L) (hI : Inv s) (hn : ∀ t, Inv t → lawAt L xs z Q (m + 1) t) : x_L_law L xs 60 Q 377 [.float z, .ref 0, .ref 40, .int (nI (5 * m))] [] (rep s) 69 5998 := by
  have k1 : nI (5 * m) + 1 = nI (5 * m + 1) := nI_add _ _
  have v1 : vp_in (nI (5 * m + 1)) L := vp_in' (by omega) (by omega)
  have c1 : (nI (5 * m + 1)).toNatClampNeg = 5 * m + 1 := i_nIc (by omega)
  have k2 : nI (5 * m) + 2 = nI (5 * m + 2) := nI_add _ _
  have v2 : vp_in (nI (5 * m + 2)) L := vp_in' (by omega) (by omega)
  have c2 : (nI (5 * m + 2)).toNatClampNeg = 5 * m + 2 := i_nIc (by omega)
  have k3 : nI (5 * m) + 3 = nI (5 * m + 3) := nI_add _ _
  have v3 : vp_in (nI (5 * m + 3)) L := vp_in' (by omega) (by omega)
  have c3 : (nI (5 * m + 3)).toNatClampNeg = 5 * m + 3 := i_nIc (by omega)
  have k5 : nI (5 * m) + 5 = nI (5 * (m + 1)) := nI_add _ _
  obtain ⟨v, s1, s2, r1, r2, hI2⟩ := v_road (xs (5 * m + 1)) (xs (5 * m + 2)) (xs (5 * m + 3)) hI
  simp only [r_L_law_377, r_L_law_378, r_L_law_379, r_L_law_380, r_L_law_381, r_L_law_382, r_L_law_383, r_L_law_384, r_L_law_385, r_L_law_386, r_L_law_387, r_L_law_388, r_L_law_389, r_L_law_390, r_L_law_391, r_L_law_392, r_L_law_393, ob_0, k1, v1, c1, k2, v2, c2, k3, v3, c3, List.cons_append, List.nil_append, List.append_nil, if_true, if_false, true_and, and_true, true_or, or_true, nm_b_some, Nat.add_zero, Nat.reduceLeDiff, and_self, true_and, and_true]
  refine r1 _ ?_
  simp only [r_L_law_396, r_L_law_397, r_L_law_398, r_L_law_399, r_L_law_400, r_L_law_401, r_L_law_402, r_L_law_403, r_L_law_404, r_L_law_405, r_L_law_406, r_L_law_407, r_L_law_408, r_L_law_409, r_L_law_410, r_L_law_411, r_L_law_412, ob_40, k1, v1, c1, k2, v2, c2, k3, v3, c3, List.cons_append, List.nil_append, List.append_nil, if_true, if_false, true_and, and_true, true_or, or_true, nm_b_some, Nat.add_zero, Nat.reduceLeDiff, and_self, true_and, and_true]
  refine r2 _ ?_
  simp only [r_L_law_415, r_L_law_893, r_L_law_896, List.cons_append, List.nil_append, List.append_nil, if_true, if_false, true_and, and_true, true_or, or_true, nm_b_some, k5]
  exact hn s2 hI2
theorem w_place {L : Nat} {xs : Nat → Int32} {z : UInt32} {Q : nm_K} {m : Nat} {s : nm_S} (hL : L ≤ 2560) (hm : 5 * m + 5 ≤ L) (hI : Inv s) (hn : ∀ t, Inv t → lawAt L xs z Q (m + 1) t) : x_L_law L xs 60 Q 420 [.float z, .ref 0, .ref 40, .int (nI (5 * m))] [] (rep s) 69 5998 := by
  have k1 : nI (5 * m) + 1 = nI (5 * m + 1) := nI_add _ _
  have v1 : vp_in (nI (5 * m + 1)) L := vp_in' (by omega) (by omega)
  have c1 : (nI (5 * m + 1)).toNatClampNeg = 5 * m + 1 := i_nIc (by omega)
  have k2 : nI (5 * m) + 2 = nI (5 * m + 2) := nI_add _ _
  have v2 : vp_in (nI (5 * m + 2)) L := vp_in' (by omega) (by omega)
  have c2 : (nI (5 * m + 2)).toNatClampNeg = 5 * m + 2 := i_nIc (by omega)
  have k3 : nI (5 * m) + 3 = nI (5 * m + 3) := nI_add _ _
  have v3 : vp_in (nI (5 * m + 3)) L := vp_in' (by omega) (by omega)
  have c3 : (nI (5 * m + 3)).toNatClampNeg = 5 * m + 3 := i_nIc (by omega)
  have k5 : nI (5 * m) + 5 = nI (5 * (m + 1)) := nI_add _ _
  obtain ⟨v, s1, s2, r1, r2, hI2⟩ := v_place (xs (5 * m + 1)) (xs (5 * m + 2)) (xs (5 * m + 3)) hI
  simp only [r_L_law_420, r_L_law_421, r_L_law_422, r_L_law_423, r_L_law_424, r_L_law_425, r_L_law_426, r_L_law_427, r_L_law_428, r_L_law_429, r_L_law_430, r_L_law_431, r_L_law_432, r_L_law_433, r_L_law_434, r_L_law_435, r_L_law_436, ob_0, k1, v1, c1, k2, v2, c2, k3, v3, c3, List.cons_append, List.nil_append, List.append_nil, if_true, if_false, true_and, and_true, true_or, or_true, nm_b_some, Nat.add_zero, Nat.reduceLeDiff, and_self, true_and, and_true]
  refine r1 _ ?_
  simp only [r_L_law_439, r_L_law_440, r_L_law_441, r_L_law_442, r_L_law_443, r_L_law_444, r_L_law_445, r_L_law_446, r_L_law_447, r_L_law_448, r_L_law_449, r_L_law_450, r_L_law_451, r_L_law_452, r_L_law_453, r_L_law_454, r_L_law_455, ob_40, k1, v1, c1, k2, v2, c2, k3, v3, c3, List.cons_append, List.nil_append, List.append_nil, if_true, if_false, true_and, and_true, true_or, or_true, nm_b_some, Nat.add_zero, Nat.reduceLeDiff, and_self, true_and, and_true]
  refine r2 _ ?_
  simp only [r_L_law_458, r_L_law_893, r_L_law_896, List.cons_append, List.nil_append, List.append_nil, if_true, if_false, true_and, and_true, true_or, or_true, nm_b_some, k5]
  exact hn s2 hI2
theorem w_lacks {L : Nat} {xs : Nat → Int32} {z : UInt32} {Q : nm_K} {m : Nat} {s : nm_S} (hL : L ≤ 2560) (hm : 5 * m + 5 ≤ L) (hI : Inv s) (hn : ∀ t, Inv t → lawAt L xs z Q (m + 1) t) : x_L_law L xs 60 Q 463 [.float z, .ref 0, .ref 40, .int (nI (5 * m))] [] (rep s) 69 5998 := by
  have k1 : nI (5 * m) + 1 = nI (5 * m + 1) := nI_add _ _
  have v1 : vp_in (nI (5 * m + 1)) L := vp_in' (by omega) (by omega)
  have c1 : (nI (5 * m + 1)).toNatClampNeg = 5 * m + 1 := i_nIc (by omega)
  have k2 : nI (5 * m) + 2 = nI (5 * m + 2) := nI_add _ _
  have v2 : vp_in (nI (5 * m + 2)) L := vp_in' (by omega) (by omega)
  have c2 : (nI (5 * m + 2)).toNatClampNeg = 5 * m + 2 := i_nIc (by omega)
  have k5 : nI (5 * m) + 5 = nI (5 * (m + 1)) := nI_add _ _
  obtain ⟨v, s1, s2, r1, r2, hI2⟩ := v_lacks (xs (5 * m + 1)) (xs (5 * m + 2)) hI
  simp only [r_L_law_463, r_L_law_464, r_L_law_465, r_L_law_466, r_L_law_467, r_L_law_468, r_L_law_469, r_L_law_470, r_L_law_471, r_L_law_472, r_L_law_473, r_L_law_474, ob_0, k1, v1, c1, k2, v2, c2, List.cons_append, List.nil_append, List.append_nil, if_true, if_false, true_and, and_true, true_or, or_true, nm_b_some, Nat.add_zero, Nat.reduceLeDiff, and_self, true_and, and_true]
  refine r1 _ ?_
  simp only [r_L_law_477, r_L_law_478, r_L_law_479, r_L_law_480, r_L_law_481, r_L_law_482, r_L_law_483, r_L_law_484, r_L_law_485, r_L_law_486, r_L_law_487, r_L_law_488, ob_40, k1, v1, c1, k2, v2, c2, List.cons_append, List.nil_append, List.append_nil, if_true, if_false, true_and, and_true, true_or, or_true, nm_b_some, Nat.add_zero, Nat.reduceLeDiff, and_self, true_and, and_true]
  refine r2 _ ?_
  simp only [r_L_law_491, r_L_law_893, r_L_law_896, List.cons_append, List.nil_append, List.append_nil, if_true, if_false, true_and, and_true, true_or, or_true, nm_b_some, k5]
  exact hn s2 hI2
theorem w_many {L : Nat} {xs : Nat → Int32} {z : UInt32} {Q : nm_K} {m : Nat} {s : nm_S} (hL : L ≤ 2560) (hm : 5 * m + 5 ≤ L) (hI : Inv s) (hn : ∀ t, Inv t → lawAt L xs z Q (m + 1) t) : x_L_law L xs 60 Q 496 [.float z, .ref 0, .ref 40, .int (nI (5 * m))] [] (rep s) 69 5998 := by
  have k1 : nI (5 * m) + 1 = nI (5 * m + 1) := nI_add _ _
  have v1 : vp_in (nI (5 * m + 1)) L := vp_in' (by omega) (by omega)
  have c1 : (nI (5 * m + 1)).toNatClampNeg = 5 * m + 1 := i_nIc (by omega)
  have k2 : nI (5 * m) + 2 = nI (5 * m + 2) := nI_add _ _
  have v2 : vp_in (nI (5 * m + 2)) L := vp_in' (by omega) (by omega)
  have c2 : (nI (5 * m + 2)).toNatClampNeg = 5 * m + 2 := i_nIc (by omega)
  have k3 : nI (5 * m) + 3 = nI (5 * m + 3) := nI_add _ _
  have v3 : vp_in (nI (5 * m + 3)) L := vp_in' (by omega) (by omega)
  have c3 : (nI (5 * m + 3)).toNatClampNeg = 5 * m + 3 := i_nIc (by omega)
  have k5 : nI (5 * m) + 5 = nI (5 * (m + 1)) := nI_add _ _
  obtain ⟨v, s1, s2, r1, r2, hI2⟩ := v_many (xs (5 * m + 1)) (xs (5 * m + 2)) (xs (5 * m + 3)) hI
  simp only [r_L_law_496, r_L_law_497, r_L_law_498, r_L_law_499, r_L_law_500, r_L_law_501, r_L_law_502, r_L_law_503, r_L_law_504, r_L_law_505, r_L_law_506, r_L_law_507, r_L_law_508, r_L_law_509, r_L_law_510, r_L_law_511, r_L_law_512, ob_0, k1, v1, c1, k2, v2, c2, k3, v3, c3, List.cons_append, List.nil_append, List.append_nil, if_true, if_false, true_and, and_true, true_or, or_true, nm_b_some, Nat.add_zero, Nat.reduceLeDiff, and_self, true_and, and_true]
  refine r1 _ ?_
  simp only [r_L_law_515, r_L_law_516, r_L_law_517, r_L_law_518, r_L_law_519, r_L_law_520, r_L_law_521, r_L_law_522, r_L_law_523, r_L_law_524, r_L_law_525, r_L_law_526, r_L_law_527, r_L_law_528, r_L_law_529, r_L_law_530, r_L_law_531, ob_40, k1, v1, c1, k2, v2, c2, k3, v3, c3, List.cons_append, List.nil_append, List.append_nil, if_true, if_false, true_and, and_true, true_or, or_true, nm_b_some, Nat.add_zero, Nat.reduceLeDiff, and_self, true_and, and_true]
  refine r2 _ ?_
  simp only [r_L_law_534, r_L_law_893, r_L_law_896, List.cons_append, List.nil_append, List.append_nil, if_true, if_false, true_and, and_true, true_or, or_true, nm_b_some, k5]
  exact hn s2 hI2
theorem w_stage {L : Nat} {xs : Nat → Int32} {z : UInt32} {Q : nm_K} {m : Nat} {s : nm_S} (hL : L ≤ 2560) (hm : 5 * m + 5 ≤ L) (hI : Inv s) (hn : ∀ t, Inv t → lawAt L xs z Q (m + 1) t) : x_L_law L xs 60 Q 539 [.float z, .ref 0, .ref 40, .int (nI (5 * m))] [] (rep s) 69 5998 := by
  have k1 : nI (5 * m) + 1 = nI (5 * m + 1) := nI_add _ _
  have v1 : vp_in (nI (5 * m + 1)) L := vp_in' (by omega) (by omega)
  have c1 : (nI (5 * m + 1)).toNatClampNeg = 5 * m + 1 := i_nIc (by omega)
  have k2 : nI (5 * m) + 2 = nI (5 * m + 2) := nI_add _ _
  have v2 : vp_in (nI (5 * m + 2)) L := vp_in' (by omega) (by omega)
  have c2 : (nI (5 * m + 2)).toNatClampNeg = 5 * m + 2 := i_nIc (by omega)
  have k3 : nI (5 * m) + 3 = nI (5 * m + 3) := nI_add _ _
  have v3 : vp_in (nI (5 * m + 3)) L := vp_in' (by omega) (by omega)
  have c3 : (nI (5 * m + 3)).toNatClampNeg = 5 * m + 3 := i_nIc (by omega)
  have k4 : nI (5 * m) + 4 = nI (5 * m + 4) := nI_add _ _
  have v4 : vp_in (nI (5 * m + 4)) L := vp_in' (by omega) (by omega)
  have c4 : (nI (5 * m + 4)).toNatClampNeg = 5 * m + 4 := i_nIc (by omega)
  have k5 : nI (5 * m) + 5 = nI (5 * (m + 1)) := nI_add _ _
  by_cases hp : xs (5 * m + 4) = 0
  · obtain ⟨v, s1, s2, r1, r2, hI2⟩ := v_stage (xs (5 * m + 1)) (xs (5 * m + 2)) (xs (5 * m + 3)) 0 (by decide) hI
    simp only [r_L_law_539, r_L_law_540, r_L_law_541, r_L_law_542, r_L_law_543, r_L_law_544, r_L_law_545, r_L_law_546, r_L_law_547, r_L_law_548, r_L_law_549, r_L_law_550, r_L_law_551, r_L_law_552, r_L_law_553, r_L_law_554, r_L_law_555, r_L_law_556, r_L_law_557, r_L_law_558, r_L_law_559, r_L_law_560, r_L_law_563, r_L_law_564, r_L_law_567, r_L_law_568, ob_0, k1, v1, c1, k2, v2, c2, k3, v3, c3, k4, v4, c4, List.cons_append, List.nil_append, List.append_nil, if_true, if_false, true_and, and_true, true_or, or_true, nm_b_some, Nat.add_zero, Nat.reduceLeDiff, and_self, true_and, and_true, hp]
    refine r1 _ ?_
    simp only [r_L_law_571, r_L_law_572, r_L_law_573, r_L_law_574, r_L_law_575, r_L_law_576, r_L_law_577, r_L_law_578, r_L_law_579, r_L_law_580, r_L_law_581, r_L_law_582, r_L_law_583, r_L_law_584, r_L_law_585, r_L_law_586, r_L_law_587, r_L_law_588, r_L_law_589, r_L_law_590, r_L_law_591, r_L_law_592, r_L_law_595, r_L_law_596, r_L_law_599, r_L_law_600, ob_40, k1, v1, c1, k2, v2, c2, k3, v3, c3, k4, v4, c4, List.cons_append, List.nil_append, List.append_nil, if_true, if_false, true_and, and_true, true_or, or_true, nm_b_some, Nat.add_zero, Nat.reduceLeDiff, and_self, true_and, and_true, hp]
    refine r2 _ ?_
    simp only [r_L_law_603, r_L_law_893, r_L_law_896, List.cons_append, List.nil_append, List.append_nil, if_true, if_false, true_and, and_true, true_or, or_true, nm_b_some, k5]
    exact hn s2 hI2
  · obtain ⟨v, s1, s2, r1, r2, hI2⟩ := v_stage (xs (5 * m + 1)) (xs (5 * m + 2)) (xs (5 * m + 3)) 1 (by decide) hI
    simp only [r_L_law_539, r_L_law_540, r_L_law_541, r_L_law_542, r_L_law_543, r_L_law_544, r_L_law_545, r_L_law_546, r_L_law_547, r_L_law_548, r_L_law_549, r_L_law_550, r_L_law_551, r_L_law_552, r_L_law_553, r_L_law_554, r_L_law_555, r_L_law_556, r_L_law_557, r_L_law_558, r_L_law_559, r_L_law_560, r_L_law_563, r_L_law_564, r_L_law_567, r_L_law_568, ob_0, k1, v1, c1, k2, v2, c2, k3, v3, c3, k4, v4, c4, List.cons_append, List.nil_append, List.append_nil, if_true, if_false, true_and, and_true, true_or, or_true, nm_b_some, Nat.add_zero, Nat.reduceLeDiff, and_self, true_and, and_true, hp]
    refine r1 _ ?_
    simp only [r_L_law_571, r_L_law_572, r_L_law_573, r_L_law_574, r_L_law_575, r_L_law_576, r_L_law_577, r_L_law_578, r_L_law_579, r_L_law_580, r_L_law_581, r_L_law_582, r_L_law_583, r_L_law_584, r_L_law_585, r_L_law_586, r_L_law_587, r_L_law_588, r_L_law_589, r_L_law_590, r_L_law_591, r_L_law_592, r_L_law_595, r_L_law_596, r_L_law_599, r_L_law_600, ob_40, k1, v1, c1, k2, v2, c2, k3, v3, c3, k4, v4, c4, List.cons_append, List.nil_append, List.append_nil, if_true, if_false, true_and, and_true, true_or, or_true, nm_b_some, Nat.add_zero, Nat.reduceLeDiff, and_self, true_and, and_true, hp]
    refine r2 _ ?_
    simp only [r_L_law_603, r_L_law_893, r_L_law_896, List.cons_append, List.nil_append, List.append_nil, if_true, if_false, true_and, and_true, true_or, or_true, nm_b_some, k5]
    exact hn s2 hI2
theorem w_begin {L : Nat} {xs : Nat → Int32} {z : UInt32} {Q : nm_K} {m : Nat} {s : nm_S} (hL : L ≤ 2560) (hm : 5 * m + 5 ≤ L) (hI : Inv s) (hn : ∀ t, Inv t → lawAt L xs z Q (m + 1) t) : x_L_law L xs 60 Q 608 [.float z, .ref 0, .ref 40, .int (nI (5 * m))] [] (rep s) 69 5998 := by
  have k1 : nI (5 * m) + 1 = nI (5 * m + 1) := nI_add _ _
  have v1 : vp_in (nI (5 * m + 1)) L := vp_in' (by omega) (by omega)
  have c1 : (nI (5 * m + 1)).toNatClampNeg = 5 * m + 1 := i_nIc (by omega)
  have k5 : nI (5 * m) + 5 = nI (5 * (m + 1)) := nI_add _ _
  obtain ⟨v, s1, s2, r1, r2, hI2⟩ := v_begin (xs (5 * m + 1)) hI
  simp only [r_L_law_608, r_L_law_609, r_L_law_610, r_L_law_611, r_L_law_612, r_L_law_613, r_L_law_614, ob_0, k1, v1, c1, List.cons_append, List.nil_append, List.append_nil, if_true, if_false, true_and, and_true, true_or, or_true, nm_b_some, Nat.add_zero, Nat.reduceLeDiff, and_self, true_and, and_true]
  refine r1 _ ?_
  simp only [r_L_law_617, r_L_law_618, r_L_law_619, r_L_law_620, r_L_law_621, r_L_law_622, r_L_law_623, ob_40, k1, v1, c1, List.cons_append, List.nil_append, List.append_nil, if_true, if_false, true_and, and_true, true_or, or_true, nm_b_some, Nat.add_zero, Nat.reduceLeDiff, and_self, true_and, and_true]
  refine r2 _ ?_
  simp only [r_L_law_626, r_L_law_893, r_L_law_896, List.cons_append, List.nil_append, List.append_nil, if_true, if_false, true_and, and_true, true_or, or_true, nm_b_some, k5]
  exact hn s2 hI2
theorem w_fail {L : Nat} {xs : Nat → Int32} {z : UInt32} {Q : nm_K} {m : Nat} {s : nm_S} (hL : L ≤ 2560) (hm : 5 * m + 5 ≤ L) (hI : Inv s) (hn : ∀ t, Inv t → lawAt L xs z Q (m + 1) t) : x_L_law L xs 60 Q 631 [.float z, .ref 0, .ref 40, .int (nI (5 * m))] [] (rep s) 69 5998 := by
  have k1 : nI (5 * m) + 1 = nI (5 * m + 1) := nI_add _ _
  have v1 : vp_in (nI (5 * m + 1)) L := vp_in' (by omega) (by omega)
  have c1 : (nI (5 * m + 1)).toNatClampNeg = 5 * m + 1 := i_nIc (by omega)
  have k5 : nI (5 * m) + 5 = nI (5 * (m + 1)) := nI_add _ _
  obtain ⟨v, s1, s2, r1, r2, hI2⟩ := v_fail (xs (5 * m + 1)) hI
  simp only [r_L_law_631, r_L_law_632, r_L_law_633, r_L_law_634, r_L_law_635, r_L_law_636, r_L_law_637, ob_0, k1, v1, c1, List.cons_append, List.nil_append, List.append_nil, if_true, if_false, true_and, and_true, true_or, or_true, nm_b_some, Nat.add_zero, Nat.reduceLeDiff, and_self, true_and, and_true]
  refine r1 _ ?_
  simp only [r_L_law_640, r_L_law_641, r_L_law_642, r_L_law_643, r_L_law_644, r_L_law_645, r_L_law_646, ob_40, k1, v1, c1, List.cons_append, List.nil_append, List.append_nil, if_true, if_false, true_and, and_true, true_or, or_true, nm_b_some, Nat.add_zero, Nat.reduceLeDiff, and_self, true_and, and_true]
  refine r2 _ ?_
  simp only [r_L_law_649, r_L_law_893, r_L_law_896, List.cons_append, List.nil_append, List.append_nil, if_true, if_false, true_and, and_true, true_or, or_true, nm_b_some, k5]
  exact hn s2 hI2
theorem w_tick {L : Nat} {xs : Nat → Int32} {z : UInt32} {Q : nm_K} {m : Nat} {s : nm_S} (hL : L ≤ 2560) (hm : 5 * m + 5 ≤ L) (hI : Inv s) (hn : ∀ t, Inv t → lawAt L xs z Q (m + 1) t) : x_L_law L xs 60 Q 654 [.float z, .ref 0, .ref 40, .int (nI (5 * m))] [] (rep s) 69 5998 := by
  have k1 : nI (5 * m) + 1 = nI (5 * m + 1) := nI_add _ _
  have v1 : vp_in (nI (5 * m + 1)) L := vp_in' (by omega) (by omega)
  have c1 : (nI (5 * m + 1)).toNatClampNeg = 5 * m + 1 := i_nIc (by omega)
  have k5 : nI (5 * m) + 5 = nI (5 * (m + 1)) := nI_add _ _
  obtain ⟨v, s1, s2, r1, r2, hI2⟩ := v_tick (xs (5 * m + 1)) hI
  simp only [r_L_law_654, r_L_law_655, r_L_law_656, r_L_law_657, r_L_law_658, r_L_law_659, r_L_law_660, ob_0, k1, v1, c1, List.cons_append, List.nil_append, List.append_nil, if_true, if_false, true_and, and_true, true_or, or_true, nm_b_some, Nat.add_zero, Nat.reduceLeDiff, and_self, true_and, and_true]
  refine r1 _ ?_
  simp only [r_L_law_663, r_L_law_664, r_L_law_665, r_L_law_666, r_L_law_667, r_L_law_668, r_L_law_669, ob_40, k1, v1, c1, List.cons_append, List.nil_append, List.append_nil, if_true, if_false, true_and, and_true, true_or, or_true, nm_b_some, Nat.add_zero, Nat.reduceLeDiff, and_self, true_and, and_true]
  refine r2 _ ?_
  simp only [r_L_law_672, r_L_law_893, r_L_law_896, List.cons_append, List.nil_append, List.append_nil, if_true, if_false, true_and, and_true, true_or, or_true, nm_b_some, k5]
  exact hn s2 hI2
theorem w_told {L : Nat} {xs : Nat → Int32} {z : UInt32} {Q : nm_K} {m : Nat} {s : nm_S} (hL : L ≤ 2560) (hm : 5 * m + 5 ≤ L) (hI : Inv s) (hn : ∀ t, Inv t → lawAt L xs z Q (m + 1) t) : x_L_law L xs 60 Q 677 [.float z, .ref 0, .ref 40, .int (nI (5 * m))] [] (rep s) 69 5998 := by
  have k1 : nI (5 * m) + 1 = nI (5 * m + 1) := nI_add _ _
  have v1 : vp_in (nI (5 * m + 1)) L := vp_in' (by omega) (by omega)
  have c1 : (nI (5 * m + 1)).toNatClampNeg = 5 * m + 1 := i_nIc (by omega)
  have k2 : nI (5 * m) + 2 = nI (5 * m + 2) := nI_add _ _
  have v2 : vp_in (nI (5 * m + 2)) L := vp_in' (by omega) (by omega)
  have c2 : (nI (5 * m + 2)).toNatClampNeg = 5 * m + 2 := i_nIc (by omega)
  have k5 : nI (5 * m) + 5 = nI (5 * (m + 1)) := nI_add _ _
  obtain ⟨v, s1, s2, r1, r2, hI2⟩ := v_told (xs (5 * m + 1)) (xs (5 * m + 2)) hI
  simp only [r_L_law_677, r_L_law_678, r_L_law_679, r_L_law_680, r_L_law_681, r_L_law_682, r_L_law_683, r_L_law_684, r_L_law_685, r_L_law_686, r_L_law_687, r_L_law_688, ob_0, k1, v1, c1, k2, v2, c2, List.cons_append, List.nil_append, List.append_nil, if_true, if_false, true_and, and_true, true_or, or_true, nm_b_some, Nat.add_zero, Nat.reduceLeDiff, and_self, true_and, and_true]
  refine r1 _ ?_
  simp only [r_L_law_691, r_L_law_692, r_L_law_693, r_L_law_694, r_L_law_695, r_L_law_696, r_L_law_697, r_L_law_698, r_L_law_699, r_L_law_700, r_L_law_701, r_L_law_702, ob_40, k1, v1, c1, k2, v2, c2, List.cons_append, List.nil_append, List.append_nil, if_true, if_false, true_and, and_true, true_or, or_true, nm_b_some, Nat.add_zero, Nat.reduceLeDiff, and_self, true_and, and_true]
  refine r2 _ ?_
  simp only [r_L_law_705, r_L_law_893, r_L_law_896, List.cons_append, List.nil_append, List.append_nil, if_true, if_false, true_and, and_true, true_or, or_true, nm_b_some, k5]
  exact hn s2 hI2
theorem w_back {L : Nat} {xs : Nat → Int32} {z : UInt32} {Q : nm_K} {m : Nat} {s : nm_S} (hL : L ≤ 2560) (hm : 5 * m + 5 ≤ L) (hI : Inv s) (hn : ∀ t, Inv t → lawAt L xs z Q (m + 1) t) : x_L_law L xs 60 Q 710 [.float z, .ref 0, .ref 40, .int (nI (5 * m))] [] (rep s) 69 5998 := by
  have k5 : nI (5 * m) + 5 = nI (5 * (m + 1)) := nI_add _ _
  obtain ⟨v, s1, s2, r1, r2, hI2⟩ := v_back  hI
  simp only [r_L_law_710, r_L_law_711, ob_0, List.cons_append, List.nil_append, List.append_nil, if_true, if_false, true_and, and_true, true_or, or_true, nm_b_some, Nat.add_zero, Nat.reduceLeDiff, and_self, true_and, and_true]
  refine r1 _ ?_
  simp only [r_L_law_714, r_L_law_715, ob_40, List.cons_append, List.nil_append, List.append_nil, if_true, if_false, true_and, and_true, true_or, or_true, nm_b_some, Nat.add_zero, Nat.reduceLeDiff, and_self, true_and, and_true]
  refine r2 _ ?_
  simp only [r_L_law_718, r_L_law_893, r_L_law_896, List.cons_append, List.nil_append, List.append_nil, if_true, if_false, true_and, and_true, true_or, or_true, nm_b_some, k5]
  exact hn s2 hI2
theorem w_whole {L : Nat} {xs : Nat → Int32} {z : UInt32} {Q : nm_K} {m : Nat} {s : nm_S} (hL : L ≤ 2560) (hm : 5 * m + 5 ≤ L) (hI : Inv s) (hn : ∀ t, Inv t → lawAt L xs z Q (m + 1) t) : x_L_law L xs 60 Q 723 [.float z, .ref 0, .ref 40, .int (nI (5 * m))] [] (rep s) 69 5998 := by
  have k5 : nI (5 * m) + 5 = nI (5 * (m + 1)) := nI_add _ _
  obtain ⟨v, s1, s2, r1, r2, hI2⟩ := v_whole  hI
  simp only [r_L_law_723, r_L_law_724, ob_0, List.cons_append, List.nil_append, List.append_nil, if_true, if_false, true_and, and_true, true_or, or_true, nm_b_some, Nat.add_zero, Nat.reduceLeDiff, and_self, true_and, and_true]
  refine r1 _ ?_
  simp only [r_L_law_727, r_L_law_728, ob_40, List.cons_append, List.nil_append, List.append_nil, if_true, if_false, true_and, and_true, true_or, or_true, nm_b_some, Nat.add_zero, Nat.reduceLeDiff, and_self, true_and, and_true]
  refine r2 _ ?_
  simp only [r_L_law_731, r_L_law_893, r_L_law_896, List.cons_append, List.nil_append, List.append_nil, if_true, if_false, true_and, and_true, true_or, or_true, nm_b_some, k5]
  exact hn s2 hI2
theorem w_ready {L : Nat} {xs : Nat → Int32} {z : UInt32} {Q : nm_K} {m : Nat} {s : nm_S} (hL : L ≤ 2560) (hm : 5 * m + 5 ≤ L) (hI : Inv s) (hn : ∀ t, Inv t → lawAt L xs z Q (m + 1) t) : x_L_law L xs 60 Q 736 [.float z, .ref 0, .ref 40, .int (nI (5 * m))] [] (rep s) 69 5998 := by
  have k5 : nI (5 * m) + 5 = nI (5 * (m + 1)) := nI_add _ _
  obtain ⟨v, s1, s2, r1, r2, hI2⟩ := v_ready  hI
  simp only [r_L_law_736, r_L_law_737, ob_0, List.cons_append, List.nil_append, List.append_nil, if_true, if_false, true_and, and_true, true_or, or_true, nm_b_some, Nat.add_zero, Nat.reduceLeDiff, and_self, true_and, and_true]
  refine r1 _ ?_
  simp only [r_L_law_740, r_L_law_741, ob_40, List.cons_append, List.nil_append, List.append_nil, if_true, if_false, true_and, and_true, true_or, or_true, nm_b_some, Nat.add_zero, Nat.reduceLeDiff, and_self, true_and, and_true]
  refine r2 _ ?_
  simp only [r_L_law_744, r_L_law_893, r_L_law_896, List.cons_append, List.nil_append, List.append_nil, if_true, if_false, true_and, and_true, true_or, or_true, nm_b_some, k5]
  exact hn s2 hI2
theorem w_find {L : Nat} {xs : Nat → Int32} {z : UInt32} {Q : nm_K} {m : Nat} {s : nm_S} (hL : L ≤ 2560) (hm : 5 * m + 5 ≤ L) (hI : Inv s) (hn : ∀ t, Inv t → lawAt L xs z Q (m + 1) t) : x_L_law L xs 60 Q 749 [.float z, .ref 0, .ref 40, .int (nI (5 * m))] [] (rep s) 69 5998 := by
  have k5 : nI (5 * m) + 5 = nI (5 * (m + 1)) := nI_add _ _
  obtain ⟨v, s1, s2, r1, r2, hI2⟩ := v_find  hI
  simp only [r_L_law_749, r_L_law_750, ob_0, List.cons_append, List.nil_append, List.append_nil, if_true, if_false, true_and, and_true, true_or, or_true, nm_b_some, Nat.add_zero, Nat.reduceLeDiff, and_self, true_and, and_true]
  refine r1 _ ?_
  simp only [r_L_law_753, r_L_law_754, ob_40, List.cons_append, List.nil_append, List.append_nil, if_true, if_false, true_and, and_true, true_or, or_true, nm_b_some, Nat.add_zero, Nat.reduceLeDiff, and_self, true_and, and_true]
  refine r2 _ ?_
  simp only [r_L_law_757, r_L_law_893, r_L_law_896, List.cons_append, List.nil_append, List.append_nil, if_true, if_false, true_and, and_true, true_or, or_true, nm_b_some, k5]
  exact hn s2 hI2
theorem w_close {L : Nat} {xs : Nat → Int32} {z : UInt32} {Q : nm_K} {m : Nat} {s : nm_S} (hL : L ≤ 2560) (hm : 5 * m + 5 ≤ L) (hI : Inv s) (hn : ∀ t, Inv t → lawAt L xs z Q (m + 1) t) : x_L_law L xs 60 Q 762 [.float z, .ref 0, .ref 40, .int (nI (5 * m))] [] (rep s) 69 5998 := by
  have k1 : nI (5 * m) + 1 = nI (5 * m + 1) := nI_add _ _
  have v1 : vp_in (nI (5 * m + 1)) L := vp_in' (by omega) (by omega)
  have c1 : (nI (5 * m + 1)).toNatClampNeg = 5 * m + 1 := i_nIc (by omega)
  have k5 : nI (5 * m) + 5 = nI (5 * (m + 1)) := nI_add _ _
  obtain ⟨v, s1, s2, r1, r2, hI2⟩ := v_close (xs (5 * m + 1)) hI
  simp only [r_L_law_762, r_L_law_763, r_L_law_764, r_L_law_765, r_L_law_766, r_L_law_767, r_L_law_768, ob_0, k1, v1, c1, List.cons_append, List.nil_append, List.append_nil, if_true, if_false, true_and, and_true, true_or, or_true, nm_b_some, Nat.add_zero, Nat.reduceLeDiff, and_self, true_and, and_true]
  refine r1 _ ?_
  simp only [r_L_law_771, r_L_law_772, r_L_law_773, r_L_law_774, r_L_law_775, r_L_law_776, r_L_law_777, ob_40, k1, v1, c1, List.cons_append, List.nil_append, List.append_nil, if_true, if_false, true_and, and_true, true_or, or_true, nm_b_some, Nat.add_zero, Nat.reduceLeDiff, and_self, true_and, and_true]
  refine r2 _ ?_
  simp only [r_L_law_780, r_L_law_893, r_L_law_896, List.cons_append, List.nil_append, List.append_nil, if_true, if_false, true_and, and_true, true_or, or_true, nm_b_some, k5]
  exact hn s2 hI2
theorem w_feed {L : Nat} {xs : Nat → Int32} {z : UInt32} {Q : nm_K} {m : Nat} {s : nm_S} (hL : L ≤ 2560) (hm : 5 * m + 5 ≤ L) (hI : Inv s) (hn : ∀ t, Inv t → lawAt L xs z Q (m + 1) t) : x_L_law L xs 60 Q 785 [.float z, .ref 0, .ref 40, .int (nI (5 * m))] [] (rep s) 69 5998 := by
  have k1 : nI (5 * m) + 1 = nI (5 * m + 1) := nI_add _ _
  have v1 : vp_in (nI (5 * m + 1)) L := vp_in' (by omega) (by omega)
  have c1 : (nI (5 * m + 1)).toNatClampNeg = 5 * m + 1 := i_nIc (by omega)
  have k5 : nI (5 * m) + 5 = nI (5 * (m + 1)) := nI_add _ _
  obtain ⟨v, s1, s2, r1, r2, hI2⟩ := v_feed (xs (5 * m + 1)) hI
  simp only [r_L_law_785, r_L_law_786, r_L_law_787, r_L_law_788, r_L_law_789, r_L_law_790, r_L_law_791, ob_0, k1, v1, c1, List.cons_append, List.nil_append, List.append_nil, if_true, if_false, true_and, and_true, true_or, or_true, nm_b_some, Nat.add_zero, Nat.reduceLeDiff, and_self, true_and, and_true]
  refine r1 _ ?_
  simp only [r_L_law_794, r_L_law_795, r_L_law_796, r_L_law_797, r_L_law_798, r_L_law_799, r_L_law_800, ob_40, k1, v1, c1, List.cons_append, List.nil_append, List.append_nil, if_true, if_false, true_and, and_true, true_or, or_true, nm_b_some, Nat.add_zero, Nat.reduceLeDiff, and_self, true_and, and_true]
  refine r2 _ ?_
  simp only [r_L_law_803, r_L_law_893, r_L_law_896, List.cons_append, List.nil_append, List.append_nil, if_true, if_false, true_and, and_true, true_or, or_true, nm_b_some, k5]
  exact hn s2 hI2
theorem w_end {L : Nat} {xs : Nat → Int32} {z : UInt32} {Q : nm_K} {m : Nat} {s : nm_S} (hL : L ≤ 2560) (hm : 5 * m + 5 ≤ L) (hI : Inv s) (hn : ∀ t, Inv t → lawAt L xs z Q (m + 1) t) : x_L_law L xs 60 Q 808 [.float z, .ref 0, .ref 40, .int (nI (5 * m))] [] (rep s) 69 5998 := by
  have k1 : nI (5 * m) + 1 = nI (5 * m + 1) := nI_add _ _
  have v1 : vp_in (nI (5 * m + 1)) L := vp_in' (by omega) (by omega)
  have c1 : (nI (5 * m + 1)).toNatClampNeg = 5 * m + 1 := i_nIc (by omega)
  have k5 : nI (5 * m) + 5 = nI (5 * (m + 1)) := nI_add _ _
  obtain ⟨v, s1, s2, r1, r2, hI2⟩ := v_end (xs (5 * m + 1)) hI
  simp only [r_L_law_808, r_L_law_809, r_L_law_810, r_L_law_811, r_L_law_812, r_L_law_813, r_L_law_814, ob_0, k1, v1, c1, List.cons_append, List.nil_append, List.append_nil, if_true, if_false, true_and, and_true, true_or, or_true, nm_b_some, Nat.add_zero, Nat.reduceLeDiff, and_self, true_and, and_true]
  refine r1 _ ?_
  simp only [r_L_law_817, r_L_law_818, r_L_law_819, r_L_law_820, r_L_law_821, r_L_law_822, r_L_law_823, ob_40, k1, v1, c1, List.cons_append, List.nil_append, List.append_nil, if_true, if_false, true_and, and_true, true_or, or_true, nm_b_some, Nat.add_zero, Nat.reduceLeDiff, and_self, true_and, and_true]
  refine r2 _ ?_
  simp only [r_L_law_826, r_L_law_893, r_L_law_896, List.cons_append, List.nil_append, List.append_nil, if_true, if_false, true_and, and_true, true_or, or_true, nm_b_some, k5]
  exact hn s2 hI2
theorem w_fault {L : Nat} {xs : Nat → Int32} {z : UInt32} {Q : nm_K} {m : Nat} {s : nm_S} (hL : L ≤ 2560) (hm : 5 * m + 5 ≤ L) (hI : Inv s) (hn : ∀ t, Inv t → lawAt L xs z Q (m + 1) t) : x_L_law L xs 60 Q 831 [.float z, .ref 0, .ref 40, .int (nI (5 * m))] [] (rep s) 69 5998 := by
  have k5 : nI (5 * m) + 5 = nI (5 * (m + 1)) := nI_add _ _
  obtain ⟨v, s1, s2, r1, r2, hI2⟩ := v_fault  hI
  simp only [r_L_law_831, r_L_law_832, ob_0, List.cons_append, List.nil_append, List.append_nil, if_true, if_false, true_and, and_true, true_or, or_true, nm_b_some, Nat.add_zero, Nat.reduceLeDiff, and_self, true_and, and_true]
  refine r1 _ ?_
  simp only [r_L_law_835, r_L_law_836, ob_40, List.cons_append, List.nil_append, List.append_nil, if_true, if_false, true_and, and_true, true_or, or_true, nm_b_some, Nat.add_zero, Nat.reduceLeDiff, and_self, true_and, and_true]
  refine r2 _ ?_
  simp only [r_L_law_839, r_L_law_893, r_L_law_896, List.cons_append, List.nil_append, List.append_nil, if_true, if_false, true_and, and_true, true_or, or_true, nm_b_some, k5]
  exact hn s2 hI2
theorem w_rule {L : Nat} {xs : Nat → Int32} {z : UInt32} {Q : nm_K} {m : Nat} {s : nm_S} (hL : L ≤ 2560) (hm : 5 * m + 5 ≤ L) (hI : Inv s) (hn : ∀ t, Inv t → lawAt L xs z Q (m + 1) t) : x_L_law L xs 60 Q 844 [.float z, .ref 0, .ref 40, .int (nI (5 * m))] [] (rep s) 69 5998 := by
  have k5 : nI (5 * m) + 5 = nI (5 * (m + 1)) := nI_add _ _
  obtain ⟨v, s1, s2, r1, r2, hI2⟩ := v_rule  hI
  simp only [r_L_law_844, r_L_law_845, ob_0, List.cons_append, List.nil_append, List.append_nil, if_true, if_false, true_and, and_true, true_or, or_true, nm_b_some, Nat.add_zero, Nat.reduceLeDiff, and_self, true_and, and_true]
  refine r1 _ ?_
  simp only [r_L_law_848, r_L_law_849, ob_40, List.cons_append, List.nil_append, List.append_nil, if_true, if_false, true_and, and_true, true_or, or_true, nm_b_some, Nat.add_zero, Nat.reduceLeDiff, and_self, true_and, and_true]
  refine r2 _ ?_
  simp only [r_L_law_852, r_L_law_893, r_L_law_896, List.cons_append, List.nil_append, List.append_nil, if_true, if_false, true_and, and_true, true_or, or_true, nm_b_some, k5]
  exact hn s2 hI2
theorem w_go {L : Nat} {xs : Nat → Int32} {z : UInt32} {Q : nm_K} {m : Nat} {s : nm_S} (hL : L ≤ 2560) (hm : 5 * m + 5 ≤ L) (hI : Inv s) (hn : ∀ t, Inv t → lawAt L xs z Q (m + 1) t) : x_L_law L xs 60 Q 857 [.float z, .ref 0, .ref 40, .int (nI (5 * m))] [] (rep s) 69 5998 := by
  have k5 : nI (5 * m) + 5 = nI (5 * (m + 1)) := nI_add _ _
  obtain ⟨v, s1, s2, r1, r2, hI2⟩ := v_go  hI
  simp only [r_L_law_857, r_L_law_858, ob_0, List.cons_append, List.nil_append, List.append_nil, if_true, if_false, true_and, and_true, true_or, or_true, nm_b_some, Nat.add_zero, Nat.reduceLeDiff, and_self, true_and, and_true]
  refine r1 _ ?_
  simp only [r_L_law_861, r_L_law_862, ob_40, List.cons_append, List.nil_append, List.append_nil, if_true, if_false, true_and, and_true, true_or, or_true, nm_b_some, Nat.add_zero, Nat.reduceLeDiff, and_self, true_and, and_true]
  refine r2 _ ?_
  simp only [r_L_law_865, r_L_law_893, r_L_law_896, List.cons_append, List.nil_append, List.append_nil, if_true, if_false, true_and, and_true, true_or, or_true, nm_b_some, k5]
  exact hn s2 hI2
theorem w_count {L : Nat} {xs : Nat → Int32} {z : UInt32} {Q : nm_K} {m : Nat} {s : nm_S} (hL : L ≤ 2560) (hm : 5 * m + 5 ≤ L) (hI : Inv s) (hn : ∀ t, Inv t → lawAt L xs z Q (m + 1) t) : x_L_law L xs 60 Q 870 [.float z, .ref 0, .ref 40, .int (nI (5 * m))] [] (rep s) 69 5998 := by
  have k1 : nI (5 * m) + 1 = nI (5 * m + 1) := nI_add _ _
  have v1 : vp_in (nI (5 * m + 1)) L := vp_in' (by omega) (by omega)
  have c1 : (nI (5 * m + 1)).toNatClampNeg = 5 * m + 1 := i_nIc (by omega)
  have k5 : nI (5 * m) + 5 = nI (5 * (m + 1)) := nI_add _ _
  obtain ⟨v, s1, s2, r1, r2, hI2⟩ := v_count (xs (5 * m + 1)) hI
  simp only [r_L_law_870, r_L_law_871, r_L_law_872, r_L_law_873, r_L_law_874, r_L_law_875, r_L_law_876, ob_0, k1, v1, c1, List.cons_append, List.nil_append, List.append_nil, if_true, if_false, true_and, and_true, true_or, or_true, nm_b_some, Nat.add_zero, Nat.reduceLeDiff, and_self, true_and, and_true]
  refine r1 _ ?_
  simp only [r_L_law_879, r_L_law_880, r_L_law_881, r_L_law_882, r_L_law_883, r_L_law_884, r_L_law_885, ob_40, k1, v1, c1, List.cons_append, List.nil_append, List.append_nil, if_true, if_false, true_and, and_true, true_or, or_true, nm_b_some, Nat.add_zero, Nat.reduceLeDiff, and_self, true_and, and_true]
  refine r2 _ ?_
  simp only [r_L_law_888, r_L_law_893, r_L_law_896, List.cons_append, List.nil_append, List.append_nil, if_true, if_false, true_and, and_true, true_or, or_true, nm_b_some, k5]
  exact hn s2 hI2
theorem w_loop {L : Nat} {xs : Nat → Int32} {z : UInt32} {Q : nm_K} (hL : L ≤ 2560) (hQ : ∀ s, Inv s → Q [.int 1] (rep s)) : ∀ (n m : Nat) (s : nm_S), L < 5 * m + 5 * n → 5 * m ≤ L → Inv s → lawAt L xs z Q m s
  | n, m, s, hn, hmL, hI => by
    have eL : Int32.ofNat L = nI L := rfl
    have h5 : (nI L - 5).toInt = (L : Int) - 5 := by
      rw [i_sub] <;> rw [i_nI (by omega), i_l5] <;> omega
    unfold lawAt
    rw [r_L_law_18]
    by_cases hx : 5 * m + 5 ≤ L
    · have hlt : ¬ nI L - 5 < nI (5 * m) := by
        rw [i_lt, h5, i_nI (by omega)]
        omega
      have hv : vp_in (nI (5 * m)) L := vp_in' (by omega) (by omega)
      have hc : (nI (5 * m)).toNatClampNeg = 5 * m := i_nIc (by omega)
      obtain ⟨j, hj, ej⟩ := and31 (xs (5 * m))
      match n, hn with
      | 0, hn => omega
      | n + 1, hn =>
        have ih : ∀ t, Inv t → lawAt L xs z Q (m + 1) t := fun t ht => w_loop hL hQ n (m + 1) t (by omega) (by omega) ht
        simp only [r_L_law_19, r_L_law_20, r_L_law_21, r_L_law_22, r_L_law_23, r_L_law_26, r_L_law_27, r_L_law_28, r_L_law_29, r_L_law_31, List.cons_append, List.nil_append, List.append_nil, if_true, if_false, true_and, and_true, true_or, or_true, nm_b_some, eL, hlt, hv, hc, ej]
        rw [r_L_law_32]
        match j, hj with
        | 0, _ => exact w_thing hL hx hI ih
        | 1, _ => exact w_convoy hL hx hI ih
        | 2, _ => exact w_set hL hx hI ih
        | 3, _ => exact w_least hL hx hI ih
        | 4, _ => exact w_share hL hx hI ih
        | 5, _ => exact w_settle hL hx hI ih
        | 6, _ => exact w_late hL hx hI ih
        | 7, _ => exact w_road hL hx hI ih
        | 8, _ => exact w_place hL hx hI ih
        | 9, _ => exact w_lacks hL hx hI ih
        | 10, _ => exact w_many hL hx hI ih
        | 11, _ => exact w_stage hL hx hI ih
        | 12, _ => exact w_begin hL hx hI ih
        | 13, _ => exact w_fail hL hx hI ih
        | 14, _ => exact w_tick hL hx hI ih
        | 15, _ => exact w_told hL hx hI ih
        | 16, _ => exact w_back hL hx hI ih
        | 17, _ => exact w_whole hL hx hI ih
        | 18, _ => exact w_ready hL hx hI ih
        | 19, _ => exact w_find hL hx hI ih
        | 20, _ => exact w_close hL hx hI ih
        | 21, _ => exact w_feed hL hx hI ih
        | 22, _ => exact w_end hL hx hI ih
        | 23, _ => exact w_fault hL hx hI ih
        | 24, _ => exact w_rule hL hx hI ih
        | 25, _ => exact w_go hL hx hI ih
        | 26, _ => exact w_count hL hx hI ih
        | j + 27, hj =>
          rw [show nm_swt 0 [156, 209, 252, 295, 308, 331, 344, 377, 420, 463, 496, 539, 608, 631, 654, 677, 710, 723, 736, 749, 762, 785, 808, 831, 844, 857, 870] 893 (nI (j + 27)) = 893 from ?_]
          · have k5 : nI (5 * m) + 5 = nI (5 * (m + 1)) := nI_add _ _
            simp only [r_L_law_893, r_L_law_896, List.cons_append, List.nil_append, List.append_nil, if_true, if_false, true_and, and_true, true_or, or_true, nm_b_some, k5]
            exact ih s hI
          · unfold nm_swt
            rw [i_nI (by omega), if_neg (by omega), show ((j + 27 : Nat) : Int) - 0 = ((j + 27 : Nat) : Int) by omega, Int.toNat_natCast]
            rw [List.getD_eq_getElem?_getD, List.getElem?_eq_none (by simp)]
            rfl
    · have hlt : nI L - 5 < nI (5 * m) := by
        have hm : 5 * m < 2147483648 := by omega
        rw [i_lt, h5, i_nI hm]
        omega
      have h1 : (69 : Nat) ≤ 600000 ∧ 5998 ≤ 7302250 := by omega
      simp only [r_L_law_19, r_L_law_20, r_L_law_21, r_L_law_22, r_L_law_23, r_L_law_899, r_L_law_900, List.cons_append, List.nil_append, List.append_nil, if_true, if_false, true_and, and_true, true_or, or_true, nm_b_some, eL, hlt, h1, and_self, z1]
      exact hQ s hI
