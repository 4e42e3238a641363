/-! The law's run, and the world at its start. -/
theorem w_law {L : Nat} {xs : Nat → Int32} (hL : L ≤ 2560) : x_L_law L xs 60 (fun v _ => v = [.int 1]) 0 [.float 0, .null, .null, .null] [] [] 0 0 := by
  have h0 : nm_obj [.inr (8, [.null, .null, .null, .null, .null, .null, .null, .null, .null, .int 0, .int 0, .int 0])] 0 8 := ⟨_, rfl⟩
  simp only [r_L_law_0, r_L_law_3, r_L_law_4, List.length_nil, List.nil_append, h0, Nat.zero_add, Nat.reduceAdd, Nat.reduceLeDiff, and_self, true_and]
  refine c_X8_init (fun f hf => ?_)
  have hlen : ((rep (s0 f)).take 40).length = 40 := rfl
  simp only [r_L_law_7, r_L_law_8, r_L_law_11, r_L_law_12, nw_obj, List.nil_append, Nat.reduceAdd, Nat.reduceLeDiff, and_self, true_and]
  rw [hlen]
  refine c_both ?_
  simp only [r_L_law_15, r_L_law_16, r_L_law_17, List.nil_append]
  exact w_loop (z := 0) hL (fun _ _ => rfl) (L + 1) 0 (s0 f) (by omega) (by omega) (Inv_0 hf)
theorem nm_N_of {s : State} {A : Array Value} (hts : ∀ w ∈ lw_tbl, w.before A s = true) : nm_N s := by
  intro q hq
  obtain ⟨w, hw1, hw2⟩ := List.mem_filterMap.mp hq
  split at hw2
  · cases hw2
    exact va_Nw.of rfl (hts _ hw1)
  · cases hw2
theorem nm_arr {s : State} {A : Array Value} {ty : FieldType} (h : (Cond.arrayClass ty).before A s = true) : ∃ cA : ClassId, ArrOfT s cA ty ∧ s.vm.findClass ("[" ++ ty.toString) = some cA := by
  obtain ⟨cA, kA, comp, h1, h2, h3⟩ := Cond.arrayClass_spec h
  exact ⟨cA, fun N z => ⟨fun k h => (by cases h), kA, h2, comp, h3⟩, h1⟩
theorem nm_K0 {s : State} {A : Array Value} (hg : ∀ w ∈ nm_good, w.before A s = true) : ∃ (D : va_G) (cA : Nat → ClassId), va_K D vwCl (nm_tys cA) s := by
  obtain ⟨c0, i0, k0⟩ := u_known (C := RX0) (T := TX0) (N := 7) (n := 7) hg wg_X0 (hg _ kw_270)
  obtain ⟨c1, i1, k1⟩ := u_known (C := RX1) (T := TX1) (N := 3) (n := 3) hg wg_X1 (hg _ kw_293)
  obtain ⟨c2, i2, k2⟩ := u_known (C := RX2) (T := TX2) (N := 5) (n := 5) hg wg_X2 (hg _ kw_266)
  obtain ⟨c3, i3, k3⟩ := u_known (C := RX3) (T := TX3) (N := 12) (n := 12) hg wg_X3 (hg _ kw_305)
  obtain ⟨c4, i4, k4⟩ := u_known (C := RX4) (T := TX4) (N := 6) (n := 6) hg wg_X4 (hg _ kw_276)
  obtain ⟨c5, i5, k5⟩ := u_known (C := RX5) (T := TX5) (N := 11) (n := 11) hg wg_X5 (hg _ kw_288)
  obtain ⟨c6, i6, k6⟩ := u_known (C := RX6) (T := TX6) (N := 2) (n := 2) hg wg_X6 (hg _ kw_299)
  obtain ⟨c7, i7, k7⟩ := u_known (C := RX7) (T := TX7) (N := 8) (n := 8) hg wg_X7 (hg _ kw_282)
  obtain ⟨c8, i8, k8⟩ := u_known (C := RX8) (T := TX8) (N := 12) (n := 12) hg wg_X8 (hg _ kw_586)
  obtain ⟨c9, i9, k9⟩ := u_known (C := RX9) (T := TX9) (N := 48) (n := 48) hg wg_X9 (hg _ kw_591)
  obtain ⟨cZ, z1, z2⟩ := nm_arr (hg _ kw_21)
  obtain ⟨cC, y1, y2⟩ := nm_arr (hg _ kw_233)
  obtain ⟨cI, x1, x2⟩ := nm_arr (hg _ kw_3)
  obtain ⟨cJ, w1, w2⟩ := nm_arr (hg _ kw_108)
  refine ⟨(fun k => match k with | 0 => c0 | 1 => c1 | 2 => c2 | 3 => c3 | 4 => c4 | 5 => c5 | 6 => c6 | 7 => c7 | 8 => c8 | _ => c9, fun k => match k with | 0 => i0 | 1 => i1 | 2 => i2 | 3 => i3 | 4 => i4 | 5 => i5 | 6 => i6 | 7 => i7 | 8 => i8 | _ => i9), fun k => match k with | 0 => cZ | 1 => cC | 2 => cI | _ => cJ, ?_, ?_⟩
  · intro k q hq
    match k, hq with
    | 0, hq => cases hq; exact k0
    | 1, hq => cases hq; exact k1
    | 2, hq => cases hq; exact k2
    | 3, hq => cases hq; exact k3
    | 4, hq => cases hq; exact k4
    | 5, hq => cases hq; exact k5
    | 6, hq => cases hq; exact k6
    | 7, hq => cases hq; exact k7
    | 8, hq => cases hq; exact k8
    | 9, hq => cases hq; exact k9
    | k + 10, hq => simp [vwCl] at hq
  · intro k q hq
    match k, hq with
    | 0, hq => cases hq; exact ⟨z1, z2⟩
    | 1, hq => cases hq; exact ⟨y1, y2⟩
    | 2, hq => cases hq; exact ⟨x1, x2⟩
    | 3, hq => cases hq; exact ⟨w1, w2⟩
    | k + 4, hq => simp [nm_tys] at hq
