/-! Steps on cells, calls and ends. -/
section OKH
variable {I : Nat → Option nm_I} {i : nm_I} {L : Nat} {xs : Nat → Int32} {pc nx tg : Nat}
theorem ok_sw {dflt lo hi : Int} {offs : Array Int} {len d0 : Nat} {ts : List Nat} (hd : decode i.cc pc = .ok (.tableswitch dflt lo hi offs, len)) (hdf : (pc : Int) + dflt = (d0 : Int)) (hts : offs.toList.map (fun o => (pc : Int) + o) = ts.map (fun t : Nat => (t : Int))) (hsz : hi - lo + 1 = (ts.length : Int)) : nm_ok I i L xs pc (op_sw lo ts d0) := by
  intro d l D cA b base p e R s m args below meth c QQ C Q hR1 hR2 hR3 hR4 hG hC hQ ls st w k n hop H locs A hz hP hS hL
  obtain ⟨hx, hb, hml, hown, hts2, hN, hK, hX, hbb, hbs, hin⟩ := hG
  unfold op_sw at hop
  split at hop
  · rename_i x r
    have hlen : offs.toList.length = ts.length := by
      have := congrArg List.length hts
      simpa using this
    by_cases h1 : x.toInt < lo
    · have e1 : nm_swt lo ts d0 x = d0 := by simp [nm_swt, h1]
      rw [e1] at hop
      exact lv_tableOut hx hb hd (Or.inl h1) hdf (hop H locs A hz hP hS hL)
    · by_cases h2 : hi < x.toInt
      · have e1 : nm_swt lo ts d0 x = d0 := by
          simp only [nm_swt, if_neg h1]
          have : ts.length ≤ (x.toInt - lo).toNat := by omega
          simp [List.getD_eq_getElem?_getD, List.getElem?_eq_none this]
        rw [e1] at hop
        exact lv_tableOut hx hb hd (Or.inr h2) hdf (hop H locs A hz hP hS hL)
      · have hlt : (x.toInt - lo).toNat < ts.length := by omega
        have hlt2 : (x.toInt - lo).toNat < offs.toList.length := by omega
        have e1 : nm_swt lo ts d0 x = ts[(x.toInt - lo).toNat] := by
          simp [nm_swt, if_neg h1, List.getD_eq_getElem?_getD, List.getElem?_eq_getElem hlt]
        rw [e1] at hop
        have e2 : (pc : Int) + offs.toList[(x.toInt - lo).toNat] = ((ts[(x.toInt - lo).toNat] : Nat) : Int) := by
          have := congrArg (fun q => q[(x.toInt - lo).toNat]?) hts
          simp only [List.getElem?_map, List.getElem?_eq_getElem hlt, List.getElem?_eq_getElem hlt2, Option.map_some, Option.some.injEq] at this
          exact this
        exact lv_tableIn hx hb hd h1 h2 (off := offs.toList[(x.toInt - lo).toNat]) (by rw [← Array.getElem?_toList]; exact List.getElem?_eq_getElem hlt2) e2 (hop H locs A hz hP hS hL)
  · exact False.elim hop
theorem ok_get {idx ci j N : Nat} {C0 : String} {T : u_T} (hc : vwCl[ci]? = some (C0, T, N)) (hin0 : ∀ w ∈ u_ws C0 T N, w ∈ nm_good) (hj : j < N) (hl : Cond.fieldLink i.nm.cls idx (T j).1 (T j).2.1 (T j).2.2.1 ∈ nm_good) (hd : decode i.cc pc = .ok (.getfield idx, 3)) (hn : pc + 3 = nx) : nm_ok I i L xs pc (op_get ci j nx) := by
  intro d l D cA b base p e R s m args below meth c QQ C Q hR1 hR2 hR3 hR4 hG hC hQ ls st w k n hop H locs A hz hP hS hL
  obtain ⟨hx, hb, hml, hown, hts, hN, hK, hX, hbb, hbs, hin⟩ := hG
  subst hn
  unfold op_get at hop
  split at hop
  · rename_i a r
    unfold nm_get at hop
    cases ha : w[a]? with
    | none => rw [ha] at hop; exact False.elim hop
    | some x =>
      rw [ha] at hop
      rcases x with x | ⟨c0, fs⟩
      · exact False.elim hop
      · dsimp only at hop
        by_cases hcc : c0 = ci
        · subst hcc
          rw [if_pos rfl] at hop
          cases hv : fs[j]? with
          | none => rw [hv] at hop; exact False.elim hop
          | some v =>
            rw [hv] at hop
            exact va_get hx hb hts hin0 hown hK hP a (nm_cw_at ha) hc j hj (hts _ hl) (fun _ h => h) (v := nm_cv b base v) (by rw [List.getElem?_map, hv]; rfl) hd (hop H locs A hz hP hS hL)
        · rw [if_neg hcc] at hop
          exact False.elim hop
  · exact False.elim hop
theorem nm_put_some {w w' : nm_W} {a ci j : Nat} {v : Value} (h : nm_put w a ci j v = some w') : ∃ fs, w[a]? = some (.inr (ci, fs)) ∧ j < fs.length ∧ w' = w.set a (.inr (ci, fs.set j v)) := by
  unfold nm_put at h
  cases ha : w[a]? with
  | none => rw [ha] at h; cases h
  | some x =>
    rw [ha] at h
    rcases x with x | ⟨c0, fs⟩
    · cases h
    · dsimp only at h
      split at h
      · rename_i hh
        obtain ⟨rfl, h2⟩ := hh
        cases h
        exact ⟨fs, rfl, h2, rfl⟩
      · cases h
/-- one store into a field that isn't final, and one into a final one by its maker -/
theorem nm_put1 {idx ci j N : Nat} {C0 : String} {T : u_T} {ty0 : Nat → FieldType} (hc : vwCl[ci]? = some (C0, T, N)) (hin0 : ∀ w ∈ u_ws C0 T N, w ∈ nm_good) (hty : ∀ k, k < N → parseFieldDescriptor (T k).2.2.1 = some (ty0 k)) (hnm : ∀ a, a < N → ∀ b, b < N → a ≠ b → (T a).2.1 ≠ (T b).2.1) (hj : j < N) (hl : Cond.fieldLink i.nm.cls idx (T j).1 (T j).2.1 (T j).2.2.1 ∈ nm_good) (hd : decode i.cc pc = .ok (.putfield idx, 3))
    (hf : (T j).2.2.2 = false ∨ ((T j).2.2.2 = true ∧ i.nm.name = "<init>" ∧ (T j).1 = i.nm.cls))
    {D : va_G} {cA : Nat → ClassId} {b base : Nat} {p : Program} {l : Launch} {e : Env} {R : Room} {s : State} {m : MethodId} {args : Array Value} {below : List Frame} {meth : Method} {c : Code} {QQ : State → Prop}
    (hG : nm_G i D cA b base L xs p s m args meth c) {w w' : nm_W} {k n a : Nat} {v : Value} (hp : nm_put w a ci j v = some w') (hn1 : narrow (ty0 j) (nm_cv b base v) = nm_cv b base v) (hf1 : fits (ty0 j) (nm_cv b base v) = true)
    {ls r : List Value} (hop : nm_Wf i D cA b base p l e R s m args below meth c QQ (pc + 3) ls r w' k n) {H : Heap} {locs : List Loc} {A : Array Slot} (hz : H.size = base + w.length) (hP : va_P D vwCl (nm_cw cA b base w) H) (hS : va_S (nm_A base) s.heap H locs) (hL : nm_L b base i.sl i.mL ls A) :
    W p l e R s m args below meth c H locs k n QQ (F0 m pc A (nm_cv b base v :: .ref (base + a) :: r.map (nm_cv b base))) := by
  obtain ⟨hx, hb, hml, hown, hts, hN, hK, hX, hbb, hbs, hin⟩ := hG
  obtain ⟨fs, ha, hjl, rfl⟩ := nm_put_some hp
  have hal : a < w.length := (List.getElem?_eq_some_iff.mp ha).1
  have e1 : ∀ u : Value, (nm_cw cA b base w).set a (base + a, (Sum.inr (ci, (fs.map (nm_cv b base)).set j (nm_cv b base u)) : va_E)) = nm_cw cA b base (w.set a (.inr (ci, fs.set j u))) := fun u => by
    rw [← nm_cw_set]
    simp only [nm_ce, List.map_set]
  have kk : ∀ (H1 : Heap) (locs1 : List Loc), va_P D vwCl ((nm_cw cA b base w).set a (base + a, (Sum.inr (ci, (fs.map (nm_cv b base)).set j (nm_cv b base v)) : va_E))) H1 → va_D (nm_A base) ((nm_cw cA b base w).set a (base + a, (Sum.inr (ci, (fs.map (nm_cv b base)).set j (nm_cv b base v)) : va_E))) → va_S (nm_A base) s.heap H1 locs1 → H1.size = H.size → W p l e R s m args below meth c H1 locs1 k n QQ (F0 m (pc + 3) A (r.map (nm_cv b base))) := by
    intro H1 locs1 q1 q2 q3 q4
    rw [e1] at q1
    exact hop H1 locs1 A (by rw [q4, hz, List.length_set]) q1 q3 hL
  obtain ⟨r0, h1, cell, q1, q2, q3, q4⟩ := hP a _ (nm_cw_at ha)
  have hr : r0 = (C0, T, N) := Option.some.inj (h1.symm.trans hc)
  subst hr
  have hap := va_apart (own := i.nm.cls) hts hin0 ty0 hty hnm hK hc
  obtain ⟨hS1, hfc, kC, hkC, hkind⟩ := hK.1 ci _ hc
  obtain ⟨cf, kf, fi, f, hi, hsl⟩ := hS1 j hj
  have hst := (u_facts hfc hkC (u_lays hts hin0 hj) hi).1
  have hlay := hts _ (hin0 _ (u_in_lay hj))
  unfold u_lay at hlay
  rcases hf with hfin | ⟨hfin, hini, hdecl⟩
  · rw [if_neg (by rw [hfin]; decide)] at hlay
    have h6 := u_store hfc hkC hkind hlay hi (hty j hj) hn1 hf1
    refine W.putK hx hb (f := f) ⟨hown, hts _ hl, ⟨_, _, _, hi⟩, hst⟩ (by rw [q2]; exact h6) q1 q3 (by rw [hsl]; exact k2_hasslot (q4 j hj)) rfl rfl hd fun H' e1 e2 e3 => ?_
    rw [hsl] at e1 ⊢
    exact kk H' _ (hP.set nm_cw_D (nm_cw_at ha) ⟨_, hc, t_OB.to (V := updV (vp_V (fs.map (nm_cv b base))) j (nm_cv b base v)) ⟨_, e1, q2, q3, t_set q4 hap hj (nm_cv b base v)⟩ (fun x _ => vp_updV_set (by rw [List.length_map]; exact hjl) (nm_cv b base v) x)⟩ e3) (nm_cw_D.set (nm_cw_at ha)) (hS.put e2 e3 (Nat.le_add_right _ _)) e2
  · rw [if_pos hfin] at hlay
    have hcf : m.cls = cf := by
      obtain ⟨_, _, c', _, _, _, -, -, hf', -, -, -, hown2, -⟩ := Cond.laysFinal_spec hlay
      have e1 : c' = cf := by have := hi.symm.trans hf'; simp at this; exact this.1.symm
      rw [hdecl] at hown2
      rw [← e1]; exact Option.some.inj (hown.symm.trans hown2)
    have h6 := u_fits hfc hkC hkind (Or.inr hlay) hi (hty j hj) hn1 hf1
    refine W.putFinK hx hb hown (hts _ hl) hi hst hcf (hin hini) (by rw [q2]; exact h6) q1 q3 (by rw [hsl]; exact k2_hasslot (q4 j hj)) rfl rfl hd fun H' e1 e2 e3 => ?_
    rw [hsl] at e1 ⊢
    exact kk H' _ (hP.set nm_cw_D (nm_cw_at ha) ⟨_, hc, t_OB.to (V := updV (vp_V (fs.map (nm_cv b base))) j (nm_cv b base v)) ⟨_, e1, q2, q3, t_set q4 hap hj (nm_cv b base v)⟩ (fun x _ => vp_updV_set (by rw [List.length_map]; exact hjl) (nm_cv b base v) x)⟩ e3) (nm_cw_D.set (nm_cw_at ha)) (hS.put e2 e3 (Nat.le_add_right _ _)) e2
theorem nm_bool_and {x : Int32} (h : x = 0 ∨ x = 1) : x &&& 1 = x := by rcases h with rfl | rfl <;> decide
theorem nm_char_ok {x : Int32} (h : 0 ≤ x ∧ x ≤ 65535) : narrow .char (.int x) = .int x ∧ fits .char (.int x) = true := by
  obtain ⟨q, h1, rfl⟩ := nI_of2 (M := 65535) (n := 65535) (by decide) (by
    intro h0
    have h1 := h.1
    rw [Int32.le_iff_toInt_le] at h1
    rw [Int32.lt_iff_toInt_lt] at h0
    omega) h.2
  exact pk_charN (by omega)
theorem ok_putI {idx ci j N t : Nat} {C0 : String} {T : u_T} {ty0 : Nat → FieldType} (hc : vwCl[ci]? = some (C0, T, N)) (hin0 : ∀ w ∈ u_ws C0 T N, w ∈ nm_good) (hty : ∀ k, k < N → parseFieldDescriptor (T k).2.2.1 = some (ty0 k)) (hnm : ∀ a, a < N → ∀ b, b < N → a ≠ b → (T a).2.1 ≠ (T b).2.1) (hj : j < N) (hl : Cond.fieldLink i.nm.cls idx (T j).1 (T j).2.1 (T j).2.2.1 ∈ nm_good) (hd : decode i.cc pc = .ok (.putfield idx, 3))
    (hf : (T j).2.2.2 = false ∨ ((T j).2.2.2 = true ∧ i.nm.name = "<init>" ∧ (T j).1 = i.nm.cls)) (hk : (t = 0 ∧ ty0 j = .boolean) ∨ (t = 1 ∧ ty0 j = .char) ∨ (t = 2 ∧ ty0 j = .int)) (hn : pc + 3 = nx) : nm_ok I i L xs pc (op_putI ci j t nx) := by
  intro d l D cA b base p e R s m args below meth c QQ C Q hR1 hR2 hR3 hR4 hG hC hQ ls st w k n hop H locs A hz hP hS hL
  subst hn
  unfold op_putI at hop
  split at hop
  · rename_i x a r
    split at hop
    · exact False.elim hop
    · rename_i hcond
      split at hop
      · rename_i w' hp
        have hnf : narrow (ty0 j) (.int x) = .int x ∧ fits (ty0 j) (.int x) = true := by
          rcases hk with ⟨rfl, h2⟩ | ⟨rfl, h2⟩ | ⟨rfl, h2⟩
          · have hb : x = 0 ∨ x = 1 := Decidable.byContradiction (fun hh => hcond (Or.inl ⟨rfl, hh⟩))
            rw [h2]
            exact ⟨by simp only [narrow, nm_bool_and hb], by rcases hb with rfl | rfl <;> rfl⟩
          · have hb : 0 ≤ x ∧ x ≤ 65535 := Decidable.byContradiction (fun hh => hcond (Or.inr ⟨rfl, hh⟩))
            rw [h2]
            exact nm_char_ok hb
          · rw [h2]
            exact ⟨rfl, rfl⟩
        exact nm_put1 (v := .int x) hc hin0 hty hnm hj hl hd hf hG hp hnf.1 hnf.2 hop hz hP hS hL
      · exact False.elim hop
  · exact False.elim hop
theorem ok_putL {idx ci j N : Nat} {C0 : String} {T : u_T} {ty0 : Nat → FieldType} (hc : vwCl[ci]? = some (C0, T, N)) (hin0 : ∀ w ∈ u_ws C0 T N, w ∈ nm_good) (hty : ∀ k, k < N → parseFieldDescriptor (T k).2.2.1 = some (ty0 k)) (hnm : ∀ a, a < N → ∀ b, b < N → a ≠ b → (T a).2.1 ≠ (T b).2.1) (hj : j < N) (hl : Cond.fieldLink i.nm.cls idx (T j).1 (T j).2.1 (T j).2.2.1 ∈ nm_good) (hd : decode i.cc pc = .ok (.putfield idx, 3))
    (hf : (T j).2.2.2 = false ∨ ((T j).2.2.2 = true ∧ i.nm.name = "<init>" ∧ (T j).1 = i.nm.cls)) (hk : ty0 j = .long) (hn : pc + 3 = nx) : nm_ok I i L xs pc (op_putL ci j nx) := by
  intro d l D cA b base p e R s m args below meth c QQ C Q hR1 hR2 hR3 hR4 hG hC hQ ls st w k n hop H locs A hz hP hS hL
  subst hn
  unfold op_putL at hop
  split at hop
  · rename_i x a r
    split at hop
    · rename_i w' hp
      exact nm_put1 (v := .long x) hc hin0 hty hnm hj hl hd hf hG hp (by rw [hk]; rfl) (by rw [hk]; rfl) hop hz hP hS hL
    · exact False.elim hop
  · exact False.elim hop
theorem ok_putA {idx ci j N : Nat} {C0 : String} {T : u_T} {ty0 : Nat → FieldType} (hc : vwCl[ci]? = some (C0, T, N)) (hin0 : ∀ w ∈ u_ws C0 T N, w ∈ nm_good) (hty : ∀ k, k < N → parseFieldDescriptor (T k).2.2.1 = some (ty0 k)) (hnm : ∀ a, a < N → ∀ b, b < N → a ≠ b → (T a).2.1 ≠ (T b).2.1) (hj : j < N) (hl : Cond.fieldLink i.nm.cls idx (T j).1 (T j).2.1 (T j).2.2.1 ∈ nm_good) (hd : decode i.cc pc = .ok (.putfield idx, 3))
    (hf : (T j).2.2.2 = false ∨ ((T j).2.2.2 = true ∧ i.nm.name = "<init>" ∧ (T j).1 = i.nm.cls)) (hk : ∀ a : Nat, narrow (ty0 j) (.ref a) = .ref a ∧ fits (ty0 j) (.ref a) = true) (hn : pc + 3 = nx) : nm_ok I i L xs pc (op_putA ci j nx) := by
  intro d l D cA b base p e R s m args below meth c QQ C Q hR1 hR2 hR3 hR4 hG hC hQ ls st w k n hop H locs A hz hP hS hL
  subst hn
  unfold op_putA at hop
  split at hop
  · rename_i x a r
    split at hop
    · rename_i w' hp
      exact nm_put1 (v := .ref x) hc hin0 hty hnm hj hl hd hf hG hp (hk _).1 (hk _).2 hop hz hP hS hL
    · exact False.elim hop
  · exact False.elim hop
theorem nm_ald_some {w : nm_W} {a t : Nat} {x y : Int32} (h : nm_ald w a t x = some y) : ∃ n f, w[a]? = some (.inl (t, n, .inl f)) ∧ vp_in x n ∧ y = f x.toNatClampNeg := by
  unfold nm_ald at h
  split at h
  · rename_i t' n f ha
    split at h
    · rename_i hh
      cases h
      exact ⟨n, f, by rw [← hh.1]; exact ha, hh.2, rfl⟩
    · cases h
  · cases h
theorem nm_ast_some {w w' : nm_W} {a t : Nat} {x y : Int32} (h : nm_ast w a t x y = some w') : ∃ n f, w[a]? = some (.inl (t, n, .inl f)) ∧ vp_in x n ∧ w' = w.set a (.inl (t, n, .inl (upd f x.toNatClampNeg (nm_nar t y)))) := by
  unfold nm_ast at h
  split at h
  · rename_i t' n f ha
    split at h
    · rename_i hh
      cases h
      obtain ⟨rfl, h2⟩ := hh
      exact ⟨n, f, ha, h2, rfl⟩
    · cases h
  · cases h
theorem ok_iaload (hd : decode i.cc pc = .ok (.iaload, 1)) (hn : pc + 1 = nx) : nm_ok I i L xs pc (op_ald 2 nx) := by
  intro d l D cA b base p e R s m args below meth c QQ C Q hR1 hR2 hR3 hR4 hG hC hQ ls st w k n hop H locs A hz hP hS hL
  obtain ⟨hx, hb, hml, hown, hts, hN, hK, hX, hbb, hbs, hin⟩ := hG
  subst hn
  unfold op_ald at hop
  split at hop
  · rename_i x a r
    split at hop
    · rename_i y hy
      obtain ⟨n0, f, ha, hi, rfl⟩ := nm_ald_some hy
      exact va_iald hx hb hK hP a 2 (nm_cw_at ha) rfl hi hd (hop H locs A hz hP hS hL)
    · exact False.elim hop
  · exact False.elim hop
theorem ok_caload (hd : decode i.cc pc = .ok (.caload, 1)) (hn : pc + 1 = nx) : nm_ok I i L xs pc (op_ald 1 nx) := by
  intro d l D cA b base p e R s m args below meth c QQ C Q hR1 hR2 hR3 hR4 hG hC hQ ls st w k n hop H locs A hz hP hS hL
  obtain ⟨hx, hb, hml, hown, hts, hN, hK, hX, hbb, hbs, hin⟩ := hG
  subst hn
  unfold op_ald at hop
  split at hop
  · rename_i x a r
    split at hop
    · rename_i y hy
      obtain ⟨n0, f, ha, hi, rfl⟩ := nm_ald_some hy
      exact va_cald hx hb hK hP a 1 (nm_cw_at ha) rfl hi hd (hop H locs A hz hP hS hL)
    · exact False.elim hop
  · exact False.elim hop
theorem ok_baload (hd : decode i.cc pc = .ok (.baload, 1)) (hn : pc + 1 = nx) : nm_ok I i L xs pc (op_ald 0 nx) := by
  intro d l D cA b base p e R s m args below meth c QQ C Q hR1 hR2 hR3 hR4 hG hC hQ ls st w k n hop H locs A hz hP hS hL
  obtain ⟨hx, hb, hml, hown, hts, hN, hK, hX, hbb, hbs, hin⟩ := hG
  subst hn
  unfold op_ald at hop
  split at hop
  · rename_i x a r
    split at hop
    · rename_i y hy
      obtain ⟨n0, f, ha, hi, rfl⟩ := nm_ald_some hy
      exact va_zald hx hb hK hP a 0 (nm_cw_at ha) rfl hi hd (hop H locs A hz hP hS hL)
    · exact False.elim hop
  · exact False.elim hop
theorem ok_laload (hd : decode i.cc pc = .ok (.laload, 1)) (hn : pc + 1 = nx) : nm_ok I i L xs pc (op_lald nx) := by
  intro d l D cA b base p e R s m args below meth c QQ C Q hR1 hR2 hR3 hR4 hG hC hQ ls st w k n hop H locs A hz hP hS hL
  obtain ⟨hx, hb, hml, hown, hts, hN, hK, hX, hbb, hbs, hin⟩ := hG
  subst hn
  unfold op_lald at hop
  split at hop
  · rename_i x a r
    split at hop
    · rename_i y hy
      unfold nm_lald at hy
      split at hy
      · rename_i t' n0 f ha
        split at hy
        · rename_i hh
          cases hy
          obtain ⟨rfl, h2⟩ := hh
          exact va_lald hx hb hK hP a 3 (nm_cw_at ha) rfl h2 hd (hop H locs A hz hP hS hL)
        · cases hy
      · cases hy
    · exact False.elim hop
  · exact False.elim hop
theorem ok_iastore (hd : decode i.cc pc = .ok (.iastore, 1)) (hn : pc + 1 = nx) : nm_ok I i L xs pc (op_ast 2 nx) := by
  intro d l D cA b base p e R s m args below meth c QQ C Q hR1 hR2 hR3 hR4 hG hC hQ ls st w k n hop H locs A hz hP hS hL
  obtain ⟨hx, hb, hml, hown, hts, hN, hK, hX, hbb, hbs, hin⟩ := hG
  subst hn
  unfold op_ast at hop
  split at hop
  · rename_i y x a r
    split at hop
    · rename_i w' hy
      obtain ⟨n0, f, ha, hi, rfl⟩ := nm_ast_some hy
      refine W.iast hx hb (hP a _ (nm_cw_at ha)) ((hK.2 2 _ rfl).1 n0 (fun j => .int (f j))) (fun q => by cases q) (by show ¬ (x < 0 ∨ (arrV _ _ _).slots.size ≤ _); rw [arrV_size]; exact hi) rfl rfl hd fun H1 e1 z oq => ?_
      refine hop H1 _ A (by rw [z, hz, List.length_set]) ?_ (hS.put z oq (Nat.le_add_right _ _)) hL
      have hs := va_P.set (e := .inl (cA 2, n0, .inl (upd f x.toNatClampNeg y))) hP nm_cw_D (nm_cw_at ha) ?_ oq
      · rw [show (Sum.inl (cA 2, n0, Sum.inl (upd f x.toNatClampNeg y)) : va_E) = nm_ce cA b base (.inl (2, n0, .inl (upd f x.toNatClampNeg y))) from rfl, nm_cw_set] at hs
        exact hs
      · show H1[base + a]? = some (vp_cell _ _)
        rw [e1]
        rw [show vp_cell (cA 2) (n0, Sum.inl (upd f x.toNatClampNeg y)) = arrV (cA 2) n0 (fun j => .int (upd f x.toNatClampNeg y j)) from rfl]
        show some ((arrV (cA 2) n0 (fun j => .int (f j))).setSlot _ _) = _
        rw [arrV_store]
        congr 2
        funext q
        by_cases hq : q = x.toNatClampNeg
        · subst hq
          simp [updV, upd]
        · simp [updV, upd, hq]
    · exact False.elim hop
  · exact False.elim hop
theorem ok_bastore (hd : decode i.cc pc = .ok (.bastore, 1)) (hn : pc + 1 = nx) : nm_ok I i L xs pc (op_ast 0 nx) := by
  intro d l D cA b base p e R s m args below meth c QQ C Q hR1 hR2 hR3 hR4 hG hC hQ ls st w k n hop H locs A hz hP hS hL
  obtain ⟨hx, hb, hml, hown, hts, hN, hK, hX, hbb, hbs, hin⟩ := hG
  subst hn
  unfold op_ast at hop
  split at hop
  · rename_i y x a r
    split at hop
    · rename_i w' hy
      obtain ⟨n0, f, ha, hi, rfl⟩ := nm_ast_some hy
      refine W.zast hx hb (hP a _ (nm_cw_at ha)) ((hK.2 0 _ rfl).1 n0 (fun j => .int (f j))) (fun q => by cases q) (by show ¬ (x < 0 ∨ (arrV _ _ _).slots.size ≤ _); rw [arrV_size]; exact hi) rfl rfl hd fun H1 e1 z oq => ?_
      refine hop H1 _ A (by rw [z, hz, List.length_set]) ?_ (hS.put z oq (Nat.le_add_right _ _)) hL
      have hs := va_P.set (e := .inl (cA 0, n0, .inl (upd f x.toNatClampNeg (vp_nar .boolean y)))) hP nm_cw_D (nm_cw_at ha) ?_ oq
      · rw [show (Sum.inl (cA 0, n0, Sum.inl (upd f x.toNatClampNeg (vp_nar .boolean y))) : va_E) = nm_ce cA b base (.inl (0, n0, .inl (upd f x.toNatClampNeg (vp_nar .boolean y)))) from rfl, nm_cw_set] at hs
        exact hs
      · show H1[base + a]? = some (vp_cell _ _)
        rw [e1]
        rw [show vp_cell (cA 0) (n0, Sum.inl (upd f x.toNatClampNeg (vp_nar .boolean y))) = arrV (cA 0) n0 (fun j => .int (upd f x.toNatClampNeg (vp_nar .boolean y) j)) from rfl]
        show some ((arrV (cA 0) n0 (fun j => .int (f j))).setSlot _ _) = _
        rw [arrV_store]
        congr 2
        funext q
        by_cases hq : q = x.toNatClampNeg
        · subst hq
          simp [updV, upd, vp_nar]
          try rfl
        · simp [updV, upd, hq]
    · exact False.elim hop
  · exact False.elim hop
theorem ok_castore (hd : decode i.cc pc = .ok (.castore, 1)) (hn : pc + 1 = nx) : nm_ok I i L xs pc (op_ast 1 nx) := by
  intro d l D cA b base p e R s m args below meth c QQ C Q hR1 hR2 hR3 hR4 hG hC hQ ls st w k n hop H locs A hz hP hS hL
  obtain ⟨hx, hb, hml, hown, hts, hN, hK, hX, hbb, hbs, hin⟩ := hG
  subst hn
  unfold op_ast at hop
  split at hop
  · rename_i y x a r
    split at hop
    · rename_i w' hy
      obtain ⟨n0, f, ha, hi, rfl⟩ := nm_ast_some hy
      refine W.cast hx hb (hP a _ (nm_cw_at ha)) ((hK.2 1 _ rfl).1 n0 (fun j => .int (f j))) (fun q => by cases q) (by show ¬ (x < 0 ∨ (arrV _ _ _).slots.size ≤ _); rw [arrV_size]; exact hi) rfl rfl hd fun H1 e1 z oq => ?_
      refine hop H1 _ A (by rw [z, hz, List.length_set]) ?_ (hS.put z oq (Nat.le_add_right _ _)) hL
      have hs := va_P.set (e := .inl (cA 1, n0, .inl (upd f x.toNatClampNeg (vp_nar .char y)))) hP nm_cw_D (nm_cw_at ha) ?_ oq
      · rw [show (Sum.inl (cA 1, n0, Sum.inl (upd f x.toNatClampNeg (vp_nar .char y))) : va_E) = nm_ce cA b base (.inl (1, n0, .inl (upd f x.toNatClampNeg (vp_nar .char y)))) from rfl, nm_cw_set] at hs
        exact hs
      · show H1[base + a]? = some (vp_cell _ _)
        rw [e1]
        rw [show vp_cell (cA 1) (n0, Sum.inl (upd f x.toNatClampNeg (vp_nar .char y))) = arrV (cA 1) n0 (fun j => .int (upd f x.toNatClampNeg (vp_nar .char y) j)) from rfl]
        show some ((arrV (cA 1) n0 (fun j => .int (f j))).setSlot _ _) = _
        rw [arrV_store]
        congr 2
        funext q
        by_cases hq : q = x.toNatClampNeg
        · subst hq
          simp [updV, upd, vp_nar]
          try rfl
        · simp [updV, upd, hq]
    · exact False.elim hop
  · exact False.elim hop
theorem ok_lastore (hd : decode i.cc pc = .ok (.lastore, 1)) (hn : pc + 1 = nx) : nm_ok I i L xs pc (op_last nx) := by
  intro d l D cA b base p e R s m args below meth c QQ C Q hR1 hR2 hR3 hR4 hG hC hQ ls st w k n hop H locs A hz hP hS hL
  obtain ⟨hx, hb, hml, hown, hts, hN, hK, hX, hbb, hbs, hin⟩ := hG
  subst hn
  unfold op_last at hop
  split at hop
  · rename_i y x a r
    split at hop
    · rename_i w' hy
      unfold nm_last at hy
      split at hy
      · rename_i t' n0 f ha
        split at hy
        · rename_i hh
          cases hy
          obtain ⟨rfl, hi⟩ := hh
          refine W.last hx hb (hP a _ (nm_cw_at ha)) ((hK.2 3 _ rfl).1 n0 (fun j => .long (f j))) (fun q => by cases q) (by show ¬ (x < 0 ∨ (arrV _ _ _).slots.size ≤ _); rw [arrV_size]; exact hi) rfl rfl hd fun H1 e1 z oq => ?_
          refine hop H1 _ A (by rw [z, hz, List.length_set]) ?_ (hS.put z oq (Nat.le_add_right _ _)) hL
          have hs := va_P.set (e := .inl (cA 3, n0, .inr (.inl (vp_updL f x.toNatClampNeg y)))) hP nm_cw_D (nm_cw_at ha) ?_ oq
          · rw [show (Sum.inl (cA 3, n0, Sum.inr (Sum.inl (vp_updL f x.toNatClampNeg y))) : va_E) = nm_ce cA b base (.inl (3, n0, .inr (vp_updL f x.toNatClampNeg y))) from rfl, nm_cw_set] at hs
            exact hs
          · show H1[base + a]? = some (vp_cell _ _)
            rw [e1]
            rw [show vp_cell (cA 3) (n0, Sum.inr (Sum.inl (vp_updL f x.toNatClampNeg y))) = arrV (cA 3) n0 (fun j => .long (vp_updL f x.toNatClampNeg y j)) from rfl]
            show some ((arrV (cA 3) n0 (fun j => .long (f j))).setSlot _ _) = _
            rw [arrV_store]
            congr 2
            funext q
            by_cases hq : q = x.toNatClampNeg
            · subst hq
              simp [updV, vp_updL]
            · simp [updV, vp_updL, hq]
        · cases hy
      · cases hy
    · exact False.elim hop
  · exact False.elim hop
end OKH
