/-! The flat machine and the real one. Cell number k of the flat world lies at base + k; a float stands for the script, which lies at b. -/
def nm_cv (b base : Nat) : Value → Value
  | .ref k => .ref (base + k)
  | .float _ => .ref b
  | v => v
theorem nm_cv_cat (b base : Nat) (v : Value) : (nm_cv b base v).category = v.category := by cases v <;> rfl
def nm_ce (cA : Nat → ClassId) (b base : Nat) : nm_E → va_E
  | .inl (t, n, .inl f) => .inl (cA t, n, .inl f)
  | .inl (t, n, .inr f) => .inl (cA t, n, .inr (.inl f))
  | .inr (c, fs) => .inr (c, fs.map (nm_cv b base))
def nm_cw (cA : Nat → ClassId) (b base : Nat) (w : nm_W) : va_W := w.mapIdx (fun i x => (base + i, nm_ce cA b base x))
theorem nm_cw_at {cA : Nat → ClassId} {b base : Nat} {w : nm_W} {k : Nat} {x : nm_E} (h : w[k]? = some x) : (nm_cw cA b base w)[k]? = some (base + k, nm_ce cA b base x) := by
  simp [nm_cw, List.getElem?_mapIdx, h]
theorem nm_cw_of {cA : Nat → ClassId} {b base : Nat} {w : nm_W} {k : Nat} {q : Nat × va_E} (h : (nm_cw cA b base w)[k]? = some q) : ∃ x, w[k]? = some x ∧ q = (base + k, nm_ce cA b base x) := by
  simp only [nm_cw, List.getElem?_mapIdx, Option.map_eq_some_iff] at h
  obtain ⟨x, h1, h2⟩ := h
  exact ⟨x, h1, h2.symm⟩
theorem nm_cw_set {cA : Nat → ClassId} {b base : Nat} {w : nm_W} {k : Nat} {x : nm_E} : (nm_cw cA b base w).set k (base + k, nm_ce cA b base x) = nm_cw cA b base (w.set k x) := by
  simp [nm_cw, List.mapIdx_set]
theorem nm_cw_push {cA : Nat → ClassId} {b base : Nat} {w : nm_W} {x : nm_E} : nm_cw cA b base w ++ [(base + w.length, nm_ce cA b base x)] = nm_cw cA b base (w ++ [x]) := by
  simp [nm_cw, List.mapIdx_append]
abbrev nm_A (base : Nat) : Nat → Prop := fun q => base ≤ q
theorem nm_cw_D {cA : Nat → ClassId} {b base : Nat} {w : nm_W} : va_D (nm_A base) (nm_cw cA b base w) := by
  refine ⟨fun i j p q h1 h2 h3 => ?_, fun k q h => ?_⟩
  · obtain ⟨x, -, rfl⟩ := nm_cw_of h1
    obtain ⟨y, -, rfl⟩ := nm_cw_of h2
    dsimp only at h3
    omega
  · obtain ⟨x, -, rfl⟩ := nm_cw_of h
    exact Nat.le_add_right _ _
def nm_tys (cA : Nat → ClassId) : List (ClassId × FieldType) := [(cA 0, .boolean), (cA 1, .char), (cA 2, .int), (cA 3, .long)]
def nm_good : List Cond := lw_tbl.filter goodWord
theorem nm_good_in {w : Cond} (h : w ∈ nm_good) : w ∈ lw_tbl ∧ goodWord w = true := List.mem_filter.mp h
theorem nm_good_of {w : Cond} (h : w ∈ lw_tbl) (h2 : goodWord w = true) : w ∈ nm_good := List.mem_filter.mpr ⟨h, h2⟩
/-- the words on calls of nest mates, which go with the state -/
abbrev nm_Q4 : Type := String × Nat × MethodName × String
def nm_nest : List nm_Q4 := lw_tbl.filterMap (fun w => match w with
  | .methodLinkNest a i x h => some (a, i, x, h)
  | _ => none)
def nm_N (U : State) : Prop := ∀ q ∈ nm_nest, va_Nw (.methodLinkNest q.1 q.2.1 q.2.2.1 q.2.2.2) U
theorem nm_N.warm {s U : State} (hW : s.WarmedH U.vm) (h : nm_N s) : nm_N U := fun q hq => va_Nw.warmM hW (h q hq)
theorem nm_N.same {s U : State} (hW : s.vm = U.vm) (h : nm_N s) : nm_N U := fun q hq => va_Nw.same rfl hW (h q hq)
/-- a method: name, code, locals, answer, where its longs lie, what it makes -/
abbrev nm_I : Type := MethodName × ByteArray × Nat × Option FieldType × List Nat × Nat × Nat
abbrev nm_I.nm (i : nm_I) : MethodName := i.1
abbrev nm_I.cc (i : nm_I) : ByteArray := i.2.1
abbrev nm_I.mL (i : nm_I) : Nat := i.2.2.1
abbrev nm_I.rt (i : nm_I) : Option FieldType := i.2.2.2.1
abbrev nm_I.sl (i : nm_I) : List Nat := i.2.2.2.2.1
abbrev nm_I.mc (i : nm_I) : Nat := i.2.2.2.2.2.1
abbrev nm_I.ms (i : nm_I) : Nat := i.2.2.2.2.2.2
def nm_ws (i : nm_I) : List Cond := .code i.nm i.cc i.mL i.rt :: nm_good
def nm_rm (d : Nat) (i : nm_I) : Room := { frames := d, cells := i.mc, slots := i.ms, locals := 64 * d }
def nm_U (D : va_G) (cA : Nat → ClassId) (b base L : Nat) (xs : Nat → Int32) (w : nm_W) (U : State) : Prop :=
  U.heap.size = base + w.length ∧ va_P D vwCl (nm_cw cA b base w) U.heap ∧ va_K D vwCl (nm_tys cA) U ∧ nm_N U ∧ va_X b L xs U U.heap ∧ b < base
def nm_Pc (D : va_G) (cA : Nat → ClassId) (b base L : Nat) (xs : Nat → Int32) (as : List Value) (w : nm_W) : Array Value → State → Prop := va_Pc (as.map (nm_cv b base)) (nm_U D cA b base L xs w)
def nm_Qc (D : va_G) (cA : Nat → ClassId) (b base : Nat) (K : nm_K) : Array Value → State → Outcome → State → Prop := fun _ st oc t =>
  (∃ (o : Option Value) (v : List Value) (w : nm_W), oc = .returned o ∧ o.toList = v.map (nm_cv b base) ∧ K v w ∧ t.heap.size = base + w.length ∧ va_P D vwCl (nm_cw cA b base w) t.heap) ∧ va_F (nm_A base) st t
def nm_CS (I : Nat → Option nm_I) (l : Launch) (D : va_G) (cA : Nat → ClassId) (b base L : Nat) (xs : Nat → Int32) (d : Nat) (C : nm_C) : Prop :=
  ∀ (y : Nat) (as : List Value) (w : nm_W) (K : nm_K) (i : nm_I), C y as w K → I y = some i → Met l i.nm (nm_ws i) (nm_rm d i) (nm_Pc D cA b base L xs as w) (nm_Qc D cA b base K) i.mc i.ms (nm_A base)
def nm_L (b base : Nat) (S : List Nat) (nL : Nat) (ls : List Value) (A : Array Slot) : Prop :=
  A.size = nL ∧ lv_wf A ∧ (∀ (j : Nat) (v : Value), ls[j]? = some v → v ≠ .null → A[j]? = some (.val (nm_cv b base v))) ∧ ∀ (j : Nat) (v : Value), ls[j]? = some v → v.category = 2 → j ∈ S
/-- the listed values -/
def nm_ll (b base : Nat) (ls : List Value) : List (Nat × Value) := (List.range ls.length).filterMap (fun j => match (ls[j]? : Option Value) with
  | some Value.null => none
  | some v => some (j, nm_cv b base v)
  | none => none)
theorem nm_ll_mem {b base : Nat} {ls : List Value} {q : Nat × Value} : q ∈ nm_ll b base ls ↔ ∃ v, ls[q.1]? = some v ∧ v ≠ .null ∧ q.2 = nm_cv b base v := by
  obtain ⟨j, u⟩ := q
  simp only [nm_ll, List.mem_filterMap, List.mem_range]
  constructor
  · rintro ⟨i, hi, h⟩
    cases hv : ls[i]? with
    | none => rw [hv] at h; cases h
    | some v =>
      rw [hv] at h
      cases v <;> first | (cases h; done) | (cases h; exact ⟨_, hv, (fun z => by cases z), rfl⟩)
  · rintro ⟨v, h1, h2, h3⟩
    have hj : j < ls.length := (List.getElem?_eq_some_iff.mp h1).1
    refine ⟨j, hj, ?_⟩
    try dsimp only at h1 h3
    rw [h1, h3]
    cases v <;> first | rfl | exact absurd rfl h2
theorem nm_L.has {b base : Nat} {S : List Nat} {nL : Nat} {ls : List Value} {A : Array Slot} (h : nm_L b base S nL ls A) : lv_has A nL (nm_ll b base ls) := by
  refine ⟨h.1, h.2.1, fun q hq => ?_⟩
  obtain ⟨v, h1, h2, h3⟩ := nm_ll_mem.mp hq
  rw [h3]
  exact h.2.2.1 _ _ h1 h2
theorem nm_L.set1 {b base : Nat} {S : List Nat} {nL : Nat} {ls : List Value} {A A' : Array Slot} {i : Nat} {v : Value} (h : nm_L b base S nL ls A) (hc : v.category = 1) (hS : i = 0 ∨ i - 1 ∉ S) (h' : lv_has A' nL ((i, nm_cv b base v) :: (nm_ll b base ls).filter (fun q => !(q.1 == i) && !(q.1 + 1 == i && q.2.category == 2)))) : nm_L b base S nL (ls.set i v) A' := by
  refine ⟨h'.1, h'.2.1, fun j u hj hn => ?_, fun j u hj hu => ?_⟩
  · by_cases hji : j = i
    · subst hji
      have hl : j < ls.length := by
        have := (List.getElem?_eq_some_iff.mp hj).1
        simpa using this
      rw [List.getElem?_set_self hl] at hj
      cases hj
      exact h'.2.2 (j, _) List.mem_cons_self
    · rw [List.getElem?_set_ne (Ne.symm hji)] at hj
      refine h'.2.2 (j, nm_cv b base u) (List.mem_cons_of_mem _ (List.mem_filter.mpr ⟨nm_ll_mem.mpr ⟨u, hj, hn, rfl⟩, ?_⟩))
      simp only [Bool.and_eq_true, Bool.not_eq_true', beq_eq_false_iff_ne, ne_eq, Bool.and_eq_false_iff, nm_cv_cat]
      refine ⟨hji, ?_⟩
      by_cases h1 : j + 1 = i
      · refine Or.inr (fun h2 => ?_)
        have := h.2.2.2 j u hj h2
        rcases hS with hS | hS
        · omega
        · exact hS (by rw [show i - 1 = j by omega]; exact this)
      · exact Or.inl h1
  · by_cases hji : j = i
    · subst hji
      have hl : j < ls.length := by
        have := (List.getElem?_eq_some_iff.mp hj).1
        simpa using this
      rw [List.getElem?_set_self hl] at hj
      cases hj
      omega
    · rw [List.getElem?_set_ne (Ne.symm hji)] at hj
      exact h.2.2.2 j u hj hu
theorem nm_L.set2 {b base : Nat} {S : List Nat} {nL : Nat} {ls : List Value} {A A' : Array Slot} {i : Nat} {v : Value} (h : nm_L b base S nL ls A) (hS : i = 0 ∨ i - 1 ∉ S) (hi : i ∈ S) (h' : lv_has A' nL ((i, nm_cv b base v) :: (nm_ll b base ls).filter (fun q => !(q.1 == i) && (!(q.1 == i + 1) && !(q.1 + 1 == i && q.2.category == 2))))) : nm_L b base S nL ((ls.set i v).set (i + 1) .null) A' := by
  refine ⟨h'.1, h'.2.1, fun j u hj hn => ?_, fun j u hj hu => ?_⟩
  · by_cases hj1 : j = i + 1
    · subst hj1
      have hl : i + 1 < (ls.set i v).length := by
        have := (List.getElem?_eq_some_iff.mp hj).1
        simpa using this
      rw [List.getElem?_set_self hl] at hj
      cases hj
      exact absurd rfl hn
    rw [List.getElem?_set_ne (Ne.symm hj1)] at hj
    by_cases hji : j = i
    · subst hji
      have hl : j < ls.length := by
        have := (List.getElem?_eq_some_iff.mp hj).1
        simpa using this
      rw [List.getElem?_set_self hl] at hj
      cases hj
      exact h'.2.2 (j, _) List.mem_cons_self
    · rw [List.getElem?_set_ne (Ne.symm hji)] at hj
      refine h'.2.2 (j, nm_cv b base u) (List.mem_cons_of_mem _ (List.mem_filter.mpr ⟨nm_ll_mem.mpr ⟨u, hj, hn, rfl⟩, ?_⟩))
      simp only [Bool.and_eq_true, Bool.not_eq_true', beq_eq_false_iff_ne, ne_eq, Bool.and_eq_false_iff, nm_cv_cat]
      refine ⟨hji, hj1, ?_⟩
      by_cases h1 : j + 1 = i
      · refine Or.inr (fun h2 => ?_)
        have := h.2.2.2 j u hj h2
        rcases hS with hS | hS
        · omega
        · exact hS (by rw [show i - 1 = j by omega]; exact this)
      · exact Or.inl h1
  · by_cases hj1 : j = i + 1
    · subst hj1
      have hl : i + 1 < (ls.set i v).length := by
        have := (List.getElem?_eq_some_iff.mp hj).1
        simpa using this
      rw [List.getElem?_set_self hl] at hj
      cases hj
      cases hu
    rw [List.getElem?_set_ne (Ne.symm hj1)] at hj
    by_cases hji : j = i
    · subst hji
      exact hi
    · rw [List.getElem?_set_ne (Ne.symm hji)] at hj
      exact h.2.2.2 j u hj hu
theorem nm_lok_spec {S : List Nat} : ∀ {vs : List Value} {i : Nat}, nm_lok S i vs = true → ∀ (j : Nat) (v : Value), vs[j]? = some v → v.category = 2 → i + j ∈ S
  | [], i, _, j, v, h, _ => by simp at h
  | u :: vs, i, h, j, v, hj, hv => by
    simp only [nm_lok, Bool.and_eq_true, Bool.or_eq_true, decide_eq_true_eq] at h
    cases j with
    | zero =>
      simp only [List.getElem?_cons_zero, Option.some.injEq] at hj
      subst hj
      rcases h.1 with h1 | h1
      · omega
      · exact h1
    | succ j =>
      rw [List.getElem?_cons_succ] at hj
      have := nm_lok_spec h.2 j v hj hv
      rw [show i + (j + 1) = i + 1 + j by omega]
      exact this
theorem nm_spr_args {b base : Nat} : ∀ (vs : List Value) (i j : Nat) (v : Value), (nm_spr vs)[j]? = some v → v ≠ .null → (i + j, nm_cv b base v) ∈ lv_args i (vs.map (nm_cv b base))
  | [], i, j, v, h, _ => by simp [nm_spr] at h
  | u :: vs, i, j, v, h, hn => by
    simp only [List.map_cons, lv_args, nm_cv_cat]
    unfold nm_spr at h
    by_cases hc : u.category = 2
    · rw [if_pos hc] at h ⊢
      cases j with
      | zero => simp at h; subst h; exact List.mem_cons_self
      | succ j =>
        cases j with
        | zero => simp at h; exact absurd h.symm hn
        | succ j =>
          simp only [List.getElem?_cons_succ] at h
          have := nm_spr_args (b := b) (base := base) vs (i + 2) j v h hn
          rw [show i + (j + 1 + 1) = i + 2 + j by omega]
          exact List.mem_cons_of_mem _ this
    · rw [if_neg hc] at h ⊢
      cases j with
      | zero => simp at h; subst h; exact List.mem_cons_self
      | succ j =>
        simp only [List.getElem?_cons_succ] at h
        have := nm_spr_args (b := b) (base := base) vs (i + 1) j v h hn
        rw [show i + (j + 1) = i + 1 + j by omega]
        exact List.mem_cons_of_mem _ this
theorem nm_spr_len {b base : Nat} : ∀ (vs : List Value), (lg_sl (vs.map (nm_cv b base))).length = (nm_spr vs).length
  | [] => rfl
  | u :: vs => by
    have ih := nm_spr_len (b := b) (base := base) vs
    unfold nm_spr
    by_cases hc : u.category = 2
    · rw [if_pos hc]
      simp only [lg_sl, List.map_cons, List.flatMap_cons, List.length_append, nm_cv_cat, hc] at ih ⊢
      simp at ih ⊢
      omega
    · rw [if_neg hc]
      simp only [lg_sl, List.map_cons, List.flatMap_cons, List.length_append, nm_cv_cat, hc] at ih ⊢
      simp at ih ⊢
      omega
theorem nm_L.entry {b base : Nat} {S : List Nat} {nL : Nat} {as : List Value} (hl : (nm_spr as).length ≤ nL) (hS : nm_lok S 0 (nm_spr as) = true) : nm_L b base S nL (nm_ent nL as) ((lg_sl (as.map (nm_cv b base)) ++ List.replicate (nL - (lg_sl (as.map (nm_cv b base))).length) Slot.unset).toArray) := by
  have h := lv_entry (as.map (nm_cv b base)) (n := nL) (by rw [nm_spr_len]; exact hl)
  have key : ∀ (j : Nat) (v : Value), (nm_ent nL as)[j]? = some v → v ≠ .null → (nm_spr as)[j]? = some v := by
    intro j v hj hn
    unfold nm_ent at hj
    by_cases hlt : j < (nm_spr as).length
    · rw [List.getElem?_append_left hlt] at hj; exact hj
    · rw [List.getElem?_append_right (by omega), List.getElem?_replicate] at hj
      split at hj
      · cases hj; exact absurd rfl hn
      · cases hj
  refine ⟨h.1, h.2.1, fun j v hj hn => ?_, fun j v hj hv => ?_⟩
  · have := nm_spr_args (b := b) (base := base) as 0 j v (key j v hj hn) hn
    rw [Nat.zero_add] at this
    exact h.2.2 _ this
  · have hn : v ≠ .null := fun z => by rw [z] at hv; cases hv
    have := nm_lok_spec hS j v (key j v hj hn) hv
    rw [Nat.zero_add] at this
    exact this
