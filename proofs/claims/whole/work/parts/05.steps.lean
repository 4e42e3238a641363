/-! Each step of the flat machine stands for one instruction. -/
def nm_G (i : nm_I) (D : va_G) (cA : Nat → ClassId) (b base L : Nat) (xs : Nat → Int32) (p : Program) (s : State) (m : MethodId) (args : Array Value) (meth : Method) (c : Code) : Prop :=
  p.tables.exec = Jvm.exec ∧ c.code = i.cc ∧ c.maxLocals = i.mL ∧ s.vm.findClass i.nm.cls = some m.cls ∧ (∀ w ∈ nm_good, w.before args s = true) ∧ nm_N s ∧ va_K D vwCl (nm_tys cA) s ∧ va_X b L xs s s.heap ∧ b < base ∧ base ≤ s.heap.size ∧ (i.nm.name = "<init>" → meth.name = "<init>")
def nm_Rt (i : nm_I) (D : va_G) (cA : Nat → ClassId) (b base : Nat) (p : Program) (l : Launch) (e : Env) (R : Room) (s : State) (m : MethodId) (args : Array Value) (below : List Frame) (meth : Method) (c : Code) (QQ : State → Prop) (Q : nm_K) : Prop :=
  ∀ (v : List Value) (w : nm_W) (H : Heap) (locs : List Loc) (k n : Nat) (A : Array Slot) (pc : Nat), ((∃ x ty, v = [.int x] ∧ decode i.cc pc = .ok (.ireturn, 1) ∧ i.rt = some ty ∧ narrow ty (.int x) = .int x) ∨ (∃ x, v = [.long x] ∧ decode i.cc pc = .ok (.lreturn, 1) ∧ i.rt = some .long) ∨ (v = [] ∧ decode i.cc pc = .ok (.return_, 1) ∧ i.rt = none)) →
    Q v w → H.size = base + w.length → va_P D vwCl (nm_cw cA b base w) H → va_S (nm_A base) s.heap H locs → k ≤ i.mc → n ≤ i.ms → W p l e R s m args below meth c H locs k n QQ (F0 m pc A (v.map (nm_cv b base)))
def nm_Wf (i : nm_I) (D : va_G) (cA : Nat → ClassId) (b base : Nat) (p : Program) (l : Launch) (e : Env) (R : Room) (s : State) (m : MethodId) (args : Array Value) (below : List Frame) (meth : Method) (c : Code) (QQ : State → Prop) : nm_F := fun pc ls st w k n =>
  ∀ (H : Heap) (locs : List Loc) (A : Array Slot), H.size = base + w.length → va_P D vwCl (nm_cw cA b base w) H → va_S (nm_A base) s.heap H locs → nm_L b base i.sl i.mL ls A → W p l e R s m args below meth c H locs k n QQ (F0 m pc A (st.map (nm_cv b base)))
def nm_ok (I : Nat → Option nm_I) (i : nm_I) (L : Nat) (xs : Nat → Int32) (pc : Nat) (op : nm_Op) : Prop :=
  ∀ (d : Nat) (l : Launch) (D : va_G) (cA : Nat → ClassId) (b base : Nat) (p : Program) (e : Env) (R : Room) (s : State) (m : MethodId) (args : Array Value) (below : List Frame) (meth : Method) (c : Code) (QQ : State → Prop) (C : nm_C) (Q : nm_K),
    d + 1 ≤ R.frames → 64 * d + 64 ≤ R.locals → i.mc ≤ R.cells → i.ms ≤ R.slots → nm_G i D cA b base L xs p s m args meth c → nm_CS I l D cA b base L xs d C → nm_Rt i D cA b base p l e R s m args below meth c QQ Q →
    ∀ (ls st : List Value) (w : nm_W) (k n : Nat), nm_sem C Q (nm_Wf i D cA b base p l e R s m args below meth c QQ) (op ls st w k n) → nm_Wf i D cA b base p l e R s m args below meth c QQ pc ls st w k n
theorem nm_sound {I : Nat → Option nm_I} {i : nm_I} {L : Nat} {xs : Nat → Int32} {t : nm_T} (ht : ∀ q ∈ t, nm_ok I i L xs q.1 q.2)
    {d : Nat} {l : Launch} {D : va_G} {cA : Nat → ClassId} {b base : Nat} {p : Program} {e : Env} {R : Room} {s : State} {m : MethodId} {args : Array Value} {below : List Frame} {meth : Method} {c : Code} {QQ : State → Prop} {C : nm_C} {Q : nm_K}
    (hR1 : d + 1 ≤ R.frames) (hR2 : 64 * d + 64 ≤ R.locals) (hR3 : i.mc ≤ R.cells) (hR4 : i.ms ≤ R.slots) (hG : nm_G i D cA b base L xs p s m args meth c) (hC : nm_CS I l D cA b base L xs d C) (hQ : nm_Rt i D cA b base p l e R s m args below meth c QQ Q)
    {pc : Nat} {ls st : List Value} {w : nm_W} {k n : Nat} (h : nm_X t C Q pc ls st w k n) : nm_Wf i D cA b base p l e R s m args below meth c QQ pc ls st w k n := by
  refine h _ ?_
  intro pc ls st w k n hs
  unfold nm_stp at hs
  have key : ∀ (t : nm_T), (∀ q ∈ t, nm_ok I i L xs q.1 q.2) → ∀ op, nm_look t pc = some op → nm_ok I i L xs pc op := by
    intro t
    induction t with
    | nil => intro _ op h; cases h
    | cons a t ih =>
      intro ht op h
      obtain ⟨q, o⟩ := a
      unfold nm_look at h
      cases hq : Nat.beq q pc with
      | true =>
        rw [hq] at h
        have h : some o = some op := h
        rw [← Option.some.inj h, ← Nat.eq_of_beq_eq_true hq]
        exact ht (q, o) List.mem_cons_self
      | false =>
        rw [hq] at h
        exact ih (fun z hz => ht z (List.mem_cons_of_mem _ hz)) op h
  cases ho : nm_look t pc with
  | none => rw [ho] at hs; exact False.elim hs
  | some op =>
    rw [ho] at hs
    exact key t ht op ho d l D cA b base p e R s m args below meth c QQ C Q hR1 hR2 hR3 hR4 hG hC hQ ls st w k n hs
section OK
variable {I : Nat → Option nm_I} {i : nm_I} {L : Nat} {xs : Nat → Int32} {pc nx tg : Nat}
theorem ok_iconst {z : Int} {v : Int32} (hd : decode i.cc pc = .ok (.iconst z, 1)) (hv : Int32.ofInt z = v) (hn : pc + 1 = nx) : nm_ok I i L xs pc (op_push (.int v) nx) := by
  intro d l D cA b base p e R s m args below meth c QQ C Q hR1 hR2 hR3 hR4 hG hC hQ ls st w k n hop H locs A hz hP hS hL
  obtain ⟨hx, hb, hml, hown, hts, hN, hK, hX, hbb, hbs, hin⟩ := hG
  subst hn
  exact lv_iconst hx hb hd hv (hop H locs A hz hP hS hL)
theorem ok_bipush {z : Int} {v : Int32} (hd : decode i.cc pc = .ok (.bipush z, 2)) (hv : (Int8.ofInt z).toInt32 = v) (hn : pc + 2 = nx) : nm_ok I i L xs pc (op_push (.int v) nx) := by
  intro d l D cA b base p e R s m args below meth c QQ C Q hR1 hR2 hR3 hR4 hG hC hQ ls st w k n hop H locs A hz hP hS hL
  obtain ⟨hx, hb, hml, hown, hts, hN, hK, hX, hbb, hbs, hin⟩ := hG
  subst hn
  exact lv_bipush hx hb hd hv (hop H locs A hz hP hS hL)
theorem ok_sipush {z : Int} {v : Int32} (hd : decode i.cc pc = .ok (.sipush z, 3)) (hv : (Int16.ofInt z).toInt32 = v) (hn : pc + 3 = nx) : nm_ok I i L xs pc (op_push (.int v) nx) := by
  intro d l D cA b base p e R s m args below meth c QQ C Q hR1 hR2 hR3 hR4 hG hC hQ ls st w k n hop H locs A hz hP hS hL
  obtain ⟨hx, hb, hml, hown, hts, hN, hK, hX, hbb, hbs, hin⟩ := hG
  subst hn
  exact lv_sipush hx hb hd hv (hop H locs A hz hP hS hL)
theorem ok_lconst {z : Fin 2} {v : Int64} (hd : decode i.cc pc = .ok (.lconst z, 1)) (hv : Int64.ofNat (z : Nat) = v) (hn : pc + 1 = nx) : nm_ok I i L xs pc (op_push (.long v) nx) := by
  intro d l D cA b base p e R s m args below meth c QQ C Q hR1 hR2 hR3 hR4 hG hC hQ ls st w k n hop H locs A hz hP hS hL
  obtain ⟨hx, hb, hml, hown, hts, hN, hK, hX, hbb, hbs, hin⟩ := hG
  subst hn
  exact lv_lconst hx hb hd hv (hop H locs A hz hP hS hL)
theorem ok_ldc {idx : Nat} {v : Int32} (hw : Cond.constant i.nm.cls idx v ∈ nm_good) (hd : decode i.cc pc = .ok (.ldc idx, 2)) (hn : pc + 2 = nx) : nm_ok I i L xs pc (op_push (.int v) nx) := by
  intro d l D cA b base p e R s m args below meth c QQ C Q hR1 hR2 hR3 hR4 hG hC hQ ls st w k n hop H locs A hz hP hS hL
  obtain ⟨hx, hb, hml, hown, hts, hN, hK, hX, hbb, hbs, hin⟩ := hG
  subst hn
  exact lv_ldc hx hb hown (hts _ hw) hd (hop H locs A hz hP hS hL)
theorem ok_ldcw {idx : Nat} {v : Int32} (hw : Cond.constant i.nm.cls idx v ∈ nm_good) (hd : decode i.cc pc = .ok (.ldc_w idx, 3)) (hn : pc + 3 = nx) : nm_ok I i L xs pc (op_push (.int v) nx) := by
  intro d l D cA b base p e R s m args below meth c QQ C Q hR1 hR2 hR3 hR4 hG hC hQ ls st w k n hop H locs A hz hP hS hL
  obtain ⟨hx, hb, hml, hown, hts, hN, hK, hX, hbb, hbs, hin⟩ := hG
  subst hn
  exact lv_ldcw hx hb hown (hts _ hw) hd (hop H locs A hz hP hS hL)
theorem ok_ldc2 {idx : Nat} {v : Int64} (hw : Cond.constantLong i.nm.cls idx v ∈ nm_good) (hd : decode i.cc pc = .ok (.ldc2_w idx, 3)) (hn : pc + 3 = nx) : nm_ok I i L xs pc (op_push (.long v) nx) := by
  intro d l D cA b base p e R s m args below meth c QQ C Q hR1 hR2 hR3 hR4 hG hC hQ ls st w k n hop H locs A hz hP hS hL
  obtain ⟨hx, hb, hml, hown, hts, hN, hK, hX, hbb, hbs, hin⟩ := hG
  subst hn
  exact lv_ldc2 hx hb hown (hts _ hw) hd (hop H locs A hz hP hS hL)
theorem ok_iload_n {f : Fin 4} {j : Nat} (hd : decode i.cc pc = .ok (.iload_n f, 1)) (hj : (f : Nat) = j) (hn : pc + 1 = nx) : nm_ok I i L xs pc (op_ldI j nx) := by
  intro d l D cA b base p e R s m args below meth c QQ C Q hR1 hR2 hR3 hR4 hG hC hQ ls st w k n hop H locs A hz hP hS hL
  obtain ⟨hx, hb, hml, hown, hts, hN, hK, hX, hbb, hbs, hin⟩ := hG
  subst hn
  unfold op_ldI at hop
  split at hop
  · rename_i x hv
    exact lv_iload_n hx hb hd hj (hL.2.2.1 j _ hv (fun z => by cases z)) (hop H locs A hz hP hS hL)
  · exact False.elim hop
theorem ok_iload {j : Nat} (hd : decode i.cc pc = .ok (.iload j, 2)) (hn : pc + 2 = nx) : nm_ok I i L xs pc (op_ldI j nx) := by
  intro d l D cA b base p e R s m args below meth c QQ C Q hR1 hR2 hR3 hR4 hG hC hQ ls st w k n hop H locs A hz hP hS hL
  obtain ⟨hx, hb, hml, hown, hts, hN, hK, hX, hbb, hbs, hin⟩ := hG
  subst hn
  unfold op_ldI at hop
  split at hop
  · rename_i x hv
    exact lv_iload hx hb hd (hL.2.2.1 j _ hv (fun z => by cases z)) (hop H locs A hz hP hS hL)
  · exact False.elim hop
theorem ok_lload_n {f : Fin 4} {j : Nat} (hd : decode i.cc pc = .ok (.lload_n f, 1)) (hj : (f : Nat) = j) (hn : pc + 1 = nx) : nm_ok I i L xs pc (op_ldL j nx) := by
  intro d l D cA b base p e R s m args below meth c QQ C Q hR1 hR2 hR3 hR4 hG hC hQ ls st w k n hop H locs A hz hP hS hL
  obtain ⟨hx, hb, hml, hown, hts, hN, hK, hX, hbb, hbs, hin⟩ := hG
  subst hn
  unfold op_ldL at hop
  split at hop
  · rename_i x hv
    exact lv_lload_n hx hb hd hj (hL.2.2.1 j _ hv (fun z => by cases z)) (hop H locs A hz hP hS hL)
  · exact False.elim hop
theorem ok_lload {j : Nat} (hd : decode i.cc pc = .ok (.lload j, 2)) (hn : pc + 2 = nx) : nm_ok I i L xs pc (op_ldL j nx) := by
  intro d l D cA b base p e R s m args below meth c QQ C Q hR1 hR2 hR3 hR4 hG hC hQ ls st w k n hop H locs A hz hP hS hL
  obtain ⟨hx, hb, hml, hown, hts, hN, hK, hX, hbb, hbs, hin⟩ := hG
  subst hn
  unfold op_ldL at hop
  split at hop
  · rename_i x hv
    exact lv_lload hx hb hd (hL.2.2.1 j _ hv (fun z => by cases z)) (hop H locs A hz hP hS hL)
  · exact False.elim hop
theorem ok_aload_n {f : Fin 4} {j : Nat} (hd : decode i.cc pc = .ok (.aload_n f, 1)) (hj : (f : Nat) = j) (hn : pc + 1 = nx) : nm_ok I i L xs pc (op_ldA j nx) := by
  intro d l D cA b base p e R s m args below meth c QQ C Q hR1 hR2 hR3 hR4 hG hC hQ ls st w k n hop H locs A hz hP hS hL
  obtain ⟨hx, hb, hml, hown, hts, hN, hK, hX, hbb, hbs, hin⟩ := hG
  subst hn
  unfold op_ldA at hop
  split at hop
  · rename_i x hv
    exact lv_aload_n hx hb hd hj (hL.2.2.1 j _ hv (fun z => by cases z)) (hop H locs A hz hP hS hL)
  · rename_i x hv
    exact lv_aload_n hx hb hd hj (hL.2.2.1 j _ hv (fun z => by cases z)) (hop H locs A hz hP hS hL)
  · exact False.elim hop
theorem ok_istore_n {f : Fin 4} {j : Nat} (hd : decode i.cc pc = .ok (.istore_n f, 1)) (hj : (f : Nat) = j) (hn : pc + 1 = nx) (hl : j < i.mL ∧ (j = 0 ∨ j - 1 ∉ i.sl)) : nm_ok I i L xs pc (op_stI j nx) := by
  intro d l D cA b base p e R s m args below meth c QQ C Q hR1 hR2 hR3 hR4 hG hC hQ ls st w k n hop H locs A hz hP hS hL
  obtain ⟨hx, hb, hml, hown, hts, hN, hK, hX, hbb, hbs, hin⟩ := hG
  subst hn
  unfold op_stI at hop
  split at hop
  · rename_i x r
    exact lv_istore_n hx hb hd hj hL.has hl.1 rfl (fun A' hA' => hop H locs A' hz hP hS (hL.set1 rfl hl.2 hA'))
  · exact False.elim hop
theorem ok_istore {j : Nat} (hd : decode i.cc pc = .ok (.istore j, 2)) (hn : pc + 2 = nx) (hl : j < i.mL ∧ (j = 0 ∨ j - 1 ∉ i.sl)) : nm_ok I i L xs pc (op_stI j nx) := by
  intro d l D cA b base p e R s m args below meth c QQ C Q hR1 hR2 hR3 hR4 hG hC hQ ls st w k n hop H locs A hz hP hS hL
  obtain ⟨hx, hb, hml, hown, hts, hN, hK, hX, hbb, hbs, hin⟩ := hG
  subst hn
  unfold op_stI at hop
  split at hop
  · rename_i x r
    exact lv_istore hx hb hd hL.has hl.1 rfl (fun A' hA' => hop H locs A' hz hP hS (hL.set1 rfl hl.2 hA'))
  · exact False.elim hop
theorem ok_lstore_n {f : Fin 4} {j : Nat} (hd : decode i.cc pc = .ok (.lstore_n f, 1)) (hj : (f : Nat) = j) (hn : pc + 1 = nx) (hl : j + 1 < i.mL ∧ (j = 0 ∨ j - 1 ∉ i.sl) ∧ j ∈ i.sl) : nm_ok I i L xs pc (op_stL j nx) := by
  intro d l D cA b base p e R s m args below meth c QQ C Q hR1 hR2 hR3 hR4 hG hC hQ ls st w k n hop H locs A hz hP hS hL
  obtain ⟨hx, hb, hml, hown, hts, hN, hK, hX, hbb, hbs, hin⟩ := hG
  subst hn
  unfold op_stL at hop
  split at hop
  · rename_i x r
    exact lv_lstore_n hx hb hd hj hL.has hl.1 rfl (fun A' hA' => hop H locs A' hz hP hS (hL.set2 (v := .long x) hl.2.1 hl.2.2 hA'))
  · exact False.elim hop
theorem ok_lstore {j : Nat} (hd : decode i.cc pc = .ok (.lstore j, 2)) (hn : pc + 2 = nx) (hl : j + 1 < i.mL ∧ (j = 0 ∨ j - 1 ∉ i.sl) ∧ j ∈ i.sl) : nm_ok I i L xs pc (op_stL j nx) := by
  intro d l D cA b base p e R s m args below meth c QQ C Q hR1 hR2 hR3 hR4 hG hC hQ ls st w k n hop H locs A hz hP hS hL
  obtain ⟨hx, hb, hml, hown, hts, hN, hK, hX, hbb, hbs, hin⟩ := hG
  subst hn
  unfold op_stL at hop
  split at hop
  · rename_i x r
    exact lv_lstore hx hb hd hL.has hl.1 rfl (fun A' hA' => hop H locs A' hz hP hS (hL.set2 (v := .long x) hl.2.1 hl.2.2 hA'))
  · exact False.elim hop
theorem ok_astore_n {f : Fin 4} {j : Nat} (hd : decode i.cc pc = .ok (.astore_n f, 1)) (hj : (f : Nat) = j) (hn : pc + 1 = nx) (hl : j < i.mL ∧ (j = 0 ∨ j - 1 ∉ i.sl)) : nm_ok I i L xs pc (op_stA j nx) := by
  intro d l D cA b base p e R s m args below meth c QQ C Q hR1 hR2 hR3 hR4 hG hC hQ ls st w k n hop H locs A hz hP hS hL
  obtain ⟨hx, hb, hml, hown, hts, hN, hK, hX, hbb, hbs, hin⟩ := hG
  subst hn
  unfold op_stA at hop
  split at hop
  · rename_i x r
    exact lv_astore_n hx hb hd hj hL.has hl.1 rfl (fun A' hA' => hop H locs A' hz hP hS (hL.set1 (v := .ref x) rfl hl.2 hA'))
  · exact False.elim hop
theorem ok_iinc {j : Nat} {z : Int} {v : Int32} (hd : decode i.cc pc = .ok (.iinc j z, 3)) (hv : Int32.ofInt z = v) (hn : pc + 3 = nx) (hl : j < i.mL ∧ (j = 0 ∨ j - 1 ∉ i.sl)) : nm_ok I i L xs pc (op_inc j v nx) := by
  intro d l D cA b base p e R s m args below meth c QQ C Q hR1 hR2 hR3 hR4 hG hC hQ ls st w k n hop H locs A hz hP hS hL
  obtain ⟨hx, hb, hml, hown, hts, hN, hK, hX, hbb, hbs, hin⟩ := hG
  subst hn
  unfold op_inc at hop
  split at hop
  · rename_i x hv2
    have hm : ((j, Value.int x) : Nat × Value) ∈ nm_ll b base ls := nm_ll_mem.mpr ⟨_, hv2, (fun z => by cases z), rfl⟩
    obtain ⟨kk, hkk⟩ := List.getElem?_of_mem hm
    exact lv_iinc hx hb hd hL.has hkk (by rw [hv]) hl.1 rfl (fun A' hA' => hop H locs A' hz hP hS (hL.set1 (v := .int (x + v)) rfl hl.2 hA'))
  · exact False.elim hop
theorem ok_iadd (hd : decode i.cc pc = .ok (.iadd, 1)) (hn : pc + 1 = nx) : nm_ok I i L xs pc (op_bin (fun x y => x + y) nx) := by
  intro d l D cA b base p e R s m args below meth c QQ C Q hR1 hR2 hR3 hR4 hG hC hQ ls st w k n hop H locs A hz hP hS hL
  obtain ⟨hx, hb, hml, hown, hts, hN, hK, hX, hbb, hbs, hin⟩ := hG
  subst hn
  unfold op_bin at hop
  split at hop
  · exact lv_iadd hx hb hd (hop H locs A hz hP hS hL)
  · exact False.elim hop
theorem ok_isub (hd : decode i.cc pc = .ok (.isub, 1)) (hn : pc + 1 = nx) : nm_ok I i L xs pc (op_bin (fun x y => x - y) nx) := by
  intro d l D cA b base p e R s m args below meth c QQ C Q hR1 hR2 hR3 hR4 hG hC hQ ls st w k n hop H locs A hz hP hS hL
  obtain ⟨hx, hb, hml, hown, hts, hN, hK, hX, hbb, hbs, hin⟩ := hG
  subst hn
  unfold op_bin at hop
  split at hop
  · exact lv_isub hx hb hd (hop H locs A hz hP hS hL)
  · exact False.elim hop
theorem ok_imul (hd : decode i.cc pc = .ok (.imul, 1)) (hn : pc + 1 = nx) : nm_ok I i L xs pc (op_bin (fun x y => x * y) nx) := by
  intro d l D cA b base p e R s m args below meth c QQ C Q hR1 hR2 hR3 hR4 hG hC hQ ls st w k n hop H locs A hz hP hS hL
  obtain ⟨hx, hb, hml, hown, hts, hN, hK, hX, hbb, hbs, hin⟩ := hG
  subst hn
  unfold op_bin at hop
  split at hop
  · exact lv_imul hx hb hd (hop H locs A hz hP hS hL)
  · exact False.elim hop
theorem ok_iand (hd : decode i.cc pc = .ok (.iand, 1)) (hn : pc + 1 = nx) : nm_ok I i L xs pc (op_bin (fun x y => x &&& y) nx) := by
  intro d l D cA b base p e R s m args below meth c QQ C Q hR1 hR2 hR3 hR4 hG hC hQ ls st w k n hop H locs A hz hP hS hL
  obtain ⟨hx, hb, hml, hown, hts, hN, hK, hX, hbb, hbs, hin⟩ := hG
  subst hn
  unfold op_bin at hop
  split at hop
  · exact lv_iand hx hb hd (hop H locs A hz hP hS hL)
  · exact False.elim hop
theorem ok_ior (hd : decode i.cc pc = .ok (.ior, 1)) (hn : pc + 1 = nx) : nm_ok I i L xs pc (op_bin (fun x y => x ||| y) nx) := by
  intro d l D cA b base p e R s m args below meth c QQ C Q hR1 hR2 hR3 hR4 hG hC hQ ls st w k n hop H locs A hz hP hS hL
  obtain ⟨hx, hb, hml, hown, hts, hN, hK, hX, hbb, hbs, hin⟩ := hG
  subst hn
  unfold op_bin at hop
  split at hop
  · exact lv_ior hx hb hd (hop H locs A hz hP hS hL)
  · exact False.elim hop
theorem ok_ixor (hd : decode i.cc pc = .ok (.ixor, 1)) (hn : pc + 1 = nx) : nm_ok I i L xs pc (op_bin (fun x y => x ^^^ y) nx) := by
  intro d l D cA b base p e R s m args below meth c QQ C Q hR1 hR2 hR3 hR4 hG hC hQ ls st w k n hop H locs A hz hP hS hL
  obtain ⟨hx, hb, hml, hown, hts, hN, hK, hX, hbb, hbs, hin⟩ := hG
  subst hn
  unfold op_bin at hop
  split at hop
  · exact lv_ixor hx hb hd (hop H locs A hz hP hS hL)
  · exact False.elim hop
theorem ok_ishl (hd : decode i.cc pc = .ok (.ishl, 1)) (hn : pc + 1 = nx) : nm_ok I i L xs pc (op_bin (fun x y => x <<< (y &&& 31)) nx) := by
  intro d l D cA b base p e R s m args below meth c QQ C Q hR1 hR2 hR3 hR4 hG hC hQ ls st w k n hop H locs A hz hP hS hL
  obtain ⟨hx, hb, hml, hown, hts, hN, hK, hX, hbb, hbs, hin⟩ := hG
  subst hn
  unfold op_bin at hop
  split at hop
  · exact lv_ishl hx hb hd (hop H locs A hz hP hS hL)
  · exact False.elim hop
theorem ok_ishr (hd : decode i.cc pc = .ok (.ishr, 1)) (hn : pc + 1 = nx) : nm_ok I i L xs pc (op_bin (fun x y => x >>> (y &&& 31)) nx) := by
  intro d l D cA b base p e R s m args below meth c QQ C Q hR1 hR2 hR3 hR4 hG hC hQ ls st w k n hop H locs A hz hP hS hL
  obtain ⟨hx, hb, hml, hown, hts, hN, hK, hX, hbb, hbs, hin⟩ := hG
  subst hn
  unfold op_bin at hop
  split at hop
  · exact lv_ishr hx hb hd (hop H locs A hz hP hS hL)
  · exact False.elim hop
theorem ok_iushr (hd : decode i.cc pc = .ok (.iushr, 1)) (hn : pc + 1 = nx) : nm_ok I i L xs pc (op_bin (fun x y => (x.toUInt32 >>> (y.toUInt32 &&& Int32.toUInt32 31)).toInt32) nx) := by
  intro d l D cA b base p e R s m args below meth c QQ C Q hR1 hR2 hR3 hR4 hG hC hQ ls st w k n hop H locs A hz hP hS hL
  obtain ⟨hx, hb, hml, hown, hts, hN, hK, hX, hbb, hbs, hin⟩ := hG
  subst hn
  unfold op_bin at hop
  split at hop
  · exact lv_iushr hx hb hd rfl (hop H locs A hz hP hS hL)
  · exact False.elim hop
theorem ok_idiv (hd : decode i.cc pc = .ok (.idiv, 1)) (hn : pc + 1 = nx) : nm_ok I i L xs pc (op_div nx) := by
  intro d l D cA b base p e R s m args below meth c QQ C Q hR1 hR2 hR3 hR4 hG hC hQ ls st w k n hop H locs A hz hP hS hL
  obtain ⟨hx, hb, hml, hown, hts, hN, hK, hX, hbb, hbs, hin⟩ := hG
  subst hn
  unfold op_div at hop
  split at hop
  · split at hop
    · exact False.elim hop
    · rename_i hne
      exact lv_idiv hx hb hd hne (hop H locs A hz hP hS hL)
  · exact False.elim hop
theorem ok_ladd (hd : decode i.cc pc = .ok (.ladd, 1)) (hn : pc + 1 = nx) : nm_ok I i L xs pc (op_lbin (fun x y => x + y) nx) := by
  intro d l D cA b base p e R s m args below meth c QQ C Q hR1 hR2 hR3 hR4 hG hC hQ ls st w k n hop H locs A hz hP hS hL
  obtain ⟨hx, hb, hml, hown, hts, hN, hK, hX, hbb, hbs, hin⟩ := hG
  subst hn
  unfold op_lbin at hop
  split at hop
  · exact lv_ladd hx hb hd (hop H locs A hz hP hS hL)
  · exact False.elim hop
theorem ok_lmul (hd : decode i.cc pc = .ok (.lmul, 1)) (hn : pc + 1 = nx) : nm_ok I i L xs pc (op_lbin (fun x y => x * y) nx) := by
  intro d l D cA b base p e R s m args below meth c QQ C Q hR1 hR2 hR3 hR4 hG hC hQ ls st w k n hop H locs A hz hP hS hL
  obtain ⟨hx, hb, hml, hown, hts, hN, hK, hX, hbb, hbs, hin⟩ := hG
  subst hn
  unfold op_lbin at hop
  split at hop
  · exact lv_lmul hx hb hd (hop H locs A hz hP hS hL)
  · exact False.elim hop
theorem ok_lshl (hd : decode i.cc pc = .ok (.lshl, 1)) (hn : pc + 1 = nx) : nm_ok I i L xs pc (op_lsh (fun x y => x <<< (y.toInt64 &&& 63)) nx) := by
  intro d l D cA b base p e R s m args below meth c QQ C Q hR1 hR2 hR3 hR4 hG hC hQ ls st w k n hop H locs A hz hP hS hL
  obtain ⟨hx, hb, hml, hown, hts, hN, hK, hX, hbb, hbs, hin⟩ := hG
  subst hn
  unfold op_lsh at hop
  split at hop
  · exact lv_lshl hx hb hd rfl (hop H locs A hz hP hS hL)
  · exact False.elim hop
theorem ok_lshr (hd : decode i.cc pc = .ok (.lshr, 1)) (hn : pc + 1 = nx) : nm_ok I i L xs pc (op_lsh (fun x y => x >>> (y.toInt64 &&& 63)) nx) := by
  intro d l D cA b base p e R s m args below meth c QQ C Q hR1 hR2 hR3 hR4 hG hC hQ ls st w k n hop H locs A hz hP hS hL
  obtain ⟨hx, hb, hml, hown, hts, hN, hK, hX, hbb, hbs, hin⟩ := hG
  subst hn
  unfold op_lsh at hop
  split at hop
  · exact lv_lshr hx hb hd rfl (hop H locs A hz hP hS hL)
  · exact False.elim hop
theorem ok_lcmp (hd : decode i.cc pc = .ok (.lcmp, 1)) (hn : pc + 1 = nx) : nm_ok I i L xs pc (op_lcmp nx) := by
  intro d l D cA b base p e R s m args below meth c QQ C Q hR1 hR2 hR3 hR4 hG hC hQ ls st w k n hop H locs A hz hP hS hL
  obtain ⟨hx, hb, hml, hown, hts, hN, hK, hX, hbb, hbs, hin⟩ := hG
  subst hn
  unfold op_lcmp at hop
  split at hop
  · exact W.lcmp hx hb hd (hop H locs A hz hP hS hL)
  · exact False.elim hop
theorem ok_i2l (hd : decode i.cc pc = .ok (.i2l, 1)) (hn : pc + 1 = nx) : nm_ok I i L xs pc (op_i2l nx) := by
  intro d l D cA b base p e R s m args below meth c QQ C Q hR1 hR2 hR3 hR4 hG hC hQ ls st w k n hop H locs A hz hP hS hL
  obtain ⟨hx, hb, hml, hown, hts, hN, hK, hX, hbb, hbs, hin⟩ := hG
  subst hn
  unfold op_i2l at hop
  split at hop
  · exact lv_i2l hx hb hd rfl (hop H locs A hz hP hS hL)
  · exact False.elim hop
theorem ok_l2i (hd : decode i.cc pc = .ok (.l2i, 1)) (hn : pc + 1 = nx) : nm_ok I i L xs pc (op_l2i nx) := by
  intro d l D cA b base p e R s m args below meth c QQ C Q hR1 hR2 hR3 hR4 hG hC hQ ls st w k n hop H locs A hz hP hS hL
  obtain ⟨hx, hb, hml, hown, hts, hN, hK, hX, hbb, hbs, hin⟩ := hG
  subst hn
  unfold op_l2i at hop
  split at hop
  · exact lv_l2i hx hb hd rfl (hop H locs A hz hP hS hL)
  · exact False.elim hop
theorem ok_i2c (hd : decode i.cc pc = .ok (.i2c, 1)) (hn : pc + 1 = nx) : nm_ok I i L xs pc (op_i2c nx) := by
  intro d l D cA b base p e R s m args below meth c QQ C Q hR1 hR2 hR3 hR4 hG hC hQ ls st w k n hop H locs A hz hP hS hL
  obtain ⟨hx, hb, hml, hown, hts, hN, hK, hX, hbb, hbs, hin⟩ := hG
  subst hn
  unfold op_i2c at hop
  split at hop
  · exact lv_i2c hx hb hd rfl (hop H locs A hz hP hS hL)
  · exact False.elim hop
theorem ok_dup (hd : decode i.cc pc = .ok (.dup, 1)) (hn : pc + 1 = nx) : nm_ok I i L xs pc (op_dup nx) := by
  intro d l D cA b base p e R s m args below meth c QQ C Q hR1 hR2 hR3 hR4 hG hC hQ ls st w k n hop H locs A hz hP hS hL
  obtain ⟨hx, hb, hml, hown, hts, hN, hK, hX, hbb, hbs, hin⟩ := hG
  subst hn
  unfold op_dup at hop
  split at hop
  · exact lv_dup hx hb hd rfl (hop H locs A hz hP hS hL)
  · exact lv_dup hx hb hd rfl (hop H locs A hz hP hS hL)
  · exact False.elim hop
theorem ok_pop (hd : decode i.cc pc = .ok (.pop, 1)) (hn : pc + 1 = nx) : nm_ok I i L xs pc (op_pop nx) := by
  intro d l D cA b base p e R s m args below meth c QQ C Q hR1 hR2 hR3 hR4 hG hC hQ ls st w k n hop H locs A hz hP hS hL
  obtain ⟨hx, hb, hml, hown, hts, hN, hK, hX, hbb, hbs, hin⟩ := hG
  subst hn
  unfold op_pop at hop
  split at hop
  · exact lv_pop hx hb hd rfl (hop H locs A hz hP hS hL)
  · exact False.elim hop
theorem ok_dup2 (hd : decode i.cc pc = .ok (.dup2, 1)) (hn : pc + 1 = nx) : nm_ok I i L xs pc (op_dup2 nx) := by
  intro d l D cA b base p e R s m args below meth c QQ C Q hR1 hR2 hR3 hR4 hG hC hQ ls st w k n hop H locs A hz hP hS hL
  obtain ⟨hx, hb, hml, hown, hts, hN, hK, hX, hbb, hbs, hin⟩ := hG
  subst hn
  unfold op_dup2 at hop
  split at hop
  · exact lv_dup2_11 hx hb hd rfl rfl (hop H locs A hz hP hS hL)
  · exact False.elim hop
theorem ok_goto {off : Int} (hd : decode i.cc pc = .ok (.goto off, 3)) (ht : (pc : Int) + off = (tg : Int)) : nm_ok I i L xs pc (op_goto tg) := by
  intro d l D cA b base p e R s m args below meth c QQ C Q hR1 hR2 hR3 hR4 hG hC hQ ls st w k n hop H locs A hz hP hS hL
  obtain ⟨hx, hb, hml, hown, hts, hN, hK, hX, hbb, hbs, hin⟩ := hG
  exact lv_goto hx hb hd ht (hop H locs A hz hP hS hL)
theorem ok_icmp_eq {off : Int} (hd : decode i.cc pc = .ok (.if_icmp .eq off, 3)) (ht : (pc : Int) + off = (tg : Int)) (hn : pc + 3 = nx) : nm_ok I i L xs pc (op_if (fun x y => decide (x = y)) tg nx) := by
  intro d l D cA b base p e R s m args below meth c QQ C Q hR1 hR2 hR3 hR4 hG hC hQ ls st w k n hop H locs A hz hP hS hL
  obtain ⟨hx, hb, hml, hown, hts, hN, hK, hX, hbb, hbs, hin⟩ := hG
  subst hn
  unfold op_if at hop
  split at hop
  · refine lv_icmp_eq hx hb hd ht (fun h => ?_) (fun h => ?_)
    · rw [if_pos (decide_eq_true h)] at hop
      exact hop H locs A hz hP hS hL
    · rw [if_neg (by rw [decide_eq_true_eq]; first | exact h | exact fun hh => hh h)] at hop
      exact hop H locs A hz hP hS hL
  · exact False.elim hop
theorem ok_if_eq {off : Int} (hd : decode i.cc pc = .ok (.ifCond .eq off, 3)) (ht : (pc : Int) + off = (tg : Int)) (hn : pc + 3 = nx) : nm_ok I i L xs pc (op_ifz (fun x => decide (x = 0)) tg nx) := by
  intro d l D cA b base p e R s m args below meth c QQ C Q hR1 hR2 hR3 hR4 hG hC hQ ls st w k n hop H locs A hz hP hS hL
  obtain ⟨hx, hb, hml, hown, hts, hN, hK, hX, hbb, hbs, hin⟩ := hG
  subst hn
  unfold op_ifz at hop
  split at hop
  · refine lv_if_eq hx hb hd ht (fun h => ?_) (fun h => ?_)
    · rw [if_pos (decide_eq_true h)] at hop
      exact hop H locs A hz hP hS hL
    · rw [if_neg (by rw [decide_eq_true_eq]; first | exact h | exact fun hh => hh h)] at hop
      exact hop H locs A hz hP hS hL
  · exact False.elim hop
theorem ok_icmp_ne {off : Int} (hd : decode i.cc pc = .ok (.if_icmp .ne off, 3)) (ht : (pc : Int) + off = (tg : Int)) (hn : pc + 3 = nx) : nm_ok I i L xs pc (op_if (fun x y => decide (¬ x = y)) tg nx) := by
  intro d l D cA b base p e R s m args below meth c QQ C Q hR1 hR2 hR3 hR4 hG hC hQ ls st w k n hop H locs A hz hP hS hL
  obtain ⟨hx, hb, hml, hown, hts, hN, hK, hX, hbb, hbs, hin⟩ := hG
  subst hn
  unfold op_if at hop
  split at hop
  · refine lv_icmp_ne hx hb hd ht (fun h => ?_) (fun h => ?_)
    · rw [if_pos (decide_eq_true h)] at hop
      exact hop H locs A hz hP hS hL
    · rw [if_neg (by rw [decide_eq_true_eq]; first | exact h | exact fun hh => hh h)] at hop
      exact hop H locs A hz hP hS hL
  · exact False.elim hop
theorem ok_if_ne {off : Int} (hd : decode i.cc pc = .ok (.ifCond .ne off, 3)) (ht : (pc : Int) + off = (tg : Int)) (hn : pc + 3 = nx) : nm_ok I i L xs pc (op_ifz (fun x => decide (¬ x = 0)) tg nx) := by
  intro d l D cA b base p e R s m args below meth c QQ C Q hR1 hR2 hR3 hR4 hG hC hQ ls st w k n hop H locs A hz hP hS hL
  obtain ⟨hx, hb, hml, hown, hts, hN, hK, hX, hbb, hbs, hin⟩ := hG
  subst hn
  unfold op_ifz at hop
  split at hop
  · refine lv_if_ne hx hb hd ht (fun h => ?_) (fun h => ?_)
    · rw [if_pos (decide_eq_true h)] at hop
      exact hop H locs A hz hP hS hL
    · rw [if_neg (by rw [decide_eq_true_eq]; first | exact h | exact fun hh => hh h)] at hop
      exact hop H locs A hz hP hS hL
  · exact False.elim hop
theorem ok_icmp_lt {off : Int} (hd : decode i.cc pc = .ok (.if_icmp .lt off, 3)) (ht : (pc : Int) + off = (tg : Int)) (hn : pc + 3 = nx) : nm_ok I i L xs pc (op_if (fun x y => decide (x < y)) tg nx) := by
  intro d l D cA b base p e R s m args below meth c QQ C Q hR1 hR2 hR3 hR4 hG hC hQ ls st w k n hop H locs A hz hP hS hL
  obtain ⟨hx, hb, hml, hown, hts, hN, hK, hX, hbb, hbs, hin⟩ := hG
  subst hn
  unfold op_if at hop
  split at hop
  · refine lv_icmp_lt hx hb hd ht (fun h => ?_) (fun h => ?_)
    · rw [if_pos (decide_eq_true h)] at hop
      exact hop H locs A hz hP hS hL
    · rw [if_neg (by rw [decide_eq_true_eq]; first | exact h | exact fun hh => hh h)] at hop
      exact hop H locs A hz hP hS hL
  · exact False.elim hop
theorem ok_if_lt {off : Int} (hd : decode i.cc pc = .ok (.ifCond .lt off, 3)) (ht : (pc : Int) + off = (tg : Int)) (hn : pc + 3 = nx) : nm_ok I i L xs pc (op_ifz (fun x => decide (x < 0)) tg nx) := by
  intro d l D cA b base p e R s m args below meth c QQ C Q hR1 hR2 hR3 hR4 hG hC hQ ls st w k n hop H locs A hz hP hS hL
  obtain ⟨hx, hb, hml, hown, hts, hN, hK, hX, hbb, hbs, hin⟩ := hG
  subst hn
  unfold op_ifz at hop
  split at hop
  · refine lv_if_lt hx hb hd ht (fun h => ?_) (fun h => ?_)
    · rw [if_pos (decide_eq_true h)] at hop
      exact hop H locs A hz hP hS hL
    · rw [if_neg (by rw [decide_eq_true_eq]; first | exact h | exact fun hh => hh h)] at hop
      exact hop H locs A hz hP hS hL
  · exact False.elim hop
theorem ok_icmp_ge {off : Int} (hd : decode i.cc pc = .ok (.if_icmp .ge off, 3)) (ht : (pc : Int) + off = (tg : Int)) (hn : pc + 3 = nx) : nm_ok I i L xs pc (op_if (fun x y => decide (y ≤ x)) tg nx) := by
  intro d l D cA b base p e R s m args below meth c QQ C Q hR1 hR2 hR3 hR4 hG hC hQ ls st w k n hop H locs A hz hP hS hL
  obtain ⟨hx, hb, hml, hown, hts, hN, hK, hX, hbb, hbs, hin⟩ := hG
  subst hn
  unfold op_if at hop
  split at hop
  · refine lv_icmp_ge hx hb hd ht (fun h => ?_) (fun h => ?_)
    · rw [if_pos (decide_eq_true h)] at hop
      exact hop H locs A hz hP hS hL
    · rw [if_neg (by rw [decide_eq_true_eq]; first | exact h | exact fun hh => hh h)] at hop
      exact hop H locs A hz hP hS hL
  · exact False.elim hop
theorem ok_if_ge {off : Int} (hd : decode i.cc pc = .ok (.ifCond .ge off, 3)) (ht : (pc : Int) + off = (tg : Int)) (hn : pc + 3 = nx) : nm_ok I i L xs pc (op_ifz (fun x => decide (0 ≤ x)) tg nx) := by
  intro d l D cA b base p e R s m args below meth c QQ C Q hR1 hR2 hR3 hR4 hG hC hQ ls st w k n hop H locs A hz hP hS hL
  obtain ⟨hx, hb, hml, hown, hts, hN, hK, hX, hbb, hbs, hin⟩ := hG
  subst hn
  unfold op_ifz at hop
  split at hop
  · refine lv_if_ge hx hb hd ht (fun h => ?_) (fun h => ?_)
    · rw [if_pos (decide_eq_true h)] at hop
      exact hop H locs A hz hP hS hL
    · rw [if_neg (by rw [decide_eq_true_eq]; first | exact h | exact fun hh => hh h)] at hop
      exact hop H locs A hz hP hS hL
  · exact False.elim hop
theorem ok_icmp_gt {off : Int} (hd : decode i.cc pc = .ok (.if_icmp .gt off, 3)) (ht : (pc : Int) + off = (tg : Int)) (hn : pc + 3 = nx) : nm_ok I i L xs pc (op_if (fun x y => decide (y < x)) tg nx) := by
  intro d l D cA b base p e R s m args below meth c QQ C Q hR1 hR2 hR3 hR4 hG hC hQ ls st w k n hop H locs A hz hP hS hL
  obtain ⟨hx, hb, hml, hown, hts, hN, hK, hX, hbb, hbs, hin⟩ := hG
  subst hn
  unfold op_if at hop
  split at hop
  · refine lv_icmp_gt hx hb hd ht (fun h => ?_) (fun h => ?_)
    · rw [if_pos (decide_eq_true h)] at hop
      exact hop H locs A hz hP hS hL
    · rw [if_neg (by rw [decide_eq_true_eq]; first | exact h | exact fun hh => hh h)] at hop
      exact hop H locs A hz hP hS hL
  · exact False.elim hop
theorem ok_if_gt {off : Int} (hd : decode i.cc pc = .ok (.ifCond .gt off, 3)) (ht : (pc : Int) + off = (tg : Int)) (hn : pc + 3 = nx) : nm_ok I i L xs pc (op_ifz (fun x => decide (0 < x)) tg nx) := by
  intro d l D cA b base p e R s m args below meth c QQ C Q hR1 hR2 hR3 hR4 hG hC hQ ls st w k n hop H locs A hz hP hS hL
  obtain ⟨hx, hb, hml, hown, hts, hN, hK, hX, hbb, hbs, hin⟩ := hG
  subst hn
  unfold op_ifz at hop
  split at hop
  · refine lv_if_gt hx hb hd ht (fun h => ?_) (fun h => ?_)
    · rw [if_pos (decide_eq_true h)] at hop
      exact hop H locs A hz hP hS hL
    · rw [if_neg (by rw [decide_eq_true_eq]; first | exact h | exact fun hh => hh h)] at hop
      exact hop H locs A hz hP hS hL
  · exact False.elim hop
theorem ok_icmp_le {off : Int} (hd : decode i.cc pc = .ok (.if_icmp .le off, 3)) (ht : (pc : Int) + off = (tg : Int)) (hn : pc + 3 = nx) : nm_ok I i L xs pc (op_if (fun x y => decide (x ≤ y)) tg nx) := by
  intro d l D cA b base p e R s m args below meth c QQ C Q hR1 hR2 hR3 hR4 hG hC hQ ls st w k n hop H locs A hz hP hS hL
  obtain ⟨hx, hb, hml, hown, hts, hN, hK, hX, hbb, hbs, hin⟩ := hG
  subst hn
  unfold op_if at hop
  split at hop
  · refine lv_icmp_le hx hb hd ht (fun h => ?_) (fun h => ?_)
    · rw [if_pos (decide_eq_true h)] at hop
      exact hop H locs A hz hP hS hL
    · rw [if_neg (by rw [decide_eq_true_eq]; first | exact h | exact fun hh => hh h)] at hop
      exact hop H locs A hz hP hS hL
  · exact False.elim hop
theorem ok_if_le {off : Int} (hd : decode i.cc pc = .ok (.ifCond .le off, 3)) (ht : (pc : Int) + off = (tg : Int)) (hn : pc + 3 = nx) : nm_ok I i L xs pc (op_ifz (fun x => decide (x ≤ 0)) tg nx) := by
  intro d l D cA b base p e R s m args below meth c QQ C Q hR1 hR2 hR3 hR4 hG hC hQ ls st w k n hop H locs A hz hP hS hL
  obtain ⟨hx, hb, hml, hown, hts, hN, hK, hX, hbb, hbs, hin⟩ := hG
  subst hn
  unfold op_ifz at hop
  split at hop
  · refine lv_if_le hx hb hd ht (fun h => ?_) (fun h => ?_)
    · rw [if_pos (decide_eq_true h)] at hop
      exact hop H locs A hz hP hS hL
    · rw [if_neg (by rw [decide_eq_true_eq]; first | exact h | exact fun hh => hh h)] at hop
      exact hop H locs A hz hP hS hL
  · exact False.elim hop
end OK
