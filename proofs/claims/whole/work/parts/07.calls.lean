/-! The script, new cells, calls and ends; then the methods by depth. -/
section OKC
variable {I : Nat → Option nm_I} {i : nm_I} {L : Nat} {xs : Nat → Int32} {pc nx tg : Nat}
theorem ok_sald (hd : decode i.cc pc = .ok (.iaload, 1)) (hn : pc + 1 = nx) : nm_ok I i L xs pc (op_sald L xs nx) := by
  intro d l D cA b base p e R s m args below meth c QQ C Q hR1 hR2 hR3 hR4 hG hC hQ ls st w k n hop H locs A hz hP hS hL
  obtain ⟨hx, hb, hml, hown, hts, hN, hK, hX, hbb, hbs, hin⟩ := hG
  subst hn
  unfold op_sald at hop
  split at hop
  · split at hop
    · exact False.elim hop
    · rename_i hi
      exact va_sld hx hb hX (Nat.lt_of_lt_of_le hbb hbs) (Nat.not_le.mpr hbb) hS hi hd (hop H locs A hz hP hS hL)
  · exact False.elim hop
theorem ok_slen (hd : decode i.cc pc = .ok (.arraylength, 1)) (hn : pc + 1 = nx) : nm_ok I i L xs pc (op_slen L nx) := by
  intro d l D cA b base p e R s m args below meth c QQ C Q hR1 hR2 hR3 hR4 hG hC hQ ls st w k n hop H locs A hz hP hS hL
  obtain ⟨hx, hb, hml, hown, hts, hN, hK, hX, hbb, hbs, hin⟩ := hG
  subst hn
  unfold op_slen at hop
  split at hop
  · exact va_slen hx hb hX (Nat.lt_of_lt_of_le hbb hbs) (Nat.not_le.mpr hbb) hS hd (hop H locs A hz hP hS hL)
  · exact False.elim hop
theorem nm_P_push {D : va_G} {cA : Nat → ClassId} {b base : Nat} {w : nm_W} {x : nm_E} {H H1 : Heap} (hz : H.size = base + w.length) (hP : va_P D vwCl (nm_cw cA b base w) H) (o1 : ∀ q, q < H.size → H1[q]? = H[q]?) (hx : va_at D vwCl (base + w.length, nm_ce cA b base x) H1) : va_P D vwCl (nm_cw cA b base (w ++ [x])) H1 := by
  rw [← nm_cw_push]
  refine (hP.kept fun k q hq => o1 q.1 (hP k q hq).lt).app (fun k q hq => ?_)
  have h0 : k < 1 := (List.getElem?_eq_some_iff.mp hq).1
  rw [show k = 0 by omega] at hq
  cases hq
  exact hx
theorem nm_S_push {base : Nat} {H0 H H1 : Heap} {locs : List Loc} (hS : va_S (nm_A base) H0 H locs) (z1 : H1.size = H.size + 1) (o1 : ∀ q, q < H.size → H1[q]? = H[q]?) : va_S (nm_A base) H0 H1 locs :=
  ⟨Nat.le_trans hS.1 (by omega), fun x h1 h2 => (o1 x (Nat.lt_of_lt_of_le h1 hS.1)).trans (hS.2.1 x h1 h2), hS.2.2⟩
theorem ok_new {idx ci N : Nat} {C0 : String} {T : u_T} {ty0 : Nat → FieldType} {fs : List Value} (hc : vwCl[ci]? = some (C0, T, N)) (hin0 : ∀ w ∈ u_ws C0 T N, w ∈ nm_good) (hty : ∀ k, k < N → parseFieldDescriptor (T k).2.2.1 = some (ty0 k)) (hcl : Cond.classLink i.nm.cls idx C0 ∈ nm_good) (hinst : Cond.instantiable C0 N ∈ nm_good) (hini : Cond.initialized C0 ∈ nm_good) (hfs : ∀ b base : Nat, ∀ j, j < N → defaultValue (ty0 j) = vp_V (fs.map (nm_cv b base)) j) (hd : decode i.cc pc = .ok (.new idx, 3)) (hn : pc + 3 = nx) : nm_ok I i L xs pc (op_new ci N i.mc i.ms nx fs) := by
  intro d l D cA b base p e R s m args below meth c QQ C Q hR1 hR2 hR3 hR4 hG hC hQ ls st w k n hop H locs A hz hP hS hL
  obtain ⟨hx, hb, hml, hown, hts, hN, hK, hX, hbb, hbs, hin⟩ := hG
  subst hn
  unfold op_new at hop
  split at hop
  · rename_i hh
    have hKn := hK.1 ci _ hc
    refine W.newcK hx hb hown (hts _ hcl) (hts _ hinst) (hts _ hini) rfl hd (Nat.le_trans hh.1 hR3) (Nat.le_trans hh.2 hR4) hKn.2.1 rfl fun H1 kC hkC e1 z1 o1 => ?_
    have hop' := hop H1 locs A (by rw [z1, hz, List.length_append]; rfl) (nm_P_push hz hP o1 ⟨_, hc, by rw [← hz]; exact (u_born ty0 hts hin0 hKn hkC e1 hty).to (hfs b base)⟩) (nm_S_push hS z1 o1) hL
    rw [hz]
    exact hop'
  · exact False.elim hop
theorem ok_newa {at0 : ArrayType} {ty : FieldType} {t : Nat} (hat : newarray.typeOf at0 = ty) (ht : (t = 0 ∧ ty = .boolean) ∨ (t = 1 ∧ ty = .char) ∨ (t = 2 ∧ ty = .int) ∨ (t = 3 ∧ ty = .long)) (hw : Cond.arrayClass ty ∈ nm_good) (hd : decode i.cc pc = .ok (.newarray at0, 2)) (hn : pc + 2 = nx) : nm_ok I i L xs pc (op_newa t i.mc i.ms nx) := by
  intro d l D cA b base p e R s m args below meth c QQ C Q hR1 hR2 hR3 hR4 hG hC hQ ls st w k n hop H locs A hz hP hS hL
  obtain ⟨hx, hb, hml, hown, hts, hN, hK, hX, hbb, hbs, hin⟩ := hG
  subst hn
  subst hat
  unfold op_newa at hop
  split at hop
  · rename_i x r
    split at hop
    · rename_i hh
      have hcb : componentBytes (newarray.typeOf at0) ≤ 8 := by
        rcases ht with ⟨-, h⟩ | ⟨-, h⟩ | ⟨-, h⟩ | ⟨-, h⟩ <;> rw [h] <;> decide
      refine va_newaK hx hb (hts _ hw) rfl hd rfl hh.1 rfl (Nat.le_trans (Nat.mul_le_mul hh.2.1 hcb) (by decide)) (Nat.le_trans hh.2.2.1 hR3) (Nat.le_trans hh.2.2.2 hR4) rfl fun H1 cN e1 z1 o1 hAr hNm => ?_
      have hcN : cN = cA t := by
        rcases ht with ⟨rfl, h⟩ | ⟨rfl, h⟩ | ⟨rfl, h⟩ | ⟨rfl, h⟩ <;> rw [h] at hNm
        · exact Option.some.inj (hNm.symm.trans (hK.2 0 _ rfl).2)
        · exact Option.some.inj (hNm.symm.trans (hK.2 1 _ rfl).2)
        · exact Option.some.inj (hNm.symm.trans (hK.2 2 _ rfl).2)
        · exact Option.some.inj (hNm.symm.trans (hK.2 3 _ rfl).2)
      subst hcN
      have hop' := hop H1 locs A (by rw [z1, hz, List.length_append]; rfl) (nm_P_push hz hP o1 (by
        rw [← hz]
        rcases ht with ⟨rfl, h⟩ | ⟨rfl, h⟩ | ⟨rfl, h⟩ | ⟨rfl, h⟩ <;> rw [h] at e1 <;> exact e1)) (nm_S_push hS z1 o1) hL
      rw [hz]
      exact hop'
    · exact False.elim hop
  · exact False.elim hop
theorem nm_cat_sum {b base : Nat} : ∀ (r : List Value), ((r.map (nm_cv b base)).map fun v => v.category).sum ≤ 2 * r.length
  | [] => by simp
  | v :: r => by
    have ih := nm_cat_sum (b := b) (base := base) r
    have h1 : v.category = 1 ∨ v.category = 2 := lv_cat v
    simp only [List.map_cons, List.sum_cons, List.length_cons, nm_cv_cat] at ih ⊢
    omega
theorem ok_obj {idx : Nat} (hl : Cond.methodLink i.nm.cls idx Lib.objectInit ∈ nm_good) (hi0 : Cond.instanceMethod Lib.objectInit ∈ nm_good) (hc0 : Cond.code Lib.objectInit ⟨#[0xb1]⟩ 1 none ∈ nm_good) (hd : decode i.cc pc = .ok (.invokespecial idx, 3)) (hn : pc + 3 = nx) : nm_ok I i L xs pc (op_obj nx) := by
  intro d l D cA b base p e R s m args below meth c QQ C Q hR1 hR2 hR3 hR4 hG hC hQ ls st w k n hop H locs A hz hP hS hL
  obtain ⟨hx, hb, hml, hown, hts, hN, hK, hX, hbb, hbs, hin⟩ := hG
  subst hn
  unfold op_obj at hop
  split at hop
  · rename_i a r
    split at hop
    · rename_i hr
      refine W.objInit hx hb hown (hts _ hl) (hts _ hi0) (hts _ hc0) rfl (by rw [hml]; exact hL.1) rfl hd (by omega) ?_ (hop H locs A hz hP hS hL)
      have h1 := nm_cat_sum (b := b) (base := base) r
      have h2 := lv_room (m := m) (pc := pc) (ls := A) (rest := List.map (nm_cv b base) (Value.ref a :: r)) (st := r.map (nm_cv b base)) (by omega)
      omega
    · exact False.elim hop
  · exact False.elim hop
/-- behind a call -/
theorem nm_after {D : va_G} {cA : Nat → ClassId} {b base : Nat} {p : Program} {l : Launch} {e : Env} {R : Room} {s : State} {m : MethodId} {args a : Array Value} {below : List Frame} {meth : Method} {c : Code} {QQ : State → Prop} {H : Heap} {locs : List Loc} {k n mc ms : Nat} {A : Array Slot} {st0 rest : List Value} {K : nm_K}
    (hr : va_Run p l e R s m args below meth c H locs k n mc ms (F0 m pc A st0) rest (nm_Qc D cA b base K a) (nm_A base)) (hS : va_S (nm_A base) s.heap H locs)
    (kk : ∀ (v : List Value) (w : nm_W) (H1 : Heap) (locs1 : List Loc), K v w → H1.size = base + w.length → va_P D vwCl (nm_cw cA b base w) H1 → va_S (nm_A base) s.heap H1 locs1 → W p l e R s m args below meth c H1 locs1 (k + mc) (n + ms) QQ (F0 m (pc + 3) A (v.map (nm_cv b base) ++ rest))) : W p l e R s m args below meth c H locs k n QQ (F0 m pc A st0) := by
  intro T hT X
  obtain ⟨v, st₀, t, T', LL, h0, X', hLL, e1, e2, ⟨⟨o, vl, w, hv, hvl, hk, hz, hp⟩, hz1, hk1⟩, st⟩ := hr T hT X
  cases hv
  rw [h0] at hz1 hk1
  obtain ⟨t2, a1, b1⟩ := kk vl w T'.heap (locs ++ LL) hk (by rw [e1]; exact hz) (by rw [e1]; exact hp)
    ⟨Nat.le_trans hS.1 (by rw [e1]; exact hz1), fun q h1 h2 => by rw [e1, hk1 q (Nat.lt_of_lt_of_le h1 hS.1) h2]; exact hS.2.1 q h1 h2, fun q hq => by
      rcases List.mem_append.mp hq with h | h
      · exact hS.2.2 q h
      · exact hLL q h⟩ T' rfl X'
  rw [← hvl] at a1
  exact ⟨t2, st t2 a1, b1⟩
theorem nm_blind {D : va_G} {cA : Nat → ClassId} {b base : Nat} {as : List Value} {w : nm_W} : FrameBlind (nm_Pc D cA b base L xs as w) := by
  intro a U g mk q
  obtain ⟨q0, q1, q2, q3, q4, q5, q6⟩ := q
  exact ⟨q0, q1, q2, va_K.moved (u := U) (U := U.calling g mk a) (Vm.Alike.refl U.vm) q3, nm_N.same (s := U) (U := U.calling g mk a) rfl q4, va_X.moved (u := U) (U := U.calling g mk a) (Vm.Alike.refl U.vm) q5, q6⟩
theorem nm_pre {D : va_G} {cA : Nat → ClassId} {b base : Nat} {p : Program} {s : State} {m : MethodId} {args : Array Value} {meth : Method} {c : Code} (hG : nm_G i D cA b base L xs p s m args meth c) {H : Heap} {locs : List Loc} {w : nm_W} (hz : H.size = base + w.length) (hP : va_P D vwCl (nm_cw cA b base w) H) (hS : va_S (nm_A base) s.heap H locs) (as : List Value) :
    ∀ U : State, U.heap = H → s.WarmedH U.vm → nm_Pc D cA b base L xs as w (as.map (nm_cv b base)).toArray U := by
  obtain ⟨hx, hb, hml, hown, hts, hN, hK, hX, hbb, hbs, hin⟩ := hG
  intro U hU hW
  have hb0 : H[b]? = s.heap[b]? := hS.2.1 b (Nat.lt_of_lt_of_le hbb hbs) (Nat.not_le.mpr hbb)
  exact ⟨rfl, by rw [hU]; exact hz, by rw [hU]; exact hP, va_K.moved hW.alike hK, nm_N.warm hW hN, by rw [hU]; exact va_X.moved hW.alike (hX.kept hb0), hbb⟩
theorem nm_GoodIn {X : List Cond} (h : ∀ w ∈ X, w ∈ nm_good) : GoodIn nm_good X := fun w hw => ⟨h w hw, good_of_word (nm_good_in (h w hw)).2⟩
theorem nm_ws_good {j : nm_I} (h : Cond.code j.nm j.cc j.mL j.rt ∈ nm_good) : ∀ w ∈ nm_ws j, w ∈ nm_good := by
  intro w hw
  rcases List.mem_cons.mp hw with rfl | hw
  · exact h
  · exact hw
theorem nm_call_some {y na mc ms MC MS nx : Nat} {rc : Option Nat} {ls st : List Value} {w : nm_W} {k n : Nat} {C : nm_C} {Q : nm_K} {F : nm_F} (hop : nm_sem C Q F (op_call y na rc mc ms MC MS nx ls st w k n)) : ∃ as rest, st = as.reverse ++ rest ∧ as.length = na ∧ rest.length ≤ 4 ∧ nm_rcv rc w as = true ∧ k + mc ≤ MC ∧ n + ms ≤ MS ∧ C y as w (fun v w' => F nx ls (v ++ rest) w' (k + mc) (n + ms)) := by
  unfold op_call at hop
  split at hop
  · rename_i hh
    refine ⟨(st.take na).reverse, st.drop na, by rw [List.reverse_reverse, List.take_append_drop], by rw [List.length_reverse, List.length_take]; omega, by rw [List.length_drop]; omega, hh.2.2.1, hh.2.2.2.1, hh.2.2.2.2, hop⟩
  · exact False.elim hop
/-- the face of the method that is called -/
def nm_desc (j : nm_I) (na : Nat) : Prop := j.nm.cls ≠ "java/lang/invoke/MethodHandle" ∧ j.nm.cls ≠ "java/lang/invoke/VarHandle" ∧ (parseMethodDescriptor j.nm.desc).map (fun d => d.parameters.length) = some na
theorem ok_callS {y na idx : Nat} {j : nm_I} (hI : I y = some j) (hcode : Cond.code j.nm j.cc j.mL j.rt ∈ nm_good) (hl : Cond.methodLink i.nm.cls idx j.nm ∈ nm_good) (hst : Cond.static j.nm ∈ nm_good) (hini : Cond.initialized j.nm.cls ∈ nm_good) (hd0 : nm_desc j na) (hmL : j.mL ≤ 40) (hd : decode i.cc pc = .ok (.invokestatic idx, 3)) (hn : pc + 3 = nx) : nm_ok I i L xs pc (op_call y na none j.mc j.ms i.mc i.ms nx) := by
  intro d l D cA b base p e R s m args below meth c QQ C Q hR1 hR2 hR3 hR4 hG hC hQ ls st w k n hop H locs A hz hP hS hL
  have hG0 := hG
  obtain ⟨hx, hb, hml, hown, hts, hN, hK, hX, hbb, hbs, hin⟩ := hG
  subst hn
  obtain ⟨as, rest, rfl, hna, hrest, hrc, h1, h2, hop⟩ := nm_call_some hop
  have hM := hC y as w _ j hop hI
  have hcs := nm_cat_sum (b := b) (base := base) rest
  have hrm : (nm_rm d j).frames + 1 ≤ R.frames ∧ 8 + (j.mL + 11) + (nm_rm d j).locals ≤ R.locals := ⟨hR1, by show 8 + (j.mL + 11) + 64 * d ≤ _; omega⟩
  refine nm_after (va_runS (As := as.map (nm_cv b base)) (rest := rest.map (nm_cv b base)) (n := na) (nL := i.mL) (own := i.nm.cls) (index := idx) (bytes := j.cc) (maxL := j.mL) (ret := j.rt) ⟨hx, hb, hml, hown, hts⟩ hM ⟨callB_of na hts (nm_GoodIn (nm_ws_good hcode)) rfl rfl rfl (hts _ hini) (hts _ hl) hd0 hrm, hts _ hst⟩ ⟨nm_blind, nm_pre hG0 hz hP hS as⟩ rfl (by rw [List.length_map]; exact hna) hL.1 (by rw [List.map_append, List.map_reverse]) (lv_room (by omega)) hd ⟨Nat.le_trans h1 hR3, Nat.le_trans h2 hR4⟩) hS ?_
  intro v w' H1 locs1 hk hz1 hP1 hS1
  have := hk H1 locs1 A hz1 hP1 hS1 hL
  rw [List.map_append] at this
  exact this
theorem ok_callSN {y na idx : Nat} {j : nm_I} {host : String} (hI : I y = some j) (hcode : Cond.code j.nm j.cc j.mL j.rt ∈ nm_good) (hl : (i.nm.cls, idx, j.nm, host) ∈ nm_nest) (hst : Cond.static j.nm ∈ nm_good) (hini : Cond.initialized j.nm.cls ∈ nm_good) (hd0 : nm_desc j na) (hmL : j.mL ≤ 40) (hd : decode i.cc pc = .ok (.invokestatic idx, 3)) (hn : pc + 3 = nx) : nm_ok I i L xs pc (op_call y na none j.mc j.ms i.mc i.ms nx) := by
  intro d l D cA b base p e R s m args below meth c QQ C Q hR1 hR2 hR3 hR4 hG hC hQ ls st w k n hop H locs A hz hP hS hL
  have hG0 := hG
  obtain ⟨hx, hb, hml, hown, hts, hN, hK, hX, hbb, hbs, hin⟩ := hG
  subst hn
  obtain ⟨as, rest, rfl, hna, hrest, hrc, h1, h2, hop⟩ := nm_call_some hop
  have hM := hC y as w _ j hop hI
  have hcs := nm_cat_sum (b := b) (base := base) rest
  have hrm : (nm_rm d j).frames + 1 ≤ R.frames ∧ 8 + (j.mL + 11) + (nm_rm d j).locals ≤ R.locals := ⟨hR1, by show 8 + (j.mL + 11) + 64 * d ≤ _; omega⟩
  refine nm_after (va_runSN (As := as.map (nm_cv b base)) (rest := rest.map (nm_cv b base)) (n := na) (nL := i.mL) (own := i.nm.cls) (host := host) (index := idx) (bytes := j.cc) (maxL := j.mL) (ret := j.rt) ⟨hx, hb, hml, hown, hts⟩ hM ⟨va_cnB na hts (nm_GoodIn (nm_ws_good hcode)) rfl rfl rfl (hN _ hl) (hts _ hini) hd0 hrm, hts _ hst, trivial⟩ ⟨nm_blind, nm_pre hG0 hz hP hS as⟩ rfl (by rw [List.length_map]; exact hna) hL.1 (by rw [List.map_append, List.map_reverse]) (lv_room (by omega)) hd ⟨Nat.le_trans h1 hR3, Nat.le_trans h2 hR4⟩) hS ?_
  intro v w' H1 locs1 hk hz1 hP1 hS1
  have := hk H1 locs1 A hz1 hP1 hS1 hL
  rw [List.map_append] at this
  exact this
theorem nm_rcv_some {ci : Nat} {w : nm_W} {as : List Value} (h : nm_rcv (some ci) w as = true) : ∃ a fs as', as = .ref a :: as' ∧ w[a]? = some (.inr (ci, fs)) := by
  unfold nm_rcv at h
  dsimp only at h
  split at h
  · rename_i a as'
    split at h
    · rename_i c fs ha
      rw [beq_iff_eq] at h
      subst h
      exact ⟨a, fs, as', rfl, ha⟩
    · cases h
  · cases h
theorem ok_callV {y na idx ci N : Nat} {j : nm_I} {T : u_T} (hc : vwCl[ci]? = some (j.nm.cls, T, N)) (hI : I y = some j) (hcode : Cond.code j.nm j.cc j.mL j.rt ∈ nm_good) (hl : Cond.methodLink i.nm.cls idx j.nm ∈ nm_good) (hst : Cond.instanceMethod j.nm ∈ nm_good) (hsel : Cond.selects j.nm.cls j.nm j.nm ∈ nm_good) (hini : Cond.initialized j.nm.cls ∈ nm_good) (hd0 : nm_desc j na) (hmL : j.mL ≤ 40) (hd : decode i.cc pc = .ok (.invokevirtual idx, 3)) (hn : pc + 3 = nx) : nm_ok I i L xs pc (op_call y (na + 1) (some ci) j.mc j.ms i.mc i.ms nx) := by
  intro d l D cA b base p e R s m args below meth c QQ C Q hR1 hR2 hR3 hR4 hG hC hQ ls st w k n hop H locs A hz hP hS hL
  have hG0 := hG
  obtain ⟨hx, hb, hml, hown, hts, hN, hK, hX, hbb, hbs, hin⟩ := hG
  subst hn
  obtain ⟨as, rest, rfl, hna, hrest, hrc, h1, h2, hop⟩ := nm_call_some hop
  have hM := hC y as w _ j hop hI
  obtain ⟨a, fs, as', rfl, ha⟩ := nm_rcv_some hrc
  have hcs := nm_cat_sum (b := b) (base := base) rest
  have hrm : (nm_rm d j).frames + 1 ≤ R.frames ∧ 8 + (j.mL + 11) + (nm_rm d j).locals ≤ R.locals := ⟨hR1, by show 8 + (j.mL + 11) + 64 * d ≤ _; omega⟩
  refine nm_after (va_runV (C := j.nm.cls) (b := base + a) (As := as'.map (nm_cv b base)) (rest := rest.map (nm_cv b base)) (n := na) (nL := i.mL) (own := i.nm.cls) (index := idx) (bytes := j.cc) (maxL := j.mL) (ret := j.rt) ⟨hx, hb, hml, hown, hts⟩ hM ⟨callB_of na hts (nm_GoodIn (nm_ws_good hcode)) rfl rfl rfl (hts _ hini) (hts _ hl) hd0 hrm, hts _ hst, hts _ hsel⟩ ⟨nm_blind, va_recv hK hP hc (nm_cw_at ha), nm_pre hG0 hz hP hS (.ref a :: as')⟩ rfl (by rw [List.length_map]; simpa using hna) hL.1 (by simp [nm_cv]) (lv_room (by omega)) hd ⟨Nat.le_trans h1 hR3, Nat.le_trans h2 hR4⟩) hS ?_
  intro v w' H1 locs1 hk hz1 hP1 hS1
  have := hk H1 locs1 A hz1 hP1 hS1 hL
  rw [List.map_append] at this
  exact this
theorem ok_callI {y na idx ci : Nat} {j : nm_I} (hrt : j.rt = none) (hnm : j.nm.name = "<init>") (hI : I y = some j) (hcode : Cond.code j.nm j.cc j.mL j.rt ∈ nm_good) (hl : Cond.methodLink i.nm.cls idx j.nm ∈ nm_good) (hst : Cond.instanceMethod j.nm ∈ nm_good) (hini : Cond.initialized j.nm.cls ∈ nm_good) (hd0 : nm_desc j na) (hmL : j.mL ≤ 40) (hd : decode i.cc pc = .ok (.invokespecial idx, 3)) (hn : pc + 3 = nx) : nm_ok I i L xs pc (op_call y (na + 1) (some ci) j.mc j.ms i.mc i.ms nx) := by
  intro d l D cA b base p e R s m args below meth c QQ C Q hR1 hR2 hR3 hR4 hG hC hQ ls st w k n hop H locs A hz hP hS hL
  have hG0 := hG
  obtain ⟨hx, hb, hml, hown, hts, hN, hK, hX, hbb, hbs, hin⟩ := hG
  subst hn
  obtain ⟨as, rest, rfl, hna, hrest, hrc, h1, h2, hop⟩ := nm_call_some hop
  have hM := hC y as w _ j hop hI
  obtain ⟨a, fs, as', rfl, ha⟩ := nm_rcv_some hrc
  have hcs := nm_cat_sum (b := b) (base := base) rest
  have hrm : (nm_rm d j).frames + 1 ≤ R.frames ∧ 8 + (j.mL + 11) + (nm_rm d j).locals ≤ R.locals := ⟨hR1, by show 8 + (j.mL + 11) + 64 * d ≤ _; omega⟩
  have hcb := callB_of na hts (nm_GoodIn (nm_ws_good hcode)) rfl rfl rfl (hts _ hini) (hts _ hl) hd0 hrm
  rw [hrt] at hcb
  refine nm_after (va_runI (b := base + a) (As := as'.map (nm_cv b base)) (rest := rest.map (nm_cv b base)) (n := na) (nL := i.mL) (own := i.nm.cls) (index := idx) (bytes := j.cc) (maxL := j.mL) ⟨hx, hb, hml, hown, hts⟩ hM ⟨hcb, hnm, hts _ hst⟩ ⟨nm_blind, nm_pre hG0 hz hP hS (.ref a :: as')⟩ rfl (by rw [List.length_map]; simpa using hna) hL.1 (by simp [nm_cv]) (lv_room (by omega)) hd ⟨Nat.le_trans h1 hR3, Nat.le_trans h2 hR4⟩) hS ?_
  intro v w' H1 locs1 hk hz1 hP1 hS1
  have := hk H1 locs1 A hz1 hP1 hS1 hL
  rw [List.map_append] at this
  exact this
theorem ok_callIN {y na idx ci : Nat} {j : nm_I} {host : String} (hrt : j.rt = none) (hnm : j.nm.name = "<init>") (hI : I y = some j) (hcode : Cond.code j.nm j.cc j.mL j.rt ∈ nm_good) (hl : (i.nm.cls, idx, j.nm, host) ∈ nm_nest) (hst : Cond.instanceMethod j.nm ∈ nm_good) (hini : Cond.initialized j.nm.cls ∈ nm_good) (hd0 : nm_desc j na) (hmL : j.mL ≤ 40) (hd : decode i.cc pc = .ok (.invokespecial idx, 3)) (hn : pc + 3 = nx) : nm_ok I i L xs pc (op_call y (na + 1) (some ci) j.mc j.ms i.mc i.ms nx) := by
  intro d l D cA b base p e R s m args below meth c QQ C Q hR1 hR2 hR3 hR4 hG hC hQ ls st w k n hop H locs A hz hP hS hL
  have hG0 := hG
  obtain ⟨hx, hb, hml, hown, hts, hN, hK, hX, hbb, hbs, hin⟩ := hG
  subst hn
  obtain ⟨as, rest, rfl, hna, hrest, hrc, h1, h2, hop⟩ := nm_call_some hop
  have hM := hC y as w _ j hop hI
  obtain ⟨a, fs, as', rfl, ha⟩ := nm_rcv_some hrc
  have hcs := nm_cat_sum (b := b) (base := base) rest
  have hrm : (nm_rm d j).frames + 1 ≤ R.frames ∧ 8 + (j.mL + 11) + (nm_rm d j).locals ≤ R.locals := ⟨hR1, by show 8 + (j.mL + 11) + 64 * d ≤ _; omega⟩
  have hcb := va_cnB na hts (nm_GoodIn (nm_ws_good hcode)) rfl rfl rfl (hN _ hl) (hts _ hini) hd0 hrm
  dsimp only at hcb
  rw [hrt] at hcb
  refine nm_after (va_runIN (b := base + a) (As := as'.map (nm_cv b base)) (rest := rest.map (nm_cv b base)) (n := na) (nL := i.mL) (own := i.nm.cls) (host := host) (index := idx) (bytes := j.cc) (maxL := j.mL) ⟨hx, hb, hml, hown, hts⟩ hM ⟨hcb, hnm, hts _ hst⟩ ⟨nm_blind, nm_pre hG0 hz hP hS (.ref a :: as')⟩ rfl (by rw [List.length_map]; simpa using hna) hL.1 (by simp [nm_cv]) (lv_room (by omega)) hd ⟨Nat.le_trans h1 hR3, Nat.le_trans h2 hR4⟩) hS ?_
  intro v w' H1 locs1 hk hz1 hP1 hS1
  have := hk H1 locs1 A hz1 hP1 hS1 hL
  rw [List.map_append] at this
  exact this
theorem ok_retV (hr : i.rt = none) (hd : decode i.cc pc = .ok (.return_, 1)) : nm_ok I i L xs pc (op_retV i.mc i.ms) := by
  intro d l D cA b base p e R s m args below meth c QQ C Q hR1 hR2 hR3 hR4 hG hC hQ ls st w k n hop H locs A hz hP hS hL
  unfold op_retV at hop
  split at hop
  · split at hop
    · rename_i hh
      exact hQ [] w H locs k n A pc (Or.inr (Or.inr ⟨rfl, hd, hr⟩)) hop hz hP hS hh.1 hh.2
    · exact False.elim hop
  · exact False.elim hop
theorem ok_retI {z : Bool} (hr : (z = true ∧ i.rt = some .boolean) ∨ i.rt = some .int) (hd : decode i.cc pc = .ok (.ireturn, 1)) : nm_ok I i L xs pc (op_retI z i.mc i.ms) := by
  intro d l D cA b base p e R s m args below meth c QQ C Q hR1 hR2 hR3 hR4 hG hC hQ ls st w k n hop H locs A hz hP hS hL
  unfold op_retI at hop
  split at hop
  · rename_i x
    split at hop
    · rename_i hh
      rcases hr with ⟨hz1, hr⟩ | hr
      · exact hQ [.int x] w H locs k n A pc (Or.inl ⟨x, .boolean, rfl, hd, hr, by simp only [narrow, nm_bool_and (hh.2.2 hz1)]⟩) hop hz hP hS hh.1 hh.2.1
      · exact hQ [.int x] w H locs k n A pc (Or.inl ⟨x, .int, rfl, hd, hr, rfl⟩) hop hz hP hS hh.1 hh.2.1
    · exact False.elim hop
  · exact False.elim hop
theorem ok_retL (hr : i.rt = some .long) (hd : decode i.cc pc = .ok (.lreturn, 1)) : nm_ok I i L xs pc (op_retL i.mc i.ms) := by
  intro d l D cA b base p e R s m args below meth c QQ C Q hR1 hR2 hR3 hR4 hG hC hQ ls st w k n hop H locs A hz hP hS hL
  unfold op_retL at hop
  split at hop
  · rename_i x
    split at hop
    · rename_i hh
      exact hQ [.long x] w H locs k n A pc (Or.inr (Or.inl ⟨x, rfl, hd, hr⟩)) hop hz hP hS hh.1 hh.2
    · exact False.elim hop
  · exact False.elim hop
end OKC
/-- the methods, by number: their steps, and what the machine knows of them -/
abbrev nm_P : Type := List (nm_T × nm_I)
def nm_callG (P : nm_P) : Nat → nm_C
  | 0 => fun _ _ _ _ => False
  | d + 1 => fun y as w Q => match P[y]? with
    | some (t, i) => ((nm_spr as).length ≤ i.mL ∧ nm_lok i.sl 0 (nm_spr as) = true) ∧ nm_X t (nm_callG P d) Q 0 (nm_ent i.mL as) [] w 0 0
    | none => False
theorem nm_callG_mono (P : nm_P) : ∀ d, nm_Mono (nm_callG P d)
  | 0 => fun _ _ _ _ _ _ h => h
  | d + 1 => fun y as w K K' hK h => by
    unfold nm_callG at h ⊢
    split at h
    · exact ⟨h.1, nm_X_mono (nm_callG_mono P d) hK h.2⟩
    · exact h
theorem nm_callG_conj (P : nm_P) : ∀ d, nm_Conj (nm_callG P d)
  | 0 => fun _ _ _ _ _ h _ => h
  | d + 1 => fun y as w K K' h h' => by
    unfold nm_callG at h h' ⊢
    split at h
    · rename_i t i ho
      rw [ho] at h'
      exact ⟨h.1, nm_X_conj (nm_callG_mono P d) (nm_callG_conj P d) h.2 h'.2⟩
    · exact h
theorem nm_callG_strict (P : nm_P) : ∀ d, nm_Strict (nm_callG P d)
  | 0 => fun _ _ _ h => h
  | d + 1 => fun y as w h => by
    unfold nm_callG at h
    split at h
    · exact nm_X_strict (nm_callG_strict P d) h.2
    · exact h
def nm_info (P : nm_P) (y : Nat) : Option nm_I := (P[y]?).map (fun q => q.2)
theorem nm_callG_CS {P : nm_P} {l : Launch} {D : va_G} {cA : Nat → ClassId} {b base L : Nat} {xs : Nat → Int32} (hok : ∀ q ∈ P, plainName q.2.nm.cls = true ∧ ∀ z ∈ q.1, nm_ok (nm_info P) q.2 L xs z.1 z.2) : ∀ d, nm_CS (nm_info P) l D cA b base L xs d (nm_callG P d)
  | 0 => fun y as w K i h _ => False.elim h
  | d + 1 => fun y as w K i h hi => by
    have ih := nm_callG_CS (l := l) (D := D) (cA := cA) (b := b) (base := base) hok d
    unfold nm_callG at h
    split at h
    · rename_i t i' ho
      have hii : i' = i := by
        unfold nm_info at hi
        rw [ho] at hi
        exact Option.some.inj hi
      subst hii
      obtain ⟨⟨hl1, hl2⟩, hX0⟩ := h
      obtain ⟨hpl, hzz⟩ := hok (t, i') (List.mem_of_getElem? ho)
      refine Met.ofW (cc := i'.cc) (maxL := i'.mL) (ret := i'.rt) hpl rfl ?_
      intro p e s m args below meth c s₁ B hml hv
      obtain ⟨rfl, hz, hP, hK, hN, hX, hbb⟩ := hv
      have hx := B.exec
      have hb := B.bytes
      have hr := B.returns
      have hts := atoms_spec (ws := nm_ws i') B.pre
      have hown : s.vm.findClass i'.nm.cls = some m.cls := findClass_of_methodNamed B.named
      have hlocks := B.notSynchronized
      have hnm0 : meth.name = i'.nm.name := (name_of_methodNamed B.named B.method).1
      have hG : nm_G i' D cA b base L xs p s m (as.map (nm_cv b base)).toArray meth c := ⟨hx, hb, hml, hown, fun w hw => hts w (List.mem_cons_of_mem _ hw), hN, hK, hX, hbb, by rw [hz]; exact Nat.le_add_right _ _, fun h => by rw [hnm0]; exact h⟩
      rw [lg_entry_eq]
      refine nm_sound (d := d) hzz (show d + 1 ≤ d + 1 from Nat.le_refl _) (show 64 * d + 64 ≤ 64 * (d + 1) by omega) (Nat.le_refl _) (Nat.le_refl _) hG ih ?_ hX0 s.heap [] _ hz hP va_S.rf (nm_L.entry hl1 hl2)
      intro v w' H locs k n A pc hcase hQ hz1 hP1 hS1 hk1 hn1
      have hfr : ∀ t : State, t.heap = H → va_F (nm_A base) s t := fun t ht => hS1.F ht
      rcases hcase with ⟨x, ty, rfl, hd, hrt, hna⟩ | ⟨x, rfl, hd, hrt⟩ | ⟨rfl, hd, hrt⟩
      · exact W.widen hk1 hn1 (W.zret (v := x) hx hb (hr.trans hrt) hna (fun t ht _ => ⟨⟨some (.int x), [.int x], w', rfl, rfl, hQ, by rw [ht]; exact hz1, by rw [ht]; exact hP1⟩, hfr t ht⟩) hS1.2.2 hd hlocks)
      · exact W.widen hk1 hn1 (W.lret (v := x) hx hb (hr.trans hrt) (fun t ht _ => ⟨⟨some (.long x), [.long x], w', rfl, rfl, hQ, by rw [ht]; exact hz1, by rw [ht]; exact hP1⟩, hfr t ht⟩) hS1.2.2 hd hlocks)
      · exact W.widen hk1 hn1 (W.vret hx hb (hr.trans hrt) (fun t ht _ => ⟨⟨none, [], w', rfl, rfl, hQ, by rw [ht]; exact hz1, by rw [ht]; exact hP1⟩, hfr t ht⟩) hS1.2.2 hd hlocks)
    · exact False.elim h
