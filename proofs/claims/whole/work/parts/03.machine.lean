/-! The flat machine: cells by number, steps as functions; nm_X is the least predicate that its steps close. -/
abbrev nm_E : Type := (Nat × Nat × ((Nat → Int32) ⊕ (Nat → Int64))) ⊕ (Nat × List Value)
abbrev nm_W : Type := List nm_E
abbrev nm_K : Type := List Value → nm_W → Prop
abbrev nm_C : Type := Nat → List Value → nm_W → nm_K → Prop
abbrev nm_F : Type := Nat → List Value → List Value → nm_W → Nat → Nat → Prop
abbrev nm_R : Type := (Nat × List Value × List Value × nm_W × Nat × Nat) ⊕ (List Value × nm_W) ⊕ (Nat × List Value × nm_W × Nat × List Value × List Value × Nat × Nat)
abbrev nm_Op : Type := List Value → List Value → nm_W → Nat → Nat → Option nm_R
abbrev nm_T : Type := List (Nat × nm_Op)
abbrev nm_go (pc : Nat) (ls st : List Value) (w : nm_W) (k n : Nat) : Option nm_R := some (.inl (pc, ls, st, w, k, n))
def nm_sem (C : nm_C) (Q : nm_K) (F : nm_F) : Option nm_R → Prop
  | none => False
  | some (.inl (pc, ls, st, w, k, n)) => F pc ls st w k n
  | some (.inr (.inl (v, w))) => Q v w
  | some (.inr (.inr (y, as, w, pc, ls, st, k, n))) => C y as w (fun v w' => F pc ls (v ++ st) w' k n)
def nm_look : nm_T → Nat → Option nm_Op
  | [], _ => none
  | (q, o) :: l, pc => bif Nat.beq q pc then some o else nm_look l pc
def nm_stp (t : nm_T) (C : nm_C) (Q : nm_K) (F : nm_F) : nm_F := fun pc ls st w k n => match nm_look t pc with
  | some op => nm_sem C Q F (op ls st w k n)
  | none => False
def nm_X (t : nm_T) (C : nm_C) (Q : nm_K) : nm_F := fun pc ls st w k n => ∀ F : nm_F, (∀ pc ls st w k n, nm_stp t C Q F pc ls st w k n → F pc ls st w k n) → F pc ls st w k n
def nm_Mono (C : nm_C) : Prop := ∀ (y : Nat) (as : List Value) (w : nm_W) (K K' : nm_K), (∀ v w', K v w' → K' v w') → C y as w K → C y as w K'
theorem nm_sem_mono {C : nm_C} (hC : nm_Mono C) {Q Q' : nm_K} {F F' : nm_F} (hQ : ∀ v w, Q v w → Q' v w) (hF : ∀ pc ls st w k n, F pc ls st w k n → F' pc ls st w k n) {r : Option nm_R} (h : nm_sem C Q F r) : nm_sem C Q' F' r := by
  rcases r with _ | ⟨pc, ls, st, w, k, n⟩ | ⟨v, w⟩ | ⟨y, as, w, pc, ls, st, k, n⟩
  · exact h
  · exact hF _ _ _ _ _ _ h
  · exact hQ _ _ h
  · exact hC _ _ _ _ _ (fun v w' => hF _ _ _ _ _ _) h
theorem nm_stp_mono {t : nm_T} {C : nm_C} (hC : nm_Mono C) {Q Q' : nm_K} {F F' : nm_F} (hQ : ∀ v w, Q v w → Q' v w) (hF : ∀ pc ls st w k n, F pc ls st w k n → F' pc ls st w k n) {pc : Nat} {ls st : List Value} {w : nm_W} {k n : Nat} (h : nm_stp t C Q F pc ls st w k n) : nm_stp t C Q' F' pc ls st w k n := by
  unfold nm_stp at h ⊢
  cases ho : nm_look t pc with
  | none => rw [ho] at h; exact h
  | some op => rw [ho] at h; exact nm_sem_mono hC hQ hF h
theorem nm_X_in {t : nm_T} {C : nm_C} (hC : nm_Mono C) {Q : nm_K} {pc : Nat} {ls st : List Value} {w : nm_W} {k n : Nat} (h : nm_stp t C Q (nm_X t C Q) pc ls st w k n) : nm_X t C Q pc ls st w k n :=
  fun F hF => hF _ _ _ _ _ _ (nm_stp_mono hC (fun _ _ h => h) (fun _ _ _ _ _ _ hx => hx F hF) h)
theorem nm_X_out {t : nm_T} {C : nm_C} (hC : nm_Mono C) {Q : nm_K} {pc : Nat} {ls st : List Value} {w : nm_W} {k n : Nat} (h : nm_X t C Q pc ls st w k n) : nm_stp t C Q (nm_X t C Q) pc ls st w k n :=
  h (nm_stp t C Q (nm_X t C Q)) (fun _ _ _ _ _ _ hx => nm_stp_mono hC (fun _ _ h => h) (fun _ _ _ _ _ _ hy => nm_X_in hC hy) hx)
theorem nm_X_iff {t : nm_T} {C : nm_C} (hC : nm_Mono C) {Q : nm_K} {pc : Nat} {op : nm_Op} (ho : nm_look t pc = some op) {ls st : List Value} {w : nm_W} {k n : Nat} : nm_X t C Q pc ls st w k n ↔ nm_sem C Q (nm_X t C Q) (op ls st w k n) := by
  constructor
  · intro h
    have := nm_X_out hC h
    unfold nm_stp at this
    rw [ho] at this
    exact this
  · intro h
    refine nm_X_in hC ?_
    unfold nm_stp
    rw [ho]
    exact h
theorem nm_X_mono {t : nm_T} {C : nm_C} (hC : nm_Mono C) {Q Q' : nm_K} (hQ : ∀ v w, Q v w → Q' v w) {pc : Nat} {ls st : List Value} {w : nm_W} {k n : Nat} (h : nm_X t C Q pc ls st w k n) : nm_X t C Q' pc ls st w k n :=
  h (nm_X t C Q') (fun _ _ _ _ _ _ hx => nm_X_in hC (nm_stp_mono hC hQ (fun _ _ _ _ _ _ hy => hy) hx))
/-- two ends of one run are one end -/
def nm_Conj (C : nm_C) : Prop := ∀ (y : Nat) (as : List Value) (w : nm_W) (K K' : nm_K), C y as w K → C y as w K' → C y as w (fun v w' => K v w' ∧ K' v w')
def nm_Strict (C : nm_C) : Prop := ∀ (y : Nat) (as : List Value) (w : nm_W), C y as w (fun _ _ => False) → False
theorem nm_X_conj {t : nm_T} {C : nm_C} (hC : nm_Mono C) (hJ : nm_Conj C) {Q Q' : nm_K} {pc : Nat} {ls st : List Value} {w : nm_W} {k n : Nat} (h : nm_X t C Q pc ls st w k n) (h' : nm_X t C Q' pc ls st w k n) : nm_X t C (fun v w' => Q v w' ∧ Q' v w') pc ls st w k n := by
  refine h (fun pc ls st w k n => nm_X t C Q' pc ls st w k n → nm_X t C (fun v w' => Q v w' ∧ Q' v w') pc ls st w k n) ?_ h'
  intro pc ls st w k n hs hx
  refine nm_X_in hC ?_
  have hx := nm_X_out hC hx
  unfold nm_stp at hs hx ⊢
  cases ho : nm_look t pc with
  | none => rw [ho] at hs; exact hs
  | some op =>
    rw [ho] at hs hx
    dsimp only at hs hx ⊢
    generalize op ls st w k n = r at hs hx ⊢
    rcases r with _ | ⟨pc, ls, st, w, k, n⟩ | ⟨v, w⟩ | ⟨y, as, w, pc, ls, st, k, n⟩
    · exact hs
    · exact hs hx
    · exact ⟨hs, hx⟩
    · exact hC _ _ _ _ _ (fun v w' hh => hh.1 hh.2) (hJ _ _ _ _ _ hs hx)
theorem nm_X_strict {t : nm_T} {C : nm_C} (hS : nm_Strict C) {pc : Nat} {ls st : List Value} {w : nm_W} {k n : Nat} (h : nm_X t C (fun _ _ => False) pc ls st w k n) : False := by
  refine h (fun _ _ _ _ _ _ => False) ?_
  intro pc ls st w k n hs
  unfold nm_stp at hs
  cases ho : nm_look t pc with
  | none => rw [ho] at hs; exact hs
  | some op =>
    rw [ho] at hs
    dsimp only at hs
    generalize op ls st w k n = r at hs
    rcases r with _ | ⟨pc, ls, st, w, k, n⟩ | ⟨v, w⟩ | ⟨y, as, w, pc, ls, st, k, n⟩
    · exact hs
    · exact hs
    · exact hs
    · exact hS _ _ _ hs
/-! the steps -/
def nm_get (w : nm_W) (a ci j : Nat) : Option Value := match w[a]? with
  | some (.inr (c, fs)) => if c = ci then fs[j]? else none
  | _ => none
def nm_put (w : nm_W) (a ci j : Nat) (v : Value) : Option nm_W := match w[a]? with
  | some (.inr (c, fs)) => if c = ci ∧ j < fs.length then some (w.set a (.inr (c, fs.set j v))) else none
  | _ => none
def nm_ald (w : nm_W) (a t : Nat) (i : Int32) : Option Int32 := match w[a]? with
  | some (.inl (t', n, .inl f)) => if t' = t ∧ ¬ (i < 0 ∨ n ≤ i.toNatClampNeg) then some (f i.toNatClampNeg) else none
  | _ => none
def nm_lald (w : nm_W) (a : Nat) (i : Int32) : Option Int64 := match w[a]? with
  | some (.inl (t', n, .inr f)) => if t' = 3 ∧ ¬ (i < 0 ∨ n ≤ i.toNatClampNeg) then some (f i.toNatClampNeg) else none
  | _ => none
def nm_nar (t : Nat) (x : Int32) : Int32 := match t with
  | 0 => vp_nar .boolean x
  | 1 => vp_nar .char x
  | _ => x
def nm_ast (w : nm_W) (a t : Nat) (i x : Int32) : Option nm_W := match w[a]? with
  | some (.inl (t', n, .inl f)) => if t' = t ∧ ¬ (i < 0 ∨ n ≤ i.toNatClampNeg) then some (w.set a (.inl (t', n, .inl (upd f i.toNatClampNeg (nm_nar t x))))) else none
  | _ => none
def nm_last (w : nm_W) (a : Nat) (i : Int32) (x : Int64) : Option nm_W := match w[a]? with
  | some (.inl (t', n, .inr f)) => if t' = 3 ∧ ¬ (i < 0 ∨ n ≤ i.toNatClampNeg) then some (w.set a (.inl (t', n, .inr (vp_updL f i.toNatClampNeg x)))) else none
  | _ => none
def nm_swt (lo : Int) (ts : List Nat) (d : Nat) (x : Int32) : Nat := if x.toInt < lo then d else ts.getD (x.toInt - lo).toNat d
def op_push (v : Value) (nx : Nat) : nm_Op := fun ls st w k n => nm_go nx ls (v :: st) w k n
def op_ldI (i nx : Nat) : nm_Op := fun ls st w k n => match ls[i]? with
  | some (.int x) => nm_go nx ls (.int x :: st) w k n
  | _ => none
def op_ldL (i nx : Nat) : nm_Op := fun ls st w k n => match ls[i]? with
  | some (.long x) => nm_go nx ls (.long x :: st) w k n
  | _ => none
def op_ldA (i nx : Nat) : nm_Op := fun ls st w k n => match ls[i]? with
  | some (.ref a) => nm_go nx ls (.ref a :: st) w k n
  | some (.float z) => nm_go nx ls (.float z :: st) w k n
  | _ => none
def op_stI (i nx : Nat) : nm_Op := fun ls st w k n => match st with
  | .int x :: r => nm_go nx (ls.set i (.int x)) r w k n
  | _ => none
def op_stL (i nx : Nat) : nm_Op := fun ls st w k n => match st with
  | .long x :: r => nm_go nx ((ls.set i (.long x)).set (i + 1) .null) r w k n
  | _ => none
def op_stA (i nx : Nat) : nm_Op := fun ls st w k n => match st with
  | .ref x :: r => nm_go nx (ls.set i (.ref x)) r w k n
  | _ => none
def op_inc (i : Nat) (c : Int32) (nx : Nat) : nm_Op := fun ls st w k n => match ls[i]? with
  | some (.int x) => nm_go nx (ls.set i (.int (x + c))) st w k n
  | _ => none
def op_bin (f : Int32 → Int32 → Int32) (nx : Nat) : nm_Op := fun ls st w k n => match st with
  | .int y :: .int x :: r => nm_go nx ls (.int (f x y) :: r) w k n
  | _ => none
def op_div (nx : Nat) : nm_Op := fun ls st w k n => match st with
  | .int y :: .int x :: r => if y = 0 then none else nm_go nx ls (.int (x / y) :: r) w k n
  | _ => none
def op_lbin (f : Int64 → Int64 → Int64) (nx : Nat) : nm_Op := fun ls st w k n => match st with
  | .long y :: .long x :: r => nm_go nx ls (.long (f x y) :: r) w k n
  | _ => none
def op_lsh (f : Int64 → Int32 → Int64) (nx : Nat) : nm_Op := fun ls st w k n => match st with
  | .int y :: .long x :: r => nm_go nx ls (.long (f x y) :: r) w k n
  | _ => none
def op_lcmp (nx : Nat) : nm_Op := fun ls st w k n => match st with
  | .long y :: .long x :: r => nm_go nx ls (.int (lg_cmp x y) :: r) w k n
  | _ => none
def op_i2l (nx : Nat) : nm_Op := fun ls st w k n => match st with
  | .int x :: r => nm_go nx ls (.long x.toInt64 :: r) w k n
  | _ => none
def op_l2i (nx : Nat) : nm_Op := fun ls st w k n => match st with
  | .long x :: r => nm_go nx ls (.int x.toInt32 :: r) w k n
  | _ => none
def op_i2c (nx : Nat) : nm_Op := fun ls st w k n => match st with
  | .int x :: r => nm_go nx ls (.int (x.toUInt32 % 65536).toInt32 :: r) w k n
  | _ => none
def op_dup (nx : Nat) : nm_Op := fun ls st w k n => match st with
  | .ref a :: r => nm_go nx ls (.ref a :: .ref a :: r) w k n
  | .int a :: r => nm_go nx ls (.int a :: .int a :: r) w k n
  | _ => none
def op_pop (nx : Nat) : nm_Op := fun ls st w k n => match st with
  | .int _ :: r => nm_go nx ls r w k n
  | _ => none
def op_dup2 (nx : Nat) : nm_Op := fun ls st w k n => match st with
  | .int i :: .ref a :: r => nm_go nx ls (.int i :: .ref a :: .int i :: .ref a :: r) w k n
  | _ => none
def op_goto (nx : Nat) : nm_Op := fun ls st w k n => nm_go nx ls st w k n
def op_if (f : Int32 → Int32 → Bool) (tg nx : Nat) : nm_Op := fun ls st w k n => match st with
  | .int y :: .int x :: r => if f x y = true then nm_go tg ls r w k n else nm_go nx ls r w k n
  | _ => none
def op_ifz (f : Int32 → Bool) (tg nx : Nat) : nm_Op := fun ls st w k n => match st with
  | .int x :: r => if f x = true then nm_go tg ls r w k n else nm_go nx ls r w k n
  | _ => none
def op_sw (lo : Int) (ts : List Nat) (d : Nat) : nm_Op := fun ls st w k n => match st with
  | .int x :: r => nm_go (nm_swt lo ts d x) ls r w k n
  | _ => none
def op_get (ci j nx : Nat) : nm_Op := fun ls st w k n => match st with
  | .ref a :: r => match nm_get w a ci j with
    | some v => nm_go nx ls (v :: r) w k n
    | none => none
  | _ => none
/-- kinds: 0 boolean, 1 char, 2 int -/
def op_putI (ci j t nx : Nat) : nm_Op := fun ls st w k n => match st with
  | .int x :: .ref a :: r => if (t = 0 ∧ ¬ (x = 0 ∨ x = 1)) ∨ (t = 1 ∧ ¬ (0 ≤ x ∧ x ≤ 65535)) then none else match nm_put w a ci j (.int x) with
    | some w' => nm_go nx ls r w' k n
    | none => none
  | _ => none
def op_putL (ci j nx : Nat) : nm_Op := fun ls st w k n => match st with
  | .long x :: .ref a :: r => match nm_put w a ci j (.long x) with
    | some w' => nm_go nx ls r w' k n
    | none => none
  | _ => none
def op_putA (ci j nx : Nat) : nm_Op := fun ls st w k n => match st with
  | .ref x :: .ref a :: r => match nm_put w a ci j (.ref x) with
    | some w' => nm_go nx ls r w' k n
    | none => none
  | _ => none
def op_ald (t nx : Nat) : nm_Op := fun ls st w k n => match st with
  | .int i :: .ref a :: r => match nm_ald w a t i with
    | some x => nm_go nx ls (.int x :: r) w k n
    | none => none
  | _ => none
def op_lald (nx : Nat) : nm_Op := fun ls st w k n => match st with
  | .int i :: .ref a :: r => match nm_lald w a i with
    | some x => nm_go nx ls (.long x :: r) w k n
    | none => none
  | _ => none
def op_ast (t nx : Nat) : nm_Op := fun ls st w k n => match st with
  | .int x :: .int i :: .ref a :: r => match nm_ast w a t i x with
    | some w' => nm_go nx ls r w' k n
    | none => none
  | _ => none
def op_last (nx : Nat) : nm_Op := fun ls st w k n => match st with
  | .long x :: .int i :: .ref a :: r => match nm_last w a i x with
    | some w' => nm_go nx ls r w' k n
    | none => none
  | _ => none
def op_sald (L : Nat) (xs : Nat → Int32) (nx : Nat) : nm_Op := fun ls st w k n => match st with
  | .int i :: .float _ :: r => if i < 0 ∨ L ≤ i.toNatClampNeg then none else nm_go nx ls (.int (xs i.toNatClampNeg) :: r) w k n
  | _ => none
def op_slen (L nx : Nat) : nm_Op := fun ls st w k n => match st with
  | .float _ :: r => nm_go nx ls (.int (Int32.ofNat L) :: r) w k n
  | _ => none
def op_new (ci N MC MS nx : Nat) (fs : List Value) : nm_Op := fun ls st w k n => if k + 1 ≤ MC ∧ n + N ≤ MS then nm_go nx ls (.ref w.length :: st) (w ++ [.inr (ci, fs)]) (k + 1) (n + N) else none
def op_newa (t MC MS nx : Nat) : nm_Op := fun ls st w k n => match st with
  | .int c :: r => if ¬ c < 0 ∧ c.toNatClampNeg ≤ 10000 ∧ k + 1 ≤ MC ∧ n + c.toNatClampNeg ≤ MS then nm_go nx ls (.ref w.length :: r) (w ++ [.inl (t, c.toNatClampNeg, if t = 3 then .inr (fun _ => 0) else .inl (fun _ => 0))]) (k + 1) (n + c.toNatClampNeg) else none
  | _ => none
def op_obj (nx : Nat) : nm_Op := fun ls st w k n => match st with
  | .ref _ :: r => if r.length ≤ 4 then nm_go nx ls r w k n else none
  | _ => none
/-- a call: method y, na values off the stack; rc: the kind of cell that the first must be -/
def nm_rcv (rc : Option Nat) (w : nm_W) (as : List Value) : Bool := match rc with
  | none => true
  | some ci => match as with
    | .ref a :: _ => match w[a]? with
      | some (.inr (c, _)) => c == ci
      | _ => false
    | _ => false
def op_call (y na : Nat) (rc : Option Nat) (mc ms MC MS nx : Nat) : nm_Op := fun ls st w k n =>
  if na ≤ st.length ∧ st.length ≤ na + 4 ∧ nm_rcv rc w (st.take na).reverse = true ∧ k + mc ≤ MC ∧ n + ms ≤ MS then some (.inr (.inr (y, (st.take na).reverse, w, nx, ls, st.drop na, k + mc, n + ms))) else none
def op_retV (MC MS : Nat) : nm_Op := fun _ st w k n => match st with
  | [] => if k ≤ MC ∧ n ≤ MS then some (.inr (.inl ([], w))) else none
  | _ => none
def op_retI (z : Bool) (MC MS : Nat) : nm_Op := fun _ st w k n => match st with
  | [.int x] => if k ≤ MC ∧ n ≤ MS ∧ (z = true → x = 0 ∨ x = 1) then some (.inr (.inl ([.int x], w))) else none
  | _ => none
def op_retL (MC MS : Nat) : nm_Op := fun _ st w k n => match st with
  | [.long x] => if k ≤ MC ∧ n ≤ MS then some (.inr (.inl ([.long x], w))) else none
  | _ => none
def nm_spr : List Value → List Value
  | [] => []
  | v :: vs => if v.category = 2 then v :: .null :: nm_spr vs else v :: nm_spr vs
def nm_ent (mL : Nat) (as : List Value) : List Value := nm_spr as ++ List.replicate (mL - (nm_spr as).length) .null
def nm_lok (S : List Nat) : Nat → List Value → Bool
  | _, [] => true
  | i, v :: vs => (decide (v.category = 1) || decide (i ∈ S)) && nm_lok S (i + 1) vs
