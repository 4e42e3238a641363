/-! Rows: one instruction of the flat machine as an equivalence. -/
def nm_call : Nat → nm_C := nm_callG nm_prog
def nm_b {α : Type} (o : Option α) (f : α → Prop) : Prop := match o with
  | some a => f a
  | none => False
def nm_obj (w : nm_W) (a ci : Nat) : Prop := ∃ fs, w[a]? = some (.inr (ci, fs))
theorem nm_rcv_iff {w : nm_W} {a ci : Nat} {as : List Value} : nm_rcv (some ci) w (.ref a :: as) = true ↔ nm_obj w a ci := by
  constructor
  · intro h
    obtain ⟨a', fs, as', h1, h2⟩ := nm_rcv_some h
    cases h1
    exact ⟨fs, h2⟩
  · rintro ⟨fs, h⟩
    simp [nm_rcv, h]
section RW
variable {t : nm_T} {d : Nat} {Q : nm_K} {pc nx tg : Nat} {ls ls' st : List Value} {w : nm_W} {k n : Nat}
theorem rr {op : nm_Op} (ho : nm_look t pc = some op) : nm_X t (nm_call d) Q pc ls st w k n ↔ nm_sem (nm_call d) Q (nm_X t (nm_call d) Q) (op ls st w k n) := nm_X_iff (nm_callG_mono nm_prog d) ho
theorem rw_push {v : Value} (ho : nm_look t pc = some (op_push v nx)) : nm_X t (nm_call d) Q pc ls st w k n ↔ nm_X t (nm_call d) Q nx ls (v :: st) w k n := rr ho
theorem rw_ldI {j : Nat} {x : Int32} (ho : nm_look t pc = some (op_ldI j nx)) (hl : ls[j]? = some (.int x)) : nm_X t (nm_call d) Q pc ls st w k n ↔ nm_X t (nm_call d) Q nx ls (.int x :: st) w k n := by
  rw [rr ho]; simp only [op_ldI, hl]; exact Iff.rfl
theorem rw_ldL {j : Nat} {x : Int64} (ho : nm_look t pc = some (op_ldL j nx)) (hl : ls[j]? = some (.long x)) : nm_X t (nm_call d) Q pc ls st w k n ↔ nm_X t (nm_call d) Q nx ls (.long x :: st) w k n := by
  rw [rr ho]; simp only [op_ldL, hl]; exact Iff.rfl
theorem rw_ldA {j : Nat} {x : Nat} (ho : nm_look t pc = some (op_ldA j nx)) (hl : ls[j]? = some (.ref x)) : nm_X t (nm_call d) Q pc ls st w k n ↔ nm_X t (nm_call d) Q nx ls (.ref x :: st) w k n := by
  rw [rr ho]; simp only [op_ldA, hl]; exact Iff.rfl
theorem rw_ldF {j : Nat} {x : UInt32} (ho : nm_look t pc = some (op_ldA j nx)) (hl : ls[j]? = some (.float x)) : nm_X t (nm_call d) Q pc ls st w k n ↔ nm_X t (nm_call d) Q nx ls (.float x :: st) w k n := by
  rw [rr ho]; simp only [op_ldA, hl]; exact Iff.rfl
theorem rw_stI {j : Nat} {x : Int32} (ho : nm_look t pc = some (op_stI j nx)) (hl : ls.set j (.int x) = ls') : nm_X t (nm_call d) Q pc ls (.int x :: st) w k n ↔ nm_X t (nm_call d) Q nx ls' st w k n := by
  subst hl; exact rr ho
theorem rw_stL {j : Nat} {x : Int64} (ho : nm_look t pc = some (op_stL j nx)) (hl : (ls.set j (.long x)).set (j + 1) .null = ls') : nm_X t (nm_call d) Q pc ls (.long x :: st) w k n ↔ nm_X t (nm_call d) Q nx ls' st w k n := by
  subst hl; exact rr ho
theorem rw_stA {j : Nat} {x : Nat} (ho : nm_look t pc = some (op_stA j nx)) (hl : ls.set j (.ref x) = ls') : nm_X t (nm_call d) Q pc ls (.ref x :: st) w k n ↔ nm_X t (nm_call d) Q nx ls' st w k n := by
  subst hl; exact rr ho
theorem rw_inc {j : Nat} {c x : Int32} (ho : nm_look t pc = some (op_inc j c nx)) (hl : ls[j]? = some (.int x)) (hl' : ls.set j (.int (x + c)) = ls') : nm_X t (nm_call d) Q pc ls st w k n ↔ nm_X t (nm_call d) Q nx ls' st w k n := by
  rw [rr ho]; subst hl'; simp only [op_inc, hl]; exact Iff.rfl
theorem rw_bin {f : Int32 → Int32 → Int32} {x y : Int32} (ho : nm_look t pc = some (op_bin f nx)) : nm_X t (nm_call d) Q pc ls (.int y :: .int x :: st) w k n ↔ nm_X t (nm_call d) Q nx ls (.int (f x y) :: st) w k n := rr ho
theorem rw_div {x y : Int32} (ho : nm_look t pc = some (op_div nx)) : nm_X t (nm_call d) Q pc ls (.int y :: .int x :: st) w k n ↔ (¬ y = 0 ∧ nm_X t (nm_call d) Q nx ls (.int (x / y) :: st) w k n) := by
  rw [rr ho]
  by_cases h : y = 0
  · simp [op_div, h, nm_sem]
  · simp [op_div, h, nm_sem]
theorem rw_lbin {f : Int64 → Int64 → Int64} {x y : Int64} (ho : nm_look t pc = some (op_lbin f nx)) : nm_X t (nm_call d) Q pc ls (.long y :: .long x :: st) w k n ↔ nm_X t (nm_call d) Q nx ls (.long (f x y) :: st) w k n := rr ho
theorem rw_lsh {f : Int64 → Int32 → Int64} {x : Int64} {y : Int32} (ho : nm_look t pc = some (op_lsh f nx)) : nm_X t (nm_call d) Q pc ls (.int y :: .long x :: st) w k n ↔ nm_X t (nm_call d) Q nx ls (.long (f x y) :: st) w k n := rr ho
theorem rw_lcmp {x y : Int64} (ho : nm_look t pc = some (op_lcmp nx)) : nm_X t (nm_call d) Q pc ls (.long y :: .long x :: st) w k n ↔ nm_X t (nm_call d) Q nx ls (.int (lg_cmp x y) :: st) w k n := rr ho
theorem rw_i2l {x : Int32} (ho : nm_look t pc = some (op_i2l nx)) : nm_X t (nm_call d) Q pc ls (.int x :: st) w k n ↔ nm_X t (nm_call d) Q nx ls (.long x.toInt64 :: st) w k n := rr ho
theorem rw_l2i {x : Int64} (ho : nm_look t pc = some (op_l2i nx)) : nm_X t (nm_call d) Q pc ls (.long x :: st) w k n ↔ nm_X t (nm_call d) Q nx ls (.int x.toInt32 :: st) w k n := rr ho
theorem rw_i2c {x : Int32} (ho : nm_look t pc = some (op_i2c nx)) : nm_X t (nm_call d) Q pc ls (.int x :: st) w k n ↔ nm_X t (nm_call d) Q nx ls (.int (x.toUInt32 % 65536).toInt32 :: st) w k n := rr ho
theorem rw_dup {a : Nat} (ho : nm_look t pc = some (op_dup nx)) : nm_X t (nm_call d) Q pc ls (.ref a :: st) w k n ↔ nm_X t (nm_call d) Q nx ls (.ref a :: .ref a :: st) w k n := rr ho
theorem rw_pop {x : Int32} (ho : nm_look t pc = some (op_pop nx)) : nm_X t (nm_call d) Q pc ls (.int x :: st) w k n ↔ nm_X t (nm_call d) Q nx ls st w k n := rr ho
theorem rw_dup2 {a : Nat} {i : Int32} (ho : nm_look t pc = some (op_dup2 nx)) : nm_X t (nm_call d) Q pc ls (.int i :: .ref a :: st) w k n ↔ nm_X t (nm_call d) Q nx ls (.int i :: .ref a :: .int i :: .ref a :: st) w k n := rr ho
theorem rw_goto (ho : nm_look t pc = some (op_goto nx)) : nm_X t (nm_call d) Q pc ls st w k n ↔ nm_X t (nm_call d) Q nx ls st w k n := rr ho
theorem rw_if {f : Int32 → Int32 → Bool} {x y : Int32} {c : Prop} [Decidable c] (ho : nm_look t pc = some (op_if f tg nx)) (hc : f x y = true ↔ c) : nm_X t (nm_call d) Q pc ls (.int y :: .int x :: st) w k n ↔ if c then nm_X t (nm_call d) Q tg ls st w k n else nm_X t (nm_call d) Q nx ls st w k n := by
  rw [rr ho]
  by_cases h : c
  · rw [if_pos h]; simp only [op_if, hc.mpr h, if_true]; exact Iff.rfl
  · rw [if_neg h]
    have h2 : f x y = false := by
      cases hf : f x y with
      | false => rfl
      | true => exact absurd (hc.mp hf) h
    simp only [op_if, h2]; exact Iff.rfl
theorem rw_ifn {f : Int32 → Int32 → Bool} {x y : Int32} {c : Prop} [Decidable c] (ho : nm_look t pc = some (op_if f tg nx)) (hc : f x y = true ↔ ¬ c) : nm_X t (nm_call d) Q pc ls (.int y :: .int x :: st) w k n ↔ if c then nm_X t (nm_call d) Q nx ls st w k n else nm_X t (nm_call d) Q tg ls st w k n := by
  rw [rw_if ho hc]
  by_cases h : c
  · rw [if_pos h, if_neg (fun z => z h)]
  · rw [if_neg h, if_pos h]
theorem rw_ifz {f : Int32 → Bool} {x : Int32} {c : Prop} [Decidable c] (ho : nm_look t pc = some (op_ifz f tg nx)) (hc : f x = true ↔ c) : nm_X t (nm_call d) Q pc ls (.int x :: st) w k n ↔ if c then nm_X t (nm_call d) Q tg ls st w k n else nm_X t (nm_call d) Q nx ls st w k n := by
  rw [rr ho]
  by_cases h : c
  · rw [if_pos h]; simp only [op_ifz, hc.mpr h, if_true]; exact Iff.rfl
  · rw [if_neg h]
    have h2 : f x = false := by
      cases hf : f x with
      | false => rfl
      | true => exact absurd (hc.mp hf) h
    simp only [op_ifz, h2]; exact Iff.rfl
theorem rw_ifzn {f : Int32 → Bool} {x : Int32} {c : Prop} [Decidable c] (ho : nm_look t pc = some (op_ifz f tg nx)) (hc : f x = true ↔ ¬ c) : nm_X t (nm_call d) Q pc ls (.int x :: st) w k n ↔ if c then nm_X t (nm_call d) Q nx ls st w k n else nm_X t (nm_call d) Q tg ls st w k n := by
  rw [rw_ifz ho hc]
  by_cases h : c
  · rw [if_pos h, if_neg (fun z => z h)]
  · rw [if_neg h, if_pos h]
theorem nm_nle {x y : Int32} : decide (y ≤ x) = true ↔ ¬ x < y := by
  rw [decide_eq_true_eq, Int32.le_iff_toInt_le, Int32.lt_iff_toInt_lt]; omega
theorem nm_dt {c : Prop} [Decidable c] : decide c = true ↔ c := decide_eq_true_iff
theorem rw_sw {lo : Int} {ts : List Nat} {d0 : Nat} {x : Int32} (ho : nm_look t pc = some (op_sw lo ts d0)) : nm_X t (nm_call d) Q pc ls (.int x :: st) w k n ↔ nm_X t (nm_call d) Q (nm_swt lo ts d0 x) ls st w k n := rr ho
theorem rw_get {ci j a : Nat} (ho : nm_look t pc = some (op_get ci j nx)) : nm_X t (nm_call d) Q pc ls (.ref a :: st) w k n ↔ nm_b (nm_get w a ci j) (fun v => nm_X t (nm_call d) Q nx ls (v :: st) w k n) := by
  rw [rr ho]
  simp only [op_get]
  cases nm_get w a ci j <;> exact Iff.rfl
theorem rw_putI {ci j a : Nat} {x : Int32} (ho : nm_look t pc = some (op_putI ci j 2 nx)) : nm_X t (nm_call d) Q pc ls (.int x :: .ref a :: st) w k n ↔ nm_b (nm_put w a ci j (.int x)) (fun w' => nm_X t (nm_call d) Q nx ls st w' k n) := by
  rw [rr ho]
  have h : ¬ ((2 = 0 ∧ ¬ (x = 0 ∨ x = 1)) ∨ (2 = 1 ∧ ¬ (0 ≤ x ∧ x ≤ 65535))) := by omega
  simp only [op_putI, if_neg h]
  cases nm_put w a ci j (.int x) <;> exact Iff.rfl
theorem rw_putZ {ci j a : Nat} {x : Int32} (ho : nm_look t pc = some (op_putI ci j 0 nx)) : nm_X t (nm_call d) Q pc ls (.int x :: .ref a :: st) w k n ↔ ((x = 0 ∨ x = 1) ∧ nm_b (nm_put w a ci j (.int x)) (fun w' => nm_X t (nm_call d) Q nx ls st w' k n)) := by
  rw [rr ho]
  by_cases h : x = 0 ∨ x = 1
  · have h2 : ¬ ((0 = 0 ∧ ¬ (x = 0 ∨ x = 1)) ∨ (0 = 1 ∧ ¬ (0 ≤ x ∧ x ≤ 65535))) := by
      rintro (⟨-, z⟩ | ⟨z, -⟩)
      · exact z h
      · cases z
    simp only [op_putI, if_neg h2]
    cases nm_put w a ci j (.int x) <;> simp [h, nm_b, nm_sem]
  · have h2 : ((0 = 0 ∧ ¬ (x = 0 ∨ x = 1)) ∨ (0 = 1 ∧ ¬ (0 ≤ x ∧ x ≤ 65535))) := Or.inl ⟨rfl, h⟩
    simp only [op_putI, if_pos h2]
    simp only [h, false_and]
    exact Iff.rfl
theorem rw_putC {ci j a : Nat} {x : Int32} (ho : nm_look t pc = some (op_putI ci j 1 nx)) : nm_X t (nm_call d) Q pc ls (.int x :: .ref a :: st) w k n ↔ ((0 ≤ x ∧ x ≤ 65535) ∧ nm_b (nm_put w a ci j (.int x)) (fun w' => nm_X t (nm_call d) Q nx ls st w' k n)) := by
  rw [rr ho]
  by_cases h : 0 ≤ x ∧ x ≤ 65535
  · have h2 : ¬ ((1 = 0 ∧ ¬ (x = 0 ∨ x = 1)) ∨ (1 = 1 ∧ ¬ (0 ≤ x ∧ x ≤ 65535))) := by
      rintro (⟨z, -⟩ | ⟨-, z⟩)
      · cases z
      · exact z h
    simp only [op_putI, if_neg h2]
    cases nm_put w a ci j (.int x) <;> simp [h, nm_b, nm_sem]
  · have h2 : ((1 = 0 ∧ ¬ (x = 0 ∨ x = 1)) ∨ (1 = 1 ∧ ¬ (0 ≤ x ∧ x ≤ 65535))) := Or.inr ⟨rfl, h⟩
    simp only [op_putI, if_pos h2]
    simp only [h, false_and]
    exact Iff.rfl
theorem rw_putL {ci j a : Nat} {x : Int64} (ho : nm_look t pc = some (op_putL ci j nx)) : nm_X t (nm_call d) Q pc ls (.long x :: .ref a :: st) w k n ↔ nm_b (nm_put w a ci j (.long x)) (fun w' => nm_X t (nm_call d) Q nx ls st w' k n) := by
  rw [rr ho]
  simp only [op_putL]
  cases nm_put w a ci j (.long x) <;> exact Iff.rfl
theorem rw_putA {ci j a x : Nat} (ho : nm_look t pc = some (op_putA ci j nx)) : nm_X t (nm_call d) Q pc ls (.ref x :: .ref a :: st) w k n ↔ nm_b (nm_put w a ci j (.ref x)) (fun w' => nm_X t (nm_call d) Q nx ls st w' k n) := by
  rw [rr ho]
  simp only [op_putA]
  cases nm_put w a ci j (.ref x) <;> exact Iff.rfl
theorem rw_ald {tt a : Nat} {i : Int32} (ho : nm_look t pc = some (op_ald tt nx)) : nm_X t (nm_call d) Q pc ls (.int i :: .ref a :: st) w k n ↔ nm_b (nm_ald w a tt i) (fun x => nm_X t (nm_call d) Q nx ls (.int x :: st) w k n) := by
  rw [rr ho]
  simp only [op_ald]
  cases nm_ald w a tt i <;> exact Iff.rfl
theorem rw_lald {a : Nat} {i : Int32} (ho : nm_look t pc = some (op_lald nx)) : nm_X t (nm_call d) Q pc ls (.int i :: .ref a :: st) w k n ↔ nm_b (nm_lald w a i) (fun x => nm_X t (nm_call d) Q nx ls (.long x :: st) w k n) := by
  rw [rr ho]
  simp only [op_lald]
  cases nm_lald w a i <;> exact Iff.rfl
theorem rw_ast {tt a : Nat} {i x : Int32} (ho : nm_look t pc = some (op_ast tt nx)) : nm_X t (nm_call d) Q pc ls (.int x :: .int i :: .ref a :: st) w k n ↔ nm_b (nm_ast w a tt i x) (fun w' => nm_X t (nm_call d) Q nx ls st w' k n) := by
  rw [rr ho]
  simp only [op_ast]
  cases nm_ast w a tt i x <;> exact Iff.rfl
theorem rw_last {a : Nat} {i : Int32} {x : Int64} (ho : nm_look t pc = some (op_last nx)) : nm_X t (nm_call d) Q pc ls (.long x :: .int i :: .ref a :: st) w k n ↔ nm_b (nm_last w a i x) (fun w' => nm_X t (nm_call d) Q nx ls st w' k n) := by
  rw [rr ho]
  simp only [op_last]
  cases nm_last w a i x <;> exact Iff.rfl
theorem rw_sald {L : Nat} {xs : Nat → Int32} {i : Int32} {z : UInt32} (ho : nm_look t pc = some (op_sald L xs nx)) : nm_X t (nm_call d) Q pc ls (.int i :: .float z :: st) w k n ↔ (vp_in i L ∧ nm_X t (nm_call d) Q nx ls (.int (xs i.toNatClampNeg) :: st) w k n) := by
  rw [rr ho]
  by_cases h : i < 0 ∨ L ≤ i.toNatClampNeg
  · simp only [op_sald, if_pos h, vp_in]
    constructor
    · intro z; exact False.elim z
    · intro z; exact absurd h z.1
  · simp only [op_sald, if_neg h, vp_in]
    constructor
    · intro z; exact ⟨h, z⟩
    · intro z; exact z.2
theorem rw_slen {L : Nat} {z : UInt32} (ho : nm_look t pc = some (op_slen L nx)) : nm_X t (nm_call d) Q pc ls (.float z :: st) w k n ↔ nm_X t (nm_call d) Q nx ls (.int (Int32.ofNat L) :: st) w k n := rr ho
theorem rw_new {ci N MC MS : Nat} {fs : List Value} (ho : nm_look t pc = some (op_new ci N MC MS nx fs)) : nm_X t (nm_call d) Q pc ls st w k n ↔ ((k + 1 ≤ MC ∧ n + N ≤ MS) ∧ nm_X t (nm_call d) Q nx ls (.ref w.length :: st) (w ++ [.inr (ci, fs)]) (k + 1) (n + N)) := by
  rw [rr ho]
  by_cases h : k + 1 ≤ MC ∧ n + N ≤ MS
  · simp only [op_new, if_pos h]
    constructor
    · intro z; exact ⟨h, z⟩
    · intro z; exact z.2
  · simp only [op_new, if_neg h]
    constructor
    · intro z; exact False.elim z
    · intro z; exact absurd z.1 h
theorem rw_newa {tt MC MS : Nat} {c : Int32} (ho : nm_look t pc = some (op_newa tt MC MS nx)) : nm_X t (nm_call d) Q pc ls (.int c :: st) w k n ↔ ((¬ c < 0 ∧ c.toNatClampNeg ≤ 10000 ∧ k + 1 ≤ MC ∧ n + c.toNatClampNeg ≤ MS) ∧ nm_X t (nm_call d) Q nx ls (.ref w.length :: st) (w ++ [.inl (tt, c.toNatClampNeg, if tt = 3 then .inr (fun _ => 0) else .inl (fun _ => 0))]) (k + 1) (n + c.toNatClampNeg)) := by
  rw [rr ho]
  by_cases h : ¬ c < 0 ∧ c.toNatClampNeg ≤ 10000 ∧ k + 1 ≤ MC ∧ n + c.toNatClampNeg ≤ MS
  · simp only [op_newa, if_pos h]
    constructor
    · intro z; exact ⟨h, z⟩
    · intro z; exact z.2
  · simp only [op_newa, if_neg h]
    constructor
    · intro z; exact False.elim z
    · intro z; exact absurd z.1 h
theorem rw_obj {a : Nat} (ho : nm_look t pc = some (op_obj nx)) (hl : st.length ≤ 4) : nm_X t (nm_call d) Q pc ls (.ref a :: st) w k n ↔ nm_X t (nm_call d) Q nx ls st w k n := by
  rw [rr ho]
  simp only [op_obj, if_pos hl]
  exact Iff.rfl
theorem rw_max {MC MS : Nat} {x y : Int32} (ho : nm_look t pc = some (op_max MC MS nx)) (hl : st.length ≤ 4) : nm_X t (nm_call d) Q pc ls (.int y :: .int x :: st) w 0 0 ↔ nm_X t (nm_call d) Q nx ls (.int (if x < y then y else x) :: st) w 0 0 := by
  rw [rr ho]
  have h : st.length ≤ 4 ∧ 0 ≤ MC ∧ 0 ≤ MS := ⟨hl, Nat.zero_le _, Nat.zero_le _⟩
  simp only [op_max, if_pos h]
  exact Iff.rfl
theorem rw_lmin {MC MS : Nat} {x y : Int64} (ho : nm_look t pc = some (op_lmin MC MS nx)) (hl : st.length ≤ 4) : nm_X t (nm_call d) Q pc ls (.long y :: .long x :: st) w 0 0 ↔ nm_X t (nm_call d) Q nx ls (.long (if y < x then y else x) :: st) w 0 0 := by
  rw [rr ho]
  have h : st.length ≤ 4 ∧ 0 ≤ MC ∧ 0 ≤ MS := ⟨hl, Nat.zero_le _, Nat.zero_le _⟩
  simp only [op_lmin, if_pos h]
  exact Iff.rfl
theorem rw_callK {y na mc ms MC MS : Nat} {rc : Option Nat} {as rest : List Value} (ho : nm_look t pc = some (op_call y na rc mc ms MC MS nx)) (h1 : na ≤ st.length ∧ st.length ≤ na + 4) (h2 : (st.take na).reverse = as) (h3 : st.drop na = rest) : nm_X t (nm_call d) Q pc ls st w k n ↔ ((nm_rcv rc w as = true ∧ k + mc ≤ MC ∧ n + ms ≤ MS) ∧ nm_call d y as w (fun v w' => nm_X t (nm_call d) Q nx ls (v ++ rest) w' (k + mc) (n + ms))) := by
  rw [rr ho]
  subst h2
  subst h3
  by_cases h : nm_rcv rc w (st.take na).reverse = true ∧ k + mc ≤ MC ∧ n + ms ≤ MS
  · have h' : na ≤ st.length ∧ st.length ≤ na + 4 ∧ nm_rcv rc w (st.take na).reverse = true ∧ k + mc ≤ MC ∧ n + ms ≤ MS := ⟨h1.1, h1.2, h⟩
    simp only [op_call, if_pos h']
    constructor
    · intro z; exact ⟨h, z⟩
    · intro z; exact z.2
  · have h' : ¬ (na ≤ st.length ∧ st.length ≤ na + 4 ∧ nm_rcv rc w (st.take na).reverse = true ∧ k + mc ≤ MC ∧ n + ms ≤ MS) := fun z => h z.2.2
    simp only [op_call, if_neg h']
    constructor
    · intro z; exact False.elim z
    · intro z; exact absurd z.1 h
/-- a call of a method that makes nothing, by one that makes nothing -/
theorem rw_callS {y na MC MS : Nat} {as rest : List Value} (ho : nm_look t pc = some (op_call y na none 0 0 MC MS nx)) (h1 : na ≤ st.length ∧ st.length ≤ na + 4) (h2 : (st.take na).reverse = as) (h3 : st.drop na = rest) : nm_X t (nm_call d) Q pc ls st w 0 0 ↔ nm_call d y as w (fun v w' => nm_X t (nm_call d) Q nx ls (v ++ rest) w' 0 0) := by
  rw [rw_callK ho h1 h2 h3]
  constructor
  · intro z; exact z.2
  · intro z; exact ⟨⟨rfl, Nat.zero_le _, Nat.zero_le _⟩, z⟩
theorem rw_callV {y na ci a MC MS : Nat} {as rest : List Value} (ho : nm_look t pc = some (op_call y na (some ci) 0 0 MC MS nx)) (h1 : na ≤ st.length ∧ st.length ≤ na + 4) (h2 : (st.take na).reverse = .ref a :: as) (h3 : st.drop na = rest) : nm_X t (nm_call d) Q pc ls st w 0 0 ↔ (nm_obj w a ci ∧ nm_call d y (.ref a :: as) w (fun v w' => nm_X t (nm_call d) Q nx ls (v ++ rest) w' 0 0)) := by
  rw [rw_callK ho h1 h2 h3, nm_rcv_iff]
  constructor
  · intro z; exact ⟨z.1.1, z.2⟩
  · intro z; exact ⟨⟨z.1, Nat.zero_le _, Nat.zero_le _⟩, z.2⟩
theorem rw_callC {y na ci a mc ms MC MS : Nat} {as rest : List Value} (ho : nm_look t pc = some (op_call y na (some ci) mc ms MC MS nx)) (h1 : na ≤ st.length ∧ st.length ≤ na + 4) (h2 : (st.take na).reverse = .ref a :: as) (h3 : st.drop na = rest) : nm_X t (nm_call d) Q pc ls st w k n ↔ ((nm_obj w a ci ∧ k + mc ≤ MC ∧ n + ms ≤ MS) ∧ nm_call d y (.ref a :: as) w (fun v w' => nm_X t (nm_call d) Q nx ls (v ++ rest) w' (k + mc) (n + ms))) := by
  rw [rw_callK ho h1 h2 h3, nm_rcv_iff]
theorem rw_callCS {y na MC MS : Nat} {as rest : List Value} (ho : nm_look t pc = some (op_call y na none 0 0 MC MS nx)) (h1 : na ≤ st.length ∧ st.length ≤ na + 4) (h2 : (st.take na).reverse = as) (h3 : st.drop na = rest) : nm_X t (nm_call d) Q pc ls st w k n ↔ ((k ≤ MC ∧ n ≤ MS) ∧ nm_call d y as w (fun v w' => nm_X t (nm_call d) Q nx ls (v ++ rest) w' k n)) := by
  rw [rw_callK ho h1 h2 h3]
  constructor
  · intro z; exact ⟨z.1.2, z.2⟩
  · intro z; exact ⟨⟨rfl, z.1⟩, z.2⟩
theorem rw_retV {MC MS : Nat} (ho : nm_look t pc = some (op_retV MC MS)) : nm_X t (nm_call d) Q pc ls [] w k n ↔ ((k ≤ MC ∧ n ≤ MS) ∧ Q [] w) := by
  rw [rr ho]
  by_cases h : k ≤ MC ∧ n ≤ MS
  · simp only [op_retV, if_pos h]
    constructor
    · intro z; exact ⟨h, z⟩
    · intro z; exact z.2
  · simp only [op_retV, if_neg h]
    constructor
    · intro z; exact False.elim z
    · intro z; exact absurd z.1 h
theorem rw_retV0 {MC MS : Nat} (ho : nm_look t pc = some (op_retV MC MS)) : nm_X t (nm_call d) Q pc ls [] w 0 0 ↔ Q [] w := by
  rw [rw_retV ho]
  exact ⟨fun z => z.2, fun z => ⟨⟨Nat.zero_le _, Nat.zero_le _⟩, z⟩⟩
theorem rw_retI0 {MC MS : Nat} {x : Int32} (ho : nm_look t pc = some (op_retI false MC MS)) : nm_X t (nm_call d) Q pc ls [.int x] w 0 0 ↔ Q [.int x] w := by
  rw [rr ho]
  have h : 0 ≤ MC ∧ 0 ≤ MS ∧ (false = true → x = 0 ∨ x = 1) := ⟨Nat.zero_le _, Nat.zero_le _, fun z => by cases z⟩
  simp only [op_retI, if_pos h]
  exact Iff.rfl
theorem rw_retZ0 {MC MS : Nat} {x : Int32} (ho : nm_look t pc = some (op_retI true MC MS)) : nm_X t (nm_call d) Q pc ls [.int x] w 0 0 ↔ ((x = 0 ∨ x = 1) ∧ Q [.int x] w) := by
  rw [rr ho]
  by_cases h : x = 0 ∨ x = 1
  · have h' : 0 ≤ MC ∧ 0 ≤ MS ∧ (true = true → x = 0 ∨ x = 1) := ⟨Nat.zero_le _, Nat.zero_le _, fun _ => h⟩
    unfold op_retI
    dsimp only
    rw [if_pos h']
    constructor
    · intro z; exact ⟨h, z⟩
    · intro z; exact z.2
  · have h' : ¬ (0 ≤ MC ∧ 0 ≤ MS ∧ (true = true → x = 0 ∨ x = 1)) := fun z => h (z.2.2 rfl)
    unfold op_retI
    dsimp only
    rw [if_neg h']
    constructor
    · intro z; exact False.elim z
    · intro z; exact absurd z.1 h
theorem rw_retZ {MC MS : Nat} {x : Int32} (ho : nm_look t pc = some (op_retI true MC MS)) : nm_X t (nm_call d) Q pc ls [.int x] w k n ↔ ((k ≤ MC ∧ n ≤ MS) ∧ (x = 0 ∨ x = 1) ∧ Q [.int x] w) := by
  rw [rr ho]
  by_cases h : k ≤ MC ∧ n ≤ MS ∧ (true = true → x = 0 ∨ x = 1)
  · unfold op_retI
    dsimp only
    rw [if_pos h]
    constructor
    · intro z; exact ⟨⟨h.1, h.2.1⟩, h.2.2 rfl, z⟩
    · intro z; exact z.2.2
  · unfold op_retI
    dsimp only
    rw [if_neg h]
    constructor
    · intro z; exact False.elim z
    · intro z; exact absurd ⟨z.1.1, z.1.2, fun _ => z.2.1⟩ h
theorem rw_retL0 {MC MS : Nat} {x : Int64} (ho : nm_look t pc = some (op_retL MC MS)) : nm_X t (nm_call d) Q pc ls [.long x] w 0 0 ↔ Q [.long x] w := by
  rw [rr ho]
  have h : 0 ≤ MC ∧ 0 ≤ MS := ⟨Nat.zero_le _, Nat.zero_le _⟩
  simp only [op_retL, if_pos h]
  exact Iff.rfl
end RW
theorem rw_ent {y : Nat} {t : nm_T} {i : nm_I} {d : Nat} {Q : nm_K} {as as' ls : List Value} {w : nm_W} (h : nm_prog[y]? = some (t, i)) (h1 : nm_spr as = as') (h2 : as'.length ≤ i.mL ∧ nm_lok i.sl 0 as' = true) (h3 : as' ++ List.replicate (i.mL - as'.length) .null = ls) : nm_call (d + 1) y as w Q ↔ nm_X t (nm_call d) Q 0 ls [] w 0 0 := by
  subst h1
  subst h3
  unfold nm_call
  rw [nm_callG]
  simp only [h]
  exact ⟨fun z => z.2, fun z => ⟨h2, z⟩⟩
/-- a run has one end: what it is known to end with -/
theorem nm_call_iff {d y : Nat} {as v : List Value} {w w' : nm_W} (h : nm_call d y as w (fun a b => a = v ∧ b = w')) (Q : nm_K) : nm_call d y as w Q ↔ Q v w' := by
  constructor
  · intro h2
    refine Classical.byContradiction fun hn => nm_callG_strict nm_prog d y as w ?_
    exact nm_callG_mono nm_prog d _ _ _ _ _ (fun a b z => hn (by obtain ⟨z1, rfl, rfl⟩ := z; exact z1)) (nm_callG_conj nm_prog d _ _ _ _ _ h2 h)
  · intro h2
    exact nm_callG_mono nm_prog d _ _ _ _ _ (fun a b z => by obtain ⟨rfl, rfl⟩ := z; exact h2) h
