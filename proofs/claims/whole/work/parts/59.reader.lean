/-! The READER, purely: a walk over bytes, and what comes of it. -/
abbrev rA : Type := Nat × Nat × Int32 × Int32 × Int32 × Int32 × (Nat → Bool) × (Nat → Bool)
abbrev rE : Type := Int32 → Int32
def updB (f : Nat → Bool) (k : Nat) (x : Bool) : Nat → Bool := fun j => if j = k then x else f j
theorem updB_at (f : Nat → Bool) (k : Nat) (x : Bool) : updB f k x k = x := by simp [updB]
theorem updB_ne {f : Nat → Bool} {k j : Nat} {x : Bool} (h : j ≠ k) : updB f k x j = f j := by simp [updB, h]
abbrev dgt (c : Int32) : Prop := ¬ c < 48 ∧ ¬ 57 < c
def cmpv (g v m : Int32) : Bool := if g = 60 then decide (v < m) else if g = 62 then decide (m < v) else decide (v = m)
/-- depth, expects, letter, sign, number, digits, partHolds, unitsHold -/
def eU (a : rA) (v : Bool) : rA := (a.1, 4, a.2.2.1, a.2.2.2.1, a.2.2.2.2.1, a.2.2.2.2.2.1, a.2.2.2.2.2.2.1, updB a.2.2.2.2.2.2.2 a.1 (a.2.2.2.2.2.2.2 a.1 && v))
def eN (e : rE) (a : rA) : rA := eU a (cmpv a.2.2.2.1 (e a.2.2.1) a.2.2.2.2.1)
def fiA (e : rE) (a : rA) : rA := if a.2.1 = 3 then eN e a else a
def prA (e : rE) (c : Int32) (a : rA) : rA := if a.2.1 = 3 ∧ ¬ dgt c then eN e a else a
abbrev lett (c : Int32) : Prop := c = 108 ∨ c = 110 ∨ c = 102 ∨ c = 100
abbrev sgn (c : Int32) : Prop := c = 61 ∨ c = 60 ∨ c = 62
def tU (c : Int32) (a : rA) : Option rA := if c = 40 ∧ a.1 < 8 then some (a.1 + 1, a.2.1, a.2.2.1, a.2.2.2.1, a.2.2.2.2.1, a.2.2.2.2.2.1, updB a.2.2.2.2.2.2.1 (a.1 + 1) false, updB a.2.2.2.2.2.2.2 (a.1 + 1) true) else if lett c then some (a.1, 1, c, a.2.2.2) else none
def tS (c : Int32) (a : rA) : Option rA := if sgn c then some (a.1, 2, a.2.2.1, c, 0, 0, a.2.2.2.2.2.2) else none
def tD (c : Int32) (a : rA) : Option rA := if dgt c ∧ a.2.2.2.2.2.1 < 4 then some (a.1, 3, a.2.2.1, a.2.2.2.1, a.2.2.2.2.1 * 10 + (c - 48), a.2.2.2.2.2.1 + 1, a.2.2.2.2.2.2) else none
def tA (c : Int32) (a : rA) : Option rA := if c = 41 ∧ 0 < a.1 then some (eU (a.1 - 1, a.2) (a.2.2.2.2.2.2.1 a.1 || a.2.2.2.2.2.2.2 a.1)) else if c = 124 then some (a.1, 0, a.2.2.1, a.2.2.2.1, a.2.2.2.2.1, a.2.2.2.2.2.1, updB a.2.2.2.2.2.2.1 a.1 (a.2.2.2.2.2.2.1 a.1 || a.2.2.2.2.2.2.2 a.1), updB a.2.2.2.2.2.2.2 a.1 true) else if c = 38 then some (a.1, 0, a.2.2) else none
def tkA (c : Int32) (a : rA) : Option rA := if c = 32 then some a else if a.2.1 = 0 then tU c a else if a.2.1 = 1 then tS c a else if a.2.1 = 4 then tA c a else tD c a
def stp (e : rE) (c : Int32) (a : rA) : Option rA := tkA c (prA e c a)
def rdN (e : rE) (T : Nat → Int32) : Nat → Nat → rA → Option rA
  | 0, _, a => some a
  | k + 1, p, a => match stp e (T p) a with
    | some b => rdN e T k (p + 1) b
    | none => none
theorem rdN_s {e : rE} {T : Nat → Int32} {k p : Nat} {a b : rA} (h : stp e (T p) a = some b) : rdN e T (k + 1) p a = rdN e T k (p + 1) b := by
  rw [rdN, h]
theorem rdN_add {e : rE} {T : Nat → Int32} (k : Nat) : ∀ (j p : Nat) (a b : rA), rdN e T j p a = some b → rdN e T (j + k) p a = rdN e T k (p + j) b
  | 0, p, a, b, h => by
    rw [rdN] at h
    cases h
    rw [Nat.zero_add, Nat.add_zero]
  | j + 1, p, a, b, h => by
    rw [rdN] at h
    rw [show j + 1 + k = (j + k) + 1 by omega, rdN]
    cases hs : stp e (T p) a with
    | none => rw [hs] at h; cases h
    | some c =>
      rw [hs] at h
      dsimp only at h ⊢
      rw [rdN_add k j (p + 1) c b h, show p + 1 + j = p + (j + 1) by omega]
def rdG (e : rE) (T : Nat → Int32) (p q : Nat) (a b : rA) : Prop := p ≤ q ∧ rdN e T (q - p) p a = some b
theorem rdG_rf {e : rE} {T : Nat → Int32} {p : Nat} {a : rA} : rdG e T p p a a := ⟨Nat.le_refl p, by rw [Nat.sub_self]; rfl⟩
theorem rdG_tr {e : rE} {T : Nat → Int32} {p q r : Nat} {a b c : rA} (h : rdG e T p q a b) (h' : rdG e T q r b c) : rdG e T p r a c := by
  refine ⟨Nat.le_trans h.1 h'.1, ?_⟩
  have e1 : r - p = (q - p) + (r - q) := by have := h.1; have := h'.1; omega
  have e2 : p + (q - p) = q := by have := h.1; omega
  rw [e1, rdN_add _ _ _ _ _ h.2, e2]
  exact h'.2
theorem rdG_1 {e : rE} {T : Nat → Int32} {p : Nat} {a b : rA} (h : stp e (T p) a = some b) : rdG e T p (p + 1) a b := by
  refine ⟨by omega, ?_⟩
  rw [show p + 1 - p = 0 + 1 by omega, rdN_s h]
  rfl
/-- refused at q, or not at an end there -/
def rdE (b : rA) : Prop := (b.2.1 = 3 ∨ b.2.1 = 4) ∧ b.1 = 0
def rdB (e : rE) (T : Nat → Int32) (n p q : Nat) (a : rA) : Prop := ∃ b, rdG e T p q a b ∧ ((q < n ∧ stp e (T q) b = none) ∨ (q = n ∧ ¬ rdE b))
theorem rdB_tr {e : rE} {T : Nat → Int32} {n p q r : Nat} {a b : rA} (h : rdG e T p q a b) (h' : rdB e T n q r b) : rdB e T n p r a := by
  obtain ⟨c, h1, h2⟩ := h'
  exact ⟨c, rdG_tr h h1, h2⟩
/-- only spaces -/
def skp (T : Nat → Int32) (p q : Nat) : Prop := p ≤ q ∧ ∀ i, p ≤ i → i < q → T i = 32
theorem fiA_exp {e : rE} {a : rA} : ¬ (fiA e a).2.1 = 3 := by
  unfold fiA
  split
  · simp [eN, eU]
  · assumption
theorem fiA_of {e : rE} {a : rA} (h : ¬ a.2.1 = 3) : fiA e a = a := by simp [fiA, h]
theorem fiA_1 {e : rE} {a : rA} : (fiA e a).1 = a.1 := by
  unfold fiA
  split <;> rfl
theorem fiA_4 {e : rE} {a : rA} (h : a.2.1 = 3 ∨ a.2.1 = 4) : (fiA e a).2.1 = 4 := by
  unfold fiA
  rcases h with h | h
  · rw [if_pos h]; rfl
  · rw [if_neg (by omega)]; exact h
theorem stp_sp {e : rE} {a : rA} : stp e 32 a = some (fiA e a) := by
  have h : ¬ dgt 32 := by decide
  simp only [stp, tkA, if_true, prA, fiA, h, not_false_eq_true, and_true]
theorem rdG_sp {e : rE} {T : Nat → Int32} {p : Nat} {a : rA} : ∀ m, (∀ i, p ≤ i → i < p + m → T i = 32) → rdG e T p (p + m) a (if m = 0 then a else fiA e a)
  | 0, _ => by rw [if_pos rfl]; exact rdG_rf
  | m + 1, h => by
    have h1 := rdG_sp (e := e) (a := a) m (fun i hi hi2 => h i hi (by omega))
    refine rdG_tr h1 (rdG_1 ?_)
    rw [h (p + m) (by omega) (by omega), stp_sp, if_neg (by omega : ¬ m + 1 = 0)]
    by_cases hm : m = 0
    · rw [if_pos hm]
    · rw [if_neg hm, fiA_of fiA_exp]
theorem rdG_skp {e : rE} {T : Nat → Int32} {p q : Nat} {a : rA} (h : skp T p q) : rdG e T p q a (if p = q then a else fiA e a) := by
  obtain ⟨m, rfl⟩ : ∃ m, q = p + m := ⟨q - p, by have := h.1; omega⟩
  have h1 := rdG_sp (e := e) (a := a) m h.2
  by_cases hm : m = 0
  · subst hm; simpa using h1
  · rw [if_neg hm] at h1
    rw [if_neg (by omega)]
    exact h1
theorem rdG_skp' {e : rE} {T : Nat → Int32} {p q : Nat} {a : rA} (h : skp T p q) (ha : ¬ a.2.1 = 3) : rdG e T p q a a := by
  have h1 := rdG_skp (e := e) (a := a) h
  rw [fiA_of ha, ite_self] at h1
  exact h1
/-- behind a unit -/
def rdU (e : rE) (T : Nat → Int32) (n q : Nat) (b B : rA) : Prop := fiA e b = B ∧ (b.2.1 = 3 ∨ b.2.1 = 4) ∧ (q < n → b.2.1 = 3 → ¬ dgt (T q))
theorem rdU_skp {e : rE} {T : Nat → Int32} {n q r : Nat} {b B : rA} (h : rdU e T n q b B) (hs : skp T q r) : ∃ c, rdG e T q r b c ∧ rdU e T n r c B := by
  refine ⟨_, rdG_skp hs, ?_⟩
  obtain ⟨h1, h2, h3⟩ := h
  by_cases hqr : q = r
  · subst hqr
    rw [if_pos rfl]
    exact ⟨h1, h2, h3⟩
  · rw [if_neg hqr]
    exact ⟨by rw [fiA_of fiA_exp]; exact h1, Or.inr (fiA_4 h2), fun _ z => absurd z fiA_exp⟩
theorem rdU_stp {e : rE} {T : Nat → Int32} {n q : Nat} {b B : rA} (h : rdU e T n q b B) (hq : q < n) : stp e (T q) b = tkA (T q) B := by
  obtain ⟨h1, h2, h3⟩ := h
  unfold stp
  congr 1
  rw [← h1]
  unfold prA fiA
  by_cases hb : b.2.1 = 3
  · rw [if_pos ⟨hb, h3 hq hb⟩, if_pos hb]
  · rw [if_neg (fun z => hb z.1), if_neg hb]
theorem rdU_4 {e : rE} {T : Nat → Int32} {n q : Nat} {b B : rA} (h : rdU e T n q b B) : B.2.1 = 4 ∧ B.1 = b.1 := by
  rw [← h.1]
  exact ⟨fiA_4 h.2.1, fiA_1⟩
def OKu (T : Nat → Int32) (n d p q : Nat) (v : rE → Bool) : Prop := p < q ∧ q ≤ n ∧ ∀ (e : rE) (l g m k : Int32) (P U : Nat → Bool), ∃ (b : rA) (l' g' m' k' : Int32) (P' U' : Nat → Bool), rdG e T p q (d, 0, l, g, m, k, P, U) b ∧ rdU e T n q b (d, 4, l', g', m', k', P', U') ∧ (∀ i, i ≤ d → P' i = P i) ∧ (∀ i, i < d → U' i = U i) ∧ U' d = (U d && v e)
def OKt (T : Nat → Int32) (n d p q : Nat) (v : rE → Bool) : Prop := p < q ∧ q ≤ n ∧ ∀ (e : rE) (l g m k : Int32) (P U : Nat → Bool), U d = true → ∃ (b : rA) (l' g' m' k' : Int32) (P' U' : Nat → Bool), rdG e T p q (d, 0, l, g, m, k, P, U) b ∧ rdU e T n q b (d, 4, l', g', m', k', P', U') ∧ (∀ i, i < d → P' i = P i) ∧ (∀ i, i < d → U' i = U i) ∧ (P' d || U' d) = (P d || v e)
def BDu (T : Nat → Int32) (n d p q : Nat) : Prop := p ≤ q ∧ q ≤ n ∧ ∀ (e : rE) (l g m k : Int32) (P U : Nat → Bool), rdB e T n p q (d, 0, l, g, m, k, P, U)
def BDt (T : Nat → Int32) (n d p q : Nat) : Prop := p ≤ q ∧ q ≤ n ∧ ∀ (e : rE) (l g m k : Int32) (P U : Nat → Bool), U d = true → rdB e T n p q (d, 0, l, g, m, k, P, U)
theorem BDt_of {T : Nat → Int32} {n d p q : Nat} (h : BDu T n d p q) : BDt T n d p q := ⟨h.1, h.2.1, fun e l g m k P U _ => h.2.2 e l g m k P U⟩
theorem OKu_skp {T : Nat → Int32} {n d p q r : Nat} {v : rE → Bool} (h : OKu T n d p q v) (hs : skp T q r) (hr : r ≤ n) : OKu T n d p r v := by
  obtain ⟨h1, h2, h3⟩ := h
  refine ⟨by have := hs.1; omega, hr, fun e l g m k P U => ?_⟩
  obtain ⟨b, l', g', m', k', P', U', z1, z2, z3⟩ := h3 e l g m k P U
  obtain ⟨c, y1, y2⟩ := rdU_skp z2 hs
  exact ⟨c, l', g', m', k', P', U', rdG_tr z1 y1, y2, z3⟩
theorem OKt_skp {T : Nat → Int32} {n d p q r : Nat} {v : rE → Bool} (h : OKt T n d p q v) (hs : skp T q r) (hr : r ≤ n) : OKt T n d p r v := by
  obtain ⟨h1, h2, h3⟩ := h
  refine ⟨by have := hs.1; omega, hr, fun e l g m k P U hU => ?_⟩
  obtain ⟨b, l', g', m', k', P', U', z1, z2, z3⟩ := h3 e l g m k P U hU
  obtain ⟨c, y1, y2⟩ := rdU_skp z2 hs
  exact ⟨c, l', g', m', k', P', U', rdG_tr z1 y1, y2, z3⟩
theorem OKt_of {T : Nat → Int32} {n d p q : Nat} {v : rE → Bool} (h : OKu T n d p q v) : OKt T n d p q v := by
  obtain ⟨h1, h2, h3⟩ := h
  refine ⟨h1, h2, fun e l g m k P U hU => ?_⟩
  obtain ⟨b, l', g', m', k', P', U', z1, z2, z3, z4, z5⟩ := h3 e l g m k P U
  refine ⟨b, l', g', m', k', P', U', z1, z2, fun i hi => z3 i (by omega), z4, ?_⟩
  rw [z5, z3 d (Nat.le_refl d), hU, Bool.true_and]
theorem stp_x {e : rE} {c : Int32} {a : rA} (h : ¬ a.2.1 = 3) : stp e c a = tkA c a := by
  unfold stp prA
  rw [if_neg (fun z => h z.1)]
/-- ( tests ) -/
theorem u_open {e : rE} {T : Nat → Int32} {d p p1 : Nat} {l g m k : Int32} {P U : Nat → Bool} (hs : skp T p p1) (hc : T p1 = 40) (hd : d < 8) : rdG e T p (p1 + 1) (d, 0, l, g, m, k, P, U) (d + 1, 0, l, g, m, k, updB P (d + 1) false, updB U (d + 1) true) := by
  refine rdG_tr (rdG_skp' hs (by simp)) (rdG_1 ?_)
  rw [stp_x (by simp), hc]
  simp [tkA, tU, hd]
theorem u_par {T : Nat → Int32} {n d p p1 q : Nat} {v : rE → Bool} (hs : skp T p p1) (hc : T p1 = 40) (hd : d < 8) (h : OKt T n (d + 1) (p1 + 1) q v) (hq : q < n) (hc2 : T q = 41) : OKu T n d p (q + 1) v := by
  obtain ⟨h1, h2, h3⟩ := h
  refine ⟨by have := hs.1; omega, hq, fun e l g m k P U => ?_⟩
  obtain ⟨b, l', g', m', k', P', U', z1, z2, z3, z4, z5⟩ := h3 e l g m k (updB P (d + 1) false) (updB U (d + 1) true) (updB_at _ _ _)
  have z6 := rdU_stp z2 hq
  rw [hc2] at z6
  have z7 : tkA 41 (d + 1, 4, l', g', m', k', P', U') = some (d, 4, l', g', m', k', P', updB U' d (U' d && (P' (d + 1) || U' (d + 1)))) := by
    simp [tkA, tA, eU]
  rw [z7] at z6
  rw [← hc2] at z6
  refine ⟨_, l', g', m', k', P', _, rdG_tr (u_open hs hc hd) (rdG_tr z1 (rdG_1 z6)), ⟨fiA_of (by simp), Or.inr rfl, fun _ z => absurd z (by simp)⟩, ?_, ?_, ?_⟩
  · intro i hi
    rw [z3 i (by omega), updB_ne (by omega)]
  · intro i hi
    rw [updB_ne (by omega), z4 i (by omega), updB_ne (by omega)]
  · rw [updB_at, z5, updB_at, Bool.false_or, z4 d (by omega), updB_ne (by omega)]
theorem u_parB {T : Nat → Int32} {n d p p1 q : Nat} (hs : skp T p p1) (hc : T p1 = 40) (hd : d < 8) (h : BDt T n (d + 1) (p1 + 1) q) : BDu T n d p q := by
  obtain ⟨h1, h2, h3⟩ := h
  exact ⟨by have := hs.1; omega, h2, fun e l g m k P U => rdB_tr (u_open hs hc hd) (h3 e _ _ _ _ _ _ (updB_at _ _ _))⟩
theorem u_parE {T : Nat → Int32} {n d p p1 q : Nat} {v : rE → Bool} (hs : skp T p p1) (hc : T p1 = 40) (hd : d < 8) (h : OKt T n (d + 1) (p1 + 1) q v) (hq : q < n → ¬ T q = 32 ∧ ¬ T q = 38 ∧ ¬ T q = 124 ∧ ¬ T q = 41) : BDu T n d p q := by
  obtain ⟨h1, h2, h3⟩ := h
  refine ⟨by have := hs.1; omega, h2, fun e l g m k P U => ?_⟩
  obtain ⟨b, l', g', m', k', P', U', z1, z2, -⟩ := h3 e l g m k (updB P (d + 1) false) (updB U (d + 1) true) (updB_at _ _ _)
  refine rdB_tr (u_open hs hc hd) ⟨b, z1, ?_⟩
  by_cases hqn : q < n
  · obtain ⟨y1, y2, y3, y4⟩ := hq hqn
    refine Or.inl ⟨hqn, ?_⟩
    rw [rdU_stp z2 hqn]
    simp [tkA, tA, y1, y2, y3, y4]
  · refine Or.inr ⟨by omega, fun z => ?_⟩
    have := (rdU_4 z2).2
    have := z.2
    simp at *
    omega
theorem u_bad {T : Nat → Int32} {n d p p1 : Nat} (hs : skp T p p1) (hp : p1 ≤ n) (h : p1 < n → ¬ T p1 = 32 ∧ ¬ (T p1 = 40 ∧ d < 8) ∧ ¬ lett (T p1)) : BDu T n d p p1 := by
  refine ⟨hs.1, hp, fun e l g m k P U => ⟨_, rdG_skp' hs (by simp), ?_⟩⟩
  by_cases hqn : p1 < n
  · obtain ⟨y1, y2, y3⟩ := h hqn
    refine Or.inl ⟨hqn, ?_⟩
    rw [stp_x (by simp)]
    simp only [tkA, tU, y1, y2, y3, if_false, if_true]
  · exact Or.inr ⟨by omega, fun z => by simp [rdE] at z⟩
/-- a letter, a sign -/
theorem u_let {e : rE} {T : Nat → Int32} {d p p1 : Nat} {l g m k : Int32} {P U : Nat → Bool} (hs : skp T p p1) (hn : ¬ (T p1 = 40 ∧ d < 8)) (hc : lett (T p1)) : rdG e T p (p1 + 1) (d, 0, l, g, m, k, P, U) (d, 1, T p1, g, m, k, P, U) := by
  refine rdG_tr (rdG_skp' hs (by simp)) (rdG_1 ?_)
  have h32 : ¬ T p1 = 32 := by
    intro z
    rw [z] at hc
    exact absurd hc (by decide)
  rw [stp_x (by simp)]
  simp only [tkA, tU, hn, hc, h32, if_false, if_true]
theorem u_sgn {e : rE} {T : Nat → Int32} {d p p1 : Nat} {l g m k : Int32} {P U : Nat → Bool} (hs : skp T p p1) (hc : sgn (T p1)) : rdG e T p (p1 + 1) (d, 1, l, g, m, k, P, U) (d, 2, l, T p1, 0, 0, P, U) := by
  refine rdG_tr (rdG_skp' hs (by simp)) (rdG_1 ?_)
  have h32 : ¬ T p1 = 32 := by
    intro z
    rw [z] at hc
    exact absurd hc (by decide)
  rw [stp_x (by simp)]
  simp [tkA, tS, hc, h32]
theorem u_sgnB {T : Nat → Int32} {n d p p1 p2 : Nat} (hs : skp T p p1) (hn : ¬ (T p1 = 40 ∧ d < 8)) (hc : lett (T p1)) (hs2 : skp T (p1 + 1) p2) (hp : p2 ≤ n) (h : p2 < n → ¬ T p2 = 32 ∧ ¬ sgn (T p2)) : BDu T n d p p2 := by
  refine ⟨by have := hs.1; have := hs2.1; omega, hp, fun e l g m k P U => rdB_tr (u_let hs hn hc) ⟨_, rdG_skp' hs2 (by simp), ?_⟩⟩
  by_cases hqn : p2 < n
  · obtain ⟨y1, y3⟩ := h hqn
    refine Or.inl ⟨hqn, ?_⟩
    rw [stp_x (by simp)]
    simp [tkA, tS, y1, y3]
  · exact Or.inr ⟨by omega, fun z => by simp [rdE] at z⟩
theorem u_numB {T : Nat → Int32} {n d p p1 p2 p3 : Nat} (hs : skp T p p1) (hn : ¬ (T p1 = 40 ∧ d < 8)) (hc : lett (T p1)) (hs2 : skp T (p1 + 1) p2) (hc2 : sgn (T p2)) (hs3 : skp T (p2 + 1) p3) (hp : p3 ≤ n) (h : p3 < n → ¬ T p3 = 32 ∧ ¬ dgt (T p3)) : BDu T n d p p3 := by
  refine ⟨by have := hs.1; have := hs2.1; have := hs3.1; omega, hp, fun e l g m k P U => rdB_tr (rdG_tr (u_let hs hn hc) (u_sgn hs2 hc2)) ⟨_, rdG_skp' hs3 (by simp), ?_⟩⟩
  by_cases hqn : p3 < n
  · obtain ⟨y1, y3⟩ := h hqn
    refine Or.inl ⟨hqn, ?_⟩
    rw [stp_x (by simp)]
    simp only [tkA, tD, y1, y3, if_false, false_and]
    simp
  · exact Or.inr ⟨by omega, fun z => by simp [rdE] at z⟩
/-- the number behind j digits -/
def nmb (T : Nat → Int32) (p : Nat) : Nat → Int32
  | 0 => 0
  | j + 1 => nmb T p j * 10 + (T (p + j) - 48)
theorem nmb_s (T : Nat → Int32) (p j : Nat) : nmb T p (j + 1) = nmb T p j * 10 + (T (p + j) - 48) := rfl
theorem dgt_32 {c : Int32} (h : dgt c) : ¬ c = 32 := by
  intro z
  rw [z] at h
  exact absurd h (by decide)
theorem u_dig {e : rE} {T : Nat → Int32} {d p : Nat} {l g : Int32} {P U : Nat → Bool} : ∀ j, j ≤ 4 → (∀ i, i < j → dgt (T (p + i))) → rdG e T p (p + j) (d, 2, l, g, 0, 0, P, U) (d, if j = 0 then 2 else 3, l, g, nmb T p j, nI j, P, U)
  | 0, _, _ => rdG_rf
  | j + 1, hj, h => by
    have h1 := u_dig (e := e) (d := d) (l := l) (g := g) (P := P) (U := U) j (by omega) (fun i hi => h i (by omega))
    have hd := h j (by omega)
    have h32 := dgt_32 hd
    have h4 : nI j < 4 := (nI_lt' (b := 4) (by omega) (by omega)).mpr (by omega)
    refine rdG_tr h1 (rdG_1 ?_)
    have hp : prA e (T (p + j)) (d, if j = 0 then 2 else 3, l, g, nmb T p j, nI j, P, U) = (d, if j = 0 then 2 else 3, l, g, nmb T p j, nI j, P, U) := by
      unfold prA
      rw [if_neg (fun z => z.2 hd)]
    have hx : (if j = 0 then 2 else 3 : Nat) ≠ 0 ∧ (if j = 0 then 2 else 3 : Nat) ≠ 1 ∧ (if j = 0 then 2 else 3 : Nat) ≠ 4 := by
      by_cases hj0 : j = 0 <;> simp [hj0]
    unfold stp
    rw [hp]
    simp only [tkA, tD, h32, hx.1, hx.2.1, hx.2.2, hd, h4, if_false, if_true, and_self, not_false_eq_true]
    rw [nmb_s, nI_s, if_neg (by omega : ¬ j + 1 = 0), if_pos ⟨hd, trivial⟩]
theorem u_num {T : Nat → Int32} {n d p p1 p2 p3 j : Nat} (hs : skp T p p1) (hn : ¬ (T p1 = 40 ∧ d < 8)) (hc : lett (T p1)) (hs2 : skp T (p1 + 1) p2) (hc2 : sgn (T p2)) (hs3 : skp T (p2 + 1) p3) (hj : 0 < j) (hj4 : j ≤ 4) (hd : ∀ i, i < j → dgt (T (p3 + i))) (hq : p3 + j ≤ n) (hq2 : p3 + j < n → ¬ dgt (T (p3 + j))) : OKu T n d p (p3 + j) (fun e => cmpv (T p2) (e (T p1)) (nmb T p3 j)) := by
  refine ⟨by have := hs.1; have := hs2.1; have := hs3.1; omega, hq, fun e l g m k P U => ?_⟩
  have h1 := u_dig (e := e) (d := d) (l := T p1) (g := T p2) (P := P) (U := U) j hj4 hd
  rw [if_neg (by omega)] at h1
  refine ⟨_, T p1, T p2, nmb T p3 j, nI j, P, updB U d (U d && cmpv (T p2) (e (T p1)) (nmb T p3 j)), rdG_tr (rdG_tr (u_let hs hn hc) (u_sgn hs2 hc2)) (rdG_tr (rdG_skp' hs3 (by simp)) h1), ⟨?_, Or.inl rfl, fun h _ => hq2 h⟩, fun i _ => rfl, fun i hi => updB_ne (by omega), updB_at _ _ _⟩
  simp [fiA, eN, eU]
theorem u_dig5 {T : Nat → Int32} {n d p p1 p2 p3 : Nat} (hs : skp T p p1) (hn : ¬ (T p1 = 40 ∧ d < 8)) (hc : lett (T p1)) (hs2 : skp T (p1 + 1) p2) (hc2 : sgn (T p2)) (hs3 : skp T (p2 + 1) p3) (hd : ∀ i, i < 5 → dgt (T (p3 + i))) (hq : p3 + 4 < n) : BDu T n d p (p3 + 4) := by
  refine ⟨by have := hs.1; have := hs2.1; have := hs3.1; omega, by omega, fun e l g m k P U => ?_⟩
  have h1 := u_dig (e := e) (d := d) (l := T p1) (g := T p2) (P := P) (U := U) 4 (Nat.le_refl 4) (fun i hi => hd i (by omega))
  rw [if_neg (by omega)] at h1
  refine ⟨_, rdG_tr (rdG_tr (u_let hs hn hc) (u_sgn hs2 hc2)) (rdG_tr (rdG_skp' hs3 (by simp)) h1), Or.inl ⟨hq, ?_⟩⟩
  have hd4 := hd 4 (by omega)
  have h32 := dgt_32 hd4
  have h4 : ¬ nI 4 < 4 := by decide
  unfold stp prA
  rw [if_neg (fun z => z.2 hd4)]
  simp only [tkA, tD, h32, h4, if_false, and_false]
  simp
/-- unit & unit, part | part -/
theorem p_and {T : Nat → Int32} {n d p q r : Nat} {v v' : rE → Bool} (h : OKu T n d p q v) (hq : q < n) (hc : T q = 38) (h' : OKu T n d (q + 1) r v') : OKu T n d p r (fun e => v e && v' e) := by
  obtain ⟨h1, h2, h3⟩ := h
  obtain ⟨h1', h2', h3'⟩ := h'
  refine ⟨by omega, h2', fun e l g m k P U => ?_⟩
  obtain ⟨b, l1, g1, m1, k1, P1, U1, z1, z2, z3, z4, z5⟩ := h3 e l g m k P U
  obtain ⟨c, l2, g2, m2, k2, P2, U2, y1, y2, y3, y4, y5⟩ := h3' e l1 g1 m1 k1 P1 U1
  have z6 := rdU_stp z2 hq
  have z7 : tkA (T q) (d, 4, l1, g1, m1, k1, P1, U1) = some (d, 0, l1, g1, m1, k1, P1, U1) := by
    rw [hc]
    simp [tkA, tA]
  rw [z7] at z6
  refine ⟨c, l2, g2, m2, k2, P2, U2, rdG_tr z1 (rdG_tr (rdG_1 z6) y1), y2, ?_, ?_, ?_⟩
  · intro i hi
    rw [y3 i hi, z3 i hi]
  · intro i hi
    rw [y4 i hi, z4 i hi]
  · rw [y5, z5, Bool.and_assoc]
theorem p_andB {T : Nat → Int32} {n d p q r : Nat} {v : rE → Bool} (h : OKu T n d p q v) (hq : q < n) (hc : T q = 38) (h' : BDu T n d (q + 1) r) : BDu T n d p r := by
  obtain ⟨h1, h2, h3⟩ := h
  obtain ⟨h1', h2', h3'⟩ := h'
  refine ⟨by omega, h2', fun e l g m k P U => ?_⟩
  obtain ⟨b, l1, g1, m1, k1, P1, U1, z1, z2, z3, z4, z5⟩ := h3 e l g m k P U
  have z6 := rdU_stp z2 hq
  have z7 : tkA (T q) (d, 4, l1, g1, m1, k1, P1, U1) = some (d, 0, l1, g1, m1, k1, P1, U1) := by
    rw [hc]
    simp [tkA, tA]
  rw [z7] at z6
  exact rdB_tr (rdG_tr z1 (rdG_1 z6)) (h3' e _ _ _ _ _ _)
theorem t_or {T : Nat → Int32} {n d p q r : Nat} {v v' : rE → Bool} (h : OKt T n d p q v) (hq : q < n) (hc : T q = 124) (h' : OKu T n d (q + 1) r v') : OKt T n d p r (fun e => v e || v' e) := by
  obtain ⟨h1, h2, h3⟩ := h
  obtain ⟨h1', h2', h3'⟩ := h'
  refine ⟨by omega, h2', fun e l g m k P U hU => ?_⟩
  obtain ⟨b, l1, g1, m1, k1, P1, U1, z1, z2, z3, z4, z5⟩ := h3 e l g m k P U hU
  obtain ⟨c, l2, g2, m2, k2, P2, U2, y1, y2, y3, y4, y5⟩ := h3' e l1 g1 m1 k1 (updB P1 d (P1 d || U1 d)) (updB U1 d true)
  have z6 := rdU_stp z2 hq
  have z7 : tkA (T q) (d, 4, l1, g1, m1, k1, P1, U1) = some (d, 0, l1, g1, m1, k1, updB P1 d (P1 d || U1 d), updB U1 d true) := by
    rw [hc]
    simp [tkA, tA]
  rw [z7] at z6
  refine ⟨c, l2, g2, m2, k2, P2, U2, rdG_tr z1 (rdG_tr (rdG_1 z6) y1), y2, ?_, ?_, ?_⟩
  · intro i hi
    rw [y3 i (by omega), updB_ne (by omega), z3 i hi]
  · intro i hi
    rw [y4 i hi, updB_ne (by omega), z4 i hi]
  · rw [y3 d (Nat.le_refl d), y5, updB_at, updB_at, Bool.true_and, z5, Bool.or_assoc]
theorem t_orB {T : Nat → Int32} {n d p q r : Nat} {v : rE → Bool} (h : OKt T n d p q v) (hq : q < n) (hc : T q = 124) (h' : BDu T n d (q + 1) r) : BDt T n d p r := by
  obtain ⟨h1, h2, h3⟩ := h
  obtain ⟨h1', h2', h3'⟩ := h'
  refine ⟨by omega, h2', fun e l g m k P U hU => ?_⟩
  obtain ⟨b, l1, g1, m1, k1, P1, U1, z1, z2, z3, z4, z5⟩ := h3 e l g m k P U hU
  have z6 := rdU_stp z2 hq
  have z7 : tkA (T q) (d, 4, l1, g1, m1, k1, P1, U1) = some (d, 0, l1, g1, m1, k1, updB P1 d (P1 d || U1 d), updB U1 d true) := by
    rw [hc]
    simp [tkA, tA]
  rw [z7] at z6
  exact rdB_tr (rdG_tr z1 (rdG_1 z6)) (h3' e _ _ _ _ _ _)
/-- the whole text -/
def rdW (T : Nat → Int32) (n : Nat) (v : rE → Bool) : Prop := ∀ (e : rE) (l g m k : Int32) (P U : Nat → Bool), U 0 = true → P 0 = false → ∃ b l' g' m' k' P' U', rdG e T 0 n (0, 0, l, g, m, k, P, U) b ∧ rdE b ∧ fiA e b = (0, 4, l', g', m', k', P', U') ∧ (P' 0 || U' 0) = v e
theorem w_ok {T : Nat → Int32} {n : Nat} {v : rE → Bool} (h : OKt T n 0 0 n v) : rdW T n v := by
  obtain ⟨h1, h2, h3⟩ := h
  intro e l g m k P U hU hP
  obtain ⟨b, l1, g1, m1, k1, P1, U1, z1, z2, z3, z4, z5⟩ := h3 e l g m k P U hU
  have z6 := rdU_4 z2
  refine ⟨b, l1, g1, m1, k1, P1, U1, z1, ⟨z2.2.1, z6.2.symm⟩, z2.1, ?_⟩
  rw [z5, hP, Bool.false_or]
theorem w_bad {T : Nat → Int32} {n q : Nat} {v : rE → Bool} (h : OKt T n 0 0 q v) (hq : q < n) (hc : ¬ T q = 32 ∧ ¬ T q = 38 ∧ ¬ T q = 124) : BDt T n 0 0 q := by
  obtain ⟨h1, h2, h3⟩ := h
  refine ⟨by omega, h2, fun e l g m k P U hU => ?_⟩
  obtain ⟨b, l1, g1, m1, k1, P1, U1, z1, z2, -⟩ := h3 e l g m k P U hU
  refine ⟨b, z1, Or.inl ⟨hq, ?_⟩⟩
  rw [rdU_stp z2 hq]
  simp [tkA, tA, hc.1, hc.2.1, hc.2.2]
