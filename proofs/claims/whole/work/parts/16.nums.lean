/-! Numbers, and loops as equivalences. -/
theorem i_add {a b : Int32} (h1 : -2147483648 ≤ a.toInt + b.toInt) (h2 : a.toInt + b.toInt ≤ 2147483647) : (a + b).toInt = a.toInt + b.toInt := by
  rw [Int32.toInt_add]
  have : (2 : Nat) ^ 32 = 4294967296 := by decide
  rw [this, Int.bmod_def]
  split <;> omega
theorem i_sub {a b : Int32} (h1 : -2147483648 ≤ a.toInt - b.toInt) (h2 : a.toInt - b.toInt ≤ 2147483647) : (a - b).toInt = a.toInt - b.toInt := by
  rw [Int32.toInt_sub]
  have : (2 : Nat) ^ 32 = 4294967296 := by decide
  rw [this, Int.bmod_def]
  split <;> omega
theorem i_rng (a : Int32) : -2147483648 ≤ a.toInt ∧ a.toInt ≤ 2147483647 := by
  have h1 := Int32.le_toInt a
  have h2 := Int32.toInt_lt a
  have e : (2 : Int) ^ 31 = 2147483648 := by decide
  rw [e] at h1 h2
  omega
theorem i_lt {a b : Int32} : a < b ↔ a.toInt < b.toInt := Int32.lt_iff_toInt_lt
theorem i_le {a b : Int32} : a ≤ b ↔ a.toInt ≤ b.toInt := Int32.le_iff_toInt_le
theorem i_eq {a b : Int32} : a = b ↔ a.toInt = b.toInt := Int32.toInt_inj.symm
theorem i_clamp (x : Int32) : x.toNatClampNeg = x.toInt.toNat := rfl
theorem i_nI {n : Nat} (h : n < 2147483648) : (nI n).toInt = (n : Int) := nI_toInt (by omega)
theorem i_nIc {n : Nat} (h : n < 2147483648) : (nI n).toNatClampNeg = n := nI_clamp (by omega)
theorem i_in {x : Int32} {n : Nat} : vp_in x n ↔ 0 ≤ x.toInt ∧ x.toInt < n := vp_in_iff
theorem i_of {x : Int32} (h : 0 ≤ x.toInt) : x = nI x.toInt.toNat := by
  have := i_rng x
  rw [i_eq, i_nI (by omega)]
  omega
theorem i_lm1 : (-1 : Int32).toInt = -1 := by decide
theorem i_lm2 : (-2 : Int32).toInt = -2 := by decide
theorem i_l0 : (0 : Int32).toInt = 0 := by decide
theorem i_l1 : (1 : Int32).toInt = 1 := by decide
theorem i_l2 : (2 : Int32).toInt = 2 := by decide
theorem i_l3 : (3 : Int32).toInt = 3 := by decide
theorem i_l4 : (4 : Int32).toInt = 4 := by decide
theorem i_l5 : (5 : Int32).toInt = 5 := by decide
theorem i_l6 : (6 : Int32).toInt = 6 := by decide
theorem i_l7 : (7 : Int32).toInt = 7 := by decide
theorem i_l8 : (8 : Int32).toInt = 8 := by decide
theorem i_l9 : (9 : Int32).toInt = 9 := by decide
theorem i_l10 : (10 : Int32).toInt = 10 := by decide
theorem i_l30 : (30 : Int32).toInt = 30 := by decide
theorem i_l32 : (32 : Int32).toInt = 32 := by decide
theorem i_l40 : (40 : Int32).toInt = 40 := by decide
theorem i_l48 : (48 : Int32).toInt = 48 := by decide
theorem i_l57 : (57 : Int32).toInt = 57 := by decide
theorem i_l60 : (60 : Int32).toInt = 60 := by decide
theorem i_l100 : (100 : Int32).toInt = 100 := by decide
theorem i_l120 : (120 : Int32).toInt = 120 := by decide
theorem i_l200 : (200 : Int32).toInt = 200 := by decide
theorem i_l255 : (255 : Int32).toInt = 255 := by decide
theorem i_l480 : (480 : Int32).toInt = 480 := by decide
theorem i_l500 : (500 : Int32).toInt = 500 := by decide
theorem i_l1000 : (1000 : Int32).toInt = 1000 := by decide
theorem i_l2000 : (2000 : Int32).toInt = 2000 := by decide
theorem i_l5000 : (5000 : Int32).toInt = 5000 := by decide
theorem i_l65535 : (65535 : Int32).toInt = 65535 := by decide
theorem i_lmil : (1000000 : Int32).toInt = 1000000 := by decide
/-- a run of n steps from i on -/
def lpf {α : Type} (step : Nat → α → α) : Nat → Nat → α → α
  | 0, _, a => a
  | n + 1, i, a => lpf step n (i + 1) (step i a)
theorem lpf_0 {α : Type} (step : Nat → α → α) (i : Nat) (a : α) : lpf step 0 i a = a := rfl
theorem lpf_s {α : Type} (step : Nat → α → α) (n i : Nat) (a : α) : lpf step (n + 1) i a = lpf step n (i + 1) (step i a) := rfl
theorem lpf_last {α : Type} (step : Nat → α → α) : ∀ (n i : Nat) (a : α), lpf step (n + 1) i a = step (i + n) (lpf step n i a)
  | 0, i, a => rfl
  | n + 1, i, a => by
    rw [lpf_s, lpf_last step n (i + 1) (step i a), lpf_s, show i + 1 + n = i + (n + 1) by omega]
/-- a rule for facts about such a run -/
theorem lpf_ind {α : Type} {step : Nat → α → α} (I : Nat → α → Prop) {N : Nat} (hs : ∀ i a, i < N → I i a → I (i + 1) (step i a)) : ∀ (n i : Nat) (a : α), i + n = N → I i a → I N (lpf step n i a)
  | 0, i, a, h, hi => by
    have : i = N := by omega
    subst this
    exact hi
  | n + 1, i, a, h, hi => lpf_ind I hs n (i + 1) (step i a) (by omega) (hs i a (by omega) hi)
theorem nm_loop {α : Type} (P : Nat → α → Prop) (R : α → Prop) (step : Nat → α → α) (ok : Nat → α → Prop) {N : Nat} (hs : ∀ i a, i < N → ok i a → ((P i a ↔ P (i + 1) (step i a)) ∧ ok (i + 1) (step i a))) (he : ∀ a, ok N a → (P N a ↔ R a)) : ∀ (n i : Nat) (a : α), i + n = N → ok i a → (P i a ↔ R (lpf step n i a))
  | 0, i, a, h, hi => by
    have : i = N := by omega
    subst this
    exact he a hi
  | n + 1, i, a, h, hi => by
    obtain ⟨h1, h2⟩ := hs i a (by omega) hi
    rw [h1, lpf_s]
    exact nm_loop P R step ok hs he n (i + 1) (step i a) (by omega) h2
theorem nm_loop0 {α : Type} (P : Nat → α → Prop) (R : α → Prop) (step : Nat → α → α) (N : Nat) (hs : ∀ i a, i < N → (P i a ↔ P (i + 1) (step i a))) (he : ∀ a, P N a ↔ R a) (a : α) : P 0 a ↔ R (lpf step N 0 a) :=
  nm_loop P R step (fun _ _ => True) (fun i a h _ => ⟨hs i a h, trivial⟩) (fun a _ => he a) N 0 a (by omega) trivial
theorem nI_s (n : Nat) : nI n + 1 = nI (n + 1) := nI_1 n
theorem nI_lt' {a b : Nat} (ha : a < 2147483648) (hb : b < 2147483648) : nI a < nI b ↔ a < b := nI_ltI (by omega) (by omega)
theorem nI_eq' {a b : Nat} (ha : a < 2147483648) (hb : b < 2147483648) : nI a = nI b ↔ a = b := nI_eq (by omega) (by omega)
theorem vp_in' {a n : Nat} (ha : a < n) (hn : n < 2147483648) : vp_in (nI a) n := vp_in_nI ha (by omega)
theorem upd_at (f : Nat → Int32) (k : Nat) (x : Int32) : upd f k x k = x := by simp [upd]
theorem upd_ne {f : Nat → Int32} {k j : Nat} {x : Int32} (h : j ≠ k) : upd f k x j = f j := by simp [upd, h]
/-- truth values -/
theorem b01 (c : Prop) [Decidable c] : ((if c then 1 else 0 : Int32) = 0 ∨ (if c then 1 else 0 : Int32) = 1) ↔ True := by
  by_cases h : c <;> simp [h]
theorem b_0 (c : Prop) [Decidable c] : ((if c then 1 else 0 : Int32) = 0) ↔ ¬ c := by
  by_cases h : c <;> simp [h]
theorem b_1 (c : Prop) [Decidable c] : ((if c then 1 else 0 : Int32) = 1) ↔ c := by
  by_cases h : c <;> simp [h]
/-- the same, one way -/
theorem nm_loopI {α : Type} (P : Nat → α → Prop) (R : α → Prop) (step : Nat → α → α) (ok : Nat → α → Prop) {N : Nat} (hs : ∀ i a, i < N → ok i a → (ok (i + 1) (step i a) ∧ (P (i + 1) (step i a) → P i a))) (he : ∀ a, ok N a → R a → P N a) : ∀ (n i : Nat) (a : α), i + n = N → ok i a → R (lpf step n i a) → P i a
  | 0, i, a, h, hi, hr => by
    have : i = N := by omega
    subst this
    exact he a hi hr
  | n + 1, i, a, h, hi, hr => by
    obtain ⟨h1, h2⟩ := hs i a (by omega) hi
    exact h2 (nm_loopI P R step ok hs he n (i + 1) (step i a) (by omega) h1 hr)
theorem iff_of {d y : Nat} {as v : List Value} {w w' : nm_W} (h : ∀ Q : nm_K, Q v w' → nm_call d y as w Q) (Q : nm_K) : nm_call d y as w Q ↔ Q v w' := nm_call_iff (h _ ⟨rfl, rfl⟩) Q
/-- more depth does no harm -/
def nm_Le (C C' : nm_C) : Prop := ∀ (y : Nat) (as : List Value) (w : nm_W) (K : nm_K), C y as w K → C' y as w K
theorem nm_X_up {t : nm_T} {C C' : nm_C} (hC' : nm_Mono C') (hL : nm_Le C C') {Q : nm_K} {pc : Nat} {ls st : List Value} {w : nm_W} {k n : Nat} (h : nm_X t C Q pc ls st w k n) : nm_X t C' Q pc ls st w k n := by
  refine h (nm_X t C' Q) ?_
  intro pc ls st w k n hs
  refine nm_X_in hC' ?_
  unfold nm_stp at hs ⊢
  cases ho : nm_look t pc with
  | none => rw [ho] at hs; exact hs
  | some op =>
    rw [ho] at hs
    dsimp only at hs ⊢
    generalize op ls st w k n = r at hs ⊢
    rcases r with _ | ⟨pc, ls, st, w, k, n⟩ | ⟨v, w⟩ | ⟨y, as, w, pc, ls, st, k, n⟩
    · exact hs
    · exact hs
    · exact hs
    · exact hL _ _ _ _ hs
theorem nm_callG_up (P : nm_P) : ∀ d, nm_Le (nm_callG P d) (nm_callG P (d + 1))
  | 0 => fun _ _ _ _ h => False.elim h
  | d + 1 => fun y as w K h => by
    rw [nm_callG] at h ⊢
    split at h
    · rename_i t i ho
      rw [ho]
      exact ⟨h.1, nm_X_up (nm_callG_mono P (d + 1)) (nm_callG_up P d) h.2⟩
    · exact False.elim h
theorem nm_call_up {d d' y : Nat} {as : List Value} {w : nm_W} {K : nm_K} (hd : d ≤ d') (h : nm_call d y as w K) : nm_call d' y as w K := by
  obtain ⟨k, rfl⟩ : ∃ k, d' = d + k := ⟨d' - d, by omega⟩
  clear hd
  induction k with
  | zero => exact h
  | succ k ih => exact nm_callG_up nm_prog (d + k) _ _ _ _ ih
