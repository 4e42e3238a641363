/-! SHARING, the class's side: prices of parts. -/
def wt (t : Nat) : Nat := 8 ^ (9 - t)
def cdS (S : Nat) : Nat := sumS wt 10 S
def cw (A : Nat → Nat) : Nat → Nat
  | 0 => 0
  | n + 1 => cw A n + A n * wt n
theorem cw_s (A : Nat → Nat) (n : Nat) : cw A (n + 1) = cw A n + A n * wt n := rfl
theorem cw_cong {A B : Nat → Nat} : ∀ {n : Nat}, (∀ i, i < n → A i = B i) → cw A n = cw B n
  | 0, _ => rfl
  | n + 1, h => by rw [cw_s, cw_s, cw_cong (fun i hi => h i (by omega)), h n (by omega)]
theorem cw_hcd (A : Nat → Nat) : ∀ n, n ≤ 10 → cw A n = hcd A n * 8 ^ (10 - n)
  | 0, _ => by simp [cw, hcd]
  | n + 1, h => by
    rw [cw_s, hcd_s, cw_hcd A n (by omega), show 10 - n = (9 - n) + 1 by omega, show 10 - (n + 1) = 9 - n by omega, Nat.pow_succ]
    unfold wt
    rw [Nat.add_mul, Nat.mul_assoc, Nat.mul_comm 8 (8 ^ (9 - n))]
theorem hb {n S : Nat} (h : S < 2 ^ n) {i : Nat} (hi : n ≤ i) : S.testBit i = false := Nat.testBit_lt_two_pow (Nat.lt_of_lt_of_le h (Nat.pow_le_pow_right (by decide) hi))
theorem sumS_tr {f : Nat → Nat} {n S : Nat} (h : S < 2 ^ n) : ∀ m, sumS f (n + m) S = sumS f n S
  | 0 => rfl
  | m + 1 => by
    rw [← Nat.add_assoc, sumS_s, hb h (by omega), sumS_tr h m]
    rfl
theorem cdS_T {T S : Nat} (hT : T ≤ 10) (h : S < 2 ^ T) : cdS S = sumS wt T S := by
  unfold cdS
  rw [show 10 = T + (10 - T) by omega]
  exact sumS_tr h _
theorem cnt_tr {n S : Nat} (h : S < 2 ^ n) : ∀ m, cnt (fun i => S.testBit i) (n + m) = cnt (fun i => S.testBit i) n
  | 0 => rfl
  | m + 1 => by
    rw [← Nat.add_assoc, cnt_s, hb h (by omega), cnt_tr h m]
    rfl
/-- a load put into a convoy -/
def putL (A : Nat → Nat) (L c : Nat) : Nat → Nat := fun t => if L.testBit t = true then c else A t
theorem cw_put {A : Nat → Nat} {L c : Nat} : ∀ n, (∀ t, t < n → L.testBit t = true → A t = 4) → cw (putL A L c) n + 4 * sumS wt n L = cw A n + c * sumS wt n L
  | 0, _ => by simp [cw, sumS]
  | n + 1, h => by
    have ih := cw_put (c := c) n (fun t ht => h t (by omega))
    rw [cw_s, cw_s, sumS_s]
    unfold putL at ih ⊢
    try dsimp only
    by_cases hb : L.testBit n = true
    · rw [if_pos hb, if_pos hb, h n (by omega) hb, Nat.mul_add, Nat.mul_add]
      omega
    · rw [if_neg hb, if_neg hb, Nat.add_zero]
      omega
theorem cw_4 {A : Nat → Nat} {S : Nat} : ∀ n, (∀ t, t < n → (S.testBit t = true ∧ A t = 4)) → cw A n = 4 * sumS wt n S
  | 0, _ => rfl
  | n + 1, h => by
    have hn := h n (by omega)
    rw [cw_s, sumS_s, cw_4 n (fun t ht => h t (by omega)), if_pos hn.1, hn.2, Nat.mul_add]
theorem cw_le {A : Nat → Nat} : ∀ n, n ≤ 10 → (∀ t, t < n → A t ≤ 4) → cw A n + 8 ^ (10 - n) ≤ 1073741824
  | 0, _, _ => by show 0 + 8 ^ (10 - 0) ≤ 1073741824; decide
  | n + 1, h, hA => by
    have ih := cw_le n (by omega) (fun t ht => hA t (by omega))
    have := hA n (by omega)
    rw [cw_s, show 10 - (n + 1) = 9 - n by omega]
    rw [show 10 - n = (9 - n) + 1 by omega, Nat.pow_succ] at ih
    unfold wt
    have h2 : A n * 8 ^ (9 - n) ≤ 4 * 8 ^ (9 - n) := Nat.mul_le_mul_right _ this
    omega
theorem wt_pos (t : Nat) : 0 < wt t := Nat.pow_pos (by decide)
/-- within -/
def sub (L S : Nat) : Prop := L &&& S = L
theorem sub_bit {L S t : Nat} (h : sub L S) (hb : L.testBit t = true) : S.testBit t = true := by
  unfold sub at h
  rw [← h, Nat.testBit_and] at hb
  simp at hb
  exact hb.2
theorem sub_of {L S : Nat} (h : ∀ t, L.testBit t = true → S.testBit t = true) : sub L S := by
  apply Nat.eq_of_testBit_eq
  intro t
  rw [Nat.testBit_and]
  cases hb : L.testBit t with
  | false => rfl
  | true => rw [h t hb]; rfl
theorem sub_le {L S : Nat} (h : sub L S) : L ≤ S := by
  unfold sub at h
  rw [← h]
  exact Nat.and_le_right
theorem xor_bit {L S t : Nat} (h : sub L S) : (S ^^^ L).testBit t = (S.testBit t && !L.testBit t) := by
  rw [Nat.testBit_xor]
  cases hb : L.testBit t with
  | false => simp
  | true => rw [sub_bit h hb]; rfl
theorem xor_le {L S : Nat} (h : sub L S) : S ^^^ L ≤ S := sub_le (sub_of (fun t hb => by
  rw [xor_bit h] at hb
  simp at hb
  exact hb.1))
theorem xor_eq {L S : Nat} (h : sub L S) (e : S ^^^ L = S) : L = 0 := by
  apply Nat.eq_of_testBit_eq
  intro t
  have := xor_bit (t := t) h
  rw [e] at this
  rw [Nat.zero_testBit]
  cases hb : L.testBit t with
  | false => rfl
  | true => rw [hb, sub_bit h hb] at this; simp at this
theorem sumS_xor {f : Nat → Nat} {L S : Nat} (h : sub L S) : ∀ n, sumS f n (S ^^^ L) + sumS f n L = sumS f n S
  | 0 => rfl
  | n + 1 => by
    have ih := sumS_xor (f := f) h n
    rw [sumS_s, sumS_s, sumS_s, xor_bit h]
    cases hb : L.testBit n with
    | false =>
      cases hs : S.testBit n <;> simp <;> omega
    | true =>
      rw [sub_bit h hb]
      simp
      omega
theorem sumS_P {f : Nat → Nat} {S : Nat} {p : Nat → Bool} : ∀ n, (∀ t, t < n → S.testBit t = p t) → sumS f n S = sumP p f n
  | 0, _ => rfl
  | n + 1, h => by rw [sumS_s, sumP_s, sumS_P n (fun t ht => h t (by omega)), h n (by omega)]
/-- a part: the first c convoys are loaded, the things of S are open -/
def Part (D : ShD) (T c S : Nat) (A : Nat → Nat) : Prop := Pf D c A T ∧ ∀ t, t < T → (S.testBit t = true ↔ A t = 4)
def fitsL (D : ShD) (T c L : Nat) : Prop := cnt (fun i => L.testBit i) T ≤ D.2.2.2.1 c ∧ sumS D.2.1 T L ≤ D.2.2.2.2 c
theorem Part_put {D : ShD} {T c S L : Nat} {A : Nat → Nat} (hc : c < 4) (h : Part D T c S A) (hL : sub L S) (hfit : ∀ t, t < T → L.testBit t = true → D.1 c t) (hf : fitsL D T c L) : Part D T (c + 1) (S ^^^ L) (putL A L c) := by
  obtain ⟨⟨h1, h2⟩, h3⟩ := h
  have hA : ∀ t, t < T → L.testBit t = true → A t = 4 := fun t ht hb => (h3 t ht).mp (sub_bit hL hb)
  refine ⟨⟨fun t ht => ?_, fun c' hc' => ?_⟩, fun t ht => ?_⟩
  · unfold putL
    by_cases hb : L.testBit t = true
    · rw [if_pos hb]; exact Or.inl ⟨by omega, hfit t ht hb⟩
    · rw [if_neg hb]
      rcases h1 t ht with z | z
      · exact Or.inl ⟨by omega, z.2⟩
      · exact Or.inr z
  · by_cases e : c' = c
    · subst e
      have q : ∀ t, t < T → L.testBit t = inCv (putL A L c') c' t := by
        intro t ht
        unfold inCv putL
        cases hb : L.testBit t with
        | true => simp
        | false =>
          simp
          rcases h1 t ht with z | z <;> omega
      rw [← cnt_cong q, ← sumS_P T q]
      exact hf
    · have q : ∀ t, t < T → inCv (putL A L c) c' t = inCv A c' t := by
        intro t ht
        unfold inCv putL
        cases hb : L.testBit t with
        | true =>
          have := hA t ht hb
          have e1 : ¬ c = c' := fun z => e z.symm
          have e2 : ¬ A t = c' := by omega
          simp [e1, e2]
        | false => simp
      rw [cnt_cong q, sumP_cong q]
      exact h2 c' (by omega)
  · rw [xor_bit hL]
    unfold putL
    cases hb : L.testBit t with
    | true =>
      simp
      omega
    | false =>
      simp
      exact h3 t ht
/-- the whole price -/
def price (D : ShD) (T : Nat) (A : Nat → Nat) : Nat := dcost D A T * 1073741824 + cw A T
theorem Pf_4 {D : ShD} {T : Nat} : Part D T 0 (2 ^ T - 1) (fun _ => 4) := by
  refine ⟨⟨fun _ _ => Or.inr rfl, fun c hc => by omega⟩, fun t ht => ?_⟩
  rw [Nat.testBit_two_pow_sub_one]
  simp [ht]
/-- one that is least -/
theorem sumP_0 {p : Nat → Bool} {f : Nat → Nat} : ∀ {n : Nat}, (∀ i, i < n → p i = false) → sumP p f n = 0
  | 0, _ => rfl
  | n + 1, h => by rw [sumP_s, sumP_0 (fun i hi => h i (by omega)), h n (by omega)]; rfl
theorem least_is (D : ShD) (T C : Nat) (hC : C ≤ 4) : ∃ A, Pf D C A T ∧ ∀ B, Pf D C B T → price D T A ≤ price D T B := by
  have key : ∀ n A, Pf D C A T → price D T A < n → ∃ A, Pf D C A T ∧ ∀ B, Pf D C B T → price D T A ≤ price D T B := by
    intro n
    induction n with
    | zero => intro A _ h; omega
    | succ n ih =>
      intro A hA h
      by_cases hB : ∃ B, Pf D C B T ∧ price D T B < price D T A
      · obtain ⟨B, b1, b2'⟩ := hB
        exact ih B b1 (by omega)
      · refine ⟨A, hA, fun B hB2 => ?_⟩
        rcases Nat.lt_or_ge (price D T B) (price D T A) with z | z
        · exact absurd ⟨B, hB2, z⟩ hB
        · exact z
  refine key _ (fun _ => 4) ⟨fun _ _ => Or.inr rfl, fun c hc => ?_⟩ (Nat.lt_succ_self _)
  have e : ∀ i, i < T → inCv (fun _ => 4) c i = false := fun i _ => by unfold inCv; simp; omega
  rw [(cnt_pos _ T).mpr e, sumP_0 e]
  exact ⟨Nat.zero_le _, Nat.zero_le _⟩
theorem cnt_upd1 (A : Nat → Nat) (t c c' : Nat) : ∀ n, (n ≤ t → cnt (inCv (updN A t c) c') n = cnt (inCv A c') n) ∧ cnt (inCv (updN A t c) c') n ≤ cnt (inCv A c') n + (if c = c' then 1 else 0)
  | 0 => ⟨fun _ => rfl, Nat.zero_le _⟩
  | n + 1 => by
    obtain ⟨h1, h2⟩ := cnt_upd1 A t c c' n
    rw [cnt_s, cnt_s]
    by_cases e : n = t
    · subst e
      refine ⟨fun h => by omega, ?_⟩
      rw [h1 (Nat.le_refl _)]
      unfold inCv
      rw [updN_at]
      by_cases e2 : c = c'
      · simp [e2]
      · simp [e2]
    · have e3 : inCv (updN A t c) c' n = inCv A c' n := by unfold inCv; rw [updN_ne e]
      rw [e3]
      exact ⟨fun h => by rw [h1 (by omega)], by omega⟩
theorem sumP_upd1 (A : Nat → Nat) (f : Nat → Nat) (t c c' : Nat) : ∀ n, (n ≤ t → sumP (inCv (updN A t c) c') f n = sumP (inCv A c') f n) ∧ sumP (inCv (updN A t c) c') f n ≤ sumP (inCv A c') f n + (if c = c' then f t else 0)
  | 0 => ⟨fun _ => rfl, Nat.zero_le _⟩
  | n + 1 => by
    obtain ⟨h1, h2⟩ := sumP_upd1 A f t c c' n
    rw [sumP_s, sumP_s]
    by_cases e : n = t
    · subst e
      refine ⟨fun h => by omega, ?_⟩
      rw [h1 (Nat.le_refl _)]
      unfold inCv
      rw [updN_at]
      by_cases e2 : c = c'
      · simp [e2]
      · simp [e2]
    · have e3 : inCv (updN A t c) c' n = inCv A c' n := by unfold inCv; rw [updN_ne e]
      rw [e3]
      exact ⟨fun h => by rw [h1 (by omega)], by omega⟩
theorem cw_upd (A : Nat → Nat) (t c : Nat) : ∀ n, (n ≤ t → cw (updN A t c) n = cw A n) ∧ (t < n → cw (updN A t c) n + A t * wt t = cw A n + c * wt t)
  | 0 => ⟨fun _ => rfl, fun h => by omega⟩
  | n + 1 => by
    obtain ⟨h1, h2⟩ := cw_upd A t c n
    rw [cw_s, cw_s]
    by_cases e : n = t
    · subst e
      refine ⟨fun h => by omega, fun _ => ?_⟩
      rw [h1 (Nat.le_refl _), updN_at]
      omega
    · rw [updN_ne e]
      exact ⟨fun h => by rw [h1 (by omega)], fun h => by have := h2 (by omega); omega⟩
/-- in the least sharing every convoy is full: nothing that comes later could go with it -/
theorem least_full {D : ShD} {T C c t : Nat} {A : Nat → Nat} (hC : C ≤ 4) (hA : Pf D C A T) (hm : ∀ B, Pf D C B T → price D T A ≤ price D T B) (hc : c < C) (ht : t < T) (hlt : c < A t) (hfit : D.1 c t) (h1 : cnt (inCv A c) T + 1 ≤ D.2.2.2.1 c) (h2 : sumP (inCv A c) D.2.1 T + D.2.1 t ≤ D.2.2.2.2 c) : False := by
  have hB : Pf D C (updN A t c) T := by
    refine ⟨fun k hk => ?_, fun c' hc' => ?_⟩
    · by_cases e : k = t
      · subst e; rw [updN_at]; exact Or.inl ⟨hc, hfit⟩
      · rw [updN_ne e]; exact hA.1 k hk
    · have a := (cnt_upd1 A t c c' T).2
      have b := (sumP_upd1 A D.2.1 t c c' T).2
      have p := hA.2 c' hc'
      by_cases e : c = c'
      · subst e
        rw [if_pos rfl] at a b
        omega
      · rw [if_neg e] at a b
        omega
  have h := hm _ hB
  have a := (sumP_upd1 A D.2.2.1 t c 4 T).2
  rw [if_neg (by omega)] at a
  have b := (cw_upd A t c T).2 ht
  have d : c * wt t < A t * wt t := Nat.mul_lt_mul_of_pos_right hlt (wt_pos t)
  unfold price dcost at h
  have e : sumP (inCv (updN A t c) 4) D.2.2.1 T * 1073741824 ≤ sumP (inCv A 4) D.2.2.1 T * 1073741824 := Nat.mul_le_mul_right _ (by omega)
  omega
/-- the least sharing, cut after some convoys -/
def trA (c : Nat) (A : Nat → Nat) : Nat → Nat := fun t => if A t < c then A t else 4
def opA (T c : Nat) (A : Nat → Nat) : Nat := mask (fun t => decide (¬ A t < c)) T
def ldA (T c : Nat) (A : Nat → Nat) : Nat := mask (fun t => decide (A t = c)) T
theorem opA_bit (T c : Nat) (A : Nat → Nat) (t : Nat) : (opA T c A).testBit t = true ↔ t < T ∧ ¬ A t < c := by
  unfold opA
  rw [mask_bit]
  simp
theorem ldA_bit (T c : Nat) (A : Nat → Nat) (t : Nat) : (ldA T c A).testBit t = true ↔ t < T ∧ A t = c := by
  unfold ldA
  rw [mask_bit]
  simp
theorem ldA_sub (T c : Nat) (A : Nat → Nat) : sub (ldA T c A) (opA T c A) := sub_of (fun t hb => by
  rw [ldA_bit] at hb
  rw [opA_bit]
  exact ⟨hb.1, by omega⟩)
theorem opA_next (T c : Nat) (A : Nat → Nat) : opA T c A ^^^ ldA T c A = opA T (c + 1) A := by
  apply Nat.eq_of_testBit_eq
  intro t
  rw [xor_bit (ldA_sub T c A)]
  have a := opA_bit T c A t
  have b := ldA_bit T c A t
  have d := opA_bit T (c + 1) A t
  cases h1 : (opA T c A).testBit t <;> cases h2 : (ldA T c A).testBit t <;> cases h3 : (opA T (c + 1) A).testBit t <;> rw [h1] at a <;> rw [h2] at b <;> rw [h3] at d <;> simp at a b d ⊢ <;> omega
theorem trA_next {T c : Nat} {A : Nat → Nat} {t : Nat} (ht : t < T) : putL (trA c A) (ldA T c A) c t = trA (c + 1) A t := by
  unfold putL trA
  have b := ldA_bit T c A t
  by_cases h : (ldA T c A).testBit t = true
  · have := (b.mp h).2
    rw [if_pos h, if_pos (by omega), this]
  · have : ¬ A t = c := fun z => h (b.mpr ⟨ht, z⟩)
    rw [if_neg h]
    by_cases h2 : A t < c
    · rw [if_pos h2, if_pos (by omega)]
    · rw [if_neg h2, if_neg (by omega)]
