/-! Sets of small numbers as masks. -/
theorem fa_and (a b : Nat) : nI a &&& nI b = nI (a &&& b) := by
  apply Int32.toBitVec_inj.1
  show BitVec.ofNat 32 a &&& BitVec.ofNat 32 b = BitVec.ofNat 32 (a &&& b)
  apply BitVec.eq_of_getLsbD_eq
  intro i hi
  simp [hi]
theorem fa_or (a b : Nat) : nI a ||| nI b = nI (a ||| b) := by
  apply Int32.toBitVec_inj.1
  show BitVec.ofNat 32 a ||| BitVec.ofNat 32 b = BitVec.ofNat 32 (a ||| b)
  apply BitVec.eq_of_getLsbD_eq
  intro i hi
  simp [hi]
theorem fa_bit {n j : Nat} (hj : j < 31) : nI n &&& nI (2 ^ j) = 0 ↔ n.testBit j = false := by
  have h2 : (2 : Nat) ^ j < 2 ^ 31 := Nat.pow_lt_pow_right (by decide) hj
  have hle : n &&& 2 ^ j ≤ 2 ^ j := Nat.and_le_right
  have e : n &&& 2 ^ j = 0 ↔ n.testBit j = false := by
    constructor
    · intro h
      have h1 : (n &&& 2 ^ j).testBit j = false := by rw [h]; simp
      rw [Nat.testBit_and] at h1
      first | simpa using h1 | simpa [Nat.testBit_two_pow_self] using h1 | simpa [Nat.testBit_two_pow] using h1
    · intro h
      apply Nat.eq_of_testBit_eq
      intro i
      rw [Nat.testBit_and]
      by_cases hi : j = i
      · subst hi; simp [h]
      · first | (simp [Nat.testBit_two_pow, hi]; done) | (simp [Nat.testBit_two_pow_of_ne hi]; done)
  rw [fa_and]
  constructor
  · intro h
    apply e.mp
    rcases Nat.eq_zero_or_pos (n &&& 2 ^ j) with z | z
    · exact z
    · exact absurd h (nI_ne0 z (Nat.lt_of_le_of_lt hle h2))
  · intro h
    rw [e.mpr h]; exact nI_0
theorem fb_xorI (a b : Nat) : nI a ^^^ nI b = nI (a ^^^ b) := by
  apply Int32.toBitVec_inj.1
  show BitVec.ofNat 32 a ^^^ BitVec.ofNat 32 b = BitVec.ofNat 32 (a ^^^ b)
  apply BitVec.eq_of_getLsbD_eq
  intro i hi
  simp [hi]
theorem shl1 : ∀ i, i < 16 → (1 : Int32) <<< (nI i &&& 31) = nI (2 ^ i) := by decide +kernel
def mask (p : Nat → Bool) : Nat → Nat
  | 0 => 0
  | n + 1 => mask p n + (if p n = true then 2 ^ n else 0)
theorem mask_s (p : Nat → Bool) (n : Nat) : mask p (n + 1) = mask p n + (if p n = true then 2 ^ n else 0) := rfl
theorem mask_lt (p : Nat → Bool) : ∀ n, mask p n < 2 ^ n
  | 0 => Nat.zero_lt_one
  | n + 1 => by
    have h := mask_lt p n
    have e : 2 ^ (n + 1) = 2 ^ n + 2 ^ n := by rw [Nat.pow_succ]; omega
    unfold mask
    split <;> omega
theorem mask_or (p : Nat → Bool) (n : Nat) : mask p n ||| 2 ^ n = mask p n + 2 ^ n := by
  have h := Nat.two_pow_add_eq_or_of_lt (mask_lt p n) 1
  rw [Nat.mul_one] at h
  rw [Nat.or_comm, ← h, Nat.add_comm]
theorem mask_cong {p q : Nat → Bool} : ∀ {n : Nat}, (∀ i, i < n → p i = q i) → mask p n = mask q n
  | 0, _ => rfl
  | n + 1, h => by
    unfold mask
    rw [mask_cong (fun i hi => h i (by omega)), h n (by omega)]
theorem mask_bit (p : Nat → Bool) : ∀ n i, (mask p n).testBit i = (decide (i < n) && p i)
  | 0, i => by simp [mask]
  | n + 1, i => by
    have ih := mask_bit p n
    unfold mask
    by_cases hp : p n = true
    · rw [if_pos hp, ← mask_or, Nat.testBit_or, ih]
      by_cases hi : i = n
      · subst hi
        simp [hp, Nat.testBit_two_pow_self]
      · have e1 : (2 ^ n).testBit i = false := by
          rw [Nat.testBit_two_pow]
          simp
          omega
        rw [e1]
        have : (i < n + 1) = (i < n) := by apply propext; omega
        simp [this]
    · rw [if_neg hp, Nat.add_zero, ih]
      by_cases hi : i = n
      · subst hi
        simp at hp
        simp [hp]
      · have : (i < n + 1) = (i < n) := by apply propext; omega
        simp [this]
theorem mask_0 (p : Nat → Bool) (n : Nat) : mask p n = 0 ↔ ∀ i, i < n → p i = false := by
  constructor
  · intro h i hi
    have := mask_bit p n i
    rw [h] at this
    simp [hi] at this
    exact this
  · intro h
    apply Nat.eq_of_testBit_eq
    intro i
    rw [mask_bit]
    by_cases hi : i < n
    · simp [hi, h i hi]
    · simp [hi]
theorem mask_full (p : Nat → Bool) (n : Nat) : mask p n = 2 ^ n - 1 ↔ ∀ i, i < n → p i = true := by
  constructor
  · intro h i hi
    have := mask_bit p n i
    rw [h, Nat.testBit_two_pow_sub_one] at this
    simp [hi] at this
    exact this
  · intro h
    apply Nat.eq_of_testBit_eq
    intro i
    rw [mask_bit, Nat.testBit_two_pow_sub_one]
    by_cases hi : i < n
    · simp [hi, h i hi]
    · simp [hi]
/-- the loop that gathers such a set -/
theorem mask_lpf (p : Nat → Prop) [DecidablePred p] {N : Nat} (hN : N ≤ 16) : lpf (fun i (acc : Int32) => if p i then acc ||| (1 : Int32) <<< (nI i &&& 31) else acc) N 0 0 = nI (mask (fun i => decide (p i)) N) := by
  have h := lpf_ind (step := fun i (acc : Int32) => if p i then acc ||| (1 : Int32) <<< (nI i &&& 31) else acc) (fun i a => a = nI (mask (fun i => decide (p i)) i)) (N := N) (by
    intro i a hi ha
    subst ha
    rw [mask_s]
    by_cases hp : p i
    · rw [if_pos hp, shl1 i (by omega), fa_or, mask_or]
      simp [hp]
    · simp [hp]) N 0 0 (by omega) rfl
  exact h
theorem nI_0' : nI 0 = 0 := nI_0
theorem mask_small (p : Nat → Bool) {n : Nat} (h : n ≤ 16) : mask p n < 65536 := Nat.lt_of_lt_of_le (mask_lt p n) (Nat.pow_le_pow_right (n := 2) (by decide) h)
/-- how many of them -/
def cnt (p : Nat → Bool) : Nat → Nat
  | 0 => 0
  | n + 1 => cnt p n + (if p n = true then 1 else 0)
theorem cnt_s (p : Nat → Bool) (n : Nat) : cnt p (n + 1) = cnt p n + (if p n = true then 1 else 0) := rfl
theorem cnt_le (p : Nat → Bool) : ∀ n, cnt p n ≤ n
  | 0 => Nat.le_refl 0
  | n + 1 => by
    have := cnt_le p n
    unfold cnt
    split <;> omega
theorem cnt_cong {p q : Nat → Bool} : ∀ {n : Nat}, (∀ i, i < n → p i = q i) → cnt p n = cnt q n
  | 0, _ => rfl
  | n + 1, h => by
    unfold cnt
    rw [cnt_cong (fun i hi => h i (by omega)), h n (by omega)]
