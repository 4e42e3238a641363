/-! Long numbers. -/
def nL (n : Nat) : Int64 := Int64.ofNat n
theorem nL_toInt {n : Nat} (h : n < 9223372036854775808) : (nL n).toInt = (n : Int) := lg_ofNat_toInt h
theorem nL_ad (a b : Nat) : nL a + nL b = nL (a + b) := by
  apply Int64.toBitVec_inj.1
  show BitVec.ofNat 64 a + BitVec.ofNat 64 b = BitVec.ofNat 64 (a + b)
  rw [← BitVec.ofNat_add]
theorem nL_ml (a b : Nat) : nL a * nL b = nL (a * b) := by
  apply Int64.toBitVec_inj.1
  show BitVec.ofNat 64 a * BitVec.ofNat 64 b = BitVec.ofNat 64 (a * b)
  rw [← BitVec.ofNat_mul]
theorem nL_lt {a b : Nat} (ha : a < 9223372036854775808) (hb : b < 9223372036854775808) : nL a < nL b ↔ a < b := by
  rw [Int64.lt_iff_toInt_lt, nL_toInt ha, nL_toInt hb]
  omega
theorem nL_eq {a b : Nat} (ha : a < 9223372036854775808) (hb : b < 9223372036854775808) : nL a = nL b ↔ a = b := by
  rw [← Int64.toInt_inj, nL_toInt ha, nL_toInt hb]
  omega
theorem nI_L {n : Nat} (h : n < 2147483648) : (nI n).toInt64 = nL n := by
  rw [← Int64.toInt_inj, Int32.toInt_toInt64, nL_toInt (by omega), i_nI h]
theorem lmin' {a b : Nat} (ha : a < 9223372036854775808) (hb : b < 9223372036854775808) : (if nL b < nL a then nL b else nL a) = nL (min a b) := by
  by_cases h : b < a
  · rw [if_pos ((nL_lt hb ha).mpr h), Nat.min_eq_right (by omega)]
  · rw [if_neg (fun z => h ((nL_lt hb ha).mp z)), Nat.min_eq_left (by omega)]
theorem nL_bv (n : Nat) : (nL n).toBitVec = BitVec.ofNat 64 n := rfl
theorem nL_shl {a : Nat} : nL a <<< ((30 : Int32).toInt64 &&& 63) = nL (a * 1073741824) := by
  have e : ((30 : Int32).toInt64 &&& 63) = (30 : Int64) := by decide
  rw [e]
  apply Int64.toBitVec_inj.1
  show BitVec.ofNat 64 a <<< ((30 : Int64).toBitVec.smod 64) = BitVec.ofNat 64 (a * 1073741824)
  have e2 : (30 : Int64).toBitVec.smod 64 = 30#64 := by decide
  rw [e2]
  apply BitVec.eq_of_toNat_eq
  rw [BitVec.shiftLeft_eq', BitVec.toNat_shiftLeft, show (30#64).toNat = 30 from rfl, BitVec.toNat_ofNat, BitVec.toNat_ofNat, Nat.shiftLeft_eq, show (2 : Nat) ^ 30 = 1073741824 by decide, Nat.mod_mul_mod]
theorem nL_shr {p k : Nat} {s : Int64} (hp : p < 9223372036854775808) (hs : (s.toBitVec.smod 64).toNat = k) : nL p >>> s = nL (p / 2 ^ k) := by
  apply Int64.toBitVec_inj.1
  show (BitVec.ofNat 64 p).sshiftRight' (s.toBitVec.smod 64) = BitVec.ofNat 64 (p / 2 ^ k)
  have hm : (BitVec.ofNat 64 p).msb = false := by
    rw [BitVec.msb_eq_decide, BitVec.toNat_ofNat, Nat.mod_eq_of_lt (by omega)]
    simp
    omega
  rw [BitVec.sshiftRight_eq', BitVec.sshiftRight_eq_of_msb_false hm]
  apply BitVec.eq_of_toNat_eq
  rw [BitVec.toNat_ushiftRight, BitVec.toNat_ofNat, BitVec.toNat_ofNat, hs, Nat.shiftRight_eq_div_pow, Nat.mod_eq_of_lt (show p < 2 ^ 64 by omega), Nat.mod_eq_of_lt]
  exact Nat.lt_of_le_of_lt (Nat.div_le_self _ _) (by omega)
theorem nL_i (p : Nat) : (nL p).toInt32 = nI p := by
  apply Int32.toBitVec_inj.1
  show (BitVec.ofNat 64 p).signExtend 32 = BitVec.ofNat 32 p
  rw [BitVec.signExtend_eq_setWidth_of_le _ (by decide)]
  apply BitVec.eq_of_toNat_eq
  rw [BitVec.toNat_setWidth, BitVec.toNat_ofNat, BitVec.toNat_ofNat]
  omega
theorem dcost_of {p : Nat} (hp : p < 9223372036854775808) : (nL p >>> ((30 : Int32).toInt64 &&& 63)).toInt32 = nI (p / 1073741824) := by
  rw [nL_shr (k := 30) hp (by decide), nL_i]
theorem shf_dig : ∀ i, i < 10 → (((3 * (9 - nI i)).toInt64 &&& 63).toBitVec.smod 64).toNat = 3 * (9 - i) := by decide +kernel
theorem cofE_of {p i : Nat} (hp : p < 9223372036854775808) (hi : i < 10) : cofE (nL p) (nI i) = if p / 2 ^ (3 * (9 - i)) % 8 = 4 then -1 else nI (p / 2 ^ (3 * (9 - i)) % 8) := by
  unfold cofE
  rw [nL_shr hp (shf_dig i hi), nL_i, show (7 : Int32) = nI (2 ^ 3 - 1) by decide, fa_and, Nat.and_two_pow_sub_one_eq_mod, show (2 : Nat) ^ 3 = 8 by decide]
  have h8 := Nat.mod_lt (p / 2 ^ (3 * (9 - i))) (show 8 > 0 by decide)
  have e : nI (p / 2 ^ (3 * (9 - i)) % 8) = 4 ↔ p / 2 ^ (3 * (9 - i)) % 8 = 4 := nI_eq' (b := 4) (by omega) (by omega)
  by_cases h : p / 2 ^ (3 * (9 - i)) % 8 = 4
  · rw [if_pos h, if_pos (e.mpr h)]
  · rw [if_neg h, if_neg (fun z => h (e.mp z))]
/-- the next smaller set within a set -/
theorem sub_next : ∀ (n x y m : Nat), m < 2 ^ n → x &&& m = x → y &&& m = y → x < y → x ≤ (y - 1) &&& m
  | 0, x, y, m, hm, hx, hy, h => by
    have : m = 0 := by omega
    subst this
    rw [Nat.and_zero] at hy
    omega
  | n + 1, x, y, m, hm, hx, hy, h => by
    have dv : ∀ a b : Nat, (a &&& b) / 2 = a / 2 &&& b / 2 := fun a b => Nat.and_div_two
    have md : ∀ a b : Nat, (a &&& b) % 2 = (a % 2) * (b % 2) := by
      intro a b
      have := Nat.and_mod_two_pow (a := a) (b := b) (n := 1)
      rw [show (2 : Nat) ^ 1 = 2 from rfl] at this
      rw [this]
      have ha := Nat.mod_two_eq_zero_or_one a
      have hb := Nat.mod_two_eq_zero_or_one b
      rcases ha with e | e <;> rcases hb with e' | e' <;> rw [e, e']
      all_goals decide
    have hx2 := dv x m
    have hy2 := dv y m
    rw [hx] at hx2
    rw [hy] at hy2
    have hx3 := md x m
    have hy3 := md y m
    rw [hx] at hx3
    rw [hy] at hy3
    have hz2 := dv (y - 1) m
    have hz3 := md (y - 1) m
    generalize hz : (y - 1) &&& m = z at *
    have hxl := Nat.mod_two_eq_zero_or_one x
    have hyl := Nat.mod_two_eq_zero_or_one y
    have hml := Nat.mod_two_eq_zero_or_one m
    have hp : 2 ^ (n + 1) = 2 * 2 ^ n := by rw [Nat.pow_succ]; omega
    rcases hyl with ey | ey
    · -- y even
      have e1 : (y - 1) / 2 = y / 2 - 1 := by omega
      have e2 : (y - 1) % 2 = 1 := by omega
      rw [e1] at hz2
      rw [e2, Nat.one_mul] at hz3
      have ih := sub_next n (x / 2) (y / 2) (m / 2) (by omega) hx2.symm hy2.symm (by omega)
      rw [← hz2] at ih
      have : x % 2 ≤ m % 2 := by
        rcases hml with e | e
        · rw [e, Nat.mul_zero] at hx3; omega
        · omega
      omega
    · have e1 : (y - 1) / 2 = y / 2 := by omega
      rw [e1, ← hy2] at hz2
      omega
