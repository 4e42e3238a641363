/-! Rows of the law. -/
def x_L_law (L : Nat) (xs : Nat → Int32) (d : Nat) (Q : nm_K) : nm_F := nm_X (tb_L_law L xs) (nm_call d) Q
theorem r_L_law_0 {d : Nat} {Q : nm_K} {w : nm_W} {k n : Nat} {L : Nat} {xs : Nat → Int32} {ls st : List Value} : x_L_law L xs d Q 0 ls st w k n ↔ ((k + 1 ≤ 600000 ∧ n + 12 ≤ 7302250) ∧ x_L_law L xs d Q 3 ls (.ref w.length :: st) (w ++ [.inr (8, [.null, .null, .null, .null, .null, .null, .null, .null, .null, .int 0, .int 0, .int 0])]) (k + 1) (n + 12)) := rw_new rfl
theorem r_L_law_3 {d : Nat} {Q : nm_K} {w : nm_W} {k n : Nat} {L : Nat} {xs : Nat → Int32} {ls st : List Value} {x : Nat} : x_L_law L xs d Q 3 ls (.ref x :: st) w k n ↔ x_L_law L xs d Q 4 ls (.ref x :: .ref x :: st) w k n := rw_dup rfl
theorem r_L_law_4 {d : Nat} {Q : nm_K} {w : nm_W} {k n : Nat} {L : Nat} {xs : Nat → Int32} {ls : List Value} {x0 : Nat} {s0 : Value} : x_L_law L xs d Q 4 ls [.ref x0, s0] w k n ↔ ((nm_obj w x0 8 ∧ k + 39 ≤ 600000 ∧ n + 4788 ≤ 7302250) ∧ nm_call d 68 [.ref x0] w (fun v w' => x_L_law L xs d Q 7 ls (v ++ [s0]) w' (k + 39) (n + 4788))) := rw_callC rfl ⟨Nat.le_of_ble_eq_true rfl, Nat.le_of_ble_eq_true rfl⟩ rfl rfl
theorem r_L_law_7 {d : Nat} {Q : nm_K} {w : nm_W} {k n : Nat} {L : Nat} {xs : Nat → Int32} {a0 a1 a2 a3 : Value} {x : Nat} {st : List Value} : x_L_law L xs d Q 7 [a0, a1, a2, a3] (.ref x :: st) w k n ↔ x_L_law L xs d Q 8 [a0, .ref x, a2, a3] st w k n := rw_stA rfl rfl
theorem r_L_law_8 {d : Nat} {Q : nm_K} {w : nm_W} {k n : Nat} {L : Nat} {xs : Nat → Int32} {ls st : List Value} : x_L_law L xs d Q 8 ls st w k n ↔ ((k + 1 ≤ 600000 ∧ n + 48 ≤ 7302250) ∧ x_L_law L xs d Q 11 ls (.ref w.length :: st) (w ++ [.inr (9, [.int 0, .int 0, .int 0, .int 0, .int 0, .int 0, .int 0, .int 0, .int 0, .int 0, .int 0, .null, .null, .null, .null, .null, .null, .null, .null, .null, .null, .null, .int 0, .null, .null, .null, .null, .null, .null, .null, .null, .null, .null, .null, .int 0, .int 0, .null, .null, .null, .null, .null, .int 0, .int 0, .int 0, .int 0, .int 0, .int 0, .null])]) (k + 1) (n + 48)) := rw_new rfl
theorem r_L_law_11 {d : Nat} {Q : nm_K} {w : nm_W} {k n : Nat} {L : Nat} {xs : Nat → Int32} {ls st : List Value} {x : Nat} : x_L_law L xs d Q 11 ls (.ref x :: st) w k n ↔ x_L_law L xs d Q 12 ls (.ref x :: .ref x :: st) w k n := rw_dup rfl
theorem r_L_law_12 {d : Nat} {Q : nm_K} {w : nm_W} {k n : Nat} {L : Nat} {xs : Nat → Int32} {ls : List Value} {x0 : Nat} {s0 : Value} : x_L_law L xs d Q 12 ls [.ref x0, s0] w k n ↔ ((nm_obj w x0 9 ∧ k + 28 ≤ 600000 ∧ n + 1150 ≤ 7302250) ∧ nm_call d 102 [.ref x0] w (fun v w' => x_L_law L xs d Q 15 ls (v ++ [s0]) w' (k + 28) (n + 1150))) := rw_callC rfl ⟨Nat.le_of_ble_eq_true rfl, Nat.le_of_ble_eq_true rfl⟩ rfl rfl
theorem r_L_law_15 {d : Nat} {Q : nm_K} {w : nm_W} {k n : Nat} {L : Nat} {xs : Nat → Int32} {a0 a1 a2 a3 : Value} {x : Nat} {st : List Value} : x_L_law L xs d Q 15 [a0, a1, a2, a3] (.ref x :: st) w k n ↔ x_L_law L xs d Q 16 [a0, a1, .ref x, a3] st w k n := rw_stA rfl rfl
theorem r_L_law_16 {d : Nat} {Q : nm_K} {w : nm_W} {k n : Nat} {L : Nat} {xs : Nat → Int32} {ls st : List Value} : x_L_law L xs d Q 16 ls st w k n ↔ x_L_law L xs d Q 17 ls (.int 0 :: st) w k n := rw_push rfl
theorem r_L_law_17 {d : Nat} {Q : nm_K} {w : nm_W} {k n : Nat} {L : Nat} {xs : Nat → Int32} {a0 a1 a2 a3 : Value} {x : Int32} {st : List Value} : x_L_law L xs d Q 17 [a0, a1, a2, a3] (.int x :: st) w k n ↔ x_L_law L xs d Q 18 [a0, a1, a2, .int x] st w k n := rw_stI rfl rfl
theorem r_L_law_18 {d : Nat} {Q : nm_K} {w : nm_W} {k n : Nat} {L : Nat} {xs : Nat → Int32} {a0 a1 a2 : Value} {x : Int32} {st : List Value} : x_L_law L xs d Q 18 [a0, a1, a2, .int x] st w k n ↔ x_L_law L xs d Q 19 [a0, a1, a2, .int x] (.int x :: st) w k n := rw_ldI rfl rfl
theorem r_L_law_19 {d : Nat} {Q : nm_K} {w : nm_W} {k n : Nat} {L : Nat} {xs : Nat → Int32} {a1 a2 a3 : Value} {x : UInt32} {st : List Value} : x_L_law L xs d Q 19 [.float x, a1, a2, a3] st w k n ↔ x_L_law L xs d Q 20 [.float x, a1, a2, a3] (.float x :: st) w k n := rw_ldF rfl rfl
theorem r_L_law_20 {d : Nat} {Q : nm_K} {w : nm_W} {k n : Nat} {L : Nat} {xs : Nat → Int32} {ls st : List Value} {x : UInt32} : x_L_law L xs d Q 20 ls (.float x :: st) w k n ↔ x_L_law L xs d Q 21 ls (.int (Int32.ofNat L) :: st) w k n := rw_slen rfl
theorem r_L_law_21 {d : Nat} {Q : nm_K} {w : nm_W} {k n : Nat} {L : Nat} {xs : Nat → Int32} {ls st : List Value} : x_L_law L xs d Q 21 ls st w k n ↔ x_L_law L xs d Q 22 ls (.int 5 :: st) w k n := rw_push rfl
theorem r_L_law_22 {d : Nat} {Q : nm_K} {w : nm_W} {k n : Nat} {L : Nat} {xs : Nat → Int32} {ls st : List Value} {x y : Int32} : x_L_law L xs d Q 22 ls (.int y :: .int x :: st) w k n ↔ x_L_law L xs d Q 23 ls (.int (x - y) :: st) w k n := rw_bin (f := fun x y => x - y) rfl
theorem r_L_law_23 {d : Nat} {Q : nm_K} {w : nm_W} {k n : Nat} {L : Nat} {xs : Nat → Int32} {ls st : List Value} {x y : Int32} : x_L_law L xs d Q 23 ls (.int y :: .int x :: st) w k n ↔ (if y < x then x_L_law L xs d Q 899 ls st w k n else x_L_law L xs d Q 26 ls st w k n) := rw_if (f := fun x y => decide (y < x)) rfl nm_dt
theorem r_L_law_26 {d : Nat} {Q : nm_K} {w : nm_W} {k n : Nat} {L : Nat} {xs : Nat → Int32} {a1 a2 a3 : Value} {x : UInt32} {st : List Value} : x_L_law L xs d Q 26 [.float x, a1, a2, a3] st w k n ↔ x_L_law L xs d Q 27 [.float x, a1, a2, a3] (.float x :: st) w k n := rw_ldF rfl rfl
theorem r_L_law_27 {d : Nat} {Q : nm_K} {w : nm_W} {k n : Nat} {L : Nat} {xs : Nat → Int32} {a0 a1 a2 : Value} {x : Int32} {st : List Value} : x_L_law L xs d Q 27 [a0, a1, a2, .int x] st w k n ↔ x_L_law L xs d Q 28 [a0, a1, a2, .int x] (.int x :: st) w k n := rw_ldI rfl rfl
theorem r_L_law_28 {d : Nat} {Q : nm_K} {w : nm_W} {k n : Nat} {L : Nat} {xs : Nat → Int32} {ls st : List Value} {x : UInt32} {y : Int32} : x_L_law L xs d Q 28 ls (.int y :: .float x :: st) w k n ↔ (vp_in y L ∧ x_L_law L xs d Q 29 ls (.int (xs y.toNatClampNeg) :: st) w k n) := rw_sald rfl
theorem r_L_law_29 {d : Nat} {Q : nm_K} {w : nm_W} {k n : Nat} {L : Nat} {xs : Nat → Int32} {ls st : List Value} : x_L_law L xs d Q 29 ls st w k n ↔ x_L_law L xs d Q 31 ls (.int 31 :: st) w k n := rw_push rfl
theorem r_L_law_31 {d : Nat} {Q : nm_K} {w : nm_W} {k n : Nat} {L : Nat} {xs : Nat → Int32} {ls st : List Value} {x y : Int32} : x_L_law L xs d Q 31 ls (.int y :: .int x :: st) w k n ↔ x_L_law L xs d Q 32 ls (.int (x &&& y) :: st) w k n := rw_bin (f := fun x y => x &&& y) rfl
theorem r_L_law_32 {d : Nat} {Q : nm_K} {w : nm_W} {k n : Nat} {L : Nat} {xs : Nat → Int32} {ls st : List Value} {x : Int32} : x_L_law L xs d Q 32 ls (.int x :: st) w k n ↔ x_L_law L xs d Q (nm_swt 0 [156, 209, 252, 295, 308, 331, 344, 377, 420, 463, 496, 539, 608, 631, 654, 677, 710, 723, 736, 749, 762, 785, 808, 831, 844, 857, 870] 893 x) ls st w k n := rw_sw rfl
theorem r_L_law_156 {d : Nat} {Q : nm_K} {w : nm_W} {k n : Nat} {L : Nat} {xs : Nat → Int32} {a0 a2 a3 : Value} {x : Nat} {st : List Value} : x_L_law L xs d Q 156 [a0, .ref x, a2, a3] st w k n ↔ x_L_law L xs d Q 157 [a0, .ref x, a2, a3] (.ref x :: st) w k n := rw_ldA rfl rfl
theorem r_L_law_157 {d : Nat} {Q : nm_K} {w : nm_W} {k n : Nat} {L : Nat} {xs : Nat → Int32} {a1 a2 a3 : Value} {x : UInt32} {st : List Value} : x_L_law L xs d Q 157 [.float x, a1, a2, a3] st w k n ↔ x_L_law L xs d Q 158 [.float x, a1, a2, a3] (.float x :: st) w k n := rw_ldF rfl rfl
theorem r_L_law_158 {d : Nat} {Q : nm_K} {w : nm_W} {k n : Nat} {L : Nat} {xs : Nat → Int32} {a0 a1 a2 : Value} {x : Int32} {st : List Value} : x_L_law L xs d Q 158 [a0, a1, a2, .int x] st w k n ↔ x_L_law L xs d Q 159 [a0, a1, a2, .int x] (.int x :: st) w k n := rw_ldI rfl rfl
theorem r_L_law_159 {d : Nat} {Q : nm_K} {w : nm_W} {k n : Nat} {L : Nat} {xs : Nat → Int32} {ls st : List Value} : x_L_law L xs d Q 159 ls st w k n ↔ x_L_law L xs d Q 160 ls (.int 1 :: st) w k n := rw_push rfl
theorem r_L_law_160 {d : Nat} {Q : nm_K} {w : nm_W} {k n : Nat} {L : Nat} {xs : Nat → Int32} {ls st : List Value} {x y : Int32} : x_L_law L xs d Q 160 ls (.int y :: .int x :: st) w k n ↔ x_L_law L xs d Q 161 ls (.int (x + y) :: st) w k n := rw_bin (f := fun x y => x + y) rfl
theorem r_L_law_161 {d : Nat} {Q : nm_K} {w : nm_W} {k n : Nat} {L : Nat} {xs : Nat → Int32} {ls st : List Value} {x : UInt32} {y : Int32} : x_L_law L xs d Q 161 ls (.int y :: .float x :: st) w k n ↔ (vp_in y L ∧ x_L_law L xs d Q 162 ls (.int (xs y.toNatClampNeg) :: st) w k n) := rw_sald rfl
theorem r_L_law_162 {d : Nat} {Q : nm_K} {w : nm_W} {k n : Nat} {L : Nat} {xs : Nat → Int32} {a1 a2 a3 : Value} {x : UInt32} {st : List Value} : x_L_law L xs d Q 162 [.float x, a1, a2, a3] st w k n ↔ x_L_law L xs d Q 163 [.float x, a1, a2, a3] (.float x :: st) w k n := rw_ldF rfl rfl
theorem r_L_law_163 {d : Nat} {Q : nm_K} {w : nm_W} {k n : Nat} {L : Nat} {xs : Nat → Int32} {a0 a1 a2 : Value} {x : Int32} {st : List Value} : x_L_law L xs d Q 163 [a0, a1, a2, .int x] st w k n ↔ x_L_law L xs d Q 164 [a0, a1, a2, .int x] (.int x :: st) w k n := rw_ldI rfl rfl
theorem r_L_law_164 {d : Nat} {Q : nm_K} {w : nm_W} {k n : Nat} {L : Nat} {xs : Nat → Int32} {ls st : List Value} : x_L_law L xs d Q 164 ls st w k n ↔ x_L_law L xs d Q 165 ls (.int 2 :: st) w k n := rw_push rfl
theorem r_L_law_165 {d : Nat} {Q : nm_K} {w : nm_W} {k n : Nat} {L : Nat} {xs : Nat → Int32} {ls st : List Value} {x y : Int32} : x_L_law L xs d Q 165 ls (.int y :: .int x :: st) w k n ↔ x_L_law L xs d Q 166 ls (.int (x + y) :: st) w k n := rw_bin (f := fun x y => x + y) rfl
theorem r_L_law_166 {d : Nat} {Q : nm_K} {w : nm_W} {k n : Nat} {L : Nat} {xs : Nat → Int32} {ls st : List Value} {x : UInt32} {y : Int32} : x_L_law L xs d Q 166 ls (.int y :: .float x :: st) w k n ↔ (vp_in y L ∧ x_L_law L xs d Q 167 ls (.int (xs y.toNatClampNeg) :: st) w k n) := rw_sald rfl
theorem r_L_law_167 {d : Nat} {Q : nm_K} {w : nm_W} {k n : Nat} {L : Nat} {xs : Nat → Int32} {a1 a2 a3 : Value} {x : UInt32} {st : List Value} : x_L_law L xs d Q 167 [.float x, a1, a2, a3] st w k n ↔ x_L_law L xs d Q 168 [.float x, a1, a2, a3] (.float x :: st) w k n := rw_ldF rfl rfl
theorem r_L_law_168 {d : Nat} {Q : nm_K} {w : nm_W} {k n : Nat} {L : Nat} {xs : Nat → Int32} {a0 a1 a2 : Value} {x : Int32} {st : List Value} : x_L_law L xs d Q 168 [a0, a1, a2, .int x] st w k n ↔ x_L_law L xs d Q 169 [a0, a1, a2, .int x] (.int x :: st) w k n := rw_ldI rfl rfl
theorem r_L_law_169 {d : Nat} {Q : nm_K} {w : nm_W} {k n : Nat} {L : Nat} {xs : Nat → Int32} {ls st : List Value} : x_L_law L xs d Q 169 ls st w k n ↔ x_L_law L xs d Q 170 ls (.int 3 :: st) w k n := rw_push rfl
theorem r_L_law_170 {d : Nat} {Q : nm_K} {w : nm_W} {k n : Nat} {L : Nat} {xs : Nat → Int32} {ls st : List Value} {x y : Int32} : x_L_law L xs d Q 170 ls (.int y :: .int x :: st) w k n ↔ x_L_law L xs d Q 171 ls (.int (x + y) :: st) w k n := rw_bin (f := fun x y => x + y) rfl
theorem r_L_law_171 {d : Nat} {Q : nm_K} {w : nm_W} {k n : Nat} {L : Nat} {xs : Nat → Int32} {ls st : List Value} {x : UInt32} {y : Int32} : x_L_law L xs d Q 171 ls (.int y :: .float x :: st) w k n ↔ (vp_in y L ∧ x_L_law L xs d Q 172 ls (.int (xs y.toNatClampNeg) :: st) w k n) := rw_sald rfl
theorem r_L_law_172 {d : Nat} {Q : nm_K} {w : nm_W} {k n : Nat} {L : Nat} {xs : Nat → Int32} {a1 a2 a3 : Value} {x : UInt32} {st : List Value} : x_L_law L xs d Q 172 [.float x, a1, a2, a3] st w k n ↔ x_L_law L xs d Q 173 [.float x, a1, a2, a3] (.float x :: st) w k n := rw_ldF rfl rfl
theorem r_L_law_173 {d : Nat} {Q : nm_K} {w : nm_W} {k n : Nat} {L : Nat} {xs : Nat → Int32} {a0 a1 a2 : Value} {x : Int32} {st : List Value} : x_L_law L xs d Q 173 [a0, a1, a2, .int x] st w k n ↔ x_L_law L xs d Q 174 [a0, a1, a2, .int x] (.int x :: st) w k n := rw_ldI rfl rfl
theorem r_L_law_174 {d : Nat} {Q : nm_K} {w : nm_W} {k n : Nat} {L : Nat} {xs : Nat → Int32} {ls st : List Value} : x_L_law L xs d Q 174 ls st w k n ↔ x_L_law L xs d Q 175 ls (.int 4 :: st) w k n := rw_push rfl
theorem r_L_law_175 {d : Nat} {Q : nm_K} {w : nm_W} {k n : Nat} {L : Nat} {xs : Nat → Int32} {ls st : List Value} {x y : Int32} : x_L_law L xs d Q 175 ls (.int y :: .int x :: st) w k n ↔ x_L_law L xs d Q 176 ls (.int (x + y) :: st) w k n := rw_bin (f := fun x y => x + y) rfl
theorem r_L_law_176 {d : Nat} {Q : nm_K} {w : nm_W} {k n : Nat} {L : Nat} {xs : Nat → Int32} {ls st : List Value} {x : UInt32} {y : Int32} : x_L_law L xs d Q 176 ls (.int y :: .float x :: st) w k n ↔ (vp_in y L ∧ x_L_law L xs d Q 177 ls (.int (xs y.toNatClampNeg) :: st) w k n) := rw_sald rfl
theorem r_L_law_177 {d : Nat} {Q : nm_K} {w : nm_W} {k n : Nat} {L : Nat} {xs : Nat → Int32} {ls : List Value} {x0 : Nat} {x1 : Int32} {x2 : Int32} {x3 : Int32} {x4 : Int32} : x_L_law L xs d Q 177 ls [.int x4, .int x3, .int x2, .int x1, .ref x0] w k n ↔ ((nm_obj w x0 8 ∧ k + 0 ≤ 600000 ∧ n + 0 ≤ 7302250) ∧ nm_call d 69 [.ref x0, .int x1, .int x2, .int x3, .int x4] w (fun v w' => x_L_law L xs d Q 180 ls (v ++ []) w' k n)) := rw_callC rfl ⟨Nat.le_of_ble_eq_true rfl, Nat.le_of_ble_eq_true rfl⟩ rfl rfl
theorem r_L_law_180 {d : Nat} {Q : nm_K} {w : nm_W} {k n : Nat} {L : Nat} {xs : Nat → Int32} {a0 a1 a3 : Value} {x : Nat} {st : List Value} : x_L_law L xs d Q 180 [a0, a1, .ref x, a3] st w k n ↔ x_L_law L xs d Q 181 [a0, a1, .ref x, a3] (.ref x :: st) w k n := rw_ldA rfl rfl
theorem r_L_law_181 {d : Nat} {Q : nm_K} {w : nm_W} {k n : Nat} {L : Nat} {xs : Nat → Int32} {a1 a2 a3 : Value} {x : UInt32} {st : List Value} : x_L_law L xs d Q 181 [.float x, a1, a2, a3] st w k n ↔ x_L_law L xs d Q 182 [.float x, a1, a2, a3] (.float x :: st) w k n := rw_ldF rfl rfl
theorem r_L_law_182 {d : Nat} {Q : nm_K} {w : nm_W} {k n : Nat} {L : Nat} {xs : Nat → Int32} {a0 a1 a2 : Value} {x : Int32} {st : List Value} : x_L_law L xs d Q 182 [a0, a1, a2, .int x] st w k n ↔ x_L_law L xs d Q 183 [a0, a1, a2, .int x] (.int x :: st) w k n := rw_ldI rfl rfl
theorem r_L_law_183 {d : Nat} {Q : nm_K} {w : nm_W} {k n : Nat} {L : Nat} {xs : Nat → Int32} {ls st : List Value} : x_L_law L xs d Q 183 ls st w k n ↔ x_L_law L xs d Q 184 ls (.int 1 :: st) w k n := rw_push rfl
theorem r_L_law_184 {d : Nat} {Q : nm_K} {w : nm_W} {k n : Nat} {L : Nat} {xs : Nat → Int32} {ls st : List Value} {x y : Int32} : x_L_law L xs d Q 184 ls (.int y :: .int x :: st) w k n ↔ x_L_law L xs d Q 185 ls (.int (x + y) :: st) w k n := rw_bin (f := fun x y => x + y) rfl
theorem r_L_law_185 {d : Nat} {Q : nm_K} {w : nm_W} {k n : Nat} {L : Nat} {xs : Nat → Int32} {ls st : List Value} {x : UInt32} {y : Int32} : x_L_law L xs d Q 185 ls (.int y :: .float x :: st) w k n ↔ (vp_in y L ∧ x_L_law L xs d Q 186 ls (.int (xs y.toNatClampNeg) :: st) w k n) := rw_sald rfl
theorem r_L_law_186 {d : Nat} {Q : nm_K} {w : nm_W} {k n : Nat} {L : Nat} {xs : Nat → Int32} {a1 a2 a3 : Value} {x : UInt32} {st : List Value} : x_L_law L xs d Q 186 [.float x, a1, a2, a3] st w k n ↔ x_L_law L xs d Q 187 [.float x, a1, a2, a3] (.float x :: st) w k n := rw_ldF rfl rfl
theorem r_L_law_187 {d : Nat} {Q : nm_K} {w : nm_W} {k n : Nat} {L : Nat} {xs : Nat → Int32} {a0 a1 a2 : Value} {x : Int32} {st : List Value} : x_L_law L xs d Q 187 [a0, a1, a2, .int x] st w k n ↔ x_L_law L xs d Q 188 [a0, a1, a2, .int x] (.int x :: st) w k n := rw_ldI rfl rfl
theorem r_L_law_188 {d : Nat} {Q : nm_K} {w : nm_W} {k n : Nat} {L : Nat} {xs : Nat → Int32} {ls st : List Value} : x_L_law L xs d Q 188 ls st w k n ↔ x_L_law L xs d Q 189 ls (.int 2 :: st) w k n := rw_push rfl
theorem r_L_law_189 {d : Nat} {Q : nm_K} {w : nm_W} {k n : Nat} {L : Nat} {xs : Nat → Int32} {ls st : List Value} {x y : Int32} : x_L_law L xs d Q 189 ls (.int y :: .int x :: st) w k n ↔ x_L_law L xs d Q 190 ls (.int (x + y) :: st) w k n := rw_bin (f := fun x y => x + y) rfl
theorem r_L_law_190 {d : Nat} {Q : nm_K} {w : nm_W} {k n : Nat} {L : Nat} {xs : Nat → Int32} {ls st : List Value} {x : UInt32} {y : Int32} : x_L_law L xs d Q 190 ls (.int y :: .float x :: st) w k n ↔ (vp_in y L ∧ x_L_law L xs d Q 191 ls (.int (xs y.toNatClampNeg) :: st) w k n) := rw_sald rfl
theorem r_L_law_191 {d : Nat} {Q : nm_K} {w : nm_W} {k n : Nat} {L : Nat} {xs : Nat → Int32} {a1 a2 a3 : Value} {x : UInt32} {st : List Value} : x_L_law L xs d Q 191 [.float x, a1, a2, a3] st w k n ↔ x_L_law L xs d Q 192 [.float x, a1, a2, a3] (.float x :: st) w k n := rw_ldF rfl rfl
theorem r_L_law_192 {d : Nat} {Q : nm_K} {w : nm_W} {k n : Nat} {L : Nat} {xs : Nat → Int32} {a0 a1 a2 : Value} {x : Int32} {st : List Value} : x_L_law L xs d Q 192 [a0, a1, a2, .int x] st w k n ↔ x_L_law L xs d Q 193 [a0, a1, a2, .int x] (.int x :: st) w k n := rw_ldI rfl rfl
theorem r_L_law_193 {d : Nat} {Q : nm_K} {w : nm_W} {k n : Nat} {L : Nat} {xs : Nat → Int32} {ls st : List Value} : x_L_law L xs d Q 193 ls st w k n ↔ x_L_law L xs d Q 194 ls (.int 3 :: st) w k n := rw_push rfl
theorem r_L_law_194 {d : Nat} {Q : nm_K} {w : nm_W} {k n : Nat} {L : Nat} {xs : Nat → Int32} {ls st : List Value} {x y : Int32} : x_L_law L xs d Q 194 ls (.int y :: .int x :: st) w k n ↔ x_L_law L xs d Q 195 ls (.int (x + y) :: st) w k n := rw_bin (f := fun x y => x + y) rfl
theorem r_L_law_195 {d : Nat} {Q : nm_K} {w : nm_W} {k n : Nat} {L : Nat} {xs : Nat → Int32} {ls st : List Value} {x : UInt32} {y : Int32} : x_L_law L xs d Q 195 ls (.int y :: .float x :: st) w k n ↔ (vp_in y L ∧ x_L_law L xs d Q 196 ls (.int (xs y.toNatClampNeg) :: st) w k n) := rw_sald rfl
theorem r_L_law_196 {d : Nat} {Q : nm_K} {w : nm_W} {k n : Nat} {L : Nat} {xs : Nat → Int32} {a1 a2 a3 : Value} {x : UInt32} {st : List Value} : x_L_law L xs d Q 196 [.float x, a1, a2, a3] st w k n ↔ x_L_law L xs d Q 197 [.float x, a1, a2, a3] (.float x :: st) w k n := rw_ldF rfl rfl
theorem r_L_law_197 {d : Nat} {Q : nm_K} {w : nm_W} {k n : Nat} {L : Nat} {xs : Nat → Int32} {a0 a1 a2 : Value} {x : Int32} {st : List Value} : x_L_law L xs d Q 197 [a0, a1, a2, .int x] st w k n ↔ x_L_law L xs d Q 198 [a0, a1, a2, .int x] (.int x :: st) w k n := rw_ldI rfl rfl
theorem r_L_law_198 {d : Nat} {Q : nm_K} {w : nm_W} {k n : Nat} {L : Nat} {xs : Nat → Int32} {ls st : List Value} : x_L_law L xs d Q 198 ls st w k n ↔ x_L_law L xs d Q 199 ls (.int 4 :: st) w k n := rw_push rfl
theorem r_L_law_199 {d : Nat} {Q : nm_K} {w : nm_W} {k n : Nat} {L : Nat} {xs : Nat → Int32} {ls st : List Value} {x y : Int32} : x_L_law L xs d Q 199 ls (.int y :: .int x :: st) w k n ↔ x_L_law L xs d Q 200 ls (.int (x + y) :: st) w k n := rw_bin (f := fun x y => x + y) rfl
theorem r_L_law_200 {d : Nat} {Q : nm_K} {w : nm_W} {k n : Nat} {L : Nat} {xs : Nat → Int32} {ls st : List Value} {x : UInt32} {y : Int32} : x_L_law L xs d Q 200 ls (.int y :: .float x :: st) w k n ↔ (vp_in y L ∧ x_L_law L xs d Q 201 ls (.int (xs y.toNatClampNeg) :: st) w k n) := rw_sald rfl
theorem r_L_law_201 {d : Nat} {Q : nm_K} {w : nm_W} {k n : Nat} {L : Nat} {xs : Nat → Int32} {ls : List Value} {x0 : Nat} {x1 : Int32} {x2 : Int32} {x3 : Int32} {x4 : Int32} {s0 : Value} : x_L_law L xs d Q 201 ls [.int x4, .int x3, .int x2, .int x1, .ref x0, s0] w k n ↔ ((nm_obj w x0 9 ∧ k + 0 ≤ 600000 ∧ n + 0 ≤ 7302250) ∧ nm_call d 103 [.ref x0, .int x1, .int x2, .int x3, .int x4] w (fun v w' => x_L_law L xs d Q 204 ls (v ++ [s0]) w' k n)) := rw_callC rfl ⟨Nat.le_of_ble_eq_true rfl, Nat.le_of_ble_eq_true rfl⟩ rfl rfl
theorem r_L_law_204 {d : Nat} {Q : nm_K} {w : nm_W} {k n : Nat} {L : Nat} {xs : Nat → Int32} {ls st : List Value} {x y : Int32} : x_L_law L xs d Q 204 ls (.int y :: .int x :: st) w k n ↔ (if x = y then x_L_law L xs d Q 893 ls st w k n else x_L_law L xs d Q 207 ls st w k n) := rw_if (f := fun x y => decide (x = y)) rfl nm_dt
theorem r_L_law_207 {d : Nat} {Q : nm_K} {w : nm_W} {k n : Nat} {L : Nat} {xs : Nat → Int32} {ls st : List Value} : x_L_law L xs d Q 207 ls st w k n ↔ x_L_law L xs d Q 208 ls (.int 0 :: st) w k n := rw_push rfl
theorem r_L_law_208 {d : Nat} {Q : nm_K} {w : nm_W} {k n : Nat} {L : Nat} {xs : Nat → Int32} {ls : List Value} {x : Int32} : x_L_law L xs d Q 208 ls [.int x] w k n ↔ ((k ≤ 600000 ∧ n ≤ 7302250) ∧ (x = 0 ∨ x = 1) ∧ Q [.int x] w) := rw_retZ rfl
theorem r_L_law_209 {d : Nat} {Q : nm_K} {w : nm_W} {k n : Nat} {L : Nat} {xs : Nat → Int32} {a0 a2 a3 : Value} {x : Nat} {st : List Value} : x_L_law L xs d Q 209 [a0, .ref x, a2, a3] st w k n ↔ x_L_law L xs d Q 210 [a0, .ref x, a2, a3] (.ref x :: st) w k n := rw_ldA rfl rfl
theorem r_L_law_210 {d : Nat} {Q : nm_K} {w : nm_W} {k n : Nat} {L : Nat} {xs : Nat → Int32} {a1 a2 a3 : Value} {x : UInt32} {st : List Value} : x_L_law L xs d Q 210 [.float x, a1, a2, a3] st w k n ↔ x_L_law L xs d Q 211 [.float x, a1, a2, a3] (.float x :: st) w k n := rw_ldF rfl rfl
theorem r_L_law_211 {d : Nat} {Q : nm_K} {w : nm_W} {k n : Nat} {L : Nat} {xs : Nat → Int32} {a0 a1 a2 : Value} {x : Int32} {st : List Value} : x_L_law L xs d Q 211 [a0, a1, a2, .int x] st w k n ↔ x_L_law L xs d Q 212 [a0, a1, a2, .int x] (.int x :: st) w k n := rw_ldI rfl rfl
theorem r_L_law_212 {d : Nat} {Q : nm_K} {w : nm_W} {k n : Nat} {L : Nat} {xs : Nat → Int32} {ls st : List Value} : x_L_law L xs d Q 212 ls st w k n ↔ x_L_law L xs d Q 213 ls (.int 1 :: st) w k n := rw_push rfl
theorem r_L_law_213 {d : Nat} {Q : nm_K} {w : nm_W} {k n : Nat} {L : Nat} {xs : Nat → Int32} {ls st : List Value} {x y : Int32} : x_L_law L xs d Q 213 ls (.int y :: .int x :: st) w k n ↔ x_L_law L xs d Q 214 ls (.int (x + y) :: st) w k n := rw_bin (f := fun x y => x + y) rfl
theorem r_L_law_214 {d : Nat} {Q : nm_K} {w : nm_W} {k n : Nat} {L : Nat} {xs : Nat → Int32} {ls st : List Value} {x : UInt32} {y : Int32} : x_L_law L xs d Q 214 ls (.int y :: .float x :: st) w k n ↔ (vp_in y L ∧ x_L_law L xs d Q 215 ls (.int (xs y.toNatClampNeg) :: st) w k n) := rw_sald rfl
theorem r_L_law_215 {d : Nat} {Q : nm_K} {w : nm_W} {k n : Nat} {L : Nat} {xs : Nat → Int32} {a1 a2 a3 : Value} {x : UInt32} {st : List Value} : x_L_law L xs d Q 215 [.float x, a1, a2, a3] st w k n ↔ x_L_law L xs d Q 216 [.float x, a1, a2, a3] (.float x :: st) w k n := rw_ldF rfl rfl
theorem r_L_law_216 {d : Nat} {Q : nm_K} {w : nm_W} {k n : Nat} {L : Nat} {xs : Nat → Int32} {a0 a1 a2 : Value} {x : Int32} {st : List Value} : x_L_law L xs d Q 216 [a0, a1, a2, .int x] st w k n ↔ x_L_law L xs d Q 217 [a0, a1, a2, .int x] (.int x :: st) w k n := rw_ldI rfl rfl
theorem r_L_law_217 {d : Nat} {Q : nm_K} {w : nm_W} {k n : Nat} {L : Nat} {xs : Nat → Int32} {ls st : List Value} : x_L_law L xs d Q 217 ls st w k n ↔ x_L_law L xs d Q 218 ls (.int 2 :: st) w k n := rw_push rfl
theorem r_L_law_218 {d : Nat} {Q : nm_K} {w : nm_W} {k n : Nat} {L : Nat} {xs : Nat → Int32} {ls st : List Value} {x y : Int32} : x_L_law L xs d Q 218 ls (.int y :: .int x :: st) w k n ↔ x_L_law L xs d Q 219 ls (.int (x + y) :: st) w k n := rw_bin (f := fun x y => x + y) rfl
theorem r_L_law_219 {d : Nat} {Q : nm_K} {w : nm_W} {k n : Nat} {L : Nat} {xs : Nat → Int32} {ls st : List Value} {x : UInt32} {y : Int32} : x_L_law L xs d Q 219 ls (.int y :: .float x :: st) w k n ↔ (vp_in y L ∧ x_L_law L xs d Q 220 ls (.int (xs y.toNatClampNeg) :: st) w k n) := rw_sald rfl
theorem r_L_law_220 {d : Nat} {Q : nm_K} {w : nm_W} {k n : Nat} {L : Nat} {xs : Nat → Int32} {a1 a2 a3 : Value} {x : UInt32} {st : List Value} : x_L_law L xs d Q 220 [.float x, a1, a2, a3] st w k n ↔ x_L_law L xs d Q 221 [.float x, a1, a2, a3] (.float x :: st) w k n := rw_ldF rfl rfl
theorem r_L_law_221 {d : Nat} {Q : nm_K} {w : nm_W} {k n : Nat} {L : Nat} {xs : Nat → Int32} {a0 a1 a2 : Value} {x : Int32} {st : List Value} : x_L_law L xs d Q 221 [a0, a1, a2, .int x] st w k n ↔ x_L_law L xs d Q 222 [a0, a1, a2, .int x] (.int x :: st) w k n := rw_ldI rfl rfl
theorem r_L_law_222 {d : Nat} {Q : nm_K} {w : nm_W} {k n : Nat} {L : Nat} {xs : Nat → Int32} {ls st : List Value} : x_L_law L xs d Q 222 ls st w k n ↔ x_L_law L xs d Q 223 ls (.int 3 :: st) w k n := rw_push rfl
theorem r_L_law_223 {d : Nat} {Q : nm_K} {w : nm_W} {k n : Nat} {L : Nat} {xs : Nat → Int32} {ls st : List Value} {x y : Int32} : x_L_law L xs d Q 223 ls (.int y :: .int x :: st) w k n ↔ x_L_law L xs d Q 224 ls (.int (x + y) :: st) w k n := rw_bin (f := fun x y => x + y) rfl
theorem r_L_law_224 {d : Nat} {Q : nm_K} {w : nm_W} {k n : Nat} {L : Nat} {xs : Nat → Int32} {ls st : List Value} {x : UInt32} {y : Int32} : x_L_law L xs d Q 224 ls (.int y :: .float x :: st) w k n ↔ (vp_in y L ∧ x_L_law L xs d Q 225 ls (.int (xs y.toNatClampNeg) :: st) w k n) := rw_sald rfl
theorem r_L_law_225 {d : Nat} {Q : nm_K} {w : nm_W} {k n : Nat} {L : Nat} {xs : Nat → Int32} {ls : List Value} {x0 : Nat} {x1 : Int32} {x2 : Int32} {x3 : Int32} : x_L_law L xs d Q 225 ls [.int x3, .int x2, .int x1, .ref x0] w k n ↔ ((nm_obj w x0 8 ∧ k + 0 ≤ 600000 ∧ n + 0 ≤ 7302250) ∧ nm_call d 70 [.ref x0, .int x1, .int x2, .int x3] w (fun v w' => x_L_law L xs d Q 228 ls (v ++ []) w' k n)) := rw_callC rfl ⟨Nat.le_of_ble_eq_true rfl, Nat.le_of_ble_eq_true rfl⟩ rfl rfl
theorem r_L_law_228 {d : Nat} {Q : nm_K} {w : nm_W} {k n : Nat} {L : Nat} {xs : Nat → Int32} {a0 a1 a3 : Value} {x : Nat} {st : List Value} : x_L_law L xs d Q 228 [a0, a1, .ref x, a3] st w k n ↔ x_L_law L xs d Q 229 [a0, a1, .ref x, a3] (.ref x :: st) w k n := rw_ldA rfl rfl
theorem r_L_law_229 {d : Nat} {Q : nm_K} {w : nm_W} {k n : Nat} {L : Nat} {xs : Nat → Int32} {a1 a2 a3 : Value} {x : UInt32} {st : List Value} : x_L_law L xs d Q 229 [.float x, a1, a2, a3] st w k n ↔ x_L_law L xs d Q 230 [.float x, a1, a2, a3] (.float x :: st) w k n := rw_ldF rfl rfl
theorem r_L_law_230 {d : Nat} {Q : nm_K} {w : nm_W} {k n : Nat} {L : Nat} {xs : Nat → Int32} {a0 a1 a2 : Value} {x : Int32} {st : List Value} : x_L_law L xs d Q 230 [a0, a1, a2, .int x] st w k n ↔ x_L_law L xs d Q 231 [a0, a1, a2, .int x] (.int x :: st) w k n := rw_ldI rfl rfl
theorem r_L_law_231 {d : Nat} {Q : nm_K} {w : nm_W} {k n : Nat} {L : Nat} {xs : Nat → Int32} {ls st : List Value} : x_L_law L xs d Q 231 ls st w k n ↔ x_L_law L xs d Q 232 ls (.int 1 :: st) w k n := rw_push rfl
theorem r_L_law_232 {d : Nat} {Q : nm_K} {w : nm_W} {k n : Nat} {L : Nat} {xs : Nat → Int32} {ls st : List Value} {x y : Int32} : x_L_law L xs d Q 232 ls (.int y :: .int x :: st) w k n ↔ x_L_law L xs d Q 233 ls (.int (x + y) :: st) w k n := rw_bin (f := fun x y => x + y) rfl
theorem r_L_law_233 {d : Nat} {Q : nm_K} {w : nm_W} {k n : Nat} {L : Nat} {xs : Nat → Int32} {ls st : List Value} {x : UInt32} {y : Int32} : x_L_law L xs d Q 233 ls (.int y :: .float x :: st) w k n ↔ (vp_in y L ∧ x_L_law L xs d Q 234 ls (.int (xs y.toNatClampNeg) :: st) w k n) := rw_sald rfl
theorem r_L_law_234 {d : Nat} {Q : nm_K} {w : nm_W} {k n : Nat} {L : Nat} {xs : Nat → Int32} {a1 a2 a3 : Value} {x : UInt32} {st : List Value} : x_L_law L xs d Q 234 [.float x, a1, a2, a3] st w k n ↔ x_L_law L xs d Q 235 [.float x, a1, a2, a3] (.float x :: st) w k n := rw_ldF rfl rfl
theorem r_L_law_235 {d : Nat} {Q : nm_K} {w : nm_W} {k n : Nat} {L : Nat} {xs : Nat → Int32} {a0 a1 a2 : Value} {x : Int32} {st : List Value} : x_L_law L xs d Q 235 [a0, a1, a2, .int x] st w k n ↔ x_L_law L xs d Q 236 [a0, a1, a2, .int x] (.int x :: st) w k n := rw_ldI rfl rfl
theorem r_L_law_236 {d : Nat} {Q : nm_K} {w : nm_W} {k n : Nat} {L : Nat} {xs : Nat → Int32} {ls st : List Value} : x_L_law L xs d Q 236 ls st w k n ↔ x_L_law L xs d Q 237 ls (.int 2 :: st) w k n := rw_push rfl
theorem r_L_law_237 {d : Nat} {Q : nm_K} {w : nm_W} {k n : Nat} {L : Nat} {xs : Nat → Int32} {ls st : List Value} {x y : Int32} : x_L_law L xs d Q 237 ls (.int y :: .int x :: st) w k n ↔ x_L_law L xs d Q 238 ls (.int (x + y) :: st) w k n := rw_bin (f := fun x y => x + y) rfl
theorem r_L_law_238 {d : Nat} {Q : nm_K} {w : nm_W} {k n : Nat} {L : Nat} {xs : Nat → Int32} {ls st : List Value} {x : UInt32} {y : Int32} : x_L_law L xs d Q 238 ls (.int y :: .float x :: st) w k n ↔ (vp_in y L ∧ x_L_law L xs d Q 239 ls (.int (xs y.toNatClampNeg) :: st) w k n) := rw_sald rfl
theorem r_L_law_239 {d : Nat} {Q : nm_K} {w : nm_W} {k n : Nat} {L : Nat} {xs : Nat → Int32} {a1 a2 a3 : Value} {x : UInt32} {st : List Value} : x_L_law L xs d Q 239 [.float x, a1, a2, a3] st w k n ↔ x_L_law L xs d Q 240 [.float x, a1, a2, a3] (.float x :: st) w k n := rw_ldF rfl rfl
theorem r_L_law_240 {d : Nat} {Q : nm_K} {w : nm_W} {k n : Nat} {L : Nat} {xs : Nat → Int32} {a0 a1 a2 : Value} {x : Int32} {st : List Value} : x_L_law L xs d Q 240 [a0, a1, a2, .int x] st w k n ↔ x_L_law L xs d Q 241 [a0, a1, a2, .int x] (.int x :: st) w k n := rw_ldI rfl rfl
theorem r_L_law_241 {d : Nat} {Q : nm_K} {w : nm_W} {k n : Nat} {L : Nat} {xs : Nat → Int32} {ls st : List Value} : x_L_law L xs d Q 241 ls st w k n ↔ x_L_law L xs d Q 242 ls (.int 3 :: st) w k n := rw_push rfl
theorem r_L_law_242 {d : Nat} {Q : nm_K} {w : nm_W} {k n : Nat} {L : Nat} {xs : Nat → Int32} {ls st : List Value} {x y : Int32} : x_L_law L xs d Q 242 ls (.int y :: .int x :: st) w k n ↔ x_L_law L xs d Q 243 ls (.int (x + y) :: st) w k n := rw_bin (f := fun x y => x + y) rfl
theorem r_L_law_243 {d : Nat} {Q : nm_K} {w : nm_W} {k n : Nat} {L : Nat} {xs : Nat → Int32} {ls st : List Value} {x : UInt32} {y : Int32} : x_L_law L xs d Q 243 ls (.int y :: .float x :: st) w k n ↔ (vp_in y L ∧ x_L_law L xs d Q 244 ls (.int (xs y.toNatClampNeg) :: st) w k n) := rw_sald rfl
theorem r_L_law_244 {d : Nat} {Q : nm_K} {w : nm_W} {k n : Nat} {L : Nat} {xs : Nat → Int32} {ls : List Value} {x0 : Nat} {x1 : Int32} {x2 : Int32} {x3 : Int32} {s0 : Value} : x_L_law L xs d Q 244 ls [.int x3, .int x2, .int x1, .ref x0, s0] w k n ↔ ((nm_obj w x0 9 ∧ k + 0 ≤ 600000 ∧ n + 0 ≤ 7302250) ∧ nm_call d 104 [.ref x0, .int x1, .int x2, .int x3] w (fun v w' => x_L_law L xs d Q 247 ls (v ++ [s0]) w' k n)) := rw_callC rfl ⟨Nat.le_of_ble_eq_true rfl, Nat.le_of_ble_eq_true rfl⟩ rfl rfl
theorem r_L_law_247 {d : Nat} {Q : nm_K} {w : nm_W} {k n : Nat} {L : Nat} {xs : Nat → Int32} {ls st : List Value} {x y : Int32} : x_L_law L xs d Q 247 ls (.int y :: .int x :: st) w k n ↔ (if x = y then x_L_law L xs d Q 893 ls st w k n else x_L_law L xs d Q 250 ls st w k n) := rw_if (f := fun x y => decide (x = y)) rfl nm_dt
theorem r_L_law_250 {d : Nat} {Q : nm_K} {w : nm_W} {k n : Nat} {L : Nat} {xs : Nat → Int32} {ls st : List Value} : x_L_law L xs d Q 250 ls st w k n ↔ x_L_law L xs d Q 251 ls (.int 0 :: st) w k n := rw_push rfl
theorem r_L_law_251 {d : Nat} {Q : nm_K} {w : nm_W} {k n : Nat} {L : Nat} {xs : Nat → Int32} {ls : List Value} {x : Int32} : x_L_law L xs d Q 251 ls [.int x] w k n ↔ ((k ≤ 600000 ∧ n ≤ 7302250) ∧ (x = 0 ∨ x = 1) ∧ Q [.int x] w) := rw_retZ rfl
theorem r_L_law_252 {d : Nat} {Q : nm_K} {w : nm_W} {k n : Nat} {L : Nat} {xs : Nat → Int32} {a0 a2 a3 : Value} {x : Nat} {st : List Value} : x_L_law L xs d Q 252 [a0, .ref x, a2, a3] st w k n ↔ x_L_law L xs d Q 253 [a0, .ref x, a2, a3] (.ref x :: st) w k n := rw_ldA rfl rfl
theorem r_L_law_253 {d : Nat} {Q : nm_K} {w : nm_W} {k n : Nat} {L : Nat} {xs : Nat → Int32} {a1 a2 a3 : Value} {x : UInt32} {st : List Value} : x_L_law L xs d Q 253 [.float x, a1, a2, a3] st w k n ↔ x_L_law L xs d Q 254 [.float x, a1, a2, a3] (.float x :: st) w k n := rw_ldF rfl rfl
theorem r_L_law_254 {d : Nat} {Q : nm_K} {w : nm_W} {k n : Nat} {L : Nat} {xs : Nat → Int32} {a0 a1 a2 : Value} {x : Int32} {st : List Value} : x_L_law L xs d Q 254 [a0, a1, a2, .int x] st w k n ↔ x_L_law L xs d Q 255 [a0, a1, a2, .int x] (.int x :: st) w k n := rw_ldI rfl rfl
theorem r_L_law_255 {d : Nat} {Q : nm_K} {w : nm_W} {k n : Nat} {L : Nat} {xs : Nat → Int32} {ls st : List Value} : x_L_law L xs d Q 255 ls st w k n ↔ x_L_law L xs d Q 256 ls (.int 1 :: st) w k n := rw_push rfl
theorem r_L_law_256 {d : Nat} {Q : nm_K} {w : nm_W} {k n : Nat} {L : Nat} {xs : Nat → Int32} {ls st : List Value} {x y : Int32} : x_L_law L xs d Q 256 ls (.int y :: .int x :: st) w k n ↔ x_L_law L xs d Q 257 ls (.int (x + y) :: st) w k n := rw_bin (f := fun x y => x + y) rfl
theorem r_L_law_257 {d : Nat} {Q : nm_K} {w : nm_W} {k n : Nat} {L : Nat} {xs : Nat → Int32} {ls st : List Value} {x : UInt32} {y : Int32} : x_L_law L xs d Q 257 ls (.int y :: .float x :: st) w k n ↔ (vp_in y L ∧ x_L_law L xs d Q 258 ls (.int (xs y.toNatClampNeg) :: st) w k n) := rw_sald rfl
theorem r_L_law_258 {d : Nat} {Q : nm_K} {w : nm_W} {k n : Nat} {L : Nat} {xs : Nat → Int32} {a1 a2 a3 : Value} {x : UInt32} {st : List Value} : x_L_law L xs d Q 258 [.float x, a1, a2, a3] st w k n ↔ x_L_law L xs d Q 259 [.float x, a1, a2, a3] (.float x :: st) w k n := rw_ldF rfl rfl
theorem r_L_law_259 {d : Nat} {Q : nm_K} {w : nm_W} {k n : Nat} {L : Nat} {xs : Nat → Int32} {a0 a1 a2 : Value} {x : Int32} {st : List Value} : x_L_law L xs d Q 259 [a0, a1, a2, .int x] st w k n ↔ x_L_law L xs d Q 260 [a0, a1, a2, .int x] (.int x :: st) w k n := rw_ldI rfl rfl
theorem r_L_law_260 {d : Nat} {Q : nm_K} {w : nm_W} {k n : Nat} {L : Nat} {xs : Nat → Int32} {ls st : List Value} : x_L_law L xs d Q 260 ls st w k n ↔ x_L_law L xs d Q 261 ls (.int 2 :: st) w k n := rw_push rfl
theorem r_L_law_261 {d : Nat} {Q : nm_K} {w : nm_W} {k n : Nat} {L : Nat} {xs : Nat → Int32} {ls st : List Value} {x y : Int32} : x_L_law L xs d Q 261 ls (.int y :: .int x :: st) w k n ↔ x_L_law L xs d Q 262 ls (.int (x + y) :: st) w k n := rw_bin (f := fun x y => x + y) rfl
theorem r_L_law_262 {d : Nat} {Q : nm_K} {w : nm_W} {k n : Nat} {L : Nat} {xs : Nat → Int32} {ls st : List Value} {x : UInt32} {y : Int32} : x_L_law L xs d Q 262 ls (.int y :: .float x :: st) w k n ↔ (vp_in y L ∧ x_L_law L xs d Q 263 ls (.int (xs y.toNatClampNeg) :: st) w k n) := rw_sald rfl
theorem r_L_law_263 {d : Nat} {Q : nm_K} {w : nm_W} {k n : Nat} {L : Nat} {xs : Nat → Int32} {a1 a2 a3 : Value} {x : UInt32} {st : List Value} : x_L_law L xs d Q 263 [.float x, a1, a2, a3] st w k n ↔ x_L_law L xs d Q 264 [.float x, a1, a2, a3] (.float x :: st) w k n := rw_ldF rfl rfl
theorem r_L_law_264 {d : Nat} {Q : nm_K} {w : nm_W} {k n : Nat} {L : Nat} {xs : Nat → Int32} {a0 a1 a2 : Value} {x : Int32} {st : List Value} : x_L_law L xs d Q 264 [a0, a1, a2, .int x] st w k n ↔ x_L_law L xs d Q 265 [a0, a1, a2, .int x] (.int x :: st) w k n := rw_ldI rfl rfl
theorem r_L_law_265 {d : Nat} {Q : nm_K} {w : nm_W} {k n : Nat} {L : Nat} {xs : Nat → Int32} {ls st : List Value} : x_L_law L xs d Q 265 ls st w k n ↔ x_L_law L xs d Q 266 ls (.int 3 :: st) w k n := rw_push rfl
theorem r_L_law_266 {d : Nat} {Q : nm_K} {w : nm_W} {k n : Nat} {L : Nat} {xs : Nat → Int32} {ls st : List Value} {x y : Int32} : x_L_law L xs d Q 266 ls (.int y :: .int x :: st) w k n ↔ x_L_law L xs d Q 267 ls (.int (x + y) :: st) w k n := rw_bin (f := fun x y => x + y) rfl
set_option maxRecDepth 100000 in
theorem r_L_law_267 {d : Nat} {Q : nm_K} {w : nm_W} {k n : Nat} {L : Nat} {xs : Nat → Int32} {ls st : List Value} {x : UInt32} {y : Int32} : x_L_law L xs d Q 267 ls (.int y :: .float x :: st) w k n ↔ (vp_in y L ∧ x_L_law L xs d Q 268 ls (.int (xs y.toNatClampNeg) :: st) w k n) := rw_sald rfl
set_option maxRecDepth 100000 in
theorem r_L_law_268 {d : Nat} {Q : nm_K} {w : nm_W} {k n : Nat} {L : Nat} {xs : Nat → Int32} {ls : List Value} {x0 : Nat} {x1 : Int32} {x2 : Int32} {x3 : Int32} : x_L_law L xs d Q 268 ls [.int x3, .int x2, .int x1, .ref x0] w k n ↔ ((nm_obj w x0 8 ∧ k + 0 ≤ 600000 ∧ n + 0 ≤ 7302250) ∧ nm_call d 71 [.ref x0, .int x1, .int x2, .int x3] w (fun v w' => x_L_law L xs d Q 271 ls (v ++ []) w' k n)) := rw_callC rfl ⟨Nat.le_of_ble_eq_true rfl, Nat.le_of_ble_eq_true rfl⟩ rfl rfl
set_option maxRecDepth 100000 in
theorem r_L_law_271 {d : Nat} {Q : nm_K} {w : nm_W} {k n : Nat} {L : Nat} {xs : Nat → Int32} {a0 a1 a3 : Value} {x : Nat} {st : List Value} : x_L_law L xs d Q 271 [a0, a1, .ref x, a3] st w k n ↔ x_L_law L xs d Q 272 [a0, a1, .ref x, a3] (.ref x :: st) w k n := rw_ldA rfl rfl
set_option maxRecDepth 100000 in
theorem r_L_law_272 {d : Nat} {Q : nm_K} {w : nm_W} {k n : Nat} {L : Nat} {xs : Nat → Int32} {a1 a2 a3 : Value} {x : UInt32} {st : List Value} : x_L_law L xs d Q 272 [.float x, a1, a2, a3] st w k n ↔ x_L_law L xs d Q 273 [.float x, a1, a2, a3] (.float x :: st) w k n := rw_ldF rfl rfl
set_option maxRecDepth 100000 in
theorem r_L_law_273 {d : Nat} {Q : nm_K} {w : nm_W} {k n : Nat} {L : Nat} {xs : Nat → Int32} {a0 a1 a2 : Value} {x : Int32} {st : List Value} : x_L_law L xs d Q 273 [a0, a1, a2, .int x] st w k n ↔ x_L_law L xs d Q 274 [a0, a1, a2, .int x] (.int x :: st) w k n := rw_ldI rfl rfl
set_option maxRecDepth 100000 in
theorem r_L_law_274 {d : Nat} {Q : nm_K} {w : nm_W} {k n : Nat} {L : Nat} {xs : Nat → Int32} {ls st : List Value} : x_L_law L xs d Q 274 ls st w k n ↔ x_L_law L xs d Q 275 ls (.int 1 :: st) w k n := rw_push rfl
set_option maxRecDepth 100000 in
theorem r_L_law_275 {d : Nat} {Q : nm_K} {w : nm_W} {k n : Nat} {L : Nat} {xs : Nat → Int32} {ls st : List Value} {x y : Int32} : x_L_law L xs d Q 275 ls (.int y :: .int x :: st) w k n ↔ x_L_law L xs d Q 276 ls (.int (x + y) :: st) w k n := rw_bin (f := fun x y => x + y) rfl
set_option maxRecDepth 100000 in
theorem r_L_law_276 {d : Nat} {Q : nm_K} {w : nm_W} {k n : Nat} {L : Nat} {xs : Nat → Int32} {ls st : List Value} {x : UInt32} {y : Int32} : x_L_law L xs d Q 276 ls (.int y :: .float x :: st) w k n ↔ (vp_in y L ∧ x_L_law L xs d Q 277 ls (.int (xs y.toNatClampNeg) :: st) w k n) := rw_sald rfl
set_option maxRecDepth 100000 in
theorem r_L_law_277 {d : Nat} {Q : nm_K} {w : nm_W} {k n : Nat} {L : Nat} {xs : Nat → Int32} {a1 a2 a3 : Value} {x : UInt32} {st : List Value} : x_L_law L xs d Q 277 [.float x, a1, a2, a3] st w k n ↔ x_L_law L xs d Q 278 [.float x, a1, a2, a3] (.float x :: st) w k n := rw_ldF rfl rfl
set_option maxRecDepth 100000 in
theorem r_L_law_278 {d : Nat} {Q : nm_K} {w : nm_W} {k n : Nat} {L : Nat} {xs : Nat → Int32} {a0 a1 a2 : Value} {x : Int32} {st : List Value} : x_L_law L xs d Q 278 [a0, a1, a2, .int x] st w k n ↔ x_L_law L xs d Q 279 [a0, a1, a2, .int x] (.int x :: st) w k n := rw_ldI rfl rfl
set_option maxRecDepth 100000 in
theorem r_L_law_279 {d : Nat} {Q : nm_K} {w : nm_W} {k n : Nat} {L : Nat} {xs : Nat → Int32} {ls st : List Value} : x_L_law L xs d Q 279 ls st w k n ↔ x_L_law L xs d Q 280 ls (.int 2 :: st) w k n := rw_push rfl
set_option maxRecDepth 100000 in
theorem r_L_law_280 {d : Nat} {Q : nm_K} {w : nm_W} {k n : Nat} {L : Nat} {xs : Nat → Int32} {ls st : List Value} {x y : Int32} : x_L_law L xs d Q 280 ls (.int y :: .int x :: st) w k n ↔ x_L_law L xs d Q 281 ls (.int (x + y) :: st) w k n := rw_bin (f := fun x y => x + y) rfl
set_option maxRecDepth 100000 in
theorem r_L_law_281 {d : Nat} {Q : nm_K} {w : nm_W} {k n : Nat} {L : Nat} {xs : Nat → Int32} {ls st : List Value} {x : UInt32} {y : Int32} : x_L_law L xs d Q 281 ls (.int y :: .float x :: st) w k n ↔ (vp_in y L ∧ x_L_law L xs d Q 282 ls (.int (xs y.toNatClampNeg) :: st) w k n) := rw_sald rfl
set_option maxRecDepth 100000 in
theorem r_L_law_282 {d : Nat} {Q : nm_K} {w : nm_W} {k n : Nat} {L : Nat} {xs : Nat → Int32} {a1 a2 a3 : Value} {x : UInt32} {st : List Value} : x_L_law L xs d Q 282 [.float x, a1, a2, a3] st w k n ↔ x_L_law L xs d Q 283 [.float x, a1, a2, a3] (.float x :: st) w k n := rw_ldF rfl rfl
set_option maxRecDepth 100000 in
theorem r_L_law_283 {d : Nat} {Q : nm_K} {w : nm_W} {k n : Nat} {L : Nat} {xs : Nat → Int32} {a0 a1 a2 : Value} {x : Int32} {st : List Value} : x_L_law L xs d Q 283 [a0, a1, a2, .int x] st w k n ↔ x_L_law L xs d Q 284 [a0, a1, a2, .int x] (.int x :: st) w k n := rw_ldI rfl rfl
set_option maxRecDepth 100000 in
theorem r_L_law_284 {d : Nat} {Q : nm_K} {w : nm_W} {k n : Nat} {L : Nat} {xs : Nat → Int32} {ls st : List Value} : x_L_law L xs d Q 284 ls st w k n ↔ x_L_law L xs d Q 285 ls (.int 3 :: st) w k n := rw_push rfl
set_option maxRecDepth 100000 in
theorem r_L_law_285 {d : Nat} {Q : nm_K} {w : nm_W} {k n : Nat} {L : Nat} {xs : Nat → Int32} {ls st : List Value} {x y : Int32} : x_L_law L xs d Q 285 ls (.int y :: .int x :: st) w k n ↔ x_L_law L xs d Q 286 ls (.int (x + y) :: st) w k n := rw_bin (f := fun x y => x + y) rfl
set_option maxRecDepth 100000 in
theorem r_L_law_286 {d : Nat} {Q : nm_K} {w : nm_W} {k n : Nat} {L : Nat} {xs : Nat → Int32} {ls st : List Value} {x : UInt32} {y : Int32} : x_L_law L xs d Q 286 ls (.int y :: .float x :: st) w k n ↔ (vp_in y L ∧ x_L_law L xs d Q 287 ls (.int (xs y.toNatClampNeg) :: st) w k n) := rw_sald rfl
set_option maxRecDepth 100000 in
theorem r_L_law_287 {d : Nat} {Q : nm_K} {w : nm_W} {k n : Nat} {L : Nat} {xs : Nat → Int32} {ls : List Value} {x0 : Nat} {x1 : Int32} {x2 : Int32} {x3 : Int32} {s0 : Value} : x_L_law L xs d Q 287 ls [.int x3, .int x2, .int x1, .ref x0, s0] w k n ↔ ((nm_obj w x0 9 ∧ k + 0 ≤ 600000 ∧ n + 0 ≤ 7302250) ∧ nm_call d 105 [.ref x0, .int x1, .int x2, .int x3] w (fun v w' => x_L_law L xs d Q 290 ls (v ++ [s0]) w' k n)) := rw_callC rfl ⟨Nat.le_of_ble_eq_true rfl, Nat.le_of_ble_eq_true rfl⟩ rfl rfl
set_option maxRecDepth 100000 in
theorem r_L_law_290 {d : Nat} {Q : nm_K} {w : nm_W} {k n : Nat} {L : Nat} {xs : Nat → Int32} {ls st : List Value} {x y : Int32} : x_L_law L xs d Q 290 ls (.int y :: .int x :: st) w k n ↔ (if x = y then x_L_law L xs d Q 893 ls st w k n else x_L_law L xs d Q 293 ls st w k n) := rw_if (f := fun x y => decide (x = y)) rfl nm_dt
set_option maxRecDepth 100000 in
theorem r_L_law_293 {d : Nat} {Q : nm_K} {w : nm_W} {k n : Nat} {L : Nat} {xs : Nat → Int32} {ls st : List Value} : x_L_law L xs d Q 293 ls st w k n ↔ x_L_law L xs d Q 294 ls (.int 0 :: st) w k n := rw_push rfl
set_option maxRecDepth 100000 in
theorem r_L_law_294 {d : Nat} {Q : nm_K} {w : nm_W} {k n : Nat} {L : Nat} {xs : Nat → Int32} {ls : List Value} {x : Int32} : x_L_law L xs d Q 294 ls [.int x] w k n ↔ ((k ≤ 600000 ∧ n ≤ 7302250) ∧ (x = 0 ∨ x = 1) ∧ Q [.int x] w) := rw_retZ rfl
set_option maxRecDepth 100000 in
theorem r_L_law_295 {d : Nat} {Q : nm_K} {w : nm_W} {k n : Nat} {L : Nat} {xs : Nat → Int32} {a0 a2 a3 : Value} {x : Nat} {st : List Value} : x_L_law L xs d Q 295 [a0, .ref x, a2, a3] st w k n ↔ x_L_law L xs d Q 296 [a0, .ref x, a2, a3] (.ref x :: st) w k n := rw_ldA rfl rfl
set_option maxRecDepth 100000 in
theorem r_L_law_296 {d : Nat} {Q : nm_K} {w : nm_W} {k n : Nat} {L : Nat} {xs : Nat → Int32} {ls : List Value} {x0 : Nat} : x_L_law L xs d Q 296 ls [.ref x0] w k n ↔ ((nm_obj w x0 8 ∧ k + 0 ≤ 600000 ∧ n + 0 ≤ 7302250) ∧ nm_call d 72 [.ref x0] w (fun v w' => x_L_law L xs d Q 299 ls (v ++ []) w' k n)) := rw_callC rfl ⟨Nat.le_of_ble_eq_true rfl, Nat.le_of_ble_eq_true rfl⟩ rfl rfl
set_option maxRecDepth 100000 in
theorem r_L_law_299 {d : Nat} {Q : nm_K} {w : nm_W} {k n : Nat} {L : Nat} {xs : Nat → Int32} {a0 a1 a3 : Value} {x : Nat} {st : List Value} : x_L_law L xs d Q 299 [a0, a1, .ref x, a3] st w k n ↔ x_L_law L xs d Q 300 [a0, a1, .ref x, a3] (.ref x :: st) w k n := rw_ldA rfl rfl
set_option maxRecDepth 100000 in
theorem r_L_law_300 {d : Nat} {Q : nm_K} {w : nm_W} {k n : Nat} {L : Nat} {xs : Nat → Int32} {ls : List Value} {x0 : Nat} {s0 : Value} : x_L_law L xs d Q 300 ls [.ref x0, s0] w k n ↔ ((nm_obj w x0 9 ∧ k + 0 ≤ 600000 ∧ n + 0 ≤ 7302250) ∧ nm_call d 108 [.ref x0] w (fun v w' => x_L_law L xs d Q 303 ls (v ++ [s0]) w' k n)) := rw_callC rfl ⟨Nat.le_of_ble_eq_true rfl, Nat.le_of_ble_eq_true rfl⟩ rfl rfl
set_option maxRecDepth 100000 in
theorem r_L_law_303 {d : Nat} {Q : nm_K} {w : nm_W} {k n : Nat} {L : Nat} {xs : Nat → Int32} {ls st : List Value} {x y : Int32} : x_L_law L xs d Q 303 ls (.int y :: .int x :: st) w k n ↔ (if x = y then x_L_law L xs d Q 893 ls st w k n else x_L_law L xs d Q 306 ls st w k n) := rw_if (f := fun x y => decide (x = y)) rfl nm_dt
set_option maxRecDepth 100000 in
theorem r_L_law_306 {d : Nat} {Q : nm_K} {w : nm_W} {k n : Nat} {L : Nat} {xs : Nat → Int32} {ls st : List Value} : x_L_law L xs d Q 306 ls st w k n ↔ x_L_law L xs d Q 307 ls (.int 0 :: st) w k n := rw_push rfl
set_option maxRecDepth 100000 in
theorem r_L_law_307 {d : Nat} {Q : nm_K} {w : nm_W} {k n : Nat} {L : Nat} {xs : Nat → Int32} {ls : List Value} {x : Int32} : x_L_law L xs d Q 307 ls [.int x] w k n ↔ ((k ≤ 600000 ∧ n ≤ 7302250) ∧ (x = 0 ∨ x = 1) ∧ Q [.int x] w) := rw_retZ rfl
set_option maxRecDepth 100000 in
theorem r_L_law_308 {d : Nat} {Q : nm_K} {w : nm_W} {k n : Nat} {L : Nat} {xs : Nat → Int32} {a0 a2 a3 : Value} {x : Nat} {st : List Value} : x_L_law L xs d Q 308 [a0, .ref x, a2, a3] st w k n ↔ x_L_law L xs d Q 309 [a0, .ref x, a2, a3] (.ref x :: st) w k n := rw_ldA rfl rfl
set_option maxRecDepth 100000 in
theorem r_L_law_309 {d : Nat} {Q : nm_K} {w : nm_W} {k n : Nat} {L : Nat} {xs : Nat → Int32} {a1 a2 a3 : Value} {x : UInt32} {st : List Value} : x_L_law L xs d Q 309 [.float x, a1, a2, a3] st w k n ↔ x_L_law L xs d Q 310 [.float x, a1, a2, a3] (.float x :: st) w k n := rw_ldF rfl rfl
set_option maxRecDepth 100000 in
theorem r_L_law_310 {d : Nat} {Q : nm_K} {w : nm_W} {k n : Nat} {L : Nat} {xs : Nat → Int32} {a0 a1 a2 : Value} {x : Int32} {st : List Value} : x_L_law L xs d Q 310 [a0, a1, a2, .int x] st w k n ↔ x_L_law L xs d Q 311 [a0, a1, a2, .int x] (.int x :: st) w k n := rw_ldI rfl rfl
set_option maxRecDepth 100000 in
theorem r_L_law_311 {d : Nat} {Q : nm_K} {w : nm_W} {k n : Nat} {L : Nat} {xs : Nat → Int32} {ls st : List Value} : x_L_law L xs d Q 311 ls st w k n ↔ x_L_law L xs d Q 312 ls (.int 1 :: st) w k n := rw_push rfl
set_option maxRecDepth 100000 in
theorem r_L_law_312 {d : Nat} {Q : nm_K} {w : nm_W} {k n : Nat} {L : Nat} {xs : Nat → Int32} {ls st : List Value} {x y : Int32} : x_L_law L xs d Q 312 ls (.int y :: .int x :: st) w k n ↔ x_L_law L xs d Q 313 ls (.int (x + y) :: st) w k n := rw_bin (f := fun x y => x + y) rfl
set_option maxRecDepth 100000 in
theorem r_L_law_313 {d : Nat} {Q : nm_K} {w : nm_W} {k n : Nat} {L : Nat} {xs : Nat → Int32} {ls st : List Value} {x : UInt32} {y : Int32} : x_L_law L xs d Q 313 ls (.int y :: .float x :: st) w k n ↔ (vp_in y L ∧ x_L_law L xs d Q 314 ls (.int (xs y.toNatClampNeg) :: st) w k n) := rw_sald rfl
set_option maxRecDepth 100000 in
theorem r_L_law_314 {d : Nat} {Q : nm_K} {w : nm_W} {k n : Nat} {L : Nat} {xs : Nat → Int32} {ls : List Value} {x0 : Nat} {x1 : Int32} : x_L_law L xs d Q 314 ls [.int x1, .ref x0] w k n ↔ ((nm_obj w x0 8 ∧ k + 0 ≤ 600000 ∧ n + 0 ≤ 7302250) ∧ nm_call d 73 [.ref x0, .int x1] w (fun v w' => x_L_law L xs d Q 317 ls (v ++ []) w' k n)) := rw_callC rfl ⟨Nat.le_of_ble_eq_true rfl, Nat.le_of_ble_eq_true rfl⟩ rfl rfl
set_option maxRecDepth 100000 in
theorem r_L_law_317 {d : Nat} {Q : nm_K} {w : nm_W} {k n : Nat} {L : Nat} {xs : Nat → Int32} {a0 a1 a3 : Value} {x : Nat} {st : List Value} : x_L_law L xs d Q 317 [a0, a1, .ref x, a3] st w k n ↔ x_L_law L xs d Q 318 [a0, a1, .ref x, a3] (.ref x :: st) w k n := rw_ldA rfl rfl
set_option maxRecDepth 100000 in
theorem r_L_law_318 {d : Nat} {Q : nm_K} {w : nm_W} {k n : Nat} {L : Nat} {xs : Nat → Int32} {a1 a2 a3 : Value} {x : UInt32} {st : List Value} : x_L_law L xs d Q 318 [.float x, a1, a2, a3] st w k n ↔ x_L_law L xs d Q 319 [.float x, a1, a2, a3] (.float x :: st) w k n := rw_ldF rfl rfl
set_option maxRecDepth 100000 in
theorem r_L_law_319 {d : Nat} {Q : nm_K} {w : nm_W} {k n : Nat} {L : Nat} {xs : Nat → Int32} {a0 a1 a2 : Value} {x : Int32} {st : List Value} : x_L_law L xs d Q 319 [a0, a1, a2, .int x] st w k n ↔ x_L_law L xs d Q 320 [a0, a1, a2, .int x] (.int x :: st) w k n := rw_ldI rfl rfl
set_option maxRecDepth 100000 in
theorem r_L_law_320 {d : Nat} {Q : nm_K} {w : nm_W} {k n : Nat} {L : Nat} {xs : Nat → Int32} {ls st : List Value} : x_L_law L xs d Q 320 ls st w k n ↔ x_L_law L xs d Q 321 ls (.int 1 :: st) w k n := rw_push rfl
set_option maxRecDepth 100000 in
theorem r_L_law_321 {d : Nat} {Q : nm_K} {w : nm_W} {k n : Nat} {L : Nat} {xs : Nat → Int32} {ls st : List Value} {x y : Int32} : x_L_law L xs d Q 321 ls (.int y :: .int x :: st) w k n ↔ x_L_law L xs d Q 322 ls (.int (x + y) :: st) w k n := rw_bin (f := fun x y => x + y) rfl
set_option maxRecDepth 100000 in
theorem r_L_law_322 {d : Nat} {Q : nm_K} {w : nm_W} {k n : Nat} {L : Nat} {xs : Nat → Int32} {ls st : List Value} {x : UInt32} {y : Int32} : x_L_law L xs d Q 322 ls (.int y :: .float x :: st) w k n ↔ (vp_in y L ∧ x_L_law L xs d Q 323 ls (.int (xs y.toNatClampNeg) :: st) w k n) := rw_sald rfl
set_option maxRecDepth 100000 in
theorem r_L_law_323 {d : Nat} {Q : nm_K} {w : nm_W} {k n : Nat} {L : Nat} {xs : Nat → Int32} {ls : List Value} {x0 : Nat} {x1 : Int32} {s0 : Value} : x_L_law L xs d Q 323 ls [.int x1, .ref x0, s0] w k n ↔ ((nm_obj w x0 9 ∧ k + 0 ≤ 600000 ∧ n + 0 ≤ 7302250) ∧ nm_call d 109 [.ref x0, .int x1] w (fun v w' => x_L_law L xs d Q 326 ls (v ++ [s0]) w' k n)) := rw_callC rfl ⟨Nat.le_of_ble_eq_true rfl, Nat.le_of_ble_eq_true rfl⟩ rfl rfl
set_option maxRecDepth 100000 in
theorem r_L_law_326 {d : Nat} {Q : nm_K} {w : nm_W} {k n : Nat} {L : Nat} {xs : Nat → Int32} {ls st : List Value} {x y : Int32} : x_L_law L xs d Q 326 ls (.int y :: .int x :: st) w k n ↔ (if x = y then x_L_law L xs d Q 893 ls st w k n else x_L_law L xs d Q 329 ls st w k n) := rw_if (f := fun x y => decide (x = y)) rfl nm_dt
set_option maxRecDepth 100000 in
theorem r_L_law_329 {d : Nat} {Q : nm_K} {w : nm_W} {k n : Nat} {L : Nat} {xs : Nat → Int32} {ls st : List Value} : x_L_law L xs d Q 329 ls st w k n ↔ x_L_law L xs d Q 330 ls (.int 0 :: st) w k n := rw_push rfl
set_option maxRecDepth 100000 in
theorem r_L_law_330 {d : Nat} {Q : nm_K} {w : nm_W} {k n : Nat} {L : Nat} {xs : Nat → Int32} {ls : List Value} {x : Int32} : x_L_law L xs d Q 330 ls [.int x] w k n ↔ ((k ≤ 600000 ∧ n ≤ 7302250) ∧ (x = 0 ∨ x = 1) ∧ Q [.int x] w) := rw_retZ rfl
set_option maxRecDepth 100000 in
theorem r_L_law_331 {d : Nat} {Q : nm_K} {w : nm_W} {k n : Nat} {L : Nat} {xs : Nat → Int32} {a0 a2 a3 : Value} {x : Nat} {st : List Value} : x_L_law L xs d Q 331 [a0, .ref x, a2, a3] st w k n ↔ x_L_law L xs d Q 332 [a0, .ref x, a2, a3] (.ref x :: st) w k n := rw_ldA rfl rfl
set_option maxRecDepth 100000 in
theorem r_L_law_332 {d : Nat} {Q : nm_K} {w : nm_W} {k n : Nat} {L : Nat} {xs : Nat → Int32} {ls : List Value} {x0 : Nat} : x_L_law L xs d Q 332 ls [.ref x0] w k n ↔ ((nm_obj w x0 8 ∧ k + 0 ≤ 600000 ∧ n + 0 ≤ 7302250) ∧ nm_call d 74 [.ref x0] w (fun v w' => x_L_law L xs d Q 335 ls (v ++ []) w' k n)) := rw_callC rfl ⟨Nat.le_of_ble_eq_true rfl, Nat.le_of_ble_eq_true rfl⟩ rfl rfl
set_option maxRecDepth 100000 in
theorem r_L_law_335 {d : Nat} {Q : nm_K} {w : nm_W} {k n : Nat} {L : Nat} {xs : Nat → Int32} {a0 a1 a3 : Value} {x : Nat} {st : List Value} : x_L_law L xs d Q 335 [a0, a1, .ref x, a3] st w k n ↔ x_L_law L xs d Q 336 [a0, a1, .ref x, a3] (.ref x :: st) w k n := rw_ldA rfl rfl
set_option maxRecDepth 100000 in
theorem r_L_law_336 {d : Nat} {Q : nm_K} {w : nm_W} {k n : Nat} {L : Nat} {xs : Nat → Int32} {ls : List Value} {x0 : Nat} {s0 : Value} : x_L_law L xs d Q 336 ls [.ref x0, s0] w k n ↔ ((nm_obj w x0 9 ∧ k + 0 ≤ 600000 ∧ n + 0 ≤ 7302250) ∧ nm_call d 110 [.ref x0] w (fun v w' => x_L_law L xs d Q 339 ls (v ++ [s0]) w' k n)) := rw_callC rfl ⟨Nat.le_of_ble_eq_true rfl, Nat.le_of_ble_eq_true rfl⟩ rfl rfl
set_option maxRecDepth 100000 in
theorem r_L_law_339 {d : Nat} {Q : nm_K} {w : nm_W} {k n : Nat} {L : Nat} {xs : Nat → Int32} {ls st : List Value} {x y : Int32} : x_L_law L xs d Q 339 ls (.int y :: .int x :: st) w k n ↔ (if x = y then x_L_law L xs d Q 893 ls st w k n else x_L_law L xs d Q 342 ls st w k n) := rw_if (f := fun x y => decide (x = y)) rfl nm_dt
set_option maxRecDepth 100000 in
theorem r_L_law_342 {d : Nat} {Q : nm_K} {w : nm_W} {k n : Nat} {L : Nat} {xs : Nat → Int32} {ls st : List Value} : x_L_law L xs d Q 342 ls st w k n ↔ x_L_law L xs d Q 343 ls (.int 0 :: st) w k n := rw_push rfl
set_option maxRecDepth 100000 in
theorem r_L_law_343 {d : Nat} {Q : nm_K} {w : nm_W} {k n : Nat} {L : Nat} {xs : Nat → Int32} {ls : List Value} {x : Int32} : x_L_law L xs d Q 343 ls [.int x] w k n ↔ ((k ≤ 600000 ∧ n ≤ 7302250) ∧ (x = 0 ∨ x = 1) ∧ Q [.int x] w) := rw_retZ rfl
set_option maxRecDepth 100000 in
theorem r_L_law_344 {d : Nat} {Q : nm_K} {w : nm_W} {k n : Nat} {L : Nat} {xs : Nat → Int32} {a0 a2 a3 : Value} {x : Nat} {st : List Value} : x_L_law L xs d Q 344 [a0, .ref x, a2, a3] st w k n ↔ x_L_law L xs d Q 345 [a0, .ref x, a2, a3] (.ref x :: st) w k n := rw_ldA rfl rfl
set_option maxRecDepth 100000 in
theorem r_L_law_345 {d : Nat} {Q : nm_K} {w : nm_W} {k n : Nat} {L : Nat} {xs : Nat → Int32} {a1 a2 a3 : Value} {x : UInt32} {st : List Value} : x_L_law L xs d Q 345 [.float x, a1, a2, a3] st w k n ↔ x_L_law L xs d Q 346 [.float x, a1, a2, a3] (.float x :: st) w k n := rw_ldF rfl rfl
set_option maxRecDepth 100000 in
theorem r_L_law_346 {d : Nat} {Q : nm_K} {w : nm_W} {k n : Nat} {L : Nat} {xs : Nat → Int32} {a0 a1 a2 : Value} {x : Int32} {st : List Value} : x_L_law L xs d Q 346 [a0, a1, a2, .int x] st w k n ↔ x_L_law L xs d Q 347 [a0, a1, a2, .int x] (.int x :: st) w k n := rw_ldI rfl rfl
set_option maxRecDepth 100000 in
theorem r_L_law_347 {d : Nat} {Q : nm_K} {w : nm_W} {k n : Nat} {L : Nat} {xs : Nat → Int32} {ls st : List Value} : x_L_law L xs d Q 347 ls st w k n ↔ x_L_law L xs d Q 348 ls (.int 1 :: st) w k n := rw_push rfl
set_option maxRecDepth 100000 in
theorem r_L_law_348 {d : Nat} {Q : nm_K} {w : nm_W} {k n : Nat} {L : Nat} {xs : Nat → Int32} {ls st : List Value} {x y : Int32} : x_L_law L xs d Q 348 ls (.int y :: .int x :: st) w k n ↔ x_L_law L xs d Q 349 ls (.int (x + y) :: st) w k n := rw_bin (f := fun x y => x + y) rfl
set_option maxRecDepth 100000 in
theorem r_L_law_349 {d : Nat} {Q : nm_K} {w : nm_W} {k n : Nat} {L : Nat} {xs : Nat → Int32} {ls st : List Value} {x : UInt32} {y : Int32} : x_L_law L xs d Q 349 ls (.int y :: .float x :: st) w k n ↔ (vp_in y L ∧ x_L_law L xs d Q 350 ls (.int (xs y.toNatClampNeg) :: st) w k n) := rw_sald rfl
set_option maxRecDepth 100000 in
theorem r_L_law_350 {d : Nat} {Q : nm_K} {w : nm_W} {k n : Nat} {L : Nat} {xs : Nat → Int32} {a1 a2 a3 : Value} {x : UInt32} {st : List Value} : x_L_law L xs d Q 350 [.float x, a1, a2, a3] st w k n ↔ x_L_law L xs d Q 351 [.float x, a1, a2, a3] (.float x :: st) w k n := rw_ldF rfl rfl
set_option maxRecDepth 100000 in
theorem r_L_law_351 {d : Nat} {Q : nm_K} {w : nm_W} {k n : Nat} {L : Nat} {xs : Nat → Int32} {a0 a1 a2 : Value} {x : Int32} {st : List Value} : x_L_law L xs d Q 351 [a0, a1, a2, .int x] st w k n ↔ x_L_law L xs d Q 352 [a0, a1, a2, .int x] (.int x :: st) w k n := rw_ldI rfl rfl
set_option maxRecDepth 100000 in
theorem r_L_law_352 {d : Nat} {Q : nm_K} {w : nm_W} {k n : Nat} {L : Nat} {xs : Nat → Int32} {ls st : List Value} : x_L_law L xs d Q 352 ls st w k n ↔ x_L_law L xs d Q 353 ls (.int 2 :: st) w k n := rw_push rfl
set_option maxRecDepth 100000 in
theorem r_L_law_353 {d : Nat} {Q : nm_K} {w : nm_W} {k n : Nat} {L : Nat} {xs : Nat → Int32} {ls st : List Value} {x y : Int32} : x_L_law L xs d Q 353 ls (.int y :: .int x :: st) w k n ↔ x_L_law L xs d Q 354 ls (.int (x + y) :: st) w k n := rw_bin (f := fun x y => x + y) rfl
set_option maxRecDepth 100000 in
theorem r_L_law_354 {d : Nat} {Q : nm_K} {w : nm_W} {k n : Nat} {L : Nat} {xs : Nat → Int32} {ls st : List Value} {x : UInt32} {y : Int32} : x_L_law L xs d Q 354 ls (.int y :: .float x :: st) w k n ↔ (vp_in y L ∧ x_L_law L xs d Q 355 ls (.int (xs y.toNatClampNeg) :: st) w k n) := rw_sald rfl
set_option maxRecDepth 100000 in
theorem r_L_law_355 {d : Nat} {Q : nm_K} {w : nm_W} {k n : Nat} {L : Nat} {xs : Nat → Int32} {ls : List Value} {x0 : Nat} {x1 : Int32} {x2 : Int32} : x_L_law L xs d Q 355 ls [.int x2, .int x1, .ref x0] w k n ↔ ((nm_obj w x0 8 ∧ k + 0 ≤ 600000 ∧ n + 0 ≤ 7302250) ∧ nm_call d 75 [.ref x0, .int x1, .int x2] w (fun v w' => x_L_law L xs d Q 358 ls (v ++ []) w' k n)) := rw_callC rfl ⟨Nat.le_of_ble_eq_true rfl, Nat.le_of_ble_eq_true rfl⟩ rfl rfl
set_option maxRecDepth 100000 in
theorem r_L_law_358 {d : Nat} {Q : nm_K} {w : nm_W} {k n : Nat} {L : Nat} {xs : Nat → Int32} {a0 a1 a3 : Value} {x : Nat} {st : List Value} : x_L_law L xs d Q 358 [a0, a1, .ref x, a3] st w k n ↔ x_L_law L xs d Q 359 [a0, a1, .ref x, a3] (.ref x :: st) w k n := rw_ldA rfl rfl
set_option maxRecDepth 100000 in
theorem r_L_law_359 {d : Nat} {Q : nm_K} {w : nm_W} {k n : Nat} {L : Nat} {xs : Nat → Int32} {a1 a2 a3 : Value} {x : UInt32} {st : List Value} : x_L_law L xs d Q 359 [.float x, a1, a2, a3] st w k n ↔ x_L_law L xs d Q 360 [.float x, a1, a2, a3] (.float x :: st) w k n := rw_ldF rfl rfl
set_option maxRecDepth 100000 in
theorem r_L_law_360 {d : Nat} {Q : nm_K} {w : nm_W} {k n : Nat} {L : Nat} {xs : Nat → Int32} {a0 a1 a2 : Value} {x : Int32} {st : List Value} : x_L_law L xs d Q 360 [a0, a1, a2, .int x] st w k n ↔ x_L_law L xs d Q 361 [a0, a1, a2, .int x] (.int x :: st) w k n := rw_ldI rfl rfl
set_option maxRecDepth 100000 in
theorem r_L_law_361 {d : Nat} {Q : nm_K} {w : nm_W} {k n : Nat} {L : Nat} {xs : Nat → Int32} {ls st : List Value} : x_L_law L xs d Q 361 ls st w k n ↔ x_L_law L xs d Q 362 ls (.int 1 :: st) w k n := rw_push rfl
set_option maxRecDepth 100000 in
theorem r_L_law_362 {d : Nat} {Q : nm_K} {w : nm_W} {k n : Nat} {L : Nat} {xs : Nat → Int32} {ls st : List Value} {x y : Int32} : x_L_law L xs d Q 362 ls (.int y :: .int x :: st) w k n ↔ x_L_law L xs d Q 363 ls (.int (x + y) :: st) w k n := rw_bin (f := fun x y => x + y) rfl
set_option maxRecDepth 100000 in
theorem r_L_law_363 {d : Nat} {Q : nm_K} {w : nm_W} {k n : Nat} {L : Nat} {xs : Nat → Int32} {ls st : List Value} {x : UInt32} {y : Int32} : x_L_law L xs d Q 363 ls (.int y :: .float x :: st) w k n ↔ (vp_in y L ∧ x_L_law L xs d Q 364 ls (.int (xs y.toNatClampNeg) :: st) w k n) := rw_sald rfl
set_option maxRecDepth 100000 in
theorem r_L_law_364 {d : Nat} {Q : nm_K} {w : nm_W} {k n : Nat} {L : Nat} {xs : Nat → Int32} {a1 a2 a3 : Value} {x : UInt32} {st : List Value} : x_L_law L xs d Q 364 [.float x, a1, a2, a3] st w k n ↔ x_L_law L xs d Q 365 [.float x, a1, a2, a3] (.float x :: st) w k n := rw_ldF rfl rfl
set_option maxRecDepth 100000 in
theorem r_L_law_365 {d : Nat} {Q : nm_K} {w : nm_W} {k n : Nat} {L : Nat} {xs : Nat → Int32} {a0 a1 a2 : Value} {x : Int32} {st : List Value} : x_L_law L xs d Q 365 [a0, a1, a2, .int x] st w k n ↔ x_L_law L xs d Q 366 [a0, a1, a2, .int x] (.int x :: st) w k n := rw_ldI rfl rfl
set_option maxRecDepth 100000 in
theorem r_L_law_366 {d : Nat} {Q : nm_K} {w : nm_W} {k n : Nat} {L : Nat} {xs : Nat → Int32} {ls st : List Value} : x_L_law L xs d Q 366 ls st w k n ↔ x_L_law L xs d Q 367 ls (.int 2 :: st) w k n := rw_push rfl
set_option maxRecDepth 100000 in
theorem r_L_law_367 {d : Nat} {Q : nm_K} {w : nm_W} {k n : Nat} {L : Nat} {xs : Nat → Int32} {ls st : List Value} {x y : Int32} : x_L_law L xs d Q 367 ls (.int y :: .int x :: st) w k n ↔ x_L_law L xs d Q 368 ls (.int (x + y) :: st) w k n := rw_bin (f := fun x y => x + y) rfl
set_option maxRecDepth 100000 in
theorem r_L_law_368 {d : Nat} {Q : nm_K} {w : nm_W} {k n : Nat} {L : Nat} {xs : Nat → Int32} {ls st : List Value} {x : UInt32} {y : Int32} : x_L_law L xs d Q 368 ls (.int y :: .float x :: st) w k n ↔ (vp_in y L ∧ x_L_law L xs d Q 369 ls (.int (xs y.toNatClampNeg) :: st) w k n) := rw_sald rfl
set_option maxRecDepth 100000 in
theorem r_L_law_369 {d : Nat} {Q : nm_K} {w : nm_W} {k n : Nat} {L : Nat} {xs : Nat → Int32} {ls : List Value} {x0 : Nat} {x1 : Int32} {x2 : Int32} {s0 : Value} : x_L_law L xs d Q 369 ls [.int x2, .int x1, .ref x0, s0] w k n ↔ ((nm_obj w x0 9 ∧ k + 0 ≤ 600000 ∧ n + 0 ≤ 7302250) ∧ nm_call d 115 [.ref x0, .int x1, .int x2] w (fun v w' => x_L_law L xs d Q 372 ls (v ++ [s0]) w' k n)) := rw_callC rfl ⟨Nat.le_of_ble_eq_true rfl, Nat.le_of_ble_eq_true rfl⟩ rfl rfl
set_option maxRecDepth 100000 in
theorem r_L_law_372 {d : Nat} {Q : nm_K} {w : nm_W} {k n : Nat} {L : Nat} {xs : Nat → Int32} {ls st : List Value} {x y : Int32} : x_L_law L xs d Q 372 ls (.int y :: .int x :: st) w k n ↔ (if x = y then x_L_law L xs d Q 893 ls st w k n else x_L_law L xs d Q 375 ls st w k n) := rw_if (f := fun x y => decide (x = y)) rfl nm_dt
set_option maxRecDepth 100000 in
theorem r_L_law_375 {d : Nat} {Q : nm_K} {w : nm_W} {k n : Nat} {L : Nat} {xs : Nat → Int32} {ls st : List Value} : x_L_law L xs d Q 375 ls st w k n ↔ x_L_law L xs d Q 376 ls (.int 0 :: st) w k n := rw_push rfl
set_option maxRecDepth 100000 in
theorem r_L_law_376 {d : Nat} {Q : nm_K} {w : nm_W} {k n : Nat} {L : Nat} {xs : Nat → Int32} {ls : List Value} {x : Int32} : x_L_law L xs d Q 376 ls [.int x] w k n ↔ ((k ≤ 600000 ∧ n ≤ 7302250) ∧ (x = 0 ∨ x = 1) ∧ Q [.int x] w) := rw_retZ rfl
set_option maxRecDepth 100000 in
theorem r_L_law_377 {d : Nat} {Q : nm_K} {w : nm_W} {k n : Nat} {L : Nat} {xs : Nat → Int32} {a0 a2 a3 : Value} {x : Nat} {st : List Value} : x_L_law L xs d Q 377 [a0, .ref x, a2, a3] st w k n ↔ x_L_law L xs d Q 378 [a0, .ref x, a2, a3] (.ref x :: st) w k n := rw_ldA rfl rfl
set_option maxRecDepth 100000 in
theorem r_L_law_378 {d : Nat} {Q : nm_K} {w : nm_W} {k n : Nat} {L : Nat} {xs : Nat → Int32} {a1 a2 a3 : Value} {x : UInt32} {st : List Value} : x_L_law L xs d Q 378 [.float x, a1, a2, a3] st w k n ↔ x_L_law L xs d Q 379 [.float x, a1, a2, a3] (.float x :: st) w k n := rw_ldF rfl rfl
set_option maxRecDepth 100000 in
theorem r_L_law_379 {d : Nat} {Q : nm_K} {w : nm_W} {k n : Nat} {L : Nat} {xs : Nat → Int32} {a0 a1 a2 : Value} {x : Int32} {st : List Value} : x_L_law L xs d Q 379 [a0, a1, a2, .int x] st w k n ↔ x_L_law L xs d Q 380 [a0, a1, a2, .int x] (.int x :: st) w k n := rw_ldI rfl rfl
set_option maxRecDepth 100000 in
theorem r_L_law_380 {d : Nat} {Q : nm_K} {w : nm_W} {k n : Nat} {L : Nat} {xs : Nat → Int32} {ls st : List Value} : x_L_law L xs d Q 380 ls st w k n ↔ x_L_law L xs d Q 381 ls (.int 1 :: st) w k n := rw_push rfl
set_option maxRecDepth 100000 in
theorem r_L_law_381 {d : Nat} {Q : nm_K} {w : nm_W} {k n : Nat} {L : Nat} {xs : Nat → Int32} {ls st : List Value} {x y : Int32} : x_L_law L xs d Q 381 ls (.int y :: .int x :: st) w k n ↔ x_L_law L xs d Q 382 ls (.int (x + y) :: st) w k n := rw_bin (f := fun x y => x + y) rfl
set_option maxRecDepth 100000 in
theorem r_L_law_382 {d : Nat} {Q : nm_K} {w : nm_W} {k n : Nat} {L : Nat} {xs : Nat → Int32} {ls st : List Value} {x : UInt32} {y : Int32} : x_L_law L xs d Q 382 ls (.int y :: .float x :: st) w k n ↔ (vp_in y L ∧ x_L_law L xs d Q 383 ls (.int (xs y.toNatClampNeg) :: st) w k n) := rw_sald rfl
set_option maxRecDepth 100000 in
theorem r_L_law_383 {d : Nat} {Q : nm_K} {w : nm_W} {k n : Nat} {L : Nat} {xs : Nat → Int32} {a1 a2 a3 : Value} {x : UInt32} {st : List Value} : x_L_law L xs d Q 383 [.float x, a1, a2, a3] st w k n ↔ x_L_law L xs d Q 384 [.float x, a1, a2, a3] (.float x :: st) w k n := rw_ldF rfl rfl
set_option maxRecDepth 100000 in
theorem r_L_law_384 {d : Nat} {Q : nm_K} {w : nm_W} {k n : Nat} {L : Nat} {xs : Nat → Int32} {a0 a1 a2 : Value} {x : Int32} {st : List Value} : x_L_law L xs d Q 384 [a0, a1, a2, .int x] st w k n ↔ x_L_law L xs d Q 385 [a0, a1, a2, .int x] (.int x :: st) w k n := rw_ldI rfl rfl
set_option maxRecDepth 100000 in
theorem r_L_law_385 {d : Nat} {Q : nm_K} {w : nm_W} {k n : Nat} {L : Nat} {xs : Nat → Int32} {ls st : List Value} : x_L_law L xs d Q 385 ls st w k n ↔ x_L_law L xs d Q 386 ls (.int 2 :: st) w k n := rw_push rfl
set_option maxRecDepth 100000 in
theorem r_L_law_386 {d : Nat} {Q : nm_K} {w : nm_W} {k n : Nat} {L : Nat} {xs : Nat → Int32} {ls st : List Value} {x y : Int32} : x_L_law L xs d Q 386 ls (.int y :: .int x :: st) w k n ↔ x_L_law L xs d Q 387 ls (.int (x + y) :: st) w k n := rw_bin (f := fun x y => x + y) rfl
set_option maxRecDepth 100000 in
theorem r_L_law_387 {d : Nat} {Q : nm_K} {w : nm_W} {k n : Nat} {L : Nat} {xs : Nat → Int32} {ls st : List Value} {x : UInt32} {y : Int32} : x_L_law L xs d Q 387 ls (.int y :: .float x :: st) w k n ↔ (vp_in y L ∧ x_L_law L xs d Q 388 ls (.int (xs y.toNatClampNeg) :: st) w k n) := rw_sald rfl
set_option maxRecDepth 100000 in
theorem r_L_law_388 {d : Nat} {Q : nm_K} {w : nm_W} {k n : Nat} {L : Nat} {xs : Nat → Int32} {a1 a2 a3 : Value} {x : UInt32} {st : List Value} : x_L_law L xs d Q 388 [.float x, a1, a2, a3] st w k n ↔ x_L_law L xs d Q 389 [.float x, a1, a2, a3] (.float x :: st) w k n := rw_ldF rfl rfl
set_option maxRecDepth 100000 in
theorem r_L_law_389 {d : Nat} {Q : nm_K} {w : nm_W} {k n : Nat} {L : Nat} {xs : Nat → Int32} {a0 a1 a2 : Value} {x : Int32} {st : List Value} : x_L_law L xs d Q 389 [a0, a1, a2, .int x] st w k n ↔ x_L_law L xs d Q 390 [a0, a1, a2, .int x] (.int x :: st) w k n := rw_ldI rfl rfl
set_option maxRecDepth 100000 in
theorem r_L_law_390 {d : Nat} {Q : nm_K} {w : nm_W} {k n : Nat} {L : Nat} {xs : Nat → Int32} {ls st : List Value} : x_L_law L xs d Q 390 ls st w k n ↔ x_L_law L xs d Q 391 ls (.int 3 :: st) w k n := rw_push rfl
set_option maxRecDepth 100000 in
theorem r_L_law_391 {d : Nat} {Q : nm_K} {w : nm_W} {k n : Nat} {L : Nat} {xs : Nat → Int32} {ls st : List Value} {x y : Int32} : x_L_law L xs d Q 391 ls (.int y :: .int x :: st) w k n ↔ x_L_law L xs d Q 392 ls (.int (x + y) :: st) w k n := rw_bin (f := fun x y => x + y) rfl
set_option maxRecDepth 100000 in
theorem r_L_law_392 {d : Nat} {Q : nm_K} {w : nm_W} {k n : Nat} {L : Nat} {xs : Nat → Int32} {ls st : List Value} {x : UInt32} {y : Int32} : x_L_law L xs d Q 392 ls (.int y :: .float x :: st) w k n ↔ (vp_in y L ∧ x_L_law L xs d Q 393 ls (.int (xs y.toNatClampNeg) :: st) w k n) := rw_sald rfl
set_option maxRecDepth 100000 in
theorem r_L_law_393 {d : Nat} {Q : nm_K} {w : nm_W} {k n : Nat} {L : Nat} {xs : Nat → Int32} {ls : List Value} {x0 : Nat} {x1 : Int32} {x2 : Int32} {x3 : Int32} : x_L_law L xs d Q 393 ls [.int x3, .int x2, .int x1, .ref x0] w k n ↔ ((nm_obj w x0 8 ∧ k + 0 ≤ 600000 ∧ n + 0 ≤ 7302250) ∧ nm_call d 76 [.ref x0, .int x1, .int x2, .int x3] w (fun v w' => x_L_law L xs d Q 396 ls (v ++ []) w' k n)) := rw_callC rfl ⟨Nat.le_of_ble_eq_true rfl, Nat.le_of_ble_eq_true rfl⟩ rfl rfl
set_option maxRecDepth 100000 in
theorem r_L_law_396 {d : Nat} {Q : nm_K} {w : nm_W} {k n : Nat} {L : Nat} {xs : Nat → Int32} {a0 a1 a3 : Value} {x : Nat} {st : List Value} : x_L_law L xs d Q 396 [a0, a1, .ref x, a3] st w k n ↔ x_L_law L xs d Q 397 [a0, a1, .ref x, a3] (.ref x :: st) w k n := rw_ldA rfl rfl
set_option maxRecDepth 100000 in
theorem r_L_law_397 {d : Nat} {Q : nm_K} {w : nm_W} {k n : Nat} {L : Nat} {xs : Nat → Int32} {a1 a2 a3 : Value} {x : UInt32} {st : List Value} : x_L_law L xs d Q 397 [.float x, a1, a2, a3] st w k n ↔ x_L_law L xs d Q 398 [.float x, a1, a2, a3] (.float x :: st) w k n := rw_ldF rfl rfl
set_option maxRecDepth 100000 in
theorem r_L_law_398 {d : Nat} {Q : nm_K} {w : nm_W} {k n : Nat} {L : Nat} {xs : Nat → Int32} {a0 a1 a2 : Value} {x : Int32} {st : List Value} : x_L_law L xs d Q 398 [a0, a1, a2, .int x] st w k n ↔ x_L_law L xs d Q 399 [a0, a1, a2, .int x] (.int x :: st) w k n := rw_ldI rfl rfl
set_option maxRecDepth 100000 in
theorem r_L_law_399 {d : Nat} {Q : nm_K} {w : nm_W} {k n : Nat} {L : Nat} {xs : Nat → Int32} {ls st : List Value} : x_L_law L xs d Q 399 ls st w k n ↔ x_L_law L xs d Q 400 ls (.int 1 :: st) w k n := rw_push rfl
set_option maxRecDepth 100000 in
theorem r_L_law_400 {d : Nat} {Q : nm_K} {w : nm_W} {k n : Nat} {L : Nat} {xs : Nat → Int32} {ls st : List Value} {x y : Int32} : x_L_law L xs d Q 400 ls (.int y :: .int x :: st) w k n ↔ x_L_law L xs d Q 401 ls (.int (x + y) :: st) w k n := rw_bin (f := fun x y => x + y) rfl
set_option maxRecDepth 100000 in
theorem r_L_law_401 {d : Nat} {Q : nm_K} {w : nm_W} {k n : Nat} {L : Nat} {xs : Nat → Int32} {ls st : List Value} {x : UInt32} {y : Int32} : x_L_law L xs d Q 401 ls (.int y :: .float x :: st) w k n ↔ (vp_in y L ∧ x_L_law L xs d Q 402 ls (.int (xs y.toNatClampNeg) :: st) w k n) := rw_sald rfl
set_option maxRecDepth 100000 in
theorem r_L_law_402 {d : Nat} {Q : nm_K} {w : nm_W} {k n : Nat} {L : Nat} {xs : Nat → Int32} {a1 a2 a3 : Value} {x : UInt32} {st : List Value} : x_L_law L xs d Q 402 [.float x, a1, a2, a3] st w k n ↔ x_L_law L xs d Q 403 [.float x, a1, a2, a3] (.float x :: st) w k n := rw_ldF rfl rfl
set_option maxRecDepth 100000 in
theorem r_L_law_403 {d : Nat} {Q : nm_K} {w : nm_W} {k n : Nat} {L : Nat} {xs : Nat → Int32} {a0 a1 a2 : Value} {x : Int32} {st : List Value} : x_L_law L xs d Q 403 [a0, a1, a2, .int x] st w k n ↔ x_L_law L xs d Q 404 [a0, a1, a2, .int x] (.int x :: st) w k n := rw_ldI rfl rfl
set_option maxRecDepth 100000 in
theorem r_L_law_404 {d : Nat} {Q : nm_K} {w : nm_W} {k n : Nat} {L : Nat} {xs : Nat → Int32} {ls st : List Value} : x_L_law L xs d Q 404 ls st w k n ↔ x_L_law L xs d Q 405 ls (.int 2 :: st) w k n := rw_push rfl
set_option maxRecDepth 100000 in
theorem r_L_law_405 {d : Nat} {Q : nm_K} {w : nm_W} {k n : Nat} {L : Nat} {xs : Nat → Int32} {ls st : List Value} {x y : Int32} : x_L_law L xs d Q 405 ls (.int y :: .int x :: st) w k n ↔ x_L_law L xs d Q 406 ls (.int (x + y) :: st) w k n := rw_bin (f := fun x y => x + y) rfl
set_option maxRecDepth 100000 in
theorem r_L_law_406 {d : Nat} {Q : nm_K} {w : nm_W} {k n : Nat} {L : Nat} {xs : Nat → Int32} {ls st : List Value} {x : UInt32} {y : Int32} : x_L_law L xs d Q 406 ls (.int y :: .float x :: st) w k n ↔ (vp_in y L ∧ x_L_law L xs d Q 407 ls (.int (xs y.toNatClampNeg) :: st) w k n) := rw_sald rfl
set_option maxRecDepth 100000 in
theorem r_L_law_407 {d : Nat} {Q : nm_K} {w : nm_W} {k n : Nat} {L : Nat} {xs : Nat → Int32} {a1 a2 a3 : Value} {x : UInt32} {st : List Value} : x_L_law L xs d Q 407 [.float x, a1, a2, a3] st w k n ↔ x_L_law L xs d Q 408 [.float x, a1, a2, a3] (.float x :: st) w k n := rw_ldF rfl rfl
set_option maxRecDepth 100000 in
theorem r_L_law_408 {d : Nat} {Q : nm_K} {w : nm_W} {k n : Nat} {L : Nat} {xs : Nat → Int32} {a0 a1 a2 : Value} {x : Int32} {st : List Value} : x_L_law L xs d Q 408 [a0, a1, a2, .int x] st w k n ↔ x_L_law L xs d Q 409 [a0, a1, a2, .int x] (.int x :: st) w k n := rw_ldI rfl rfl
set_option maxRecDepth 100000 in
theorem r_L_law_409 {d : Nat} {Q : nm_K} {w : nm_W} {k n : Nat} {L : Nat} {xs : Nat → Int32} {ls st : List Value} : x_L_law L xs d Q 409 ls st w k n ↔ x_L_law L xs d Q 410 ls (.int 3 :: st) w k n := rw_push rfl
set_option maxRecDepth 100000 in
theorem r_L_law_410 {d : Nat} {Q : nm_K} {w : nm_W} {k n : Nat} {L : Nat} {xs : Nat → Int32} {ls st : List Value} {x y : Int32} : x_L_law L xs d Q 410 ls (.int y :: .int x :: st) w k n ↔ x_L_law L xs d Q 411 ls (.int (x + y) :: st) w k n := rw_bin (f := fun x y => x + y) rfl
set_option maxRecDepth 100000 in
theorem r_L_law_411 {d : Nat} {Q : nm_K} {w : nm_W} {k n : Nat} {L : Nat} {xs : Nat → Int32} {ls st : List Value} {x : UInt32} {y : Int32} : x_L_law L xs d Q 411 ls (.int y :: .float x :: st) w k n ↔ (vp_in y L ∧ x_L_law L xs d Q 412 ls (.int (xs y.toNatClampNeg) :: st) w k n) := rw_sald rfl
set_option maxRecDepth 100000 in
theorem r_L_law_412 {d : Nat} {Q : nm_K} {w : nm_W} {k n : Nat} {L : Nat} {xs : Nat → Int32} {ls : List Value} {x0 : Nat} {x1 : Int32} {x2 : Int32} {x3 : Int32} {s0 : Value} : x_L_law L xs d Q 412 ls [.int x3, .int x2, .int x1, .ref x0, s0] w k n ↔ ((nm_obj w x0 9 ∧ k + 0 ≤ 600000 ∧ n + 0 ≤ 7302250) ∧ nm_call d 116 [.ref x0, .int x1, .int x2, .int x3] w (fun v w' => x_L_law L xs d Q 415 ls (v ++ [s0]) w' k n)) := rw_callC rfl ⟨Nat.le_of_ble_eq_true rfl, Nat.le_of_ble_eq_true rfl⟩ rfl rfl
set_option maxRecDepth 100000 in
theorem r_L_law_415 {d : Nat} {Q : nm_K} {w : nm_W} {k n : Nat} {L : Nat} {xs : Nat → Int32} {ls st : List Value} {x y : Int32} : x_L_law L xs d Q 415 ls (.int y :: .int x :: st) w k n ↔ (if x = y then x_L_law L xs d Q 893 ls st w k n else x_L_law L xs d Q 418 ls st w k n) := rw_if (f := fun x y => decide (x = y)) rfl nm_dt
set_option maxRecDepth 100000 in
theorem r_L_law_418 {d : Nat} {Q : nm_K} {w : nm_W} {k n : Nat} {L : Nat} {xs : Nat → Int32} {ls st : List Value} : x_L_law L xs d Q 418 ls st w k n ↔ x_L_law L xs d Q 419 ls (.int 0 :: st) w k n := rw_push rfl
set_option maxRecDepth 100000 in
theorem r_L_law_419 {d : Nat} {Q : nm_K} {w : nm_W} {k n : Nat} {L : Nat} {xs : Nat → Int32} {ls : List Value} {x : Int32} : x_L_law L xs d Q 419 ls [.int x] w k n ↔ ((k ≤ 600000 ∧ n ≤ 7302250) ∧ (x = 0 ∨ x = 1) ∧ Q [.int x] w) := rw_retZ rfl
set_option maxRecDepth 100000 in
theorem r_L_law_420 {d : Nat} {Q : nm_K} {w : nm_W} {k n : Nat} {L : Nat} {xs : Nat → Int32} {a0 a2 a3 : Value} {x : Nat} {st : List Value} : x_L_law L xs d Q 420 [a0, .ref x, a2, a3] st w k n ↔ x_L_law L xs d Q 421 [a0, .ref x, a2, a3] (.ref x :: st) w k n := rw_ldA rfl rfl
set_option maxRecDepth 100000 in
theorem r_L_law_421 {d : Nat} {Q : nm_K} {w : nm_W} {k n : Nat} {L : Nat} {xs : Nat → Int32} {a1 a2 a3 : Value} {x : UInt32} {st : List Value} : x_L_law L xs d Q 421 [.float x, a1, a2, a3] st w k n ↔ x_L_law L xs d Q 422 [.float x, a1, a2, a3] (.float x :: st) w k n := rw_ldF rfl rfl
set_option maxRecDepth 100000 in
theorem r_L_law_422 {d : Nat} {Q : nm_K} {w : nm_W} {k n : Nat} {L : Nat} {xs : Nat → Int32} {a0 a1 a2 : Value} {x : Int32} {st : List Value} : x_L_law L xs d Q 422 [a0, a1, a2, .int x] st w k n ↔ x_L_law L xs d Q 423 [a0, a1, a2, .int x] (.int x :: st) w k n := rw_ldI rfl rfl
set_option maxRecDepth 100000 in
theorem r_L_law_423 {d : Nat} {Q : nm_K} {w : nm_W} {k n : Nat} {L : Nat} {xs : Nat → Int32} {ls st : List Value} : x_L_law L xs d Q 423 ls st w k n ↔ x_L_law L xs d Q 424 ls (.int 1 :: st) w k n := rw_push rfl
set_option maxRecDepth 100000 in
theorem r_L_law_424 {d : Nat} {Q : nm_K} {w : nm_W} {k n : Nat} {L : Nat} {xs : Nat → Int32} {ls st : List Value} {x y : Int32} : x_L_law L xs d Q 424 ls (.int y :: .int x :: st) w k n ↔ x_L_law L xs d Q 425 ls (.int (x + y) :: st) w k n := rw_bin (f := fun x y => x + y) rfl
set_option maxRecDepth 100000 in
theorem r_L_law_425 {d : Nat} {Q : nm_K} {w : nm_W} {k n : Nat} {L : Nat} {xs : Nat → Int32} {ls st : List Value} {x : UInt32} {y : Int32} : x_L_law L xs d Q 425 ls (.int y :: .float x :: st) w k n ↔ (vp_in y L ∧ x_L_law L xs d Q 426 ls (.int (xs y.toNatClampNeg) :: st) w k n) := rw_sald rfl
set_option maxRecDepth 100000 in
theorem r_L_law_426 {d : Nat} {Q : nm_K} {w : nm_W} {k n : Nat} {L : Nat} {xs : Nat → Int32} {a1 a2 a3 : Value} {x : UInt32} {st : List Value} : x_L_law L xs d Q 426 [.float x, a1, a2, a3] st w k n ↔ x_L_law L xs d Q 427 [.float x, a1, a2, a3] (.float x :: st) w k n := rw_ldF rfl rfl
set_option maxRecDepth 100000 in
theorem r_L_law_427 {d : Nat} {Q : nm_K} {w : nm_W} {k n : Nat} {L : Nat} {xs : Nat → Int32} {a0 a1 a2 : Value} {x : Int32} {st : List Value} : x_L_law L xs d Q 427 [a0, a1, a2, .int x] st w k n ↔ x_L_law L xs d Q 428 [a0, a1, a2, .int x] (.int x :: st) w k n := rw_ldI rfl rfl
set_option maxRecDepth 100000 in
theorem r_L_law_428 {d : Nat} {Q : nm_K} {w : nm_W} {k n : Nat} {L : Nat} {xs : Nat → Int32} {ls st : List Value} : x_L_law L xs d Q 428 ls st w k n ↔ x_L_law L xs d Q 429 ls (.int 2 :: st) w k n := rw_push rfl
set_option maxRecDepth 100000 in
theorem r_L_law_429 {d : Nat} {Q : nm_K} {w : nm_W} {k n : Nat} {L : Nat} {xs : Nat → Int32} {ls st : List Value} {x y : Int32} : x_L_law L xs d Q 429 ls (.int y :: .int x :: st) w k n ↔ x_L_law L xs d Q 430 ls (.int (x + y) :: st) w k n := rw_bin (f := fun x y => x + y) rfl
set_option maxRecDepth 100000 in
theorem r_L_law_430 {d : Nat} {Q : nm_K} {w : nm_W} {k n : Nat} {L : Nat} {xs : Nat → Int32} {ls st : List Value} {x : UInt32} {y : Int32} : x_L_law L xs d Q 430 ls (.int y :: .float x :: st) w k n ↔ (vp_in y L ∧ x_L_law L xs d Q 431 ls (.int (xs y.toNatClampNeg) :: st) w k n) := rw_sald rfl
set_option maxRecDepth 100000 in
theorem r_L_law_431 {d : Nat} {Q : nm_K} {w : nm_W} {k n : Nat} {L : Nat} {xs : Nat → Int32} {a1 a2 a3 : Value} {x : UInt32} {st : List Value} : x_L_law L xs d Q 431 [.float x, a1, a2, a3] st w k n ↔ x_L_law L xs d Q 432 [.float x, a1, a2, a3] (.float x :: st) w k n := rw_ldF rfl rfl
set_option maxRecDepth 100000 in
theorem r_L_law_432 {d : Nat} {Q : nm_K} {w : nm_W} {k n : Nat} {L : Nat} {xs : Nat → Int32} {a0 a1 a2 : Value} {x : Int32} {st : List Value} : x_L_law L xs d Q 432 [a0, a1, a2, .int x] st w k n ↔ x_L_law L xs d Q 433 [a0, a1, a2, .int x] (.int x :: st) w k n := rw_ldI rfl rfl
set_option maxRecDepth 100000 in
theorem r_L_law_433 {d : Nat} {Q : nm_K} {w : nm_W} {k n : Nat} {L : Nat} {xs : Nat → Int32} {ls st : List Value} : x_L_law L xs d Q 433 ls st w k n ↔ x_L_law L xs d Q 434 ls (.int 3 :: st) w k n := rw_push rfl
set_option maxRecDepth 100000 in
theorem r_L_law_434 {d : Nat} {Q : nm_K} {w : nm_W} {k n : Nat} {L : Nat} {xs : Nat → Int32} {ls st : List Value} {x y : Int32} : x_L_law L xs d Q 434 ls (.int y :: .int x :: st) w k n ↔ x_L_law L xs d Q 435 ls (.int (x + y) :: st) w k n := rw_bin (f := fun x y => x + y) rfl
set_option maxRecDepth 100000 in
theorem r_L_law_435 {d : Nat} {Q : nm_K} {w : nm_W} {k n : Nat} {L : Nat} {xs : Nat → Int32} {ls st : List Value} {x : UInt32} {y : Int32} : x_L_law L xs d Q 435 ls (.int y :: .float x :: st) w k n ↔ (vp_in y L ∧ x_L_law L xs d Q 436 ls (.int (xs y.toNatClampNeg) :: st) w k n) := rw_sald rfl
set_option maxRecDepth 100000 in
theorem r_L_law_436 {d : Nat} {Q : nm_K} {w : nm_W} {k n : Nat} {L : Nat} {xs : Nat → Int32} {ls : List Value} {x0 : Nat} {x1 : Int32} {x2 : Int32} {x3 : Int32} : x_L_law L xs d Q 436 ls [.int x3, .int x2, .int x1, .ref x0] w k n ↔ ((nm_obj w x0 8 ∧ k + 0 ≤ 600000 ∧ n + 0 ≤ 7302250) ∧ nm_call d 77 [.ref x0, .int x1, .int x2, .int x3] w (fun v w' => x_L_law L xs d Q 439 ls (v ++ []) w' k n)) := rw_callC rfl ⟨Nat.le_of_ble_eq_true rfl, Nat.le_of_ble_eq_true rfl⟩ rfl rfl
set_option maxRecDepth 100000 in
theorem r_L_law_439 {d : Nat} {Q : nm_K} {w : nm_W} {k n : Nat} {L : Nat} {xs : Nat → Int32} {a0 a1 a3 : Value} {x : Nat} {st : List Value} : x_L_law L xs d Q 439 [a0, a1, .ref x, a3] st w k n ↔ x_L_law L xs d Q 440 [a0, a1, .ref x, a3] (.ref x :: st) w k n := rw_ldA rfl rfl
set_option maxRecDepth 100000 in
theorem r_L_law_440 {d : Nat} {Q : nm_K} {w : nm_W} {k n : Nat} {L : Nat} {xs : Nat → Int32} {a1 a2 a3 : Value} {x : UInt32} {st : List Value} : x_L_law L xs d Q 440 [.float x, a1, a2, a3] st w k n ↔ x_L_law L xs d Q 441 [.float x, a1, a2, a3] (.float x :: st) w k n := rw_ldF rfl rfl
set_option maxRecDepth 100000 in
theorem r_L_law_441 {d : Nat} {Q : nm_K} {w : nm_W} {k n : Nat} {L : Nat} {xs : Nat → Int32} {a0 a1 a2 : Value} {x : Int32} {st : List Value} : x_L_law L xs d Q 441 [a0, a1, a2, .int x] st w k n ↔ x_L_law L xs d Q 442 [a0, a1, a2, .int x] (.int x :: st) w k n := rw_ldI rfl rfl
set_option maxRecDepth 100000 in
theorem r_L_law_442 {d : Nat} {Q : nm_K} {w : nm_W} {k n : Nat} {L : Nat} {xs : Nat → Int32} {ls st : List Value} : x_L_law L xs d Q 442 ls st w k n ↔ x_L_law L xs d Q 443 ls (.int 1 :: st) w k n := rw_push rfl
set_option maxRecDepth 100000 in
theorem r_L_law_443 {d : Nat} {Q : nm_K} {w : nm_W} {k n : Nat} {L : Nat} {xs : Nat → Int32} {ls st : List Value} {x y : Int32} : x_L_law L xs d Q 443 ls (.int y :: .int x :: st) w k n ↔ x_L_law L xs d Q 444 ls (.int (x + y) :: st) w k n := rw_bin (f := fun x y => x + y) rfl
set_option maxRecDepth 100000 in
theorem r_L_law_444 {d : Nat} {Q : nm_K} {w : nm_W} {k n : Nat} {L : Nat} {xs : Nat → Int32} {ls st : List Value} {x : UInt32} {y : Int32} : x_L_law L xs d Q 444 ls (.int y :: .float x :: st) w k n ↔ (vp_in y L ∧ x_L_law L xs d Q 445 ls (.int (xs y.toNatClampNeg) :: st) w k n) := rw_sald rfl
set_option maxRecDepth 100000 in
theorem r_L_law_445 {d : Nat} {Q : nm_K} {w : nm_W} {k n : Nat} {L : Nat} {xs : Nat → Int32} {a1 a2 a3 : Value} {x : UInt32} {st : List Value} : x_L_law L xs d Q 445 [.float x, a1, a2, a3] st w k n ↔ x_L_law L xs d Q 446 [.float x, a1, a2, a3] (.float x :: st) w k n := rw_ldF rfl rfl
set_option maxRecDepth 100000 in
theorem r_L_law_446 {d : Nat} {Q : nm_K} {w : nm_W} {k n : Nat} {L : Nat} {xs : Nat → Int32} {a0 a1 a2 : Value} {x : Int32} {st : List Value} : x_L_law L xs d Q 446 [a0, a1, a2, .int x] st w k n ↔ x_L_law L xs d Q 447 [a0, a1, a2, .int x] (.int x :: st) w k n := rw_ldI rfl rfl
set_option maxRecDepth 100000 in
theorem r_L_law_447 {d : Nat} {Q : nm_K} {w : nm_W} {k n : Nat} {L : Nat} {xs : Nat → Int32} {ls st : List Value} : x_L_law L xs d Q 447 ls st w k n ↔ x_L_law L xs d Q 448 ls (.int 2 :: st) w k n := rw_push rfl
set_option maxRecDepth 100000 in
theorem r_L_law_448 {d : Nat} {Q : nm_K} {w : nm_W} {k n : Nat} {L : Nat} {xs : Nat → Int32} {ls st : List Value} {x y : Int32} : x_L_law L xs d Q 448 ls (.int y :: .int x :: st) w k n ↔ x_L_law L xs d Q 449 ls (.int (x + y) :: st) w k n := rw_bin (f := fun x y => x + y) rfl
set_option maxRecDepth 100000 in
theorem r_L_law_449 {d : Nat} {Q : nm_K} {w : nm_W} {k n : Nat} {L : Nat} {xs : Nat → Int32} {ls st : List Value} {x : UInt32} {y : Int32} : x_L_law L xs d Q 449 ls (.int y :: .float x :: st) w k n ↔ (vp_in y L ∧ x_L_law L xs d Q 450 ls (.int (xs y.toNatClampNeg) :: st) w k n) := rw_sald rfl
set_option maxRecDepth 100000 in
theorem r_L_law_450 {d : Nat} {Q : nm_K} {w : nm_W} {k n : Nat} {L : Nat} {xs : Nat → Int32} {a1 a2 a3 : Value} {x : UInt32} {st : List Value} : x_L_law L xs d Q 450 [.float x, a1, a2, a3] st w k n ↔ x_L_law L xs d Q 451 [.float x, a1, a2, a3] (.float x :: st) w k n := rw_ldF rfl rfl
set_option maxRecDepth 100000 in
theorem r_L_law_451 {d : Nat} {Q : nm_K} {w : nm_W} {k n : Nat} {L : Nat} {xs : Nat → Int32} {a0 a1 a2 : Value} {x : Int32} {st : List Value} : x_L_law L xs d Q 451 [a0, a1, a2, .int x] st w k n ↔ x_L_law L xs d Q 452 [a0, a1, a2, .int x] (.int x :: st) w k n := rw_ldI rfl rfl
set_option maxRecDepth 100000 in
theorem r_L_law_452 {d : Nat} {Q : nm_K} {w : nm_W} {k n : Nat} {L : Nat} {xs : Nat → Int32} {ls st : List Value} : x_L_law L xs d Q 452 ls st w k n ↔ x_L_law L xs d Q 453 ls (.int 3 :: st) w k n := rw_push rfl
set_option maxRecDepth 100000 in
theorem r_L_law_453 {d : Nat} {Q : nm_K} {w : nm_W} {k n : Nat} {L : Nat} {xs : Nat → Int32} {ls st : List Value} {x y : Int32} : x_L_law L xs d Q 453 ls (.int y :: .int x :: st) w k n ↔ x_L_law L xs d Q 454 ls (.int (x + y) :: st) w k n := rw_bin (f := fun x y => x + y) rfl
set_option maxRecDepth 100000 in
theorem r_L_law_454 {d : Nat} {Q : nm_K} {w : nm_W} {k n : Nat} {L : Nat} {xs : Nat → Int32} {ls st : List Value} {x : UInt32} {y : Int32} : x_L_law L xs d Q 454 ls (.int y :: .float x :: st) w k n ↔ (vp_in y L ∧ x_L_law L xs d Q 455 ls (.int (xs y.toNatClampNeg) :: st) w k n) := rw_sald rfl
set_option maxRecDepth 100000 in
theorem r_L_law_455 {d : Nat} {Q : nm_K} {w : nm_W} {k n : Nat} {L : Nat} {xs : Nat → Int32} {ls : List Value} {x0 : Nat} {x1 : Int32} {x2 : Int32} {x3 : Int32} {s0 : Value} : x_L_law L xs d Q 455 ls [.int x3, .int x2, .int x1, .ref x0, s0] w k n ↔ ((nm_obj w x0 9 ∧ k + 0 ≤ 600000 ∧ n + 0 ≤ 7302250) ∧ nm_call d 119 [.ref x0, .int x1, .int x2, .int x3] w (fun v w' => x_L_law L xs d Q 458 ls (v ++ [s0]) w' k n)) := rw_callC rfl ⟨Nat.le_of_ble_eq_true rfl, Nat.le_of_ble_eq_true rfl⟩ rfl rfl
set_option maxRecDepth 100000 in
theorem r_L_law_458 {d : Nat} {Q : nm_K} {w : nm_W} {k n : Nat} {L : Nat} {xs : Nat → Int32} {ls st : List Value} {x y : Int32} : x_L_law L xs d Q 458 ls (.int y :: .int x :: st) w k n ↔ (if x = y then x_L_law L xs d Q 893 ls st w k n else x_L_law L xs d Q 461 ls st w k n) := rw_if (f := fun x y => decide (x = y)) rfl nm_dt
set_option maxRecDepth 100000 in
theorem r_L_law_461 {d : Nat} {Q : nm_K} {w : nm_W} {k n : Nat} {L : Nat} {xs : Nat → Int32} {ls st : List Value} : x_L_law L xs d Q 461 ls st w k n ↔ x_L_law L xs d Q 462 ls (.int 0 :: st) w k n := rw_push rfl
set_option maxRecDepth 100000 in
theorem r_L_law_462 {d : Nat} {Q : nm_K} {w : nm_W} {k n : Nat} {L : Nat} {xs : Nat → Int32} {ls : List Value} {x : Int32} : x_L_law L xs d Q 462 ls [.int x] w k n ↔ ((k ≤ 600000 ∧ n ≤ 7302250) ∧ (x = 0 ∨ x = 1) ∧ Q [.int x] w) := rw_retZ rfl
set_option maxRecDepth 100000 in
theorem r_L_law_463 {d : Nat} {Q : nm_K} {w : nm_W} {k n : Nat} {L : Nat} {xs : Nat → Int32} {a0 a2 a3 : Value} {x : Nat} {st : List Value} : x_L_law L xs d Q 463 [a0, .ref x, a2, a3] st w k n ↔ x_L_law L xs d Q 464 [a0, .ref x, a2, a3] (.ref x :: st) w k n := rw_ldA rfl rfl
set_option maxRecDepth 100000 in
theorem r_L_law_464 {d : Nat} {Q : nm_K} {w : nm_W} {k n : Nat} {L : Nat} {xs : Nat → Int32} {a1 a2 a3 : Value} {x : UInt32} {st : List Value} : x_L_law L xs d Q 464 [.float x, a1, a2, a3] st w k n ↔ x_L_law L xs d Q 465 [.float x, a1, a2, a3] (.float x :: st) w k n := rw_ldF rfl rfl
set_option maxRecDepth 100000 in
theorem r_L_law_465 {d : Nat} {Q : nm_K} {w : nm_W} {k n : Nat} {L : Nat} {xs : Nat → Int32} {a0 a1 a2 : Value} {x : Int32} {st : List Value} : x_L_law L xs d Q 465 [a0, a1, a2, .int x] st w k n ↔ x_L_law L xs d Q 466 [a0, a1, a2, .int x] (.int x :: st) w k n := rw_ldI rfl rfl
set_option maxRecDepth 100000 in
theorem r_L_law_466 {d : Nat} {Q : nm_K} {w : nm_W} {k n : Nat} {L : Nat} {xs : Nat → Int32} {ls st : List Value} : x_L_law L xs d Q 466 ls st w k n ↔ x_L_law L xs d Q 467 ls (.int 1 :: st) w k n := rw_push rfl
set_option maxRecDepth 100000 in
theorem r_L_law_467 {d : Nat} {Q : nm_K} {w : nm_W} {k n : Nat} {L : Nat} {xs : Nat → Int32} {ls st : List Value} {x y : Int32} : x_L_law L xs d Q 467 ls (.int y :: .int x :: st) w k n ↔ x_L_law L xs d Q 468 ls (.int (x + y) :: st) w k n := rw_bin (f := fun x y => x + y) rfl
set_option maxRecDepth 100000 in
theorem r_L_law_468 {d : Nat} {Q : nm_K} {w : nm_W} {k n : Nat} {L : Nat} {xs : Nat → Int32} {ls st : List Value} {x : UInt32} {y : Int32} : x_L_law L xs d Q 468 ls (.int y :: .float x :: st) w k n ↔ (vp_in y L ∧ x_L_law L xs d Q 469 ls (.int (xs y.toNatClampNeg) :: st) w k n) := rw_sald rfl
set_option maxRecDepth 100000 in
theorem r_L_law_469 {d : Nat} {Q : nm_K} {w : nm_W} {k n : Nat} {L : Nat} {xs : Nat → Int32} {a1 a2 a3 : Value} {x : UInt32} {st : List Value} : x_L_law L xs d Q 469 [.float x, a1, a2, a3] st w k n ↔ x_L_law L xs d Q 470 [.float x, a1, a2, a3] (.float x :: st) w k n := rw_ldF rfl rfl
set_option maxRecDepth 100000 in
theorem r_L_law_470 {d : Nat} {Q : nm_K} {w : nm_W} {k n : Nat} {L : Nat} {xs : Nat → Int32} {a0 a1 a2 : Value} {x : Int32} {st : List Value} : x_L_law L xs d Q 470 [a0, a1, a2, .int x] st w k n ↔ x_L_law L xs d Q 471 [a0, a1, a2, .int x] (.int x :: st) w k n := rw_ldI rfl rfl
set_option maxRecDepth 100000 in
theorem r_L_law_471 {d : Nat} {Q : nm_K} {w : nm_W} {k n : Nat} {L : Nat} {xs : Nat → Int32} {ls st : List Value} : x_L_law L xs d Q 471 ls st w k n ↔ x_L_law L xs d Q 472 ls (.int 2 :: st) w k n := rw_push rfl
set_option maxRecDepth 100000 in
theorem r_L_law_472 {d : Nat} {Q : nm_K} {w : nm_W} {k n : Nat} {L : Nat} {xs : Nat → Int32} {ls st : List Value} {x y : Int32} : x_L_law L xs d Q 472 ls (.int y :: .int x :: st) w k n ↔ x_L_law L xs d Q 473 ls (.int (x + y) :: st) w k n := rw_bin (f := fun x y => x + y) rfl
set_option maxRecDepth 100000 in
theorem r_L_law_473 {d : Nat} {Q : nm_K} {w : nm_W} {k n : Nat} {L : Nat} {xs : Nat → Int32} {ls st : List Value} {x : UInt32} {y : Int32} : x_L_law L xs d Q 473 ls (.int y :: .float x :: st) w k n ↔ (vp_in y L ∧ x_L_law L xs d Q 474 ls (.int (xs y.toNatClampNeg) :: st) w k n) := rw_sald rfl
set_option maxRecDepth 100000 in
theorem r_L_law_474 {d : Nat} {Q : nm_K} {w : nm_W} {k n : Nat} {L : Nat} {xs : Nat → Int32} {ls : List Value} {x0 : Nat} {x1 : Int32} {x2 : Int32} : x_L_law L xs d Q 474 ls [.int x2, .int x1, .ref x0] w k n ↔ ((nm_obj w x0 8 ∧ k + 0 ≤ 600000 ∧ n + 0 ≤ 7302250) ∧ nm_call d 78 [.ref x0, .int x1, .int x2] w (fun v w' => x_L_law L xs d Q 477 ls (v ++ []) w' k n)) := rw_callC rfl ⟨Nat.le_of_ble_eq_true rfl, Nat.le_of_ble_eq_true rfl⟩ rfl rfl
set_option maxRecDepth 100000 in
theorem r_L_law_477 {d : Nat} {Q : nm_K} {w : nm_W} {k n : Nat} {L : Nat} {xs : Nat → Int32} {a0 a1 a3 : Value} {x : Nat} {st : List Value} : x_L_law L xs d Q 477 [a0, a1, .ref x, a3] st w k n ↔ x_L_law L xs d Q 478 [a0, a1, .ref x, a3] (.ref x :: st) w k n := rw_ldA rfl rfl
set_option maxRecDepth 100000 in
theorem r_L_law_478 {d : Nat} {Q : nm_K} {w : nm_W} {k n : Nat} {L : Nat} {xs : Nat → Int32} {a1 a2 a3 : Value} {x : UInt32} {st : List Value} : x_L_law L xs d Q 478 [.float x, a1, a2, a3] st w k n ↔ x_L_law L xs d Q 479 [.float x, a1, a2, a3] (.float x :: st) w k n := rw_ldF rfl rfl
set_option maxRecDepth 100000 in
theorem r_L_law_479 {d : Nat} {Q : nm_K} {w : nm_W} {k n : Nat} {L : Nat} {xs : Nat → Int32} {a0 a1 a2 : Value} {x : Int32} {st : List Value} : x_L_law L xs d Q 479 [a0, a1, a2, .int x] st w k n ↔ x_L_law L xs d Q 480 [a0, a1, a2, .int x] (.int x :: st) w k n := rw_ldI rfl rfl
set_option maxRecDepth 100000 in
theorem r_L_law_480 {d : Nat} {Q : nm_K} {w : nm_W} {k n : Nat} {L : Nat} {xs : Nat → Int32} {ls st : List Value} : x_L_law L xs d Q 480 ls st w k n ↔ x_L_law L xs d Q 481 ls (.int 1 :: st) w k n := rw_push rfl
set_option maxRecDepth 100000 in
theorem r_L_law_481 {d : Nat} {Q : nm_K} {w : nm_W} {k n : Nat} {L : Nat} {xs : Nat → Int32} {ls st : List Value} {x y : Int32} : x_L_law L xs d Q 481 ls (.int y :: .int x :: st) w k n ↔ x_L_law L xs d Q 482 ls (.int (x + y) :: st) w k n := rw_bin (f := fun x y => x + y) rfl
set_option maxRecDepth 100000 in
theorem r_L_law_482 {d : Nat} {Q : nm_K} {w : nm_W} {k n : Nat} {L : Nat} {xs : Nat → Int32} {ls st : List Value} {x : UInt32} {y : Int32} : x_L_law L xs d Q 482 ls (.int y :: .float x :: st) w k n ↔ (vp_in y L ∧ x_L_law L xs d Q 483 ls (.int (xs y.toNatClampNeg) :: st) w k n) := rw_sald rfl
set_option maxRecDepth 100000 in
theorem r_L_law_483 {d : Nat} {Q : nm_K} {w : nm_W} {k n : Nat} {L : Nat} {xs : Nat → Int32} {a1 a2 a3 : Value} {x : UInt32} {st : List Value} : x_L_law L xs d Q 483 [.float x, a1, a2, a3] st w k n ↔ x_L_law L xs d Q 484 [.float x, a1, a2, a3] (.float x :: st) w k n := rw_ldF rfl rfl
set_option maxRecDepth 100000 in
theorem r_L_law_484 {d : Nat} {Q : nm_K} {w : nm_W} {k n : Nat} {L : Nat} {xs : Nat → Int32} {a0 a1 a2 : Value} {x : Int32} {st : List Value} : x_L_law L xs d Q 484 [a0, a1, a2, .int x] st w k n ↔ x_L_law L xs d Q 485 [a0, a1, a2, .int x] (.int x :: st) w k n := rw_ldI rfl rfl
set_option maxRecDepth 100000 in
theorem r_L_law_485 {d : Nat} {Q : nm_K} {w : nm_W} {k n : Nat} {L : Nat} {xs : Nat → Int32} {ls st : List Value} : x_L_law L xs d Q 485 ls st w k n ↔ x_L_law L xs d Q 486 ls (.int 2 :: st) w k n := rw_push rfl
set_option maxRecDepth 100000 in
theorem r_L_law_486 {d : Nat} {Q : nm_K} {w : nm_W} {k n : Nat} {L : Nat} {xs : Nat → Int32} {ls st : List Value} {x y : Int32} : x_L_law L xs d Q 486 ls (.int y :: .int x :: st) w k n ↔ x_L_law L xs d Q 487 ls (.int (x + y) :: st) w k n := rw_bin (f := fun x y => x + y) rfl
set_option maxRecDepth 100000 in
theorem r_L_law_487 {d : Nat} {Q : nm_K} {w : nm_W} {k n : Nat} {L : Nat} {xs : Nat → Int32} {ls st : List Value} {x : UInt32} {y : Int32} : x_L_law L xs d Q 487 ls (.int y :: .float x :: st) w k n ↔ (vp_in y L ∧ x_L_law L xs d Q 488 ls (.int (xs y.toNatClampNeg) :: st) w k n) := rw_sald rfl
set_option maxRecDepth 100000 in
theorem r_L_law_488 {d : Nat} {Q : nm_K} {w : nm_W} {k n : Nat} {L : Nat} {xs : Nat → Int32} {ls : List Value} {x0 : Nat} {x1 : Int32} {x2 : Int32} {s0 : Value} : x_L_law L xs d Q 488 ls [.int x2, .int x1, .ref x0, s0] w k n ↔ ((nm_obj w x0 9 ∧ k + 0 ≤ 600000 ∧ n + 0 ≤ 7302250) ∧ nm_call d 120 [.ref x0, .int x1, .int x2] w (fun v w' => x_L_law L xs d Q 491 ls (v ++ [s0]) w' k n)) := rw_callC rfl ⟨Nat.le_of_ble_eq_true rfl, Nat.le_of_ble_eq_true rfl⟩ rfl rfl
set_option maxRecDepth 100000 in
theorem r_L_law_491 {d : Nat} {Q : nm_K} {w : nm_W} {k n : Nat} {L : Nat} {xs : Nat → Int32} {ls st : List Value} {x y : Int32} : x_L_law L xs d Q 491 ls (.int y :: .int x :: st) w k n ↔ (if x = y then x_L_law L xs d Q 893 ls st w k n else x_L_law L xs d Q 494 ls st w k n) := rw_if (f := fun x y => decide (x = y)) rfl nm_dt
set_option maxRecDepth 100000 in
theorem r_L_law_494 {d : Nat} {Q : nm_K} {w : nm_W} {k n : Nat} {L : Nat} {xs : Nat → Int32} {ls st : List Value} : x_L_law L xs d Q 494 ls st w k n ↔ x_L_law L xs d Q 495 ls (.int 0 :: st) w k n := rw_push rfl
set_option maxRecDepth 100000 in
theorem r_L_law_495 {d : Nat} {Q : nm_K} {w : nm_W} {k n : Nat} {L : Nat} {xs : Nat → Int32} {ls : List Value} {x : Int32} : x_L_law L xs d Q 495 ls [.int x] w k n ↔ ((k ≤ 600000 ∧ n ≤ 7302250) ∧ (x = 0 ∨ x = 1) ∧ Q [.int x] w) := rw_retZ rfl
set_option maxRecDepth 100000 in
theorem r_L_law_496 {d : Nat} {Q : nm_K} {w : nm_W} {k n : Nat} {L : Nat} {xs : Nat → Int32} {a0 a2 a3 : Value} {x : Nat} {st : List Value} : x_L_law L xs d Q 496 [a0, .ref x, a2, a3] st w k n ↔ x_L_law L xs d Q 497 [a0, .ref x, a2, a3] (.ref x :: st) w k n := rw_ldA rfl rfl
set_option maxRecDepth 100000 in
theorem r_L_law_497 {d : Nat} {Q : nm_K} {w : nm_W} {k n : Nat} {L : Nat} {xs : Nat → Int32} {a1 a2 a3 : Value} {x : UInt32} {st : List Value} : x_L_law L xs d Q 497 [.float x, a1, a2, a3] st w k n ↔ x_L_law L xs d Q 498 [.float x, a1, a2, a3] (.float x :: st) w k n := rw_ldF rfl rfl
set_option maxRecDepth 100000 in
theorem r_L_law_498 {d : Nat} {Q : nm_K} {w : nm_W} {k n : Nat} {L : Nat} {xs : Nat → Int32} {a0 a1 a2 : Value} {x : Int32} {st : List Value} : x_L_law L xs d Q 498 [a0, a1, a2, .int x] st w k n ↔ x_L_law L xs d Q 499 [a0, a1, a2, .int x] (.int x :: st) w k n := rw_ldI rfl rfl
set_option maxRecDepth 100000 in
theorem r_L_law_499 {d : Nat} {Q : nm_K} {w : nm_W} {k n : Nat} {L : Nat} {xs : Nat → Int32} {ls st : List Value} : x_L_law L xs d Q 499 ls st w k n ↔ x_L_law L xs d Q 500 ls (.int 1 :: st) w k n := rw_push rfl
set_option maxRecDepth 100000 in
theorem r_L_law_500 {d : Nat} {Q : nm_K} {w : nm_W} {k n : Nat} {L : Nat} {xs : Nat → Int32} {ls st : List Value} {x y : Int32} : x_L_law L xs d Q 500 ls (.int y :: .int x :: st) w k n ↔ x_L_law L xs d Q 501 ls (.int (x + y) :: st) w k n := rw_bin (f := fun x y => x + y) rfl
set_option maxRecDepth 100000 in
theorem r_L_law_501 {d : Nat} {Q : nm_K} {w : nm_W} {k n : Nat} {L : Nat} {xs : Nat → Int32} {ls st : List Value} {x : UInt32} {y : Int32} : x_L_law L xs d Q 501 ls (.int y :: .float x :: st) w k n ↔ (vp_in y L ∧ x_L_law L xs d Q 502 ls (.int (xs y.toNatClampNeg) :: st) w k n) := rw_sald rfl
set_option maxRecDepth 100000 in
theorem r_L_law_502 {d : Nat} {Q : nm_K} {w : nm_W} {k n : Nat} {L : Nat} {xs : Nat → Int32} {a1 a2 a3 : Value} {x : UInt32} {st : List Value} : x_L_law L xs d Q 502 [.float x, a1, a2, a3] st w k n ↔ x_L_law L xs d Q 503 [.float x, a1, a2, a3] (.float x :: st) w k n := rw_ldF rfl rfl
set_option maxRecDepth 100000 in
theorem r_L_law_503 {d : Nat} {Q : nm_K} {w : nm_W} {k n : Nat} {L : Nat} {xs : Nat → Int32} {a0 a1 a2 : Value} {x : Int32} {st : List Value} : x_L_law L xs d Q 503 [a0, a1, a2, .int x] st w k n ↔ x_L_law L xs d Q 504 [a0, a1, a2, .int x] (.int x :: st) w k n := rw_ldI rfl rfl
set_option maxRecDepth 100000 in
theorem r_L_law_504 {d : Nat} {Q : nm_K} {w : nm_W} {k n : Nat} {L : Nat} {xs : Nat → Int32} {ls st : List Value} : x_L_law L xs d Q 504 ls st w k n ↔ x_L_law L xs d Q 505 ls (.int 2 :: st) w k n := rw_push rfl
set_option maxRecDepth 100000 in
theorem r_L_law_505 {d : Nat} {Q : nm_K} {w : nm_W} {k n : Nat} {L : Nat} {xs : Nat → Int32} {ls st : List Value} {x y : Int32} : x_L_law L xs d Q 505 ls (.int y :: .int x :: st) w k n ↔ x_L_law L xs d Q 506 ls (.int (x + y) :: st) w k n := rw_bin (f := fun x y => x + y) rfl
set_option maxRecDepth 100000 in
theorem r_L_law_506 {d : Nat} {Q : nm_K} {w : nm_W} {k n : Nat} {L : Nat} {xs : Nat → Int32} {ls st : List Value} {x : UInt32} {y : Int32} : x_L_law L xs d Q 506 ls (.int y :: .float x :: st) w k n ↔ (vp_in y L ∧ x_L_law L xs d Q 507 ls (.int (xs y.toNatClampNeg) :: st) w k n) := rw_sald rfl
set_option maxRecDepth 100000 in
theorem r_L_law_507 {d : Nat} {Q : nm_K} {w : nm_W} {k n : Nat} {L : Nat} {xs : Nat → Int32} {a1 a2 a3 : Value} {x : UInt32} {st : List Value} : x_L_law L xs d Q 507 [.float x, a1, a2, a3] st w k n ↔ x_L_law L xs d Q 508 [.float x, a1, a2, a3] (.float x :: st) w k n := rw_ldF rfl rfl
set_option maxRecDepth 100000 in
theorem r_L_law_508 {d : Nat} {Q : nm_K} {w : nm_W} {k n : Nat} {L : Nat} {xs : Nat → Int32} {a0 a1 a2 : Value} {x : Int32} {st : List Value} : x_L_law L xs d Q 508 [a0, a1, a2, .int x] st w k n ↔ x_L_law L xs d Q 509 [a0, a1, a2, .int x] (.int x :: st) w k n := rw_ldI rfl rfl
set_option maxRecDepth 100000 in
theorem r_L_law_509 {d : Nat} {Q : nm_K} {w : nm_W} {k n : Nat} {L : Nat} {xs : Nat → Int32} {ls st : List Value} : x_L_law L xs d Q 509 ls st w k n ↔ x_L_law L xs d Q 510 ls (.int 3 :: st) w k n := rw_push rfl
set_option maxRecDepth 100000 in
theorem r_L_law_510 {d : Nat} {Q : nm_K} {w : nm_W} {k n : Nat} {L : Nat} {xs : Nat → Int32} {ls st : List Value} {x y : Int32} : x_L_law L xs d Q 510 ls (.int y :: .int x :: st) w k n ↔ x_L_law L xs d Q 511 ls (.int (x + y) :: st) w k n := rw_bin (f := fun x y => x + y) rfl
set_option maxRecDepth 100000 in
theorem r_L_law_511 {d : Nat} {Q : nm_K} {w : nm_W} {k n : Nat} {L : Nat} {xs : Nat → Int32} {ls st : List Value} {x : UInt32} {y : Int32} : x_L_law L xs d Q 511 ls (.int y :: .float x :: st) w k n ↔ (vp_in y L ∧ x_L_law L xs d Q 512 ls (.int (xs y.toNatClampNeg) :: st) w k n) := rw_sald rfl
set_option maxRecDepth 100000 in
theorem r_L_law_512 {d : Nat} {Q : nm_K} {w : nm_W} {k n : Nat} {L : Nat} {xs : Nat → Int32} {ls : List Value} {x0 : Nat} {x1 : Int32} {x2 : Int32} {x3 : Int32} : x_L_law L xs d Q 512 ls [.int x3, .int x2, .int x1, .ref x0] w k n ↔ ((nm_obj w x0 8 ∧ k + 0 ≤ 600000 ∧ n + 0 ≤ 7302250) ∧ nm_call d 79 [.ref x0, .int x1, .int x2, .int x3] w (fun v w' => x_L_law L xs d Q 515 ls (v ++ []) w' k n)) := rw_callC rfl ⟨Nat.le_of_ble_eq_true rfl, Nat.le_of_ble_eq_true rfl⟩ rfl rfl
set_option maxRecDepth 100000 in
theorem r_L_law_515 {d : Nat} {Q : nm_K} {w : nm_W} {k n : Nat} {L : Nat} {xs : Nat → Int32} {a0 a1 a3 : Value} {x : Nat} {st : List Value} : x_L_law L xs d Q 515 [a0, a1, .ref x, a3] st w k n ↔ x_L_law L xs d Q 516 [a0, a1, .ref x, a3] (.ref x :: st) w k n := rw_ldA rfl rfl
set_option maxRecDepth 100000 in
theorem r_L_law_516 {d : Nat} {Q : nm_K} {w : nm_W} {k n : Nat} {L : Nat} {xs : Nat → Int32} {a1 a2 a3 : Value} {x : UInt32} {st : List Value} : x_L_law L xs d Q 516 [.float x, a1, a2, a3] st w k n ↔ x_L_law L xs d Q 517 [.float x, a1, a2, a3] (.float x :: st) w k n := rw_ldF rfl rfl
set_option maxRecDepth 100000 in
theorem r_L_law_517 {d : Nat} {Q : nm_K} {w : nm_W} {k n : Nat} {L : Nat} {xs : Nat → Int32} {a0 a1 a2 : Value} {x : Int32} {st : List Value} : x_L_law L xs d Q 517 [a0, a1, a2, .int x] st w k n ↔ x_L_law L xs d Q 518 [a0, a1, a2, .int x] (.int x :: st) w k n := rw_ldI rfl rfl
set_option maxRecDepth 100000 in
theorem r_L_law_518 {d : Nat} {Q : nm_K} {w : nm_W} {k n : Nat} {L : Nat} {xs : Nat → Int32} {ls st : List Value} : x_L_law L xs d Q 518 ls st w k n ↔ x_L_law L xs d Q 519 ls (.int 1 :: st) w k n := rw_push rfl
set_option maxRecDepth 100000 in
theorem r_L_law_519 {d : Nat} {Q : nm_K} {w : nm_W} {k n : Nat} {L : Nat} {xs : Nat → Int32} {ls st : List Value} {x y : Int32} : x_L_law L xs d Q 519 ls (.int y :: .int x :: st) w k n ↔ x_L_law L xs d Q 520 ls (.int (x + y) :: st) w k n := rw_bin (f := fun x y => x + y) rfl
set_option maxRecDepth 100000 in
theorem r_L_law_520 {d : Nat} {Q : nm_K} {w : nm_W} {k n : Nat} {L : Nat} {xs : Nat → Int32} {ls st : List Value} {x : UInt32} {y : Int32} : x_L_law L xs d Q 520 ls (.int y :: .float x :: st) w k n ↔ (vp_in y L ∧ x_L_law L xs d Q 521 ls (.int (xs y.toNatClampNeg) :: st) w k n) := rw_sald rfl
set_option maxRecDepth 100000 in
theorem r_L_law_521 {d : Nat} {Q : nm_K} {w : nm_W} {k n : Nat} {L : Nat} {xs : Nat → Int32} {a1 a2 a3 : Value} {x : UInt32} {st : List Value} : x_L_law L xs d Q 521 [.float x, a1, a2, a3] st w k n ↔ x_L_law L xs d Q 522 [.float x, a1, a2, a3] (.float x :: st) w k n := rw_ldF rfl rfl
set_option maxRecDepth 100000 in
theorem r_L_law_522 {d : Nat} {Q : nm_K} {w : nm_W} {k n : Nat} {L : Nat} {xs : Nat → Int32} {a0 a1 a2 : Value} {x : Int32} {st : List Value} : x_L_law L xs d Q 522 [a0, a1, a2, .int x] st w k n ↔ x_L_law L xs d Q 523 [a0, a1, a2, .int x] (.int x :: st) w k n := rw_ldI rfl rfl
set_option maxRecDepth 100000 in
theorem r_L_law_523 {d : Nat} {Q : nm_K} {w : nm_W} {k n : Nat} {L : Nat} {xs : Nat → Int32} {ls st : List Value} : x_L_law L xs d Q 523 ls st w k n ↔ x_L_law L xs d Q 524 ls (.int 2 :: st) w k n := rw_push rfl
set_option maxRecDepth 100000 in
theorem r_L_law_524 {d : Nat} {Q : nm_K} {w : nm_W} {k n : Nat} {L : Nat} {xs : Nat → Int32} {ls st : List Value} {x y : Int32} : x_L_law L xs d Q 524 ls (.int y :: .int x :: st) w k n ↔ x_L_law L xs d Q 525 ls (.int (x + y) :: st) w k n := rw_bin (f := fun x y => x + y) rfl
set_option maxRecDepth 100000 in
theorem r_L_law_525 {d : Nat} {Q : nm_K} {w : nm_W} {k n : Nat} {L : Nat} {xs : Nat → Int32} {ls st : List Value} {x : UInt32} {y : Int32} : x_L_law L xs d Q 525 ls (.int y :: .float x :: st) w k n ↔ (vp_in y L ∧ x_L_law L xs d Q 526 ls (.int (xs y.toNatClampNeg) :: st) w k n) := rw_sald rfl
set_option maxRecDepth 100000 in
theorem r_L_law_526 {d : Nat} {Q : nm_K} {w : nm_W} {k n : Nat} {L : Nat} {xs : Nat → Int32} {a1 a2 a3 : Value} {x : UInt32} {st : List Value} : x_L_law L xs d Q 526 [.float x, a1, a2, a3] st w k n ↔ x_L_law L xs d Q 527 [.float x, a1, a2, a3] (.float x :: st) w k n := rw_ldF rfl rfl
set_option maxRecDepth 100000 in
theorem r_L_law_527 {d : Nat} {Q : nm_K} {w : nm_W} {k n : Nat} {L : Nat} {xs : Nat → Int32} {a0 a1 a2 : Value} {x : Int32} {st : List Value} : x_L_law L xs d Q 527 [a0, a1, a2, .int x] st w k n ↔ x_L_law L xs d Q 528 [a0, a1, a2, .int x] (.int x :: st) w k n := rw_ldI rfl rfl
set_option maxRecDepth 100000 in
theorem r_L_law_528 {d : Nat} {Q : nm_K} {w : nm_W} {k n : Nat} {L : Nat} {xs : Nat → Int32} {ls st : List Value} : x_L_law L xs d Q 528 ls st w k n ↔ x_L_law L xs d Q 529 ls (.int 3 :: st) w k n := rw_push rfl
set_option maxRecDepth 100000 in
theorem r_L_law_529 {d : Nat} {Q : nm_K} {w : nm_W} {k n : Nat} {L : Nat} {xs : Nat → Int32} {ls st : List Value} {x y : Int32} : x_L_law L xs d Q 529 ls (.int y :: .int x :: st) w k n ↔ x_L_law L xs d Q 530 ls (.int (x + y) :: st) w k n := rw_bin (f := fun x y => x + y) rfl
set_option maxRecDepth 100000 in
theorem r_L_law_530 {d : Nat} {Q : nm_K} {w : nm_W} {k n : Nat} {L : Nat} {xs : Nat → Int32} {ls st : List Value} {x : UInt32} {y : Int32} : x_L_law L xs d Q 530 ls (.int y :: .float x :: st) w k n ↔ (vp_in y L ∧ x_L_law L xs d Q 531 ls (.int (xs y.toNatClampNeg) :: st) w k n) := rw_sald rfl
set_option maxRecDepth 100000 in
theorem r_L_law_531 {d : Nat} {Q : nm_K} {w : nm_W} {k n : Nat} {L : Nat} {xs : Nat → Int32} {ls : List Value} {x0 : Nat} {x1 : Int32} {x2 : Int32} {x3 : Int32} {s0 : Value} : x_L_law L xs d Q 531 ls [.int x3, .int x2, .int x1, .ref x0, s0] w k n ↔ ((nm_obj w x0 9 ∧ k + 0 ≤ 600000 ∧ n + 0 ≤ 7302250) ∧ nm_call d 121 [.ref x0, .int x1, .int x2, .int x3] w (fun v w' => x_L_law L xs d Q 534 ls (v ++ [s0]) w' k n)) := rw_callC rfl ⟨Nat.le_of_ble_eq_true rfl, Nat.le_of_ble_eq_true rfl⟩ rfl rfl
set_option maxRecDepth 100000 in
theorem r_L_law_534 {d : Nat} {Q : nm_K} {w : nm_W} {k n : Nat} {L : Nat} {xs : Nat → Int32} {ls st : List Value} {x y : Int32} : x_L_law L xs d Q 534 ls (.int y :: .int x :: st) w k n ↔ (if x = y then x_L_law L xs d Q 893 ls st w k n else x_L_law L xs d Q 537 ls st w k n) := rw_if (f := fun x y => decide (x = y)) rfl nm_dt
set_option maxRecDepth 100000 in
theorem r_L_law_537 {d : Nat} {Q : nm_K} {w : nm_W} {k n : Nat} {L : Nat} {xs : Nat → Int32} {ls st : List Value} : x_L_law L xs d Q 537 ls st w k n ↔ x_L_law L xs d Q 538 ls (.int 0 :: st) w k n := rw_push rfl
set_option maxRecDepth 100000 in
theorem r_L_law_538 {d : Nat} {Q : nm_K} {w : nm_W} {k n : Nat} {L : Nat} {xs : Nat → Int32} {ls : List Value} {x : Int32} : x_L_law L xs d Q 538 ls [.int x] w k n ↔ ((k ≤ 600000 ∧ n ≤ 7302250) ∧ (x = 0 ∨ x = 1) ∧ Q [.int x] w) := rw_retZ rfl
set_option maxRecDepth 100000 in
theorem r_L_law_539 {d : Nat} {Q : nm_K} {w : nm_W} {k n : Nat} {L : Nat} {xs : Nat → Int32} {a0 a2 a3 : Value} {x : Nat} {st : List Value} : x_L_law L xs d Q 539 [a0, .ref x, a2, a3] st w k n ↔ x_L_law L xs d Q 540 [a0, .ref x, a2, a3] (.ref x :: st) w k n := rw_ldA rfl rfl
set_option maxRecDepth 100000 in
theorem r_L_law_540 {d : Nat} {Q : nm_K} {w : nm_W} {k n : Nat} {L : Nat} {xs : Nat → Int32} {a1 a2 a3 : Value} {x : UInt32} {st : List Value} : x_L_law L xs d Q 540 [.float x, a1, a2, a3] st w k n ↔ x_L_law L xs d Q 541 [.float x, a1, a2, a3] (.float x :: st) w k n := rw_ldF rfl rfl
set_option maxRecDepth 100000 in
theorem r_L_law_541 {d : Nat} {Q : nm_K} {w : nm_W} {k n : Nat} {L : Nat} {xs : Nat → Int32} {a0 a1 a2 : Value} {x : Int32} {st : List Value} : x_L_law L xs d Q 541 [a0, a1, a2, .int x] st w k n ↔ x_L_law L xs d Q 542 [a0, a1, a2, .int x] (.int x :: st) w k n := rw_ldI rfl rfl
set_option maxRecDepth 100000 in
theorem r_L_law_542 {d : Nat} {Q : nm_K} {w : nm_W} {k n : Nat} {L : Nat} {xs : Nat → Int32} {ls st : List Value} : x_L_law L xs d Q 542 ls st w k n ↔ x_L_law L xs d Q 543 ls (.int 1 :: st) w k n := rw_push rfl
set_option maxRecDepth 100000 in
theorem r_L_law_543 {d : Nat} {Q : nm_K} {w : nm_W} {k n : Nat} {L : Nat} {xs : Nat → Int32} {ls st : List Value} {x y : Int32} : x_L_law L xs d Q 543 ls (.int y :: .int x :: st) w k n ↔ x_L_law L xs d Q 544 ls (.int (x + y) :: st) w k n := rw_bin (f := fun x y => x + y) rfl
set_option maxRecDepth 100000 in
theorem r_L_law_544 {d : Nat} {Q : nm_K} {w : nm_W} {k n : Nat} {L : Nat} {xs : Nat → Int32} {ls st : List Value} {x : UInt32} {y : Int32} : x_L_law L xs d Q 544 ls (.int y :: .float x :: st) w k n ↔ (vp_in y L ∧ x_L_law L xs d Q 545 ls (.int (xs y.toNatClampNeg) :: st) w k n) := rw_sald rfl
set_option maxRecDepth 100000 in
theorem r_L_law_545 {d : Nat} {Q : nm_K} {w : nm_W} {k n : Nat} {L : Nat} {xs : Nat → Int32} {a1 a2 a3 : Value} {x : UInt32} {st : List Value} : x_L_law L xs d Q 545 [.float x, a1, a2, a3] st w k n ↔ x_L_law L xs d Q 546 [.float x, a1, a2, a3] (.float x :: st) w k n := rw_ldF rfl rfl
set_option maxRecDepth 100000 in
theorem r_L_law_546 {d : Nat} {Q : nm_K} {w : nm_W} {k n : Nat} {L : Nat} {xs : Nat → Int32} {a0 a1 a2 : Value} {x : Int32} {st : List Value} : x_L_law L xs d Q 546 [a0, a1, a2, .int x] st w k n ↔ x_L_law L xs d Q 547 [a0, a1, a2, .int x] (.int x :: st) w k n := rw_ldI rfl rfl
set_option maxRecDepth 100000 in
theorem r_L_law_547 {d : Nat} {Q : nm_K} {w : nm_W} {k n : Nat} {L : Nat} {xs : Nat → Int32} {ls st : List Value} : x_L_law L xs d Q 547 ls st w k n ↔ x_L_law L xs d Q 548 ls (.int 2 :: st) w k n := rw_push rfl
set_option maxRecDepth 100000 in
theorem r_L_law_548 {d : Nat} {Q : nm_K} {w : nm_W} {k n : Nat} {L : Nat} {xs : Nat → Int32} {ls st : List Value} {x y : Int32} : x_L_law L xs d Q 548 ls (.int y :: .int x :: st) w k n ↔ x_L_law L xs d Q 549 ls (.int (x + y) :: st) w k n := rw_bin (f := fun x y => x + y) rfl
set_option maxRecDepth 100000 in
theorem r_L_law_549 {d : Nat} {Q : nm_K} {w : nm_W} {k n : Nat} {L : Nat} {xs : Nat → Int32} {ls st : List Value} {x : UInt32} {y : Int32} : x_L_law L xs d Q 549 ls (.int y :: .float x :: st) w k n ↔ (vp_in y L ∧ x_L_law L xs d Q 550 ls (.int (xs y.toNatClampNeg) :: st) w k n) := rw_sald rfl
set_option maxRecDepth 100000 in
theorem r_L_law_550 {d : Nat} {Q : nm_K} {w : nm_W} {k n : Nat} {L : Nat} {xs : Nat → Int32} {a1 a2 a3 : Value} {x : UInt32} {st : List Value} : x_L_law L xs d Q 550 [.float x, a1, a2, a3] st w k n ↔ x_L_law L xs d Q 551 [.float x, a1, a2, a3] (.float x :: st) w k n := rw_ldF rfl rfl
set_option maxRecDepth 100000 in
theorem r_L_law_551 {d : Nat} {Q : nm_K} {w : nm_W} {k n : Nat} {L : Nat} {xs : Nat → Int32} {a0 a1 a2 : Value} {x : Int32} {st : List Value} : x_L_law L xs d Q 551 [a0, a1, a2, .int x] st w k n ↔ x_L_law L xs d Q 552 [a0, a1, a2, .int x] (.int x :: st) w k n := rw_ldI rfl rfl
set_option maxRecDepth 100000 in
theorem r_L_law_552 {d : Nat} {Q : nm_K} {w : nm_W} {k n : Nat} {L : Nat} {xs : Nat → Int32} {ls st : List Value} : x_L_law L xs d Q 552 ls st w k n ↔ x_L_law L xs d Q 553 ls (.int 3 :: st) w k n := rw_push rfl
set_option maxRecDepth 100000 in
theorem r_L_law_553 {d : Nat} {Q : nm_K} {w : nm_W} {k n : Nat} {L : Nat} {xs : Nat → Int32} {ls st : List Value} {x y : Int32} : x_L_law L xs d Q 553 ls (.int y :: .int x :: st) w k n ↔ x_L_law L xs d Q 554 ls (.int (x + y) :: st) w k n := rw_bin (f := fun x y => x + y) rfl
set_option maxRecDepth 100000 in
theorem r_L_law_554 {d : Nat} {Q : nm_K} {w : nm_W} {k n : Nat} {L : Nat} {xs : Nat → Int32} {ls st : List Value} {x : UInt32} {y : Int32} : x_L_law L xs d Q 554 ls (.int y :: .float x :: st) w k n ↔ (vp_in y L ∧ x_L_law L xs d Q 555 ls (.int (xs y.toNatClampNeg) :: st) w k n) := rw_sald rfl
set_option maxRecDepth 100000 in
theorem r_L_law_555 {d : Nat} {Q : nm_K} {w : nm_W} {k n : Nat} {L : Nat} {xs : Nat → Int32} {a1 a2 a3 : Value} {x : UInt32} {st : List Value} : x_L_law L xs d Q 555 [.float x, a1, a2, a3] st w k n ↔ x_L_law L xs d Q 556 [.float x, a1, a2, a3] (.float x :: st) w k n := rw_ldF rfl rfl
set_option maxRecDepth 100000 in
theorem r_L_law_556 {d : Nat} {Q : nm_K} {w : nm_W} {k n : Nat} {L : Nat} {xs : Nat → Int32} {a0 a1 a2 : Value} {x : Int32} {st : List Value} : x_L_law L xs d Q 556 [a0, a1, a2, .int x] st w k n ↔ x_L_law L xs d Q 557 [a0, a1, a2, .int x] (.int x :: st) w k n := rw_ldI rfl rfl
set_option maxRecDepth 100000 in
theorem r_L_law_557 {d : Nat} {Q : nm_K} {w : nm_W} {k n : Nat} {L : Nat} {xs : Nat → Int32} {ls st : List Value} : x_L_law L xs d Q 557 ls st w k n ↔ x_L_law L xs d Q 558 ls (.int 4 :: st) w k n := rw_push rfl
set_option maxRecDepth 100000 in
theorem r_L_law_558 {d : Nat} {Q : nm_K} {w : nm_W} {k n : Nat} {L : Nat} {xs : Nat → Int32} {ls st : List Value} {x y : Int32} : x_L_law L xs d Q 558 ls (.int y :: .int x :: st) w k n ↔ x_L_law L xs d Q 559 ls (.int (x + y) :: st) w k n := rw_bin (f := fun x y => x + y) rfl
set_option maxRecDepth 100000 in
theorem r_L_law_559 {d : Nat} {Q : nm_K} {w : nm_W} {k n : Nat} {L : Nat} {xs : Nat → Int32} {ls st : List Value} {x : UInt32} {y : Int32} : x_L_law L xs d Q 559 ls (.int y :: .float x :: st) w k n ↔ (vp_in y L ∧ x_L_law L xs d Q 560 ls (.int (xs y.toNatClampNeg) :: st) w k n) := rw_sald rfl
set_option maxRecDepth 100000 in
theorem r_L_law_560 {d : Nat} {Q : nm_K} {w : nm_W} {k n : Nat} {L : Nat} {xs : Nat → Int32} {ls st : List Value} {x : Int32} : x_L_law L xs d Q 560 ls (.int x :: st) w k n ↔ (if x = 0 then x_L_law L xs d Q 567 ls st w k n else x_L_law L xs d Q 563 ls st w k n) := rw_ifz (f := fun x => decide (x = 0)) rfl nm_dt
set_option maxRecDepth 100000 in
theorem r_L_law_563 {d : Nat} {Q : nm_K} {w : nm_W} {k n : Nat} {L : Nat} {xs : Nat → Int32} {ls st : List Value} : x_L_law L xs d Q 563 ls st w k n ↔ x_L_law L xs d Q 564 ls (.int 1 :: st) w k n := rw_push rfl
set_option maxRecDepth 100000 in
theorem r_L_law_564 {d : Nat} {Q : nm_K} {w : nm_W} {k n : Nat} {L : Nat} {xs : Nat → Int32} {ls st : List Value} : x_L_law L xs d Q 564 ls st w k n ↔ x_L_law L xs d Q 568 ls st w k n := rw_goto rfl
set_option maxRecDepth 100000 in
theorem r_L_law_567 {d : Nat} {Q : nm_K} {w : nm_W} {k n : Nat} {L : Nat} {xs : Nat → Int32} {ls st : List Value} : x_L_law L xs d Q 567 ls st w k n ↔ x_L_law L xs d Q 568 ls (.int 0 :: st) w k n := rw_push rfl
set_option maxRecDepth 100000 in
theorem r_L_law_568 {d : Nat} {Q : nm_K} {w : nm_W} {k n : Nat} {L : Nat} {xs : Nat → Int32} {ls : List Value} {x0 : Nat} {x1 : Int32} {x2 : Int32} {x3 : Int32} {x4 : Int32} : x_L_law L xs d Q 568 ls [.int x4, .int x3, .int x2, .int x1, .ref x0] w k n ↔ ((nm_obj w x0 8 ∧ k + 0 ≤ 600000 ∧ n + 0 ≤ 7302250) ∧ nm_call d 80 [.ref x0, .int x1, .int x2, .int x3, .int x4] w (fun v w' => x_L_law L xs d Q 571 ls (v ++ []) w' k n)) := rw_callC rfl ⟨Nat.le_of_ble_eq_true rfl, Nat.le_of_ble_eq_true rfl⟩ rfl rfl
set_option maxRecDepth 100000 in
theorem r_L_law_571 {d : Nat} {Q : nm_K} {w : nm_W} {k n : Nat} {L : Nat} {xs : Nat → Int32} {a0 a1 a3 : Value} {x : Nat} {st : List Value} : x_L_law L xs d Q 571 [a0, a1, .ref x, a3] st w k n ↔ x_L_law L xs d Q 572 [a0, a1, .ref x, a3] (.ref x :: st) w k n := rw_ldA rfl rfl
set_option maxRecDepth 100000 in
theorem r_L_law_572 {d : Nat} {Q : nm_K} {w : nm_W} {k n : Nat} {L : Nat} {xs : Nat → Int32} {a1 a2 a3 : Value} {x : UInt32} {st : List Value} : x_L_law L xs d Q 572 [.float x, a1, a2, a3] st w k n ↔ x_L_law L xs d Q 573 [.float x, a1, a2, a3] (.float x :: st) w k n := rw_ldF rfl rfl
set_option maxRecDepth 100000 in
theorem r_L_law_573 {d : Nat} {Q : nm_K} {w : nm_W} {k n : Nat} {L : Nat} {xs : Nat → Int32} {a0 a1 a2 : Value} {x : Int32} {st : List Value} : x_L_law L xs d Q 573 [a0, a1, a2, .int x] st w k n ↔ x_L_law L xs d Q 574 [a0, a1, a2, .int x] (.int x :: st) w k n := rw_ldI rfl rfl
set_option maxRecDepth 100000 in
theorem r_L_law_574 {d : Nat} {Q : nm_K} {w : nm_W} {k n : Nat} {L : Nat} {xs : Nat → Int32} {ls st : List Value} : x_L_law L xs d Q 574 ls st w k n ↔ x_L_law L xs d Q 575 ls (.int 1 :: st) w k n := rw_push rfl
set_option maxRecDepth 100000 in
theorem r_L_law_575 {d : Nat} {Q : nm_K} {w : nm_W} {k n : Nat} {L : Nat} {xs : Nat → Int32} {ls st : List Value} {x y : Int32} : x_L_law L xs d Q 575 ls (.int y :: .int x :: st) w k n ↔ x_L_law L xs d Q 576 ls (.int (x + y) :: st) w k n := rw_bin (f := fun x y => x + y) rfl
set_option maxRecDepth 100000 in
theorem r_L_law_576 {d : Nat} {Q : nm_K} {w : nm_W} {k n : Nat} {L : Nat} {xs : Nat → Int32} {ls st : List Value} {x : UInt32} {y : Int32} : x_L_law L xs d Q 576 ls (.int y :: .float x :: st) w k n ↔ (vp_in y L ∧ x_L_law L xs d Q 577 ls (.int (xs y.toNatClampNeg) :: st) w k n) := rw_sald rfl
set_option maxRecDepth 100000 in
theorem r_L_law_577 {d : Nat} {Q : nm_K} {w : nm_W} {k n : Nat} {L : Nat} {xs : Nat → Int32} {a1 a2 a3 : Value} {x : UInt32} {st : List Value} : x_L_law L xs d Q 577 [.float x, a1, a2, a3] st w k n ↔ x_L_law L xs d Q 578 [.float x, a1, a2, a3] (.float x :: st) w k n := rw_ldF rfl rfl
set_option maxRecDepth 100000 in
theorem r_L_law_578 {d : Nat} {Q : nm_K} {w : nm_W} {k n : Nat} {L : Nat} {xs : Nat → Int32} {a0 a1 a2 : Value} {x : Int32} {st : List Value} : x_L_law L xs d Q 578 [a0, a1, a2, .int x] st w k n ↔ x_L_law L xs d Q 579 [a0, a1, a2, .int x] (.int x :: st) w k n := rw_ldI rfl rfl
set_option maxRecDepth 100000 in
theorem r_L_law_579 {d : Nat} {Q : nm_K} {w : nm_W} {k n : Nat} {L : Nat} {xs : Nat → Int32} {ls st : List Value} : x_L_law L xs d Q 579 ls st w k n ↔ x_L_law L xs d Q 580 ls (.int 2 :: st) w k n := rw_push rfl
set_option maxRecDepth 100000 in
theorem r_L_law_580 {d : Nat} {Q : nm_K} {w : nm_W} {k n : Nat} {L : Nat} {xs : Nat → Int32} {ls st : List Value} {x y : Int32} : x_L_law L xs d Q 580 ls (.int y :: .int x :: st) w k n ↔ x_L_law L xs d Q 581 ls (.int (x + y) :: st) w k n := rw_bin (f := fun x y => x + y) rfl
set_option maxRecDepth 100000 in
theorem r_L_law_581 {d : Nat} {Q : nm_K} {w : nm_W} {k n : Nat} {L : Nat} {xs : Nat → Int32} {ls st : List Value} {x : UInt32} {y : Int32} : x_L_law L xs d Q 581 ls (.int y :: .float x :: st) w k n ↔ (vp_in y L ∧ x_L_law L xs d Q 582 ls (.int (xs y.toNatClampNeg) :: st) w k n) := rw_sald rfl
set_option maxRecDepth 100000 in
theorem r_L_law_582 {d : Nat} {Q : nm_K} {w : nm_W} {k n : Nat} {L : Nat} {xs : Nat → Int32} {a1 a2 a3 : Value} {x : UInt32} {st : List Value} : x_L_law L xs d Q 582 [.float x, a1, a2, a3] st w k n ↔ x_L_law L xs d Q 583 [.float x, a1, a2, a3] (.float x :: st) w k n := rw_ldF rfl rfl
set_option maxRecDepth 100000 in
theorem r_L_law_583 {d : Nat} {Q : nm_K} {w : nm_W} {k n : Nat} {L : Nat} {xs : Nat → Int32} {a0 a1 a2 : Value} {x : Int32} {st : List Value} : x_L_law L xs d Q 583 [a0, a1, a2, .int x] st w k n ↔ x_L_law L xs d Q 584 [a0, a1, a2, .int x] (.int x :: st) w k n := rw_ldI rfl rfl
set_option maxRecDepth 100000 in
theorem r_L_law_584 {d : Nat} {Q : nm_K} {w : nm_W} {k n : Nat} {L : Nat} {xs : Nat → Int32} {ls st : List Value} : x_L_law L xs d Q 584 ls st w k n ↔ x_L_law L xs d Q 585 ls (.int 3 :: st) w k n := rw_push rfl
set_option maxRecDepth 100000 in
theorem r_L_law_585 {d : Nat} {Q : nm_K} {w : nm_W} {k n : Nat} {L : Nat} {xs : Nat → Int32} {ls st : List Value} {x y : Int32} : x_L_law L xs d Q 585 ls (.int y :: .int x :: st) w k n ↔ x_L_law L xs d Q 586 ls (.int (x + y) :: st) w k n := rw_bin (f := fun x y => x + y) rfl
set_option maxRecDepth 100000 in
theorem r_L_law_586 {d : Nat} {Q : nm_K} {w : nm_W} {k n : Nat} {L : Nat} {xs : Nat → Int32} {ls st : List Value} {x : UInt32} {y : Int32} : x_L_law L xs d Q 586 ls (.int y :: .float x :: st) w k n ↔ (vp_in y L ∧ x_L_law L xs d Q 587 ls (.int (xs y.toNatClampNeg) :: st) w k n) := rw_sald rfl
set_option maxRecDepth 100000 in
theorem r_L_law_587 {d : Nat} {Q : nm_K} {w : nm_W} {k n : Nat} {L : Nat} {xs : Nat → Int32} {a1 a2 a3 : Value} {x : UInt32} {st : List Value} : x_L_law L xs d Q 587 [.float x, a1, a2, a3] st w k n ↔ x_L_law L xs d Q 588 [.float x, a1, a2, a3] (.float x :: st) w k n := rw_ldF rfl rfl
set_option maxRecDepth 100000 in
theorem r_L_law_588 {d : Nat} {Q : nm_K} {w : nm_W} {k n : Nat} {L : Nat} {xs : Nat → Int32} {a0 a1 a2 : Value} {x : Int32} {st : List Value} : x_L_law L xs d Q 588 [a0, a1, a2, .int x] st w k n ↔ x_L_law L xs d Q 589 [a0, a1, a2, .int x] (.int x :: st) w k n := rw_ldI rfl rfl
set_option maxRecDepth 100000 in
theorem r_L_law_589 {d : Nat} {Q : nm_K} {w : nm_W} {k n : Nat} {L : Nat} {xs : Nat → Int32} {ls st : List Value} : x_L_law L xs d Q 589 ls st w k n ↔ x_L_law L xs d Q 590 ls (.int 4 :: st) w k n := rw_push rfl
set_option maxRecDepth 100000 in
theorem r_L_law_590 {d : Nat} {Q : nm_K} {w : nm_W} {k n : Nat} {L : Nat} {xs : Nat → Int32} {ls st : List Value} {x y : Int32} : x_L_law L xs d Q 590 ls (.int y :: .int x :: st) w k n ↔ x_L_law L xs d Q 591 ls (.int (x + y) :: st) w k n := rw_bin (f := fun x y => x + y) rfl
set_option maxRecDepth 100000 in
theorem r_L_law_591 {d : Nat} {Q : nm_K} {w : nm_W} {k n : Nat} {L : Nat} {xs : Nat → Int32} {ls st : List Value} {x : UInt32} {y : Int32} : x_L_law L xs d Q 591 ls (.int y :: .float x :: st) w k n ↔ (vp_in y L ∧ x_L_law L xs d Q 592 ls (.int (xs y.toNatClampNeg) :: st) w k n) := rw_sald rfl
set_option maxRecDepth 100000 in
theorem r_L_law_592 {d : Nat} {Q : nm_K} {w : nm_W} {k n : Nat} {L : Nat} {xs : Nat → Int32} {ls st : List Value} {x : Int32} : x_L_law L xs d Q 592 ls (.int x :: st) w k n ↔ (if x = 0 then x_L_law L xs d Q 599 ls st w k n else x_L_law L xs d Q 595 ls st w k n) := rw_ifz (f := fun x => decide (x = 0)) rfl nm_dt
set_option maxRecDepth 100000 in
theorem r_L_law_595 {d : Nat} {Q : nm_K} {w : nm_W} {k n : Nat} {L : Nat} {xs : Nat → Int32} {ls st : List Value} : x_L_law L xs d Q 595 ls st w k n ↔ x_L_law L xs d Q 596 ls (.int 1 :: st) w k n := rw_push rfl
set_option maxRecDepth 100000 in
theorem r_L_law_596 {d : Nat} {Q : nm_K} {w : nm_W} {k n : Nat} {L : Nat} {xs : Nat → Int32} {ls st : List Value} : x_L_law L xs d Q 596 ls st w k n ↔ x_L_law L xs d Q 600 ls st w k n := rw_goto rfl
set_option maxRecDepth 100000 in
theorem r_L_law_599 {d : Nat} {Q : nm_K} {w : nm_W} {k n : Nat} {L : Nat} {xs : Nat → Int32} {ls st : List Value} : x_L_law L xs d Q 599 ls st w k n ↔ x_L_law L xs d Q 600 ls (.int 0 :: st) w k n := rw_push rfl
set_option maxRecDepth 100000 in
theorem r_L_law_600 {d : Nat} {Q : nm_K} {w : nm_W} {k n : Nat} {L : Nat} {xs : Nat → Int32} {ls : List Value} {x0 : Nat} {x1 : Int32} {x2 : Int32} {x3 : Int32} {x4 : Int32} {s0 : Value} : x_L_law L xs d Q 600 ls [.int x4, .int x3, .int x2, .int x1, .ref x0, s0] w k n ↔ ((nm_obj w x0 9 ∧ k + 0 ≤ 600000 ∧ n + 0 ≤ 7302250) ∧ nm_call d 122 [.ref x0, .int x1, .int x2, .int x3, .int x4] w (fun v w' => x_L_law L xs d Q 603 ls (v ++ [s0]) w' k n)) := rw_callC rfl ⟨Nat.le_of_ble_eq_true rfl, Nat.le_of_ble_eq_true rfl⟩ rfl rfl
set_option maxRecDepth 100000 in
theorem r_L_law_603 {d : Nat} {Q : nm_K} {w : nm_W} {k n : Nat} {L : Nat} {xs : Nat → Int32} {ls st : List Value} {x y : Int32} : x_L_law L xs d Q 603 ls (.int y :: .int x :: st) w k n ↔ (if x = y then x_L_law L xs d Q 893 ls st w k n else x_L_law L xs d Q 606 ls st w k n) := rw_if (f := fun x y => decide (x = y)) rfl nm_dt
set_option maxRecDepth 100000 in
theorem r_L_law_606 {d : Nat} {Q : nm_K} {w : nm_W} {k n : Nat} {L : Nat} {xs : Nat → Int32} {ls st : List Value} : x_L_law L xs d Q 606 ls st w k n ↔ x_L_law L xs d Q 607 ls (.int 0 :: st) w k n := rw_push rfl
set_option maxRecDepth 100000 in
theorem r_L_law_607 {d : Nat} {Q : nm_K} {w : nm_W} {k n : Nat} {L : Nat} {xs : Nat → Int32} {ls : List Value} {x : Int32} : x_L_law L xs d Q 607 ls [.int x] w k n ↔ ((k ≤ 600000 ∧ n ≤ 7302250) ∧ (x = 0 ∨ x = 1) ∧ Q [.int x] w) := rw_retZ rfl
set_option maxRecDepth 100000 in
theorem r_L_law_608 {d : Nat} {Q : nm_K} {w : nm_W} {k n : Nat} {L : Nat} {xs : Nat → Int32} {a0 a2 a3 : Value} {x : Nat} {st : List Value} : x_L_law L xs d Q 608 [a0, .ref x, a2, a3] st w k n ↔ x_L_law L xs d Q 609 [a0, .ref x, a2, a3] (.ref x :: st) w k n := rw_ldA rfl rfl
set_option maxRecDepth 100000 in
theorem r_L_law_609 {d : Nat} {Q : nm_K} {w : nm_W} {k n : Nat} {L : Nat} {xs : Nat → Int32} {a1 a2 a3 : Value} {x : UInt32} {st : List Value} : x_L_law L xs d Q 609 [.float x, a1, a2, a3] st w k n ↔ x_L_law L xs d Q 610 [.float x, a1, a2, a3] (.float x :: st) w k n := rw_ldF rfl rfl
set_option maxRecDepth 100000 in
theorem r_L_law_610 {d : Nat} {Q : nm_K} {w : nm_W} {k n : Nat} {L : Nat} {xs : Nat → Int32} {a0 a1 a2 : Value} {x : Int32} {st : List Value} : x_L_law L xs d Q 610 [a0, a1, a2, .int x] st w k n ↔ x_L_law L xs d Q 611 [a0, a1, a2, .int x] (.int x :: st) w k n := rw_ldI rfl rfl
set_option maxRecDepth 100000 in
theorem r_L_law_611 {d : Nat} {Q : nm_K} {w : nm_W} {k n : Nat} {L : Nat} {xs : Nat → Int32} {ls st : List Value} : x_L_law L xs d Q 611 ls st w k n ↔ x_L_law L xs d Q 612 ls (.int 1 :: st) w k n := rw_push rfl
set_option maxRecDepth 100000 in
theorem r_L_law_612 {d : Nat} {Q : nm_K} {w : nm_W} {k n : Nat} {L : Nat} {xs : Nat → Int32} {ls st : List Value} {x y : Int32} : x_L_law L xs d Q 612 ls (.int y :: .int x :: st) w k n ↔ x_L_law L xs d Q 613 ls (.int (x + y) :: st) w k n := rw_bin (f := fun x y => x + y) rfl
set_option maxRecDepth 100000 in
theorem r_L_law_613 {d : Nat} {Q : nm_K} {w : nm_W} {k n : Nat} {L : Nat} {xs : Nat → Int32} {ls st : List Value} {x : UInt32} {y : Int32} : x_L_law L xs d Q 613 ls (.int y :: .float x :: st) w k n ↔ (vp_in y L ∧ x_L_law L xs d Q 614 ls (.int (xs y.toNatClampNeg) :: st) w k n) := rw_sald rfl
set_option maxRecDepth 100000 in
theorem r_L_law_614 {d : Nat} {Q : nm_K} {w : nm_W} {k n : Nat} {L : Nat} {xs : Nat → Int32} {ls : List Value} {x0 : Nat} {x1 : Int32} : x_L_law L xs d Q 614 ls [.int x1, .ref x0] w k n ↔ ((nm_obj w x0 8 ∧ k + 0 ≤ 600000 ∧ n + 0 ≤ 7302250) ∧ nm_call d 81 [.ref x0, .int x1] w (fun v w' => x_L_law L xs d Q 617 ls (v ++ []) w' k n)) := rw_callC rfl ⟨Nat.le_of_ble_eq_true rfl, Nat.le_of_ble_eq_true rfl⟩ rfl rfl
set_option maxRecDepth 100000 in
theorem r_L_law_617 {d : Nat} {Q : nm_K} {w : nm_W} {k n : Nat} {L : Nat} {xs : Nat → Int32} {a0 a1 a3 : Value} {x : Nat} {st : List Value} : x_L_law L xs d Q 617 [a0, a1, .ref x, a3] st w k n ↔ x_L_law L xs d Q 618 [a0, a1, .ref x, a3] (.ref x :: st) w k n := rw_ldA rfl rfl
set_option maxRecDepth 100000 in
theorem r_L_law_618 {d : Nat} {Q : nm_K} {w : nm_W} {k n : Nat} {L : Nat} {xs : Nat → Int32} {a1 a2 a3 : Value} {x : UInt32} {st : List Value} : x_L_law L xs d Q 618 [.float x, a1, a2, a3] st w k n ↔ x_L_law L xs d Q 619 [.float x, a1, a2, a3] (.float x :: st) w k n := rw_ldF rfl rfl
set_option maxRecDepth 100000 in
theorem r_L_law_619 {d : Nat} {Q : nm_K} {w : nm_W} {k n : Nat} {L : Nat} {xs : Nat → Int32} {a0 a1 a2 : Value} {x : Int32} {st : List Value} : x_L_law L xs d Q 619 [a0, a1, a2, .int x] st w k n ↔ x_L_law L xs d Q 620 [a0, a1, a2, .int x] (.int x :: st) w k n := rw_ldI rfl rfl
set_option maxRecDepth 100000 in
theorem r_L_law_620 {d : Nat} {Q : nm_K} {w : nm_W} {k n : Nat} {L : Nat} {xs : Nat → Int32} {ls st : List Value} : x_L_law L xs d Q 620 ls st w k n ↔ x_L_law L xs d Q 621 ls (.int 1 :: st) w k n := rw_push rfl
set_option maxRecDepth 100000 in
theorem r_L_law_621 {d : Nat} {Q : nm_K} {w : nm_W} {k n : Nat} {L : Nat} {xs : Nat → Int32} {ls st : List Value} {x y : Int32} : x_L_law L xs d Q 621 ls (.int y :: .int x :: st) w k n ↔ x_L_law L xs d Q 622 ls (.int (x + y) :: st) w k n := rw_bin (f := fun x y => x + y) rfl
set_option maxRecDepth 100000 in
theorem r_L_law_622 {d : Nat} {Q : nm_K} {w : nm_W} {k n : Nat} {L : Nat} {xs : Nat → Int32} {ls st : List Value} {x : UInt32} {y : Int32} : x_L_law L xs d Q 622 ls (.int y :: .float x :: st) w k n ↔ (vp_in y L ∧ x_L_law L xs d Q 623 ls (.int (xs y.toNatClampNeg) :: st) w k n) := rw_sald rfl
set_option maxRecDepth 100000 in
theorem r_L_law_623 {d : Nat} {Q : nm_K} {w : nm_W} {k n : Nat} {L : Nat} {xs : Nat → Int32} {ls : List Value} {x0 : Nat} {x1 : Int32} {s0 : Value} : x_L_law L xs d Q 623 ls [.int x1, .ref x0, s0] w k n ↔ ((nm_obj w x0 9 ∧ k + 0 ≤ 600000 ∧ n + 0 ≤ 7302250) ∧ nm_call d 124 [.ref x0, .int x1] w (fun v w' => x_L_law L xs d Q 626 ls (v ++ [s0]) w' k n)) := rw_callC rfl ⟨Nat.le_of_ble_eq_true rfl, Nat.le_of_ble_eq_true rfl⟩ rfl rfl
set_option maxRecDepth 100000 in
theorem r_L_law_626 {d : Nat} {Q : nm_K} {w : nm_W} {k n : Nat} {L : Nat} {xs : Nat → Int32} {ls st : List Value} {x y : Int32} : x_L_law L xs d Q 626 ls (.int y :: .int x :: st) w k n ↔ (if x = y then x_L_law L xs d Q 893 ls st w k n else x_L_law L xs d Q 629 ls st w k n) := rw_if (f := fun x y => decide (x = y)) rfl nm_dt
set_option maxRecDepth 100000 in
theorem r_L_law_629 {d : Nat} {Q : nm_K} {w : nm_W} {k n : Nat} {L : Nat} {xs : Nat → Int32} {ls st : List Value} : x_L_law L xs d Q 629 ls st w k n ↔ x_L_law L xs d Q 630 ls (.int 0 :: st) w k n := rw_push rfl
set_option maxRecDepth 100000 in
theorem r_L_law_630 {d : Nat} {Q : nm_K} {w : nm_W} {k n : Nat} {L : Nat} {xs : Nat → Int32} {ls : List Value} {x : Int32} : x_L_law L xs d Q 630 ls [.int x] w k n ↔ ((k ≤ 600000 ∧ n ≤ 7302250) ∧ (x = 0 ∨ x = 1) ∧ Q [.int x] w) := rw_retZ rfl
set_option maxRecDepth 100000 in
theorem r_L_law_631 {d : Nat} {Q : nm_K} {w : nm_W} {k n : Nat} {L : Nat} {xs : Nat → Int32} {a0 a2 a3 : Value} {x : Nat} {st : List Value} : x_L_law L xs d Q 631 [a0, .ref x, a2, a3] st w k n ↔ x_L_law L xs d Q 632 [a0, .ref x, a2, a3] (.ref x :: st) w k n := rw_ldA rfl rfl
set_option maxRecDepth 100000 in
theorem r_L_law_632 {d : Nat} {Q : nm_K} {w : nm_W} {k n : Nat} {L : Nat} {xs : Nat → Int32} {a1 a2 a3 : Value} {x : UInt32} {st : List Value} : x_L_law L xs d Q 632 [.float x, a1, a2, a3] st w k n ↔ x_L_law L xs d Q 633 [.float x, a1, a2, a3] (.float x :: st) w k n := rw_ldF rfl rfl
set_option maxRecDepth 100000 in
theorem r_L_law_633 {d : Nat} {Q : nm_K} {w : nm_W} {k n : Nat} {L : Nat} {xs : Nat → Int32} {a0 a1 a2 : Value} {x : Int32} {st : List Value} : x_L_law L xs d Q 633 [a0, a1, a2, .int x] st w k n ↔ x_L_law L xs d Q 634 [a0, a1, a2, .int x] (.int x :: st) w k n := rw_ldI rfl rfl
set_option maxRecDepth 100000 in
theorem r_L_law_634 {d : Nat} {Q : nm_K} {w : nm_W} {k n : Nat} {L : Nat} {xs : Nat → Int32} {ls st : List Value} : x_L_law L xs d Q 634 ls st w k n ↔ x_L_law L xs d Q 635 ls (.int 1 :: st) w k n := rw_push rfl
set_option maxRecDepth 100000 in
theorem r_L_law_635 {d : Nat} {Q : nm_K} {w : nm_W} {k n : Nat} {L : Nat} {xs : Nat → Int32} {ls st : List Value} {x y : Int32} : x_L_law L xs d Q 635 ls (.int y :: .int x :: st) w k n ↔ x_L_law L xs d Q 636 ls (.int (x + y) :: st) w k n := rw_bin (f := fun x y => x + y) rfl
set_option maxRecDepth 100000 in
theorem r_L_law_636 {d : Nat} {Q : nm_K} {w : nm_W} {k n : Nat} {L : Nat} {xs : Nat → Int32} {ls st : List Value} {x : UInt32} {y : Int32} : x_L_law L xs d Q 636 ls (.int y :: .float x :: st) w k n ↔ (vp_in y L ∧ x_L_law L xs d Q 637 ls (.int (xs y.toNatClampNeg) :: st) w k n) := rw_sald rfl
set_option maxRecDepth 100000 in
theorem r_L_law_637 {d : Nat} {Q : nm_K} {w : nm_W} {k n : Nat} {L : Nat} {xs : Nat → Int32} {ls : List Value} {x0 : Nat} {x1 : Int32} : x_L_law L xs d Q 637 ls [.int x1, .ref x0] w k n ↔ ((nm_obj w x0 8 ∧ k + 0 ≤ 600000 ∧ n + 0 ≤ 7302250) ∧ nm_call d 82 [.ref x0, .int x1] w (fun v w' => x_L_law L xs d Q 640 ls (v ++ []) w' k n)) := rw_callC rfl ⟨Nat.le_of_ble_eq_true rfl, Nat.le_of_ble_eq_true rfl⟩ rfl rfl
set_option maxRecDepth 100000 in
theorem r_L_law_640 {d : Nat} {Q : nm_K} {w : nm_W} {k n : Nat} {L : Nat} {xs : Nat → Int32} {a0 a1 a3 : Value} {x : Nat} {st : List Value} : x_L_law L xs d Q 640 [a0, a1, .ref x, a3] st w k n ↔ x_L_law L xs d Q 641 [a0, a1, .ref x, a3] (.ref x :: st) w k n := rw_ldA rfl rfl
set_option maxRecDepth 100000 in
theorem r_L_law_641 {d : Nat} {Q : nm_K} {w : nm_W} {k n : Nat} {L : Nat} {xs : Nat → Int32} {a1 a2 a3 : Value} {x : UInt32} {st : List Value} : x_L_law L xs d Q 641 [.float x, a1, a2, a3] st w k n ↔ x_L_law L xs d Q 642 [.float x, a1, a2, a3] (.float x :: st) w k n := rw_ldF rfl rfl
set_option maxRecDepth 100000 in
theorem r_L_law_642 {d : Nat} {Q : nm_K} {w : nm_W} {k n : Nat} {L : Nat} {xs : Nat → Int32} {a0 a1 a2 : Value} {x : Int32} {st : List Value} : x_L_law L xs d Q 642 [a0, a1, a2, .int x] st w k n ↔ x_L_law L xs d Q 643 [a0, a1, a2, .int x] (.int x :: st) w k n := rw_ldI rfl rfl
set_option maxRecDepth 100000 in
theorem r_L_law_643 {d : Nat} {Q : nm_K} {w : nm_W} {k n : Nat} {L : Nat} {xs : Nat → Int32} {ls st : List Value} : x_L_law L xs d Q 643 ls st w k n ↔ x_L_law L xs d Q 644 ls (.int 1 :: st) w k n := rw_push rfl
set_option maxRecDepth 100000 in
theorem r_L_law_644 {d : Nat} {Q : nm_K} {w : nm_W} {k n : Nat} {L : Nat} {xs : Nat → Int32} {ls st : List Value} {x y : Int32} : x_L_law L xs d Q 644 ls (.int y :: .int x :: st) w k n ↔ x_L_law L xs d Q 645 ls (.int (x + y) :: st) w k n := rw_bin (f := fun x y => x + y) rfl
set_option maxRecDepth 100000 in
theorem r_L_law_645 {d : Nat} {Q : nm_K} {w : nm_W} {k n : Nat} {L : Nat} {xs : Nat → Int32} {ls st : List Value} {x : UInt32} {y : Int32} : x_L_law L xs d Q 645 ls (.int y :: .float x :: st) w k n ↔ (vp_in y L ∧ x_L_law L xs d Q 646 ls (.int (xs y.toNatClampNeg) :: st) w k n) := rw_sald rfl
set_option maxRecDepth 100000 in
theorem r_L_law_646 {d : Nat} {Q : nm_K} {w : nm_W} {k n : Nat} {L : Nat} {xs : Nat → Int32} {ls : List Value} {x0 : Nat} {x1 : Int32} {s0 : Value} : x_L_law L xs d Q 646 ls [.int x1, .ref x0, s0] w k n ↔ ((nm_obj w x0 9 ∧ k + 0 ≤ 600000 ∧ n + 0 ≤ 7302250) ∧ nm_call d 126 [.ref x0, .int x1] w (fun v w' => x_L_law L xs d Q 649 ls (v ++ [s0]) w' k n)) := rw_callC rfl ⟨Nat.le_of_ble_eq_true rfl, Nat.le_of_ble_eq_true rfl⟩ rfl rfl
set_option maxRecDepth 100000 in
theorem r_L_law_649 {d : Nat} {Q : nm_K} {w : nm_W} {k n : Nat} {L : Nat} {xs : Nat → Int32} {ls st : List Value} {x y : Int32} : x_L_law L xs d Q 649 ls (.int y :: .int x :: st) w k n ↔ (if x = y then x_L_law L xs d Q 893 ls st w k n else x_L_law L xs d Q 652 ls st w k n) := rw_if (f := fun x y => decide (x = y)) rfl nm_dt
set_option maxRecDepth 100000 in
theorem r_L_law_652 {d : Nat} {Q : nm_K} {w : nm_W} {k n : Nat} {L : Nat} {xs : Nat → Int32} {ls st : List Value} : x_L_law L xs d Q 652 ls st w k n ↔ x_L_law L xs d Q 653 ls (.int 0 :: st) w k n := rw_push rfl
set_option maxRecDepth 100000 in
theorem r_L_law_653 {d : Nat} {Q : nm_K} {w : nm_W} {k n : Nat} {L : Nat} {xs : Nat → Int32} {ls : List Value} {x : Int32} : x_L_law L xs d Q 653 ls [.int x] w k n ↔ ((k ≤ 600000 ∧ n ≤ 7302250) ∧ (x = 0 ∨ x = 1) ∧ Q [.int x] w) := rw_retZ rfl
set_option maxRecDepth 100000 in
theorem r_L_law_654 {d : Nat} {Q : nm_K} {w : nm_W} {k n : Nat} {L : Nat} {xs : Nat → Int32} {a0 a2 a3 : Value} {x : Nat} {st : List Value} : x_L_law L xs d Q 654 [a0, .ref x, a2, a3] st w k n ↔ x_L_law L xs d Q 655 [a0, .ref x, a2, a3] (.ref x :: st) w k n := rw_ldA rfl rfl
set_option maxRecDepth 100000 in
theorem r_L_law_655 {d : Nat} {Q : nm_K} {w : nm_W} {k n : Nat} {L : Nat} {xs : Nat → Int32} {a1 a2 a3 : Value} {x : UInt32} {st : List Value} : x_L_law L xs d Q 655 [.float x, a1, a2, a3] st w k n ↔ x_L_law L xs d Q 656 [.float x, a1, a2, a3] (.float x :: st) w k n := rw_ldF rfl rfl
set_option maxRecDepth 100000 in
theorem r_L_law_656 {d : Nat} {Q : nm_K} {w : nm_W} {k n : Nat} {L : Nat} {xs : Nat → Int32} {a0 a1 a2 : Value} {x : Int32} {st : List Value} : x_L_law L xs d Q 656 [a0, a1, a2, .int x] st w k n ↔ x_L_law L xs d Q 657 [a0, a1, a2, .int x] (.int x :: st) w k n := rw_ldI rfl rfl
set_option maxRecDepth 100000 in
theorem r_L_law_657 {d : Nat} {Q : nm_K} {w : nm_W} {k n : Nat} {L : Nat} {xs : Nat → Int32} {ls st : List Value} : x_L_law L xs d Q 657 ls st w k n ↔ x_L_law L xs d Q 658 ls (.int 1 :: st) w k n := rw_push rfl
set_option maxRecDepth 100000 in
theorem r_L_law_658 {d : Nat} {Q : nm_K} {w : nm_W} {k n : Nat} {L : Nat} {xs : Nat → Int32} {ls st : List Value} {x y : Int32} : x_L_law L xs d Q 658 ls (.int y :: .int x :: st) w k n ↔ x_L_law L xs d Q 659 ls (.int (x + y) :: st) w k n := rw_bin (f := fun x y => x + y) rfl
set_option maxRecDepth 100000 in
theorem r_L_law_659 {d : Nat} {Q : nm_K} {w : nm_W} {k n : Nat} {L : Nat} {xs : Nat → Int32} {ls st : List Value} {x : UInt32} {y : Int32} : x_L_law L xs d Q 659 ls (.int y :: .float x :: st) w k n ↔ (vp_in y L ∧ x_L_law L xs d Q 660 ls (.int (xs y.toNatClampNeg) :: st) w k n) := rw_sald rfl
set_option maxRecDepth 100000 in
theorem r_L_law_660 {d : Nat} {Q : nm_K} {w : nm_W} {k n : Nat} {L : Nat} {xs : Nat → Int32} {ls : List Value} {x0 : Nat} {x1 : Int32} : x_L_law L xs d Q 660 ls [.int x1, .ref x0] w k n ↔ ((nm_obj w x0 8 ∧ k + 0 ≤ 600000 ∧ n + 0 ≤ 7302250) ∧ nm_call d 83 [.ref x0, .int x1] w (fun v w' => x_L_law L xs d Q 663 ls (v ++ []) w' k n)) := rw_callC rfl ⟨Nat.le_of_ble_eq_true rfl, Nat.le_of_ble_eq_true rfl⟩ rfl rfl
set_option maxRecDepth 100000 in
theorem r_L_law_663 {d : Nat} {Q : nm_K} {w : nm_W} {k n : Nat} {L : Nat} {xs : Nat → Int32} {a0 a1 a3 : Value} {x : Nat} {st : List Value} : x_L_law L xs d Q 663 [a0, a1, .ref x, a3] st w k n ↔ x_L_law L xs d Q 664 [a0, a1, .ref x, a3] (.ref x :: st) w k n := rw_ldA rfl rfl
set_option maxRecDepth 100000 in
theorem r_L_law_664 {d : Nat} {Q : nm_K} {w : nm_W} {k n : Nat} {L : Nat} {xs : Nat → Int32} {a1 a2 a3 : Value} {x : UInt32} {st : List Value} : x_L_law L xs d Q 664 [.float x, a1, a2, a3] st w k n ↔ x_L_law L xs d Q 665 [.float x, a1, a2, a3] (.float x :: st) w k n := rw_ldF rfl rfl
set_option maxRecDepth 100000 in
theorem r_L_law_665 {d : Nat} {Q : nm_K} {w : nm_W} {k n : Nat} {L : Nat} {xs : Nat → Int32} {a0 a1 a2 : Value} {x : Int32} {st : List Value} : x_L_law L xs d Q 665 [a0, a1, a2, .int x] st w k n ↔ x_L_law L xs d Q 666 [a0, a1, a2, .int x] (.int x :: st) w k n := rw_ldI rfl rfl
set_option maxRecDepth 100000 in
theorem r_L_law_666 {d : Nat} {Q : nm_K} {w : nm_W} {k n : Nat} {L : Nat} {xs : Nat → Int32} {ls st : List Value} : x_L_law L xs d Q 666 ls st w k n ↔ x_L_law L xs d Q 667 ls (.int 1 :: st) w k n := rw_push rfl
set_option maxRecDepth 100000 in
theorem r_L_law_667 {d : Nat} {Q : nm_K} {w : nm_W} {k n : Nat} {L : Nat} {xs : Nat → Int32} {ls st : List Value} {x y : Int32} : x_L_law L xs d Q 667 ls (.int y :: .int x :: st) w k n ↔ x_L_law L xs d Q 668 ls (.int (x + y) :: st) w k n := rw_bin (f := fun x y => x + y) rfl
set_option maxRecDepth 100000 in
theorem r_L_law_668 {d : Nat} {Q : nm_K} {w : nm_W} {k n : Nat} {L : Nat} {xs : Nat → Int32} {ls st : List Value} {x : UInt32} {y : Int32} : x_L_law L xs d Q 668 ls (.int y :: .float x :: st) w k n ↔ (vp_in y L ∧ x_L_law L xs d Q 669 ls (.int (xs y.toNatClampNeg) :: st) w k n) := rw_sald rfl
set_option maxRecDepth 100000 in
theorem r_L_law_669 {d : Nat} {Q : nm_K} {w : nm_W} {k n : Nat} {L : Nat} {xs : Nat → Int32} {ls : List Value} {x0 : Nat} {x1 : Int32} {s0 : Value} : x_L_law L xs d Q 669 ls [.int x1, .ref x0, s0] w k n ↔ ((nm_obj w x0 9 ∧ k + 0 ≤ 600000 ∧ n + 0 ≤ 7302250) ∧ nm_call d 128 [.ref x0, .int x1] w (fun v w' => x_L_law L xs d Q 672 ls (v ++ [s0]) w' k n)) := rw_callC rfl ⟨Nat.le_of_ble_eq_true rfl, Nat.le_of_ble_eq_true rfl⟩ rfl rfl
set_option maxRecDepth 100000 in
theorem r_L_law_672 {d : Nat} {Q : nm_K} {w : nm_W} {k n : Nat} {L : Nat} {xs : Nat → Int32} {ls st : List Value} {x y : Int32} : x_L_law L xs d Q 672 ls (.int y :: .int x :: st) w k n ↔ (if x = y then x_L_law L xs d Q 893 ls st w k n else x_L_law L xs d Q 675 ls st w k n) := rw_if (f := fun x y => decide (x = y)) rfl nm_dt
set_option maxRecDepth 100000 in
theorem r_L_law_675 {d : Nat} {Q : nm_K} {w : nm_W} {k n : Nat} {L : Nat} {xs : Nat → Int32} {ls st : List Value} : x_L_law L xs d Q 675 ls st w k n ↔ x_L_law L xs d Q 676 ls (.int 0 :: st) w k n := rw_push rfl
set_option maxRecDepth 100000 in
theorem r_L_law_676 {d : Nat} {Q : nm_K} {w : nm_W} {k n : Nat} {L : Nat} {xs : Nat → Int32} {ls : List Value} {x : Int32} : x_L_law L xs d Q 676 ls [.int x] w k n ↔ ((k ≤ 600000 ∧ n ≤ 7302250) ∧ (x = 0 ∨ x = 1) ∧ Q [.int x] w) := rw_retZ rfl
set_option maxRecDepth 100000 in
theorem r_L_law_677 {d : Nat} {Q : nm_K} {w : nm_W} {k n : Nat} {L : Nat} {xs : Nat → Int32} {a0 a2 a3 : Value} {x : Nat} {st : List Value} : x_L_law L xs d Q 677 [a0, .ref x, a2, a3] st w k n ↔ x_L_law L xs d Q 678 [a0, .ref x, a2, a3] (.ref x :: st) w k n := rw_ldA rfl rfl
set_option maxRecDepth 100000 in
theorem r_L_law_678 {d : Nat} {Q : nm_K} {w : nm_W} {k n : Nat} {L : Nat} {xs : Nat → Int32} {a1 a2 a3 : Value} {x : UInt32} {st : List Value} : x_L_law L xs d Q 678 [.float x, a1, a2, a3] st w k n ↔ x_L_law L xs d Q 679 [.float x, a1, a2, a3] (.float x :: st) w k n := rw_ldF rfl rfl
set_option maxRecDepth 100000 in
theorem r_L_law_679 {d : Nat} {Q : nm_K} {w : nm_W} {k n : Nat} {L : Nat} {xs : Nat → Int32} {a0 a1 a2 : Value} {x : Int32} {st : List Value} : x_L_law L xs d Q 679 [a0, a1, a2, .int x] st w k n ↔ x_L_law L xs d Q 680 [a0, a1, a2, .int x] (.int x :: st) w k n := rw_ldI rfl rfl
set_option maxRecDepth 100000 in
theorem r_L_law_680 {d : Nat} {Q : nm_K} {w : nm_W} {k n : Nat} {L : Nat} {xs : Nat → Int32} {ls st : List Value} : x_L_law L xs d Q 680 ls st w k n ↔ x_L_law L xs d Q 681 ls (.int 1 :: st) w k n := rw_push rfl
set_option maxRecDepth 100000 in
theorem r_L_law_681 {d : Nat} {Q : nm_K} {w : nm_W} {k n : Nat} {L : Nat} {xs : Nat → Int32} {ls st : List Value} {x y : Int32} : x_L_law L xs d Q 681 ls (.int y :: .int x :: st) w k n ↔ x_L_law L xs d Q 682 ls (.int (x + y) :: st) w k n := rw_bin (f := fun x y => x + y) rfl
set_option maxRecDepth 100000 in
theorem r_L_law_682 {d : Nat} {Q : nm_K} {w : nm_W} {k n : Nat} {L : Nat} {xs : Nat → Int32} {ls st : List Value} {x : UInt32} {y : Int32} : x_L_law L xs d Q 682 ls (.int y :: .float x :: st) w k n ↔ (vp_in y L ∧ x_L_law L xs d Q 683 ls (.int (xs y.toNatClampNeg) :: st) w k n) := rw_sald rfl
set_option maxRecDepth 100000 in
theorem r_L_law_683 {d : Nat} {Q : nm_K} {w : nm_W} {k n : Nat} {L : Nat} {xs : Nat → Int32} {a1 a2 a3 : Value} {x : UInt32} {st : List Value} : x_L_law L xs d Q 683 [.float x, a1, a2, a3] st w k n ↔ x_L_law L xs d Q 684 [.float x, a1, a2, a3] (.float x :: st) w k n := rw_ldF rfl rfl
set_option maxRecDepth 100000 in
theorem r_L_law_684 {d : Nat} {Q : nm_K} {w : nm_W} {k n : Nat} {L : Nat} {xs : Nat → Int32} {a0 a1 a2 : Value} {x : Int32} {st : List Value} : x_L_law L xs d Q 684 [a0, a1, a2, .int x] st w k n ↔ x_L_law L xs d Q 685 [a0, a1, a2, .int x] (.int x :: st) w k n := rw_ldI rfl rfl
set_option maxRecDepth 100000 in
theorem r_L_law_685 {d : Nat} {Q : nm_K} {w : nm_W} {k n : Nat} {L : Nat} {xs : Nat → Int32} {ls st : List Value} : x_L_law L xs d Q 685 ls st w k n ↔ x_L_law L xs d Q 686 ls (.int 2 :: st) w k n := rw_push rfl
set_option maxRecDepth 100000 in
theorem r_L_law_686 {d : Nat} {Q : nm_K} {w : nm_W} {k n : Nat} {L : Nat} {xs : Nat → Int32} {ls st : List Value} {x y : Int32} : x_L_law L xs d Q 686 ls (.int y :: .int x :: st) w k n ↔ x_L_law L xs d Q 687 ls (.int (x + y) :: st) w k n := rw_bin (f := fun x y => x + y) rfl
set_option maxRecDepth 100000 in
theorem r_L_law_687 {d : Nat} {Q : nm_K} {w : nm_W} {k n : Nat} {L : Nat} {xs : Nat → Int32} {ls st : List Value} {x : UInt32} {y : Int32} : x_L_law L xs d Q 687 ls (.int y :: .float x :: st) w k n ↔ (vp_in y L ∧ x_L_law L xs d Q 688 ls (.int (xs y.toNatClampNeg) :: st) w k n) := rw_sald rfl
set_option maxRecDepth 100000 in
theorem r_L_law_688 {d : Nat} {Q : nm_K} {w : nm_W} {k n : Nat} {L : Nat} {xs : Nat → Int32} {ls : List Value} {x0 : Nat} {x1 : Int32} {x2 : Int32} : x_L_law L xs d Q 688 ls [.int x2, .int x1, .ref x0] w k n ↔ ((nm_obj w x0 8 ∧ k + 0 ≤ 600000 ∧ n + 0 ≤ 7302250) ∧ nm_call d 84 [.ref x0, .int x1, .int x2] w (fun v w' => x_L_law L xs d Q 691 ls (v ++ []) w' k n)) := rw_callC rfl ⟨Nat.le_of_ble_eq_true rfl, Nat.le_of_ble_eq_true rfl⟩ rfl rfl
set_option maxRecDepth 100000 in
theorem r_L_law_691 {d : Nat} {Q : nm_K} {w : nm_W} {k n : Nat} {L : Nat} {xs : Nat → Int32} {a0 a1 a3 : Value} {x : Nat} {st : List Value} : x_L_law L xs d Q 691 [a0, a1, .ref x, a3] st w k n ↔ x_L_law L xs d Q 692 [a0, a1, .ref x, a3] (.ref x :: st) w k n := rw_ldA rfl rfl
set_option maxRecDepth 100000 in
theorem r_L_law_692 {d : Nat} {Q : nm_K} {w : nm_W} {k n : Nat} {L : Nat} {xs : Nat → Int32} {a1 a2 a3 : Value} {x : UInt32} {st : List Value} : x_L_law L xs d Q 692 [.float x, a1, a2, a3] st w k n ↔ x_L_law L xs d Q 693 [.float x, a1, a2, a3] (.float x :: st) w k n := rw_ldF rfl rfl
set_option maxRecDepth 100000 in
theorem r_L_law_693 {d : Nat} {Q : nm_K} {w : nm_W} {k n : Nat} {L : Nat} {xs : Nat → Int32} {a0 a1 a2 : Value} {x : Int32} {st : List Value} : x_L_law L xs d Q 693 [a0, a1, a2, .int x] st w k n ↔ x_L_law L xs d Q 694 [a0, a1, a2, .int x] (.int x :: st) w k n := rw_ldI rfl rfl
set_option maxRecDepth 100000 in
theorem r_L_law_694 {d : Nat} {Q : nm_K} {w : nm_W} {k n : Nat} {L : Nat} {xs : Nat → Int32} {ls st : List Value} : x_L_law L xs d Q 694 ls st w k n ↔ x_L_law L xs d Q 695 ls (.int 1 :: st) w k n := rw_push rfl
set_option maxRecDepth 100000 in
theorem r_L_law_695 {d : Nat} {Q : nm_K} {w : nm_W} {k n : Nat} {L : Nat} {xs : Nat → Int32} {ls st : List Value} {x y : Int32} : x_L_law L xs d Q 695 ls (.int y :: .int x :: st) w k n ↔ x_L_law L xs d Q 696 ls (.int (x + y) :: st) w k n := rw_bin (f := fun x y => x + y) rfl
set_option maxRecDepth 100000 in
theorem r_L_law_696 {d : Nat} {Q : nm_K} {w : nm_W} {k n : Nat} {L : Nat} {xs : Nat → Int32} {ls st : List Value} {x : UInt32} {y : Int32} : x_L_law L xs d Q 696 ls (.int y :: .float x :: st) w k n ↔ (vp_in y L ∧ x_L_law L xs d Q 697 ls (.int (xs y.toNatClampNeg) :: st) w k n) := rw_sald rfl
set_option maxRecDepth 100000 in
theorem r_L_law_697 {d : Nat} {Q : nm_K} {w : nm_W} {k n : Nat} {L : Nat} {xs : Nat → Int32} {a1 a2 a3 : Value} {x : UInt32} {st : List Value} : x_L_law L xs d Q 697 [.float x, a1, a2, a3] st w k n ↔ x_L_law L xs d Q 698 [.float x, a1, a2, a3] (.float x :: st) w k n := rw_ldF rfl rfl
set_option maxRecDepth 100000 in
theorem r_L_law_698 {d : Nat} {Q : nm_K} {w : nm_W} {k n : Nat} {L : Nat} {xs : Nat → Int32} {a0 a1 a2 : Value} {x : Int32} {st : List Value} : x_L_law L xs d Q 698 [a0, a1, a2, .int x] st w k n ↔ x_L_law L xs d Q 699 [a0, a1, a2, .int x] (.int x :: st) w k n := rw_ldI rfl rfl
set_option maxRecDepth 100000 in
theorem r_L_law_699 {d : Nat} {Q : nm_K} {w : nm_W} {k n : Nat} {L : Nat} {xs : Nat → Int32} {ls st : List Value} : x_L_law L xs d Q 699 ls st w k n ↔ x_L_law L xs d Q 700 ls (.int 2 :: st) w k n := rw_push rfl
set_option maxRecDepth 100000 in
theorem r_L_law_700 {d : Nat} {Q : nm_K} {w : nm_W} {k n : Nat} {L : Nat} {xs : Nat → Int32} {ls st : List Value} {x y : Int32} : x_L_law L xs d Q 700 ls (.int y :: .int x :: st) w k n ↔ x_L_law L xs d Q 701 ls (.int (x + y) :: st) w k n := rw_bin (f := fun x y => x + y) rfl
set_option maxRecDepth 100000 in
theorem r_L_law_701 {d : Nat} {Q : nm_K} {w : nm_W} {k n : Nat} {L : Nat} {xs : Nat → Int32} {ls st : List Value} {x : UInt32} {y : Int32} : x_L_law L xs d Q 701 ls (.int y :: .float x :: st) w k n ↔ (vp_in y L ∧ x_L_law L xs d Q 702 ls (.int (xs y.toNatClampNeg) :: st) w k n) := rw_sald rfl
set_option maxRecDepth 100000 in
theorem r_L_law_702 {d : Nat} {Q : nm_K} {w : nm_W} {k n : Nat} {L : Nat} {xs : Nat → Int32} {ls : List Value} {x0 : Nat} {x1 : Int32} {x2 : Int32} {s0 : Value} : x_L_law L xs d Q 702 ls [.int x2, .int x1, .ref x0, s0] w k n ↔ ((nm_obj w x0 9 ∧ k + 0 ≤ 600000 ∧ n + 0 ≤ 7302250) ∧ nm_call d 129 [.ref x0, .int x1, .int x2] w (fun v w' => x_L_law L xs d Q 705 ls (v ++ [s0]) w' k n)) := rw_callC rfl ⟨Nat.le_of_ble_eq_true rfl, Nat.le_of_ble_eq_true rfl⟩ rfl rfl
set_option maxRecDepth 100000 in
theorem r_L_law_705 {d : Nat} {Q : nm_K} {w : nm_W} {k n : Nat} {L : Nat} {xs : Nat → Int32} {ls st : List Value} {x y : Int32} : x_L_law L xs d Q 705 ls (.int y :: .int x :: st) w k n ↔ (if x = y then x_L_law L xs d Q 893 ls st w k n else x_L_law L xs d Q 708 ls st w k n) := rw_if (f := fun x y => decide (x = y)) rfl nm_dt
set_option maxRecDepth 100000 in
theorem r_L_law_708 {d : Nat} {Q : nm_K} {w : nm_W} {k n : Nat} {L : Nat} {xs : Nat → Int32} {ls st : List Value} : x_L_law L xs d Q 708 ls st w k n ↔ x_L_law L xs d Q 709 ls (.int 0 :: st) w k n := rw_push rfl
set_option maxRecDepth 100000 in
theorem r_L_law_709 {d : Nat} {Q : nm_K} {w : nm_W} {k n : Nat} {L : Nat} {xs : Nat → Int32} {ls : List Value} {x : Int32} : x_L_law L xs d Q 709 ls [.int x] w k n ↔ ((k ≤ 600000 ∧ n ≤ 7302250) ∧ (x = 0 ∨ x = 1) ∧ Q [.int x] w) := rw_retZ rfl
set_option maxRecDepth 100000 in
theorem r_L_law_710 {d : Nat} {Q : nm_K} {w : nm_W} {k n : Nat} {L : Nat} {xs : Nat → Int32} {a0 a2 a3 : Value} {x : Nat} {st : List Value} : x_L_law L xs d Q 710 [a0, .ref x, a2, a3] st w k n ↔ x_L_law L xs d Q 711 [a0, .ref x, a2, a3] (.ref x :: st) w k n := rw_ldA rfl rfl
set_option maxRecDepth 100000 in
theorem r_L_law_711 {d : Nat} {Q : nm_K} {w : nm_W} {k n : Nat} {L : Nat} {xs : Nat → Int32} {ls : List Value} {x0 : Nat} : x_L_law L xs d Q 711 ls [.ref x0] w k n ↔ ((nm_obj w x0 8 ∧ k + 0 ≤ 600000 ∧ n + 0 ≤ 7302250) ∧ nm_call d 85 [.ref x0] w (fun v w' => x_L_law L xs d Q 714 ls (v ++ []) w' k n)) := rw_callC rfl ⟨Nat.le_of_ble_eq_true rfl, Nat.le_of_ble_eq_true rfl⟩ rfl rfl
set_option maxRecDepth 100000 in
theorem r_L_law_714 {d : Nat} {Q : nm_K} {w : nm_W} {k n : Nat} {L : Nat} {xs : Nat → Int32} {a0 a1 a3 : Value} {x : Nat} {st : List Value} : x_L_law L xs d Q 714 [a0, a1, .ref x, a3] st w k n ↔ x_L_law L xs d Q 715 [a0, a1, .ref x, a3] (.ref x :: st) w k n := rw_ldA rfl rfl
set_option maxRecDepth 100000 in
theorem r_L_law_715 {d : Nat} {Q : nm_K} {w : nm_W} {k n : Nat} {L : Nat} {xs : Nat → Int32} {ls : List Value} {x0 : Nat} {s0 : Value} : x_L_law L xs d Q 715 ls [.ref x0, s0] w k n ↔ ((nm_obj w x0 9 ∧ k + 0 ≤ 600000 ∧ n + 0 ≤ 7302250) ∧ nm_call d 130 [.ref x0] w (fun v w' => x_L_law L xs d Q 718 ls (v ++ [s0]) w' k n)) := rw_callC rfl ⟨Nat.le_of_ble_eq_true rfl, Nat.le_of_ble_eq_true rfl⟩ rfl rfl
set_option maxRecDepth 100000 in
theorem r_L_law_718 {d : Nat} {Q : nm_K} {w : nm_W} {k n : Nat} {L : Nat} {xs : Nat → Int32} {ls st : List Value} {x y : Int32} : x_L_law L xs d Q 718 ls (.int y :: .int x :: st) w k n ↔ (if x = y then x_L_law L xs d Q 893 ls st w k n else x_L_law L xs d Q 721 ls st w k n) := rw_if (f := fun x y => decide (x = y)) rfl nm_dt
set_option maxRecDepth 100000 in
theorem r_L_law_721 {d : Nat} {Q : nm_K} {w : nm_W} {k n : Nat} {L : Nat} {xs : Nat → Int32} {ls st : List Value} : x_L_law L xs d Q 721 ls st w k n ↔ x_L_law L xs d Q 722 ls (.int 0 :: st) w k n := rw_push rfl
set_option maxRecDepth 100000 in
theorem r_L_law_722 {d : Nat} {Q : nm_K} {w : nm_W} {k n : Nat} {L : Nat} {xs : Nat → Int32} {ls : List Value} {x : Int32} : x_L_law L xs d Q 722 ls [.int x] w k n ↔ ((k ≤ 600000 ∧ n ≤ 7302250) ∧ (x = 0 ∨ x = 1) ∧ Q [.int x] w) := rw_retZ rfl
set_option maxRecDepth 100000 in
theorem r_L_law_723 {d : Nat} {Q : nm_K} {w : nm_W} {k n : Nat} {L : Nat} {xs : Nat → Int32} {a0 a2 a3 : Value} {x : Nat} {st : List Value} : x_L_law L xs d Q 723 [a0, .ref x, a2, a3] st w k n ↔ x_L_law L xs d Q 724 [a0, .ref x, a2, a3] (.ref x :: st) w k n := rw_ldA rfl rfl
set_option maxRecDepth 100000 in
theorem r_L_law_724 {d : Nat} {Q : nm_K} {w : nm_W} {k n : Nat} {L : Nat} {xs : Nat → Int32} {ls : List Value} {x0 : Nat} : x_L_law L xs d Q 724 ls [.ref x0] w k n ↔ ((nm_obj w x0 8 ∧ k + 0 ≤ 600000 ∧ n + 0 ≤ 7302250) ∧ nm_call d 86 [.ref x0] w (fun v w' => x_L_law L xs d Q 727 ls (v ++ []) w' k n)) := rw_callC rfl ⟨Nat.le_of_ble_eq_true rfl, Nat.le_of_ble_eq_true rfl⟩ rfl rfl
set_option maxRecDepth 100000 in
theorem r_L_law_727 {d : Nat} {Q : nm_K} {w : nm_W} {k n : Nat} {L : Nat} {xs : Nat → Int32} {a0 a1 a3 : Value} {x : Nat} {st : List Value} : x_L_law L xs d Q 727 [a0, a1, .ref x, a3] st w k n ↔ x_L_law L xs d Q 728 [a0, a1, .ref x, a3] (.ref x :: st) w k n := rw_ldA rfl rfl
set_option maxRecDepth 100000 in
theorem r_L_law_728 {d : Nat} {Q : nm_K} {w : nm_W} {k n : Nat} {L : Nat} {xs : Nat → Int32} {ls : List Value} {x0 : Nat} {s0 : Value} : x_L_law L xs d Q 728 ls [.ref x0, s0] w k n ↔ ((nm_obj w x0 9 ∧ k + 0 ≤ 600000 ∧ n + 0 ≤ 7302250) ∧ nm_call d 131 [.ref x0] w (fun v w' => x_L_law L xs d Q 731 ls (v ++ [s0]) w' k n)) := rw_callC rfl ⟨Nat.le_of_ble_eq_true rfl, Nat.le_of_ble_eq_true rfl⟩ rfl rfl
set_option maxRecDepth 100000 in
theorem r_L_law_731 {d : Nat} {Q : nm_K} {w : nm_W} {k n : Nat} {L : Nat} {xs : Nat → Int32} {ls st : List Value} {x y : Int32} : x_L_law L xs d Q 731 ls (.int y :: .int x :: st) w k n ↔ (if x = y then x_L_law L xs d Q 893 ls st w k n else x_L_law L xs d Q 734 ls st w k n) := rw_if (f := fun x y => decide (x = y)) rfl nm_dt
set_option maxRecDepth 100000 in
theorem r_L_law_734 {d : Nat} {Q : nm_K} {w : nm_W} {k n : Nat} {L : Nat} {xs : Nat → Int32} {ls st : List Value} : x_L_law L xs d Q 734 ls st w k n ↔ x_L_law L xs d Q 735 ls (.int 0 :: st) w k n := rw_push rfl
set_option maxRecDepth 100000 in
theorem r_L_law_735 {d : Nat} {Q : nm_K} {w : nm_W} {k n : Nat} {L : Nat} {xs : Nat → Int32} {ls : List Value} {x : Int32} : x_L_law L xs d Q 735 ls [.int x] w k n ↔ ((k ≤ 600000 ∧ n ≤ 7302250) ∧ (x = 0 ∨ x = 1) ∧ Q [.int x] w) := rw_retZ rfl
set_option maxRecDepth 100000 in
theorem r_L_law_736 {d : Nat} {Q : nm_K} {w : nm_W} {k n : Nat} {L : Nat} {xs : Nat → Int32} {a0 a2 a3 : Value} {x : Nat} {st : List Value} : x_L_law L xs d Q 736 [a0, .ref x, a2, a3] st w k n ↔ x_L_law L xs d Q 737 [a0, .ref x, a2, a3] (.ref x :: st) w k n := rw_ldA rfl rfl
set_option maxRecDepth 100000 in
theorem r_L_law_737 {d : Nat} {Q : nm_K} {w : nm_W} {k n : Nat} {L : Nat} {xs : Nat → Int32} {ls : List Value} {x0 : Nat} : x_L_law L xs d Q 737 ls [.ref x0] w k n ↔ ((nm_obj w x0 8 ∧ k + 0 ≤ 600000 ∧ n + 0 ≤ 7302250) ∧ nm_call d 87 [.ref x0] w (fun v w' => x_L_law L xs d Q 740 ls (v ++ []) w' k n)) := rw_callC rfl ⟨Nat.le_of_ble_eq_true rfl, Nat.le_of_ble_eq_true rfl⟩ rfl rfl
set_option maxRecDepth 100000 in
theorem r_L_law_740 {d : Nat} {Q : nm_K} {w : nm_W} {k n : Nat} {L : Nat} {xs : Nat → Int32} {a0 a1 a3 : Value} {x : Nat} {st : List Value} : x_L_law L xs d Q 740 [a0, a1, .ref x, a3] st w k n ↔ x_L_law L xs d Q 741 [a0, a1, .ref x, a3] (.ref x :: st) w k n := rw_ldA rfl rfl
set_option maxRecDepth 100000 in
theorem r_L_law_741 {d : Nat} {Q : nm_K} {w : nm_W} {k n : Nat} {L : Nat} {xs : Nat → Int32} {ls : List Value} {x0 : Nat} {s0 : Value} : x_L_law L xs d Q 741 ls [.ref x0, s0] w k n ↔ ((nm_obj w x0 9 ∧ k + 0 ≤ 600000 ∧ n + 0 ≤ 7302250) ∧ nm_call d 132 [.ref x0] w (fun v w' => x_L_law L xs d Q 744 ls (v ++ [s0]) w' k n)) := rw_callC rfl ⟨Nat.le_of_ble_eq_true rfl, Nat.le_of_ble_eq_true rfl⟩ rfl rfl
set_option maxRecDepth 100000 in
theorem r_L_law_744 {d : Nat} {Q : nm_K} {w : nm_W} {k n : Nat} {L : Nat} {xs : Nat → Int32} {ls st : List Value} {x y : Int32} : x_L_law L xs d Q 744 ls (.int y :: .int x :: st) w k n ↔ (if x = y then x_L_law L xs d Q 893 ls st w k n else x_L_law L xs d Q 747 ls st w k n) := rw_if (f := fun x y => decide (x = y)) rfl nm_dt
set_option maxRecDepth 100000 in
theorem r_L_law_747 {d : Nat} {Q : nm_K} {w : nm_W} {k n : Nat} {L : Nat} {xs : Nat → Int32} {ls st : List Value} : x_L_law L xs d Q 747 ls st w k n ↔ x_L_law L xs d Q 748 ls (.int 0 :: st) w k n := rw_push rfl
set_option maxRecDepth 100000 in
theorem r_L_law_748 {d : Nat} {Q : nm_K} {w : nm_W} {k n : Nat} {L : Nat} {xs : Nat → Int32} {ls : List Value} {x : Int32} : x_L_law L xs d Q 748 ls [.int x] w k n ↔ ((k ≤ 600000 ∧ n ≤ 7302250) ∧ (x = 0 ∨ x = 1) ∧ Q [.int x] w) := rw_retZ rfl
set_option maxRecDepth 100000 in
theorem r_L_law_749 {d : Nat} {Q : nm_K} {w : nm_W} {k n : Nat} {L : Nat} {xs : Nat → Int32} {a0 a2 a3 : Value} {x : Nat} {st : List Value} : x_L_law L xs d Q 749 [a0, .ref x, a2, a3] st w k n ↔ x_L_law L xs d Q 750 [a0, .ref x, a2, a3] (.ref x :: st) w k n := rw_ldA rfl rfl
set_option maxRecDepth 100000 in
theorem r_L_law_750 {d : Nat} {Q : nm_K} {w : nm_W} {k n : Nat} {L : Nat} {xs : Nat → Int32} {ls : List Value} {x0 : Nat} : x_L_law L xs d Q 750 ls [.ref x0] w k n ↔ ((nm_obj w x0 8 ∧ k + 0 ≤ 600000 ∧ n + 0 ≤ 7302250) ∧ nm_call d 88 [.ref x0] w (fun v w' => x_L_law L xs d Q 753 ls (v ++ []) w' k n)) := rw_callC rfl ⟨Nat.le_of_ble_eq_true rfl, Nat.le_of_ble_eq_true rfl⟩ rfl rfl
set_option maxRecDepth 100000 in
theorem r_L_law_753 {d : Nat} {Q : nm_K} {w : nm_W} {k n : Nat} {L : Nat} {xs : Nat → Int32} {a0 a1 a3 : Value} {x : Nat} {st : List Value} : x_L_law L xs d Q 753 [a0, a1, .ref x, a3] st w k n ↔ x_L_law L xs d Q 754 [a0, a1, .ref x, a3] (.ref x :: st) w k n := rw_ldA rfl rfl
set_option maxRecDepth 100000 in
theorem r_L_law_754 {d : Nat} {Q : nm_K} {w : nm_W} {k n : Nat} {L : Nat} {xs : Nat → Int32} {ls : List Value} {x0 : Nat} {s0 : Value} : x_L_law L xs d Q 754 ls [.ref x0, s0] w k n ↔ ((nm_obj w x0 9 ∧ k + 0 ≤ 600000 ∧ n + 0 ≤ 7302250) ∧ nm_call d 133 [.ref x0] w (fun v w' => x_L_law L xs d Q 757 ls (v ++ [s0]) w' k n)) := rw_callC rfl ⟨Nat.le_of_ble_eq_true rfl, Nat.le_of_ble_eq_true rfl⟩ rfl rfl
set_option maxRecDepth 100000 in
theorem r_L_law_757 {d : Nat} {Q : nm_K} {w : nm_W} {k n : Nat} {L : Nat} {xs : Nat → Int32} {ls st : List Value} {x y : Int32} : x_L_law L xs d Q 757 ls (.int y :: .int x :: st) w k n ↔ (if x = y then x_L_law L xs d Q 893 ls st w k n else x_L_law L xs d Q 760 ls st w k n) := rw_if (f := fun x y => decide (x = y)) rfl nm_dt
set_option maxRecDepth 100000 in
theorem r_L_law_760 {d : Nat} {Q : nm_K} {w : nm_W} {k n : Nat} {L : Nat} {xs : Nat → Int32} {ls st : List Value} : x_L_law L xs d Q 760 ls st w k n ↔ x_L_law L xs d Q 761 ls (.int 0 :: st) w k n := rw_push rfl
set_option maxRecDepth 100000 in
theorem r_L_law_761 {d : Nat} {Q : nm_K} {w : nm_W} {k n : Nat} {L : Nat} {xs : Nat → Int32} {ls : List Value} {x : Int32} : x_L_law L xs d Q 761 ls [.int x] w k n ↔ ((k ≤ 600000 ∧ n ≤ 7302250) ∧ (x = 0 ∨ x = 1) ∧ Q [.int x] w) := rw_retZ rfl
set_option maxRecDepth 100000 in
theorem r_L_law_762 {d : Nat} {Q : nm_K} {w : nm_W} {k n : Nat} {L : Nat} {xs : Nat → Int32} {a0 a2 a3 : Value} {x : Nat} {st : List Value} : x_L_law L xs d Q 762 [a0, .ref x, a2, a3] st w k n ↔ x_L_law L xs d Q 763 [a0, .ref x, a2, a3] (.ref x :: st) w k n := rw_ldA rfl rfl
set_option maxRecDepth 100000 in
theorem r_L_law_763 {d : Nat} {Q : nm_K} {w : nm_W} {k n : Nat} {L : Nat} {xs : Nat → Int32} {a1 a2 a3 : Value} {x : UInt32} {st : List Value} : x_L_law L xs d Q 763 [.float x, a1, a2, a3] st w k n ↔ x_L_law L xs d Q 764 [.float x, a1, a2, a3] (.float x :: st) w k n := rw_ldF rfl rfl
set_option maxRecDepth 100000 in
theorem r_L_law_764 {d : Nat} {Q : nm_K} {w : nm_W} {k n : Nat} {L : Nat} {xs : Nat → Int32} {a0 a1 a2 : Value} {x : Int32} {st : List Value} : x_L_law L xs d Q 764 [a0, a1, a2, .int x] st w k n ↔ x_L_law L xs d Q 765 [a0, a1, a2, .int x] (.int x :: st) w k n := rw_ldI rfl rfl
set_option maxRecDepth 100000 in
theorem r_L_law_765 {d : Nat} {Q : nm_K} {w : nm_W} {k n : Nat} {L : Nat} {xs : Nat → Int32} {ls st : List Value} : x_L_law L xs d Q 765 ls st w k n ↔ x_L_law L xs d Q 766 ls (.int 1 :: st) w k n := rw_push rfl
set_option maxRecDepth 100000 in
theorem r_L_law_766 {d : Nat} {Q : nm_K} {w : nm_W} {k n : Nat} {L : Nat} {xs : Nat → Int32} {ls st : List Value} {x y : Int32} : x_L_law L xs d Q 766 ls (.int y :: .int x :: st) w k n ↔ x_L_law L xs d Q 767 ls (.int (x + y) :: st) w k n := rw_bin (f := fun x y => x + y) rfl
set_option maxRecDepth 100000 in
theorem r_L_law_767 {d : Nat} {Q : nm_K} {w : nm_W} {k n : Nat} {L : Nat} {xs : Nat → Int32} {ls st : List Value} {x : UInt32} {y : Int32} : x_L_law L xs d Q 767 ls (.int y :: .float x :: st) w k n ↔ (vp_in y L ∧ x_L_law L xs d Q 768 ls (.int (xs y.toNatClampNeg) :: st) w k n) := rw_sald rfl
set_option maxRecDepth 100000 in
theorem r_L_law_768 {d : Nat} {Q : nm_K} {w : nm_W} {k n : Nat} {L : Nat} {xs : Nat → Int32} {ls : List Value} {x0 : Nat} {x1 : Int32} : x_L_law L xs d Q 768 ls [.int x1, .ref x0] w k n ↔ ((nm_obj w x0 8 ∧ k + 0 ≤ 600000 ∧ n + 0 ≤ 7302250) ∧ nm_call d 89 [.ref x0, .int x1] w (fun v w' => x_L_law L xs d Q 771 ls (v ++ []) w' k n)) := rw_callC rfl ⟨Nat.le_of_ble_eq_true rfl, Nat.le_of_ble_eq_true rfl⟩ rfl rfl
set_option maxRecDepth 100000 in
theorem r_L_law_771 {d : Nat} {Q : nm_K} {w : nm_W} {k n : Nat} {L : Nat} {xs : Nat → Int32} {a0 a1 a3 : Value} {x : Nat} {st : List Value} : x_L_law L xs d Q 771 [a0, a1, .ref x, a3] st w k n ↔ x_L_law L xs d Q 772 [a0, a1, .ref x, a3] (.ref x :: st) w k n := rw_ldA rfl rfl
set_option maxRecDepth 100000 in
theorem r_L_law_772 {d : Nat} {Q : nm_K} {w : nm_W} {k n : Nat} {L : Nat} {xs : Nat → Int32} {a1 a2 a3 : Value} {x : UInt32} {st : List Value} : x_L_law L xs d Q 772 [.float x, a1, a2, a3] st w k n ↔ x_L_law L xs d Q 773 [.float x, a1, a2, a3] (.float x :: st) w k n := rw_ldF rfl rfl
set_option maxRecDepth 100000 in
theorem r_L_law_773 {d : Nat} {Q : nm_K} {w : nm_W} {k n : Nat} {L : Nat} {xs : Nat → Int32} {a0 a1 a2 : Value} {x : Int32} {st : List Value} : x_L_law L xs d Q 773 [a0, a1, a2, .int x] st w k n ↔ x_L_law L xs d Q 774 [a0, a1, a2, .int x] (.int x :: st) w k n := rw_ldI rfl rfl
set_option maxRecDepth 100000 in
theorem r_L_law_774 {d : Nat} {Q : nm_K} {w : nm_W} {k n : Nat} {L : Nat} {xs : Nat → Int32} {ls st : List Value} : x_L_law L xs d Q 774 ls st w k n ↔ x_L_law L xs d Q 775 ls (.int 1 :: st) w k n := rw_push rfl
set_option maxRecDepth 100000 in
theorem r_L_law_775 {d : Nat} {Q : nm_K} {w : nm_W} {k n : Nat} {L : Nat} {xs : Nat → Int32} {ls st : List Value} {x y : Int32} : x_L_law L xs d Q 775 ls (.int y :: .int x :: st) w k n ↔ x_L_law L xs d Q 776 ls (.int (x + y) :: st) w k n := rw_bin (f := fun x y => x + y) rfl
set_option maxRecDepth 100000 in
theorem r_L_law_776 {d : Nat} {Q : nm_K} {w : nm_W} {k n : Nat} {L : Nat} {xs : Nat → Int32} {ls st : List Value} {x : UInt32} {y : Int32} : x_L_law L xs d Q 776 ls (.int y :: .float x :: st) w k n ↔ (vp_in y L ∧ x_L_law L xs d Q 777 ls (.int (xs y.toNatClampNeg) :: st) w k n) := rw_sald rfl
set_option maxRecDepth 100000 in
theorem r_L_law_777 {d : Nat} {Q : nm_K} {w : nm_W} {k n : Nat} {L : Nat} {xs : Nat → Int32} {ls : List Value} {x0 : Nat} {x1 : Int32} {s0 : Value} : x_L_law L xs d Q 777 ls [.int x1, .ref x0, s0] w k n ↔ ((nm_obj w x0 9 ∧ k + 0 ≤ 600000 ∧ n + 0 ≤ 7302250) ∧ nm_call d 134 [.ref x0, .int x1] w (fun v w' => x_L_law L xs d Q 780 ls (v ++ [s0]) w' k n)) := rw_callC rfl ⟨Nat.le_of_ble_eq_true rfl, Nat.le_of_ble_eq_true rfl⟩ rfl rfl
set_option maxRecDepth 100000 in
theorem r_L_law_780 {d : Nat} {Q : nm_K} {w : nm_W} {k n : Nat} {L : Nat} {xs : Nat → Int32} {ls st : List Value} {x y : Int32} : x_L_law L xs d Q 780 ls (.int y :: .int x :: st) w k n ↔ (if x = y then x_L_law L xs d Q 893 ls st w k n else x_L_law L xs d Q 783 ls st w k n) := rw_if (f := fun x y => decide (x = y)) rfl nm_dt
set_option maxRecDepth 100000 in
theorem r_L_law_783 {d : Nat} {Q : nm_K} {w : nm_W} {k n : Nat} {L : Nat} {xs : Nat → Int32} {ls st : List Value} : x_L_law L xs d Q 783 ls st w k n ↔ x_L_law L xs d Q 784 ls (.int 0 :: st) w k n := rw_push rfl
set_option maxRecDepth 100000 in
theorem r_L_law_784 {d : Nat} {Q : nm_K} {w : nm_W} {k n : Nat} {L : Nat} {xs : Nat → Int32} {ls : List Value} {x : Int32} : x_L_law L xs d Q 784 ls [.int x] w k n ↔ ((k ≤ 600000 ∧ n ≤ 7302250) ∧ (x = 0 ∨ x = 1) ∧ Q [.int x] w) := rw_retZ rfl
set_option maxRecDepth 100000 in
theorem r_L_law_785 {d : Nat} {Q : nm_K} {w : nm_W} {k n : Nat} {L : Nat} {xs : Nat → Int32} {a0 a2 a3 : Value} {x : Nat} {st : List Value} : x_L_law L xs d Q 785 [a0, .ref x, a2, a3] st w k n ↔ x_L_law L xs d Q 786 [a0, .ref x, a2, a3] (.ref x :: st) w k n := rw_ldA rfl rfl
set_option maxRecDepth 100000 in
theorem r_L_law_786 {d : Nat} {Q : nm_K} {w : nm_W} {k n : Nat} {L : Nat} {xs : Nat → Int32} {a1 a2 a3 : Value} {x : UInt32} {st : List Value} : x_L_law L xs d Q 786 [.float x, a1, a2, a3] st w k n ↔ x_L_law L xs d Q 787 [.float x, a1, a2, a3] (.float x :: st) w k n := rw_ldF rfl rfl
set_option maxRecDepth 100000 in
theorem r_L_law_787 {d : Nat} {Q : nm_K} {w : nm_W} {k n : Nat} {L : Nat} {xs : Nat → Int32} {a0 a1 a2 : Value} {x : Int32} {st : List Value} : x_L_law L xs d Q 787 [a0, a1, a2, .int x] st w k n ↔ x_L_law L xs d Q 788 [a0, a1, a2, .int x] (.int x :: st) w k n := rw_ldI rfl rfl
set_option maxRecDepth 100000 in
theorem r_L_law_788 {d : Nat} {Q : nm_K} {w : nm_W} {k n : Nat} {L : Nat} {xs : Nat → Int32} {ls st : List Value} : x_L_law L xs d Q 788 ls st w k n ↔ x_L_law L xs d Q 789 ls (.int 1 :: st) w k n := rw_push rfl
set_option maxRecDepth 100000 in
theorem r_L_law_789 {d : Nat} {Q : nm_K} {w : nm_W} {k n : Nat} {L : Nat} {xs : Nat → Int32} {ls st : List Value} {x y : Int32} : x_L_law L xs d Q 789 ls (.int y :: .int x :: st) w k n ↔ x_L_law L xs d Q 790 ls (.int (x + y) :: st) w k n := rw_bin (f := fun x y => x + y) rfl
set_option maxRecDepth 100000 in
theorem r_L_law_790 {d : Nat} {Q : nm_K} {w : nm_W} {k n : Nat} {L : Nat} {xs : Nat → Int32} {ls st : List Value} {x : UInt32} {y : Int32} : x_L_law L xs d Q 790 ls (.int y :: .float x :: st) w k n ↔ (vp_in y L ∧ x_L_law L xs d Q 791 ls (.int (xs y.toNatClampNeg) :: st) w k n) := rw_sald rfl
set_option maxRecDepth 100000 in
theorem r_L_law_791 {d : Nat} {Q : nm_K} {w : nm_W} {k n : Nat} {L : Nat} {xs : Nat → Int32} {ls : List Value} {x0 : Nat} {x1 : Int32} : x_L_law L xs d Q 791 ls [.int x1, .ref x0] w k n ↔ ((nm_obj w x0 8 ∧ k + 0 ≤ 600000 ∧ n + 0 ≤ 7302250) ∧ nm_call d 90 [.ref x0, .int x1] w (fun v w' => x_L_law L xs d Q 794 ls (v ++ []) w' k n)) := rw_callC rfl ⟨Nat.le_of_ble_eq_true rfl, Nat.le_of_ble_eq_true rfl⟩ rfl rfl
set_option maxRecDepth 100000 in
theorem r_L_law_794 {d : Nat} {Q : nm_K} {w : nm_W} {k n : Nat} {L : Nat} {xs : Nat → Int32} {a0 a1 a3 : Value} {x : Nat} {st : List Value} : x_L_law L xs d Q 794 [a0, a1, .ref x, a3] st w k n ↔ x_L_law L xs d Q 795 [a0, a1, .ref x, a3] (.ref x :: st) w k n := rw_ldA rfl rfl
set_option maxRecDepth 100000 in
theorem r_L_law_795 {d : Nat} {Q : nm_K} {w : nm_W} {k n : Nat} {L : Nat} {xs : Nat → Int32} {a1 a2 a3 : Value} {x : UInt32} {st : List Value} : x_L_law L xs d Q 795 [.float x, a1, a2, a3] st w k n ↔ x_L_law L xs d Q 796 [.float x, a1, a2, a3] (.float x :: st) w k n := rw_ldF rfl rfl
set_option maxRecDepth 100000 in
theorem r_L_law_796 {d : Nat} {Q : nm_K} {w : nm_W} {k n : Nat} {L : Nat} {xs : Nat → Int32} {a0 a1 a2 : Value} {x : Int32} {st : List Value} : x_L_law L xs d Q 796 [a0, a1, a2, .int x] st w k n ↔ x_L_law L xs d Q 797 [a0, a1, a2, .int x] (.int x :: st) w k n := rw_ldI rfl rfl
set_option maxRecDepth 100000 in
theorem r_L_law_797 {d : Nat} {Q : nm_K} {w : nm_W} {k n : Nat} {L : Nat} {xs : Nat → Int32} {ls st : List Value} : x_L_law L xs d Q 797 ls st w k n ↔ x_L_law L xs d Q 798 ls (.int 1 :: st) w k n := rw_push rfl
set_option maxRecDepth 100000 in
theorem r_L_law_798 {d : Nat} {Q : nm_K} {w : nm_W} {k n : Nat} {L : Nat} {xs : Nat → Int32} {ls st : List Value} {x y : Int32} : x_L_law L xs d Q 798 ls (.int y :: .int x :: st) w k n ↔ x_L_law L xs d Q 799 ls (.int (x + y) :: st) w k n := rw_bin (f := fun x y => x + y) rfl
set_option maxRecDepth 100000 in
theorem r_L_law_799 {d : Nat} {Q : nm_K} {w : nm_W} {k n : Nat} {L : Nat} {xs : Nat → Int32} {ls st : List Value} {x : UInt32} {y : Int32} : x_L_law L xs d Q 799 ls (.int y :: .float x :: st) w k n ↔ (vp_in y L ∧ x_L_law L xs d Q 800 ls (.int (xs y.toNatClampNeg) :: st) w k n) := rw_sald rfl
set_option maxRecDepth 100000 in
theorem r_L_law_800 {d : Nat} {Q : nm_K} {w : nm_W} {k n : Nat} {L : Nat} {xs : Nat → Int32} {ls : List Value} {x0 : Nat} {x1 : Int32} {s0 : Value} : x_L_law L xs d Q 800 ls [.int x1, .ref x0, s0] w k n ↔ ((nm_obj w x0 9 ∧ k + 0 ≤ 600000 ∧ n + 0 ≤ 7302250) ∧ nm_call d 137 [.ref x0, .int x1] w (fun v w' => x_L_law L xs d Q 803 ls (v ++ [s0]) w' k n)) := rw_callC rfl ⟨Nat.le_of_ble_eq_true rfl, Nat.le_of_ble_eq_true rfl⟩ rfl rfl
set_option maxRecDepth 100000 in
theorem r_L_law_803 {d : Nat} {Q : nm_K} {w : nm_W} {k n : Nat} {L : Nat} {xs : Nat → Int32} {ls st : List Value} {x y : Int32} : x_L_law L xs d Q 803 ls (.int y :: .int x :: st) w k n ↔ (if x = y then x_L_law L xs d Q 893 ls st w k n else x_L_law L xs d Q 806 ls st w k n) := rw_if (f := fun x y => decide (x = y)) rfl nm_dt
set_option maxRecDepth 100000 in
theorem r_L_law_806 {d : Nat} {Q : nm_K} {w : nm_W} {k n : Nat} {L : Nat} {xs : Nat → Int32} {ls st : List Value} : x_L_law L xs d Q 806 ls st w k n ↔ x_L_law L xs d Q 807 ls (.int 0 :: st) w k n := rw_push rfl
set_option maxRecDepth 100000 in
theorem r_L_law_807 {d : Nat} {Q : nm_K} {w : nm_W} {k n : Nat} {L : Nat} {xs : Nat → Int32} {ls : List Value} {x : Int32} : x_L_law L xs d Q 807 ls [.int x] w k n ↔ ((k ≤ 600000 ∧ n ≤ 7302250) ∧ (x = 0 ∨ x = 1) ∧ Q [.int x] w) := rw_retZ rfl
set_option maxRecDepth 100000 in
theorem r_L_law_808 {d : Nat} {Q : nm_K} {w : nm_W} {k n : Nat} {L : Nat} {xs : Nat → Int32} {a0 a2 a3 : Value} {x : Nat} {st : List Value} : x_L_law L xs d Q 808 [a0, .ref x, a2, a3] st w k n ↔ x_L_law L xs d Q 809 [a0, .ref x, a2, a3] (.ref x :: st) w k n := rw_ldA rfl rfl
set_option maxRecDepth 100000 in
theorem r_L_law_809 {d : Nat} {Q : nm_K} {w : nm_W} {k n : Nat} {L : Nat} {xs : Nat → Int32} {a1 a2 a3 : Value} {x : UInt32} {st : List Value} : x_L_law L xs d Q 809 [.float x, a1, a2, a3] st w k n ↔ x_L_law L xs d Q 810 [.float x, a1, a2, a3] (.float x :: st) w k n := rw_ldF rfl rfl
set_option maxRecDepth 100000 in
theorem r_L_law_810 {d : Nat} {Q : nm_K} {w : nm_W} {k n : Nat} {L : Nat} {xs : Nat → Int32} {a0 a1 a2 : Value} {x : Int32} {st : List Value} : x_L_law L xs d Q 810 [a0, a1, a2, .int x] st w k n ↔ x_L_law L xs d Q 811 [a0, a1, a2, .int x] (.int x :: st) w k n := rw_ldI rfl rfl
set_option maxRecDepth 100000 in
theorem r_L_law_811 {d : Nat} {Q : nm_K} {w : nm_W} {k n : Nat} {L : Nat} {xs : Nat → Int32} {ls st : List Value} : x_L_law L xs d Q 811 ls st w k n ↔ x_L_law L xs d Q 812 ls (.int 1 :: st) w k n := rw_push rfl
set_option maxRecDepth 100000 in
theorem r_L_law_812 {d : Nat} {Q : nm_K} {w : nm_W} {k n : Nat} {L : Nat} {xs : Nat → Int32} {ls st : List Value} {x y : Int32} : x_L_law L xs d Q 812 ls (.int y :: .int x :: st) w k n ↔ x_L_law L xs d Q 813 ls (.int (x + y) :: st) w k n := rw_bin (f := fun x y => x + y) rfl
set_option maxRecDepth 100000 in
theorem r_L_law_813 {d : Nat} {Q : nm_K} {w : nm_W} {k n : Nat} {L : Nat} {xs : Nat → Int32} {ls st : List Value} {x : UInt32} {y : Int32} : x_L_law L xs d Q 813 ls (.int y :: .float x :: st) w k n ↔ (vp_in y L ∧ x_L_law L xs d Q 814 ls (.int (xs y.toNatClampNeg) :: st) w k n) := rw_sald rfl
set_option maxRecDepth 100000 in
theorem r_L_law_814 {d : Nat} {Q : nm_K} {w : nm_W} {k n : Nat} {L : Nat} {xs : Nat → Int32} {ls : List Value} {x0 : Nat} {x1 : Int32} : x_L_law L xs d Q 814 ls [.int x1, .ref x0] w k n ↔ ((nm_obj w x0 8 ∧ k + 0 ≤ 600000 ∧ n + 0 ≤ 7302250) ∧ nm_call d 91 [.ref x0, .int x1] w (fun v w' => x_L_law L xs d Q 817 ls (v ++ []) w' k n)) := rw_callC rfl ⟨Nat.le_of_ble_eq_true rfl, Nat.le_of_ble_eq_true rfl⟩ rfl rfl
set_option maxRecDepth 100000 in
theorem r_L_law_817 {d : Nat} {Q : nm_K} {w : nm_W} {k n : Nat} {L : Nat} {xs : Nat → Int32} {a0 a1 a3 : Value} {x : Nat} {st : List Value} : x_L_law L xs d Q 817 [a0, a1, .ref x, a3] st w k n ↔ x_L_law L xs d Q 818 [a0, a1, .ref x, a3] (.ref x :: st) w k n := rw_ldA rfl rfl
set_option maxRecDepth 100000 in
theorem r_L_law_818 {d : Nat} {Q : nm_K} {w : nm_W} {k n : Nat} {L : Nat} {xs : Nat → Int32} {a1 a2 a3 : Value} {x : UInt32} {st : List Value} : x_L_law L xs d Q 818 [.float x, a1, a2, a3] st w k n ↔ x_L_law L xs d Q 819 [.float x, a1, a2, a3] (.float x :: st) w k n := rw_ldF rfl rfl
set_option maxRecDepth 100000 in
theorem r_L_law_819 {d : Nat} {Q : nm_K} {w : nm_W} {k n : Nat} {L : Nat} {xs : Nat → Int32} {a0 a1 a2 : Value} {x : Int32} {st : List Value} : x_L_law L xs d Q 819 [a0, a1, a2, .int x] st w k n ↔ x_L_law L xs d Q 820 [a0, a1, a2, .int x] (.int x :: st) w k n := rw_ldI rfl rfl
set_option maxRecDepth 100000 in
theorem r_L_law_820 {d : Nat} {Q : nm_K} {w : nm_W} {k n : Nat} {L : Nat} {xs : Nat → Int32} {ls st : List Value} : x_L_law L xs d Q 820 ls st w k n ↔ x_L_law L xs d Q 821 ls (.int 1 :: st) w k n := rw_push rfl
set_option maxRecDepth 100000 in
theorem r_L_law_821 {d : Nat} {Q : nm_K} {w : nm_W} {k n : Nat} {L : Nat} {xs : Nat → Int32} {ls st : List Value} {x y : Int32} : x_L_law L xs d Q 821 ls (.int y :: .int x :: st) w k n ↔ x_L_law L xs d Q 822 ls (.int (x + y) :: st) w k n := rw_bin (f := fun x y => x + y) rfl
set_option maxRecDepth 100000 in
theorem r_L_law_822 {d : Nat} {Q : nm_K} {w : nm_W} {k n : Nat} {L : Nat} {xs : Nat → Int32} {ls st : List Value} {x : UInt32} {y : Int32} : x_L_law L xs d Q 822 ls (.int y :: .float x :: st) w k n ↔ (vp_in y L ∧ x_L_law L xs d Q 823 ls (.int (xs y.toNatClampNeg) :: st) w k n) := rw_sald rfl
set_option maxRecDepth 100000 in
theorem r_L_law_823 {d : Nat} {Q : nm_K} {w : nm_W} {k n : Nat} {L : Nat} {xs : Nat → Int32} {ls : List Value} {x0 : Nat} {x1 : Int32} {s0 : Value} : x_L_law L xs d Q 823 ls [.int x1, .ref x0, s0] w k n ↔ ((nm_obj w x0 9 ∧ k + 0 ≤ 600000 ∧ n + 0 ≤ 7302250) ∧ nm_call d 138 [.ref x0, .int x1] w (fun v w' => x_L_law L xs d Q 826 ls (v ++ [s0]) w' k n)) := rw_callC rfl ⟨Nat.le_of_ble_eq_true rfl, Nat.le_of_ble_eq_true rfl⟩ rfl rfl
set_option maxRecDepth 100000 in
theorem r_L_law_826 {d : Nat} {Q : nm_K} {w : nm_W} {k n : Nat} {L : Nat} {xs : Nat → Int32} {ls st : List Value} {x y : Int32} : x_L_law L xs d Q 826 ls (.int y :: .int x :: st) w k n ↔ (if x = y then x_L_law L xs d Q 893 ls st w k n else x_L_law L xs d Q 829 ls st w k n) := rw_if (f := fun x y => decide (x = y)) rfl nm_dt
set_option maxRecDepth 100000 in
theorem r_L_law_829 {d : Nat} {Q : nm_K} {w : nm_W} {k n : Nat} {L : Nat} {xs : Nat → Int32} {ls st : List Value} : x_L_law L xs d Q 829 ls st w k n ↔ x_L_law L xs d Q 830 ls (.int 0 :: st) w k n := rw_push rfl
set_option maxRecDepth 100000 in
theorem r_L_law_830 {d : Nat} {Q : nm_K} {w : nm_W} {k n : Nat} {L : Nat} {xs : Nat → Int32} {ls : List Value} {x : Int32} : x_L_law L xs d Q 830 ls [.int x] w k n ↔ ((k ≤ 600000 ∧ n ≤ 7302250) ∧ (x = 0 ∨ x = 1) ∧ Q [.int x] w) := rw_retZ rfl
set_option maxRecDepth 100000 in
theorem r_L_law_831 {d : Nat} {Q : nm_K} {w : nm_W} {k n : Nat} {L : Nat} {xs : Nat → Int32} {a0 a2 a3 : Value} {x : Nat} {st : List Value} : x_L_law L xs d Q 831 [a0, .ref x, a2, a3] st w k n ↔ x_L_law L xs d Q 832 [a0, .ref x, a2, a3] (.ref x :: st) w k n := rw_ldA rfl rfl
set_option maxRecDepth 100000 in
theorem r_L_law_832 {d : Nat} {Q : nm_K} {w : nm_W} {k n : Nat} {L : Nat} {xs : Nat → Int32} {ls : List Value} {x0 : Nat} : x_L_law L xs d Q 832 ls [.ref x0] w k n ↔ ((nm_obj w x0 8 ∧ k + 0 ≤ 600000 ∧ n + 0 ≤ 7302250) ∧ nm_call d 92 [.ref x0] w (fun v w' => x_L_law L xs d Q 835 ls (v ++ []) w' k n)) := rw_callC rfl ⟨Nat.le_of_ble_eq_true rfl, Nat.le_of_ble_eq_true rfl⟩ rfl rfl
set_option maxRecDepth 100000 in
theorem r_L_law_835 {d : Nat} {Q : nm_K} {w : nm_W} {k n : Nat} {L : Nat} {xs : Nat → Int32} {a0 a1 a3 : Value} {x : Nat} {st : List Value} : x_L_law L xs d Q 835 [a0, a1, .ref x, a3] st w k n ↔ x_L_law L xs d Q 836 [a0, a1, .ref x, a3] (.ref x :: st) w k n := rw_ldA rfl rfl
set_option maxRecDepth 100000 in
theorem r_L_law_836 {d : Nat} {Q : nm_K} {w : nm_W} {k n : Nat} {L : Nat} {xs : Nat → Int32} {ls : List Value} {x0 : Nat} {s0 : Value} : x_L_law L xs d Q 836 ls [.ref x0, s0] w k n ↔ ((nm_obj w x0 9 ∧ k + 0 ≤ 600000 ∧ n + 0 ≤ 7302250) ∧ nm_call d 145 [.ref x0] w (fun v w' => x_L_law L xs d Q 839 ls (v ++ [s0]) w' k n)) := rw_callC rfl ⟨Nat.le_of_ble_eq_true rfl, Nat.le_of_ble_eq_true rfl⟩ rfl rfl
set_option maxRecDepth 100000 in
theorem r_L_law_839 {d : Nat} {Q : nm_K} {w : nm_W} {k n : Nat} {L : Nat} {xs : Nat → Int32} {ls st : List Value} {x y : Int32} : x_L_law L xs d Q 839 ls (.int y :: .int x :: st) w k n ↔ (if x = y then x_L_law L xs d Q 893 ls st w k n else x_L_law L xs d Q 842 ls st w k n) := rw_if (f := fun x y => decide (x = y)) rfl nm_dt
set_option maxRecDepth 100000 in
theorem r_L_law_842 {d : Nat} {Q : nm_K} {w : nm_W} {k n : Nat} {L : Nat} {xs : Nat → Int32} {ls st : List Value} : x_L_law L xs d Q 842 ls st w k n ↔ x_L_law L xs d Q 843 ls (.int 0 :: st) w k n := rw_push rfl
set_option maxRecDepth 100000 in
theorem r_L_law_843 {d : Nat} {Q : nm_K} {w : nm_W} {k n : Nat} {L : Nat} {xs : Nat → Int32} {ls : List Value} {x : Int32} : x_L_law L xs d Q 843 ls [.int x] w k n ↔ ((k ≤ 600000 ∧ n ≤ 7302250) ∧ (x = 0 ∨ x = 1) ∧ Q [.int x] w) := rw_retZ rfl
set_option maxRecDepth 100000 in
theorem r_L_law_844 {d : Nat} {Q : nm_K} {w : nm_W} {k n : Nat} {L : Nat} {xs : Nat → Int32} {a0 a2 a3 : Value} {x : Nat} {st : List Value} : x_L_law L xs d Q 844 [a0, .ref x, a2, a3] st w k n ↔ x_L_law L xs d Q 845 [a0, .ref x, a2, a3] (.ref x :: st) w k n := rw_ldA rfl rfl
set_option maxRecDepth 100000 in
theorem r_L_law_845 {d : Nat} {Q : nm_K} {w : nm_W} {k n : Nat} {L : Nat} {xs : Nat → Int32} {ls : List Value} {x0 : Nat} : x_L_law L xs d Q 845 ls [.ref x0] w k n ↔ ((nm_obj w x0 8 ∧ k + 0 ≤ 600000 ∧ n + 0 ≤ 7302250) ∧ nm_call d 93 [.ref x0] w (fun v w' => x_L_law L xs d Q 848 ls (v ++ []) w' k n)) := rw_callC rfl ⟨Nat.le_of_ble_eq_true rfl, Nat.le_of_ble_eq_true rfl⟩ rfl rfl
set_option maxRecDepth 100000 in
theorem r_L_law_848 {d : Nat} {Q : nm_K} {w : nm_W} {k n : Nat} {L : Nat} {xs : Nat → Int32} {a0 a1 a3 : Value} {x : Nat} {st : List Value} : x_L_law L xs d Q 848 [a0, a1, .ref x, a3] st w k n ↔ x_L_law L xs d Q 849 [a0, a1, .ref x, a3] (.ref x :: st) w k n := rw_ldA rfl rfl
set_option maxRecDepth 100000 in
theorem r_L_law_849 {d : Nat} {Q : nm_K} {w : nm_W} {k n : Nat} {L : Nat} {xs : Nat → Int32} {ls : List Value} {x0 : Nat} {s0 : Value} : x_L_law L xs d Q 849 ls [.ref x0, s0] w k n ↔ ((nm_obj w x0 9 ∧ k + 0 ≤ 600000 ∧ n + 0 ≤ 7302250) ∧ nm_call d 146 [.ref x0] w (fun v w' => x_L_law L xs d Q 852 ls (v ++ [s0]) w' k n)) := rw_callC rfl ⟨Nat.le_of_ble_eq_true rfl, Nat.le_of_ble_eq_true rfl⟩ rfl rfl
set_option maxRecDepth 100000 in
theorem r_L_law_852 {d : Nat} {Q : nm_K} {w : nm_W} {k n : Nat} {L : Nat} {xs : Nat → Int32} {ls st : List Value} {x y : Int32} : x_L_law L xs d Q 852 ls (.int y :: .int x :: st) w k n ↔ (if x = y then x_L_law L xs d Q 893 ls st w k n else x_L_law L xs d Q 855 ls st w k n) := rw_if (f := fun x y => decide (x = y)) rfl nm_dt
set_option maxRecDepth 100000 in
theorem r_L_law_855 {d : Nat} {Q : nm_K} {w : nm_W} {k n : Nat} {L : Nat} {xs : Nat → Int32} {ls st : List Value} : x_L_law L xs d Q 855 ls st w k n ↔ x_L_law L xs d Q 856 ls (.int 0 :: st) w k n := rw_push rfl
set_option maxRecDepth 100000 in
theorem r_L_law_856 {d : Nat} {Q : nm_K} {w : nm_W} {k n : Nat} {L : Nat} {xs : Nat → Int32} {ls : List Value} {x : Int32} : x_L_law L xs d Q 856 ls [.int x] w k n ↔ ((k ≤ 600000 ∧ n ≤ 7302250) ∧ (x = 0 ∨ x = 1) ∧ Q [.int x] w) := rw_retZ rfl
set_option maxRecDepth 100000 in
theorem r_L_law_857 {d : Nat} {Q : nm_K} {w : nm_W} {k n : Nat} {L : Nat} {xs : Nat → Int32} {a0 a2 a3 : Value} {x : Nat} {st : List Value} : x_L_law L xs d Q 857 [a0, .ref x, a2, a3] st w k n ↔ x_L_law L xs d Q 858 [a0, .ref x, a2, a3] (.ref x :: st) w k n := rw_ldA rfl rfl
set_option maxRecDepth 100000 in
theorem r_L_law_858 {d : Nat} {Q : nm_K} {w : nm_W} {k n : Nat} {L : Nat} {xs : Nat → Int32} {ls : List Value} {x0 : Nat} : x_L_law L xs d Q 858 ls [.ref x0] w k n ↔ ((nm_obj w x0 8 ∧ k + 0 ≤ 600000 ∧ n + 0 ≤ 7302250) ∧ nm_call d 94 [.ref x0] w (fun v w' => x_L_law L xs d Q 861 ls (v ++ []) w' k n)) := rw_callC rfl ⟨Nat.le_of_ble_eq_true rfl, Nat.le_of_ble_eq_true rfl⟩ rfl rfl
set_option maxRecDepth 100000 in
theorem r_L_law_861 {d : Nat} {Q : nm_K} {w : nm_W} {k n : Nat} {L : Nat} {xs : Nat → Int32} {a0 a1 a3 : Value} {x : Nat} {st : List Value} : x_L_law L xs d Q 861 [a0, a1, .ref x, a3] st w k n ↔ x_L_law L xs d Q 862 [a0, a1, .ref x, a3] (.ref x :: st) w k n := rw_ldA rfl rfl
set_option maxRecDepth 100000 in
theorem r_L_law_862 {d : Nat} {Q : nm_K} {w : nm_W} {k n : Nat} {L : Nat} {xs : Nat → Int32} {ls : List Value} {x0 : Nat} {s0 : Value} : x_L_law L xs d Q 862 ls [.ref x0, s0] w k n ↔ ((nm_obj w x0 9 ∧ k + 0 ≤ 600000 ∧ n + 0 ≤ 7302250) ∧ nm_call d 147 [.ref x0] w (fun v w' => x_L_law L xs d Q 865 ls (v ++ [s0]) w' k n)) := rw_callC rfl ⟨Nat.le_of_ble_eq_true rfl, Nat.le_of_ble_eq_true rfl⟩ rfl rfl
set_option maxRecDepth 100000 in
theorem r_L_law_865 {d : Nat} {Q : nm_K} {w : nm_W} {k n : Nat} {L : Nat} {xs : Nat → Int32} {ls st : List Value} {x y : Int32} : x_L_law L xs d Q 865 ls (.int y :: .int x :: st) w k n ↔ (if x = y then x_L_law L xs d Q 893 ls st w k n else x_L_law L xs d Q 868 ls st w k n) := rw_if (f := fun x y => decide (x = y)) rfl nm_dt
set_option maxRecDepth 100000 in
theorem r_L_law_868 {d : Nat} {Q : nm_K} {w : nm_W} {k n : Nat} {L : Nat} {xs : Nat → Int32} {ls st : List Value} : x_L_law L xs d Q 868 ls st w k n ↔ x_L_law L xs d Q 869 ls (.int 0 :: st) w k n := rw_push rfl
set_option maxRecDepth 100000 in
theorem r_L_law_869 {d : Nat} {Q : nm_K} {w : nm_W} {k n : Nat} {L : Nat} {xs : Nat → Int32} {ls : List Value} {x : Int32} : x_L_law L xs d Q 869 ls [.int x] w k n ↔ ((k ≤ 600000 ∧ n ≤ 7302250) ∧ (x = 0 ∨ x = 1) ∧ Q [.int x] w) := rw_retZ rfl
set_option maxRecDepth 100000 in
theorem r_L_law_870 {d : Nat} {Q : nm_K} {w : nm_W} {k n : Nat} {L : Nat} {xs : Nat → Int32} {a0 a2 a3 : Value} {x : Nat} {st : List Value} : x_L_law L xs d Q 870 [a0, .ref x, a2, a3] st w k n ↔ x_L_law L xs d Q 871 [a0, .ref x, a2, a3] (.ref x :: st) w k n := rw_ldA rfl rfl
set_option maxRecDepth 100000 in
theorem r_L_law_871 {d : Nat} {Q : nm_K} {w : nm_W} {k n : Nat} {L : Nat} {xs : Nat → Int32} {a1 a2 a3 : Value} {x : UInt32} {st : List Value} : x_L_law L xs d Q 871 [.float x, a1, a2, a3] st w k n ↔ x_L_law L xs d Q 872 [.float x, a1, a2, a3] (.float x :: st) w k n := rw_ldF rfl rfl
set_option maxRecDepth 100000 in
theorem r_L_law_872 {d : Nat} {Q : nm_K} {w : nm_W} {k n : Nat} {L : Nat} {xs : Nat → Int32} {a0 a1 a2 : Value} {x : Int32} {st : List Value} : x_L_law L xs d Q 872 [a0, a1, a2, .int x] st w k n ↔ x_L_law L xs d Q 873 [a0, a1, a2, .int x] (.int x :: st) w k n := rw_ldI rfl rfl
set_option maxRecDepth 100000 in
theorem r_L_law_873 {d : Nat} {Q : nm_K} {w : nm_W} {k n : Nat} {L : Nat} {xs : Nat → Int32} {ls st : List Value} : x_L_law L xs d Q 873 ls st w k n ↔ x_L_law L xs d Q 874 ls (.int 1 :: st) w k n := rw_push rfl
set_option maxRecDepth 100000 in
theorem r_L_law_874 {d : Nat} {Q : nm_K} {w : nm_W} {k n : Nat} {L : Nat} {xs : Nat → Int32} {ls st : List Value} {x y : Int32} : x_L_law L xs d Q 874 ls (.int y :: .int x :: st) w k n ↔ x_L_law L xs d Q 875 ls (.int (x + y) :: st) w k n := rw_bin (f := fun x y => x + y) rfl
set_option maxRecDepth 100000 in
theorem r_L_law_875 {d : Nat} {Q : nm_K} {w : nm_W} {k n : Nat} {L : Nat} {xs : Nat → Int32} {ls st : List Value} {x : UInt32} {y : Int32} : x_L_law L xs d Q 875 ls (.int y :: .float x :: st) w k n ↔ (vp_in y L ∧ x_L_law L xs d Q 876 ls (.int (xs y.toNatClampNeg) :: st) w k n) := rw_sald rfl
set_option maxRecDepth 100000 in
theorem r_L_law_876 {d : Nat} {Q : nm_K} {w : nm_W} {k n : Nat} {L : Nat} {xs : Nat → Int32} {ls : List Value} {x0 : Nat} {x1 : Int32} : x_L_law L xs d Q 876 ls [.int x1, .ref x0] w k n ↔ ((nm_obj w x0 8 ∧ k + 0 ≤ 600000 ∧ n + 0 ≤ 7302250) ∧ nm_call d 95 [.ref x0, .int x1] w (fun v w' => x_L_law L xs d Q 879 ls (v ++ []) w' k n)) := rw_callC rfl ⟨Nat.le_of_ble_eq_true rfl, Nat.le_of_ble_eq_true rfl⟩ rfl rfl
set_option maxRecDepth 100000 in
theorem r_L_law_879 {d : Nat} {Q : nm_K} {w : nm_W} {k n : Nat} {L : Nat} {xs : Nat → Int32} {a0 a1 a3 : Value} {x : Nat} {st : List Value} : x_L_law L xs d Q 879 [a0, a1, .ref x, a3] st w k n ↔ x_L_law L xs d Q 880 [a0, a1, .ref x, a3] (.ref x :: st) w k n := rw_ldA rfl rfl
set_option maxRecDepth 100000 in
theorem r_L_law_880 {d : Nat} {Q : nm_K} {w : nm_W} {k n : Nat} {L : Nat} {xs : Nat → Int32} {a1 a2 a3 : Value} {x : UInt32} {st : List Value} : x_L_law L xs d Q 880 [.float x, a1, a2, a3] st w k n ↔ x_L_law L xs d Q 881 [.float x, a1, a2, a3] (.float x :: st) w k n := rw_ldF rfl rfl
set_option maxRecDepth 100000 in
theorem r_L_law_881 {d : Nat} {Q : nm_K} {w : nm_W} {k n : Nat} {L : Nat} {xs : Nat → Int32} {a0 a1 a2 : Value} {x : Int32} {st : List Value} : x_L_law L xs d Q 881 [a0, a1, a2, .int x] st w k n ↔ x_L_law L xs d Q 882 [a0, a1, a2, .int x] (.int x :: st) w k n := rw_ldI rfl rfl
set_option maxRecDepth 100000 in
theorem r_L_law_882 {d : Nat} {Q : nm_K} {w : nm_W} {k n : Nat} {L : Nat} {xs : Nat → Int32} {ls st : List Value} : x_L_law L xs d Q 882 ls st w k n ↔ x_L_law L xs d Q 883 ls (.int 1 :: st) w k n := rw_push rfl
set_option maxRecDepth 100000 in
theorem r_L_law_883 {d : Nat} {Q : nm_K} {w : nm_W} {k n : Nat} {L : Nat} {xs : Nat → Int32} {ls st : List Value} {x y : Int32} : x_L_law L xs d Q 883 ls (.int y :: .int x :: st) w k n ↔ x_L_law L xs d Q 884 ls (.int (x + y) :: st) w k n := rw_bin (f := fun x y => x + y) rfl
set_option maxRecDepth 100000 in
theorem r_L_law_884 {d : Nat} {Q : nm_K} {w : nm_W} {k n : Nat} {L : Nat} {xs : Nat → Int32} {ls st : List Value} {x : UInt32} {y : Int32} : x_L_law L xs d Q 884 ls (.int y :: .float x :: st) w k n ↔ (vp_in y L ∧ x_L_law L xs d Q 885 ls (.int (xs y.toNatClampNeg) :: st) w k n) := rw_sald rfl
set_option maxRecDepth 100000 in
theorem r_L_law_885 {d : Nat} {Q : nm_K} {w : nm_W} {k n : Nat} {L : Nat} {xs : Nat → Int32} {ls : List Value} {x0 : Nat} {x1 : Int32} {s0 : Value} : x_L_law L xs d Q 885 ls [.int x1, .ref x0, s0] w k n ↔ ((nm_obj w x0 9 ∧ k + 0 ≤ 600000 ∧ n + 0 ≤ 7302250) ∧ nm_call d 148 [.ref x0, .int x1] w (fun v w' => x_L_law L xs d Q 888 ls (v ++ [s0]) w' k n)) := rw_callC rfl ⟨Nat.le_of_ble_eq_true rfl, Nat.le_of_ble_eq_true rfl⟩ rfl rfl
set_option maxRecDepth 100000 in
theorem r_L_law_888 {d : Nat} {Q : nm_K} {w : nm_W} {k n : Nat} {L : Nat} {xs : Nat → Int32} {ls st : List Value} {x y : Int32} : x_L_law L xs d Q 888 ls (.int y :: .int x :: st) w k n ↔ (if x = y then x_L_law L xs d Q 893 ls st w k n else x_L_law L xs d Q 891 ls st w k n) := rw_if (f := fun x y => decide (x = y)) rfl nm_dt
set_option maxRecDepth 100000 in
theorem r_L_law_891 {d : Nat} {Q : nm_K} {w : nm_W} {k n : Nat} {L : Nat} {xs : Nat → Int32} {ls st : List Value} : x_L_law L xs d Q 891 ls st w k n ↔ x_L_law L xs d Q 892 ls (.int 0 :: st) w k n := rw_push rfl
set_option maxRecDepth 100000 in
theorem r_L_law_892 {d : Nat} {Q : nm_K} {w : nm_W} {k n : Nat} {L : Nat} {xs : Nat → Int32} {ls : List Value} {x : Int32} : x_L_law L xs d Q 892 ls [.int x] w k n ↔ ((k ≤ 600000 ∧ n ≤ 7302250) ∧ (x = 0 ∨ x = 1) ∧ Q [.int x] w) := rw_retZ rfl
set_option maxRecDepth 100000 in
theorem r_L_law_893 {d : Nat} {Q : nm_K} {w : nm_W} {k n : Nat} {L : Nat} {xs : Nat → Int32} {a0 a1 a2 : Value} {x : Int32} {st : List Value} : x_L_law L xs d Q 893 [a0, a1, a2, .int x] st w k n ↔ x_L_law L xs d Q 896 [a0, a1, a2, .int (x + 5)] st w k n := rw_inc rfl rfl rfl
set_option maxRecDepth 100000 in
theorem r_L_law_896 {d : Nat} {Q : nm_K} {w : nm_W} {k n : Nat} {L : Nat} {xs : Nat → Int32} {ls st : List Value} : x_L_law L xs d Q 896 ls st w k n ↔ x_L_law L xs d Q 18 ls st w k n := rw_goto rfl
set_option maxRecDepth 100000 in
theorem r_L_law_899 {d : Nat} {Q : nm_K} {w : nm_W} {k n : Nat} {L : Nat} {xs : Nat → Int32} {ls st : List Value} : x_L_law L xs d Q 899 ls st w k n ↔ x_L_law L xs d Q 900 ls (.int 1 :: st) w k n := rw_push rfl
set_option maxRecDepth 100000 in
theorem r_L_law_900 {d : Nat} {Q : nm_K} {w : nm_W} {k n : Nat} {L : Nat} {xs : Nat → Int32} {ls : List Value} {x : Int32} : x_L_law L xs d Q 900 ls [.int x] w k n ↔ ((k ≤ 600000 ∧ n ≤ 7302250) ∧ (x = 0 ∨ x = 1) ∧ Q [.int x] w) := rw_retZ rfl
