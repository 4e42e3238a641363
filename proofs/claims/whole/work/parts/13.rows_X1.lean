/-! Rows of NightMove$Faults. -/
def x_X1_init (d : Nat) (Q : nm_K) : nm_F := nm_X tb_X1_init (nm_call d) Q
def x_X1_add (d : Nat) (Q : nm_K) : nm_F := nm_X tb_X1_add (nm_call d) Q
def x_X1_mend (d : Nat) (Q : nm_K) : nm_F := nm_X tb_X1_mend (nm_call d) Q
theorem e_X1_init {d : Nat} {Q : nm_K} {w : nm_W} {x0 : Nat} : nm_call (d + 1) 4 [.ref x0] w Q ↔ x_X1_init d Q 0 [.ref x0] [] w 0 0 := rw_ent (as' := [.ref x0]) rfl rfl ⟨Nat.le_of_ble_eq_true rfl, rfl⟩ rfl
theorem r_X1_init_0 {d : Nat} {Q : nm_K} {w : nm_W} {k n : Nat}  {x : Nat} {st : List Value} : x_X1_init d Q 0 [.ref x] st w k n ↔ x_X1_init d Q 1 [.ref x] (.ref x :: st) w k n := rw_ldA rfl rfl
theorem r_X1_init_1 {d : Nat} {Q : nm_K} {w : nm_W} {k n : Nat} {ls : List Value} {x : Nat} : x_X1_init d Q 1 ls (.ref x :: []) w k n ↔ x_X1_init d Q 4 ls [] w k n := rw_obj rfl (Nat.le_of_ble_eq_true rfl)
theorem r_X1_init_4 {d : Nat} {Q : nm_K} {w : nm_W} {k n : Nat}  {x : Nat} {st : List Value} : x_X1_init d Q 4 [.ref x] st w k n ↔ x_X1_init d Q 5 [.ref x] (.ref x :: st) w k n := rw_ldA rfl rfl
theorem r_X1_init_5 {d : Nat} {Q : nm_K} {w : nm_W} {k n : Nat} {ls st : List Value} : x_X1_init d Q 5 ls st w k n ↔ x_X1_init d Q 7 ls (.int 100 :: st) w k n := rw_push rfl
theorem r_X1_init_7 {d : Nat} {Q : nm_K} {w : nm_W} {k n : Nat} {ls st : List Value} {x : Int32} : x_X1_init d Q 7 ls (.int x :: st) w k n ↔ ((¬ x < 0 ∧ x.toNatClampNeg ≤ 10000 ∧ k + 1 ≤ 1 ∧ n + x.toNatClampNeg ≤ 100) ∧ x_X1_init d Q 9 ls (.ref w.length :: st) (w ++ [.inl (0, x.toNatClampNeg, .inl (fun _ => 0))]) (k + 1) (n + x.toNatClampNeg)) := rw_newa rfl
theorem r_X1_init_9 {d : Nat} {Q : nm_K} {w : nm_W} {k n : Nat} {ls st : List Value} {x : Nat} {y : Nat} : x_X1_init d Q 9 ls (.ref y :: .ref x :: st) w k n ↔ nm_b (nm_put w x 1 0 (.ref y)) (fun w' => x_X1_init d Q 12 ls st w' k n) := rw_putA rfl
theorem r_X1_init_12 {d : Nat} {Q : nm_K} {w : nm_W} {k n : Nat}  {x : Nat} {st : List Value} : x_X1_init d Q 12 [.ref x] st w k n ↔ x_X1_init d Q 13 [.ref x] (.ref x :: st) w k n := rw_ldA rfl rfl
theorem r_X1_init_13 {d : Nat} {Q : nm_K} {w : nm_W} {k n : Nat} {ls st : List Value} : x_X1_init d Q 13 ls st w k n ↔ x_X1_init d Q 14 ls (.int 0 :: st) w k n := rw_push rfl
theorem r_X1_init_14 {d : Nat} {Q : nm_K} {w : nm_W} {k n : Nat} {ls st : List Value} {x : Nat} {y : Int32} : x_X1_init d Q 14 ls (.int y :: .ref x :: st) w k n ↔ nm_b (nm_put w x 1 1 (.int y)) (fun w' => x_X1_init d Q 17 ls st w' k n) := rw_putI rfl
theorem r_X1_init_17 {d : Nat} {Q : nm_K} {w : nm_W} {k n : Nat}  {x : Nat} {st : List Value} : x_X1_init d Q 17 [.ref x] st w k n ↔ x_X1_init d Q 18 [.ref x] (.ref x :: st) w k n := rw_ldA rfl rfl
theorem r_X1_init_18 {d : Nat} {Q : nm_K} {w : nm_W} {k n : Nat} {ls st : List Value} : x_X1_init d Q 18 ls st w k n ↔ x_X1_init d Q 19 ls (.int 0 :: st) w k n := rw_push rfl
theorem r_X1_init_19 {d : Nat} {Q : nm_K} {w : nm_W} {k n : Nat} {ls st : List Value} {x : Nat} {y : Int32} : x_X1_init d Q 19 ls (.int y :: .ref x :: st) w k n ↔ nm_b (nm_put w x 1 2 (.int y)) (fun w' => x_X1_init d Q 22 ls st w' k n) := rw_putI rfl
theorem r_X1_init_22 {d : Nat} {Q : nm_K} {w : nm_W} {k n : Nat} {ls : List Value} : x_X1_init d Q 22 ls [] w k n ↔ ((k ≤ 1 ∧ n ≤ 100) ∧ Q [] w) := rw_retV rfl
theorem e_X1_add {d : Nat} {Q : nm_K} {w : nm_W} {x0 : Nat} : nm_call (d + 1) 5 [.ref x0] w Q ↔ x_X1_add d Q 0 [.ref x0] [] w 0 0 := rw_ent (as' := [.ref x0]) rfl rfl ⟨Nat.le_of_ble_eq_true rfl, rfl⟩ rfl
theorem r_X1_add_0 {d : Nat} {Q : nm_K} {w : nm_W}  {x : Nat} {st : List Value} : x_X1_add d Q 0 [.ref x] st w 0 0 ↔ x_X1_add d Q 1 [.ref x] (.ref x :: st) w 0 0 := rw_ldA rfl rfl
theorem r_X1_add_1 {d : Nat} {Q : nm_K} {w : nm_W} {ls st : List Value} {x : Nat} : x_X1_add d Q 1 ls (.ref x :: st) w 0 0 ↔ nm_b (nm_get w x 1 1) (fun v => x_X1_add d Q 4 ls (v :: st) w 0 0) := rw_get rfl
theorem r_X1_add_4 {d : Nat} {Q : nm_K} {w : nm_W} {ls st : List Value} : x_X1_add d Q 4 ls st w 0 0 ↔ x_X1_add d Q 6 ls (.int 100 :: st) w 0 0 := rw_push rfl
theorem r_X1_add_6 {d : Nat} {Q : nm_K} {w : nm_W} {ls st : List Value} {x y : Int32} : x_X1_add d Q 6 ls (.int y :: .int x :: st) w 0 0 ↔ (if x < y then x_X1_add d Q 11 ls st w 0 0 else x_X1_add d Q 9 ls st w 0 0) := rw_if (f := fun x y => decide (x < y)) rfl nm_dt
theorem r_X1_add_9 {d : Nat} {Q : nm_K} {w : nm_W} {ls st : List Value} : x_X1_add d Q 9 ls st w 0 0 ↔ x_X1_add d Q 10 ls (.int (-1) :: st) w 0 0 := rw_push rfl
theorem r_X1_add_10 {d : Nat} {Q : nm_K} {w : nm_W} {ls : List Value} {x : Int32} : x_X1_add d Q 10 ls [.int x] w 0 0 ↔ Q [.int x] w := rw_retI0 rfl
theorem r_X1_add_11 {d : Nat} {Q : nm_K} {w : nm_W}  {x : Nat} {st : List Value} : x_X1_add d Q 11 [.ref x] st w 0 0 ↔ x_X1_add d Q 12 [.ref x] (.ref x :: st) w 0 0 := rw_ldA rfl rfl
theorem r_X1_add_12 {d : Nat} {Q : nm_K} {w : nm_W} {ls st : List Value} {x : Nat} : x_X1_add d Q 12 ls (.ref x :: st) w 0 0 ↔ x_X1_add d Q 13 ls (.ref x :: .ref x :: st) w 0 0 := rw_dup rfl
theorem r_X1_add_13 {d : Nat} {Q : nm_K} {w : nm_W} {ls st : List Value} {x : Nat} : x_X1_add d Q 13 ls (.ref x :: st) w 0 0 ↔ nm_b (nm_get w x 1 1) (fun v => x_X1_add d Q 16 ls (v :: st) w 0 0) := rw_get rfl
theorem r_X1_add_16 {d : Nat} {Q : nm_K} {w : nm_W} {ls st : List Value} : x_X1_add d Q 16 ls st w 0 0 ↔ x_X1_add d Q 17 ls (.int 1 :: st) w 0 0 := rw_push rfl
theorem r_X1_add_17 {d : Nat} {Q : nm_K} {w : nm_W} {ls st : List Value} {x y : Int32} : x_X1_add d Q 17 ls (.int y :: .int x :: st) w 0 0 ↔ x_X1_add d Q 18 ls (.int (x + y) :: st) w 0 0 := rw_bin (f := fun x y => x + y) rfl
theorem r_X1_add_18 {d : Nat} {Q : nm_K} {w : nm_W} {ls st : List Value} {x : Nat} {y : Int32} : x_X1_add d Q 18 ls (.int y :: .ref x :: st) w 0 0 ↔ nm_b (nm_put w x 1 1 (.int y)) (fun w' => x_X1_add d Q 21 ls st w' 0 0) := rw_putI rfl
theorem r_X1_add_21 {d : Nat} {Q : nm_K} {w : nm_W}  {x : Nat} {st : List Value} : x_X1_add d Q 21 [.ref x] st w 0 0 ↔ x_X1_add d Q 22 [.ref x] (.ref x :: st) w 0 0 := rw_ldA rfl rfl
theorem r_X1_add_22 {d : Nat} {Q : nm_K} {w : nm_W} {ls st : List Value} {x : Nat} : x_X1_add d Q 22 ls (.ref x :: st) w 0 0 ↔ x_X1_add d Q 23 ls (.ref x :: .ref x :: st) w 0 0 := rw_dup rfl
theorem r_X1_add_23 {d : Nat} {Q : nm_K} {w : nm_W} {ls st : List Value} {x : Nat} : x_X1_add d Q 23 ls (.ref x :: st) w 0 0 ↔ nm_b (nm_get w x 1 2) (fun v => x_X1_add d Q 26 ls (v :: st) w 0 0) := rw_get rfl
theorem r_X1_add_26 {d : Nat} {Q : nm_K} {w : nm_W} {ls st : List Value} : x_X1_add d Q 26 ls st w 0 0 ↔ x_X1_add d Q 27 ls (.int 1 :: st) w 0 0 := rw_push rfl
theorem r_X1_add_27 {d : Nat} {Q : nm_K} {w : nm_W} {ls st : List Value} {x y : Int32} : x_X1_add d Q 27 ls (.int y :: .int x :: st) w 0 0 ↔ x_X1_add d Q 28 ls (.int (x + y) :: st) w 0 0 := rw_bin (f := fun x y => x + y) rfl
theorem r_X1_add_28 {d : Nat} {Q : nm_K} {w : nm_W} {ls st : List Value} {x : Nat} {y : Int32} : x_X1_add d Q 28 ls (.int y :: .ref x :: st) w 0 0 ↔ nm_b (nm_put w x 1 2 (.int y)) (fun w' => x_X1_add d Q 31 ls st w' 0 0) := rw_putI rfl
theorem r_X1_add_31 {d : Nat} {Q : nm_K} {w : nm_W}  {x : Nat} {st : List Value} : x_X1_add d Q 31 [.ref x] st w 0 0 ↔ x_X1_add d Q 32 [.ref x] (.ref x :: st) w 0 0 := rw_ldA rfl rfl
theorem r_X1_add_32 {d : Nat} {Q : nm_K} {w : nm_W} {ls st : List Value} {x : Nat} : x_X1_add d Q 32 ls (.ref x :: st) w 0 0 ↔ nm_b (nm_get w x 1 1) (fun v => x_X1_add d Q 35 ls (v :: st) w 0 0) := rw_get rfl
theorem r_X1_add_35 {d : Nat} {Q : nm_K} {w : nm_W} {ls st : List Value} : x_X1_add d Q 35 ls st w 0 0 ↔ x_X1_add d Q 36 ls (.int 1 :: st) w 0 0 := rw_push rfl
theorem r_X1_add_36 {d : Nat} {Q : nm_K} {w : nm_W} {ls st : List Value} {x y : Int32} : x_X1_add d Q 36 ls (.int y :: .int x :: st) w 0 0 ↔ x_X1_add d Q 37 ls (.int (x - y) :: st) w 0 0 := rw_bin (f := fun x y => x - y) rfl
theorem r_X1_add_37 {d : Nat} {Q : nm_K} {w : nm_W} {ls : List Value} {x : Int32} : x_X1_add d Q 37 ls [.int x] w 0 0 ↔ Q [.int x] w := rw_retI0 rfl
theorem e_X1_mend {d : Nat} {Q : nm_K} {w : nm_W} {x0 : Nat} {x1 : Int32} : nm_call (d + 1) 6 [.ref x0, .int x1] w Q ↔ x_X1_mend d Q 0 [.ref x0, .int x1] [] w 0 0 := rw_ent (as' := [.ref x0, .int x1]) rfl rfl ⟨Nat.le_of_ble_eq_true rfl, rfl⟩ rfl
theorem r_X1_mend_0 {d : Nat} {Q : nm_K} {w : nm_W} {a0 : Value} {x : Int32} {st : List Value} : x_X1_mend d Q 0 [a0, .int x] st w 0 0 ↔ x_X1_mend d Q 1 [a0, .int x] (.int x :: st) w 0 0 := rw_ldI rfl rfl
theorem r_X1_mend_1 {d : Nat} {Q : nm_K} {w : nm_W} {ls st : List Value} : x_X1_mend d Q 1 ls st w 0 0 ↔ x_X1_mend d Q 2 ls (.int 0 :: st) w 0 0 := rw_push rfl
theorem r_X1_mend_2 {d : Nat} {Q : nm_K} {w : nm_W} {a1 : Value} {x : Nat} {st : List Value} : x_X1_mend d Q 2 [.ref x, a1] st w 0 0 ↔ x_X1_mend d Q 3 [.ref x, a1] (.ref x :: st) w 0 0 := rw_ldA rfl rfl
theorem r_X1_mend_3 {d : Nat} {Q : nm_K} {w : nm_W} {ls st : List Value} {x : Nat} : x_X1_mend d Q 3 ls (.ref x :: st) w 0 0 ↔ nm_b (nm_get w x 1 1) (fun v => x_X1_mend d Q 6 ls (v :: st) w 0 0) := rw_get rfl
theorem r_X1_mend_6 {d : Nat} {Q : nm_K} {w : nm_W} {ls st : List Value} : x_X1_mend d Q 6 ls st w 0 0 ↔ x_X1_mend d Q 7 ls (.int 1 :: st) w 0 0 := rw_push rfl
theorem r_X1_mend_7 {d : Nat} {Q : nm_K} {w : nm_W} {ls st : List Value} {x y : Int32} : x_X1_mend d Q 7 ls (.int y :: .int x :: st) w 0 0 ↔ x_X1_mend d Q 8 ls (.int (x - y) :: st) w 0 0 := rw_bin (f := fun x y => x - y) rfl
theorem r_X1_mend_8 {d : Nat} {Q : nm_K} {w : nm_W} {ls : List Value} {x1 : Int32} {x2 : Int32} {x3 : Int32} : x_X1_mend d Q 8 ls [.int x3, .int x2, .int x1] w 0 0 ↔ nm_call d 100 [.int x1, .int x2, .int x3] w (fun v w' => x_X1_mend d Q 11 ls (v ++ []) w' 0 0) := rw_callS rfl ⟨Nat.le_of_ble_eq_true rfl, Nat.le_of_ble_eq_true rfl⟩ rfl rfl
theorem r_X1_mend_11 {d : Nat} {Q : nm_K} {w : nm_W} {ls st : List Value} {x : Int32} : x_X1_mend d Q 11 ls (.int x :: st) w 0 0 ↔ (if x = 0 then x_X1_mend d Q 23 ls st w 0 0 else x_X1_mend d Q 14 ls st w 0 0) := rw_ifz (f := fun x => decide (x = 0)) rfl nm_dt
theorem r_X1_mend_14 {d : Nat} {Q : nm_K} {w : nm_W} {a1 : Value} {x : Nat} {st : List Value} : x_X1_mend d Q 14 [.ref x, a1] st w 0 0 ↔ x_X1_mend d Q 15 [.ref x, a1] (.ref x :: st) w 0 0 := rw_ldA rfl rfl
theorem r_X1_mend_15 {d : Nat} {Q : nm_K} {w : nm_W} {ls st : List Value} {x : Nat} : x_X1_mend d Q 15 ls (.ref x :: st) w 0 0 ↔ nm_b (nm_get w x 1 0) (fun v => x_X1_mend d Q 18 ls (v :: st) w 0 0) := rw_get rfl
theorem r_X1_mend_18 {d : Nat} {Q : nm_K} {w : nm_W} {a0 : Value} {x : Int32} {st : List Value} : x_X1_mend d Q 18 [a0, .int x] st w 0 0 ↔ x_X1_mend d Q 19 [a0, .int x] (.int x :: st) w 0 0 := rw_ldI rfl rfl
theorem r_X1_mend_19 {d : Nat} {Q : nm_K} {w : nm_W} {ls st : List Value} {x : Nat} {y : Int32} : x_X1_mend d Q 19 ls (.int y :: .ref x :: st) w 0 0 ↔ nm_b (nm_ald w x 0 y) (fun v => x_X1_mend d Q 20 ls (.int v :: st) w 0 0) := rw_ald rfl
theorem r_X1_mend_20 {d : Nat} {Q : nm_K} {w : nm_W} {ls st : List Value} {x : Int32} : x_X1_mend d Q 20 ls (.int x :: st) w 0 0 ↔ (if x = 0 then x_X1_mend d Q 25 ls st w 0 0 else x_X1_mend d Q 23 ls st w 0 0) := rw_ifz (f := fun x => decide (x = 0)) rfl nm_dt
theorem r_X1_mend_23 {d : Nat} {Q : nm_K} {w : nm_W} {ls st : List Value} : x_X1_mend d Q 23 ls st w 0 0 ↔ x_X1_mend d Q 24 ls (.int 0 :: st) w 0 0 := rw_push rfl
theorem r_X1_mend_24 {d : Nat} {Q : nm_K} {w : nm_W} {ls : List Value} {x : Int32} : x_X1_mend d Q 24 ls [.int x] w 0 0 ↔ ((x = 0 ∨ x = 1) ∧ Q [.int x] w) := rw_retZ0 rfl
theorem r_X1_mend_25 {d : Nat} {Q : nm_K} {w : nm_W} {a1 : Value} {x : Nat} {st : List Value} : x_X1_mend d Q 25 [.ref x, a1] st w 0 0 ↔ x_X1_mend d Q 26 [.ref x, a1] (.ref x :: st) w 0 0 := rw_ldA rfl rfl
theorem r_X1_mend_26 {d : Nat} {Q : nm_K} {w : nm_W} {ls st : List Value} {x : Nat} : x_X1_mend d Q 26 ls (.ref x :: st) w 0 0 ↔ nm_b (nm_get w x 1 0) (fun v => x_X1_mend d Q 29 ls (v :: st) w 0 0) := rw_get rfl
theorem r_X1_mend_29 {d : Nat} {Q : nm_K} {w : nm_W} {a0 : Value} {x : Int32} {st : List Value} : x_X1_mend d Q 29 [a0, .int x] st w 0 0 ↔ x_X1_mend d Q 30 [a0, .int x] (.int x :: st) w 0 0 := rw_ldI rfl rfl
theorem r_X1_mend_30 {d : Nat} {Q : nm_K} {w : nm_W} {ls st : List Value} : x_X1_mend d Q 30 ls st w 0 0 ↔ x_X1_mend d Q 31 ls (.int 1 :: st) w 0 0 := rw_push rfl
theorem r_X1_mend_31 {d : Nat} {Q : nm_K} {w : nm_W} {ls st : List Value} {x : Nat} {y z : Int32} : x_X1_mend d Q 31 ls (.int z :: .int y :: .ref x :: st) w 0 0 ↔ nm_b (nm_ast w x 0 y z) (fun w' => x_X1_mend d Q 32 ls st w' 0 0) := rw_ast rfl
theorem r_X1_mend_32 {d : Nat} {Q : nm_K} {w : nm_W} {a1 : Value} {x : Nat} {st : List Value} : x_X1_mend d Q 32 [.ref x, a1] st w 0 0 ↔ x_X1_mend d Q 33 [.ref x, a1] (.ref x :: st) w 0 0 := rw_ldA rfl rfl
theorem r_X1_mend_33 {d : Nat} {Q : nm_K} {w : nm_W} {ls st : List Value} {x : Nat} : x_X1_mend d Q 33 ls (.ref x :: st) w 0 0 ↔ x_X1_mend d Q 34 ls (.ref x :: .ref x :: st) w 0 0 := rw_dup rfl
theorem r_X1_mend_34 {d : Nat} {Q : nm_K} {w : nm_W} {ls st : List Value} {x : Nat} : x_X1_mend d Q 34 ls (.ref x :: st) w 0 0 ↔ nm_b (nm_get w x 1 2) (fun v => x_X1_mend d Q 37 ls (v :: st) w 0 0) := rw_get rfl
theorem r_X1_mend_37 {d : Nat} {Q : nm_K} {w : nm_W} {ls st : List Value} : x_X1_mend d Q 37 ls st w 0 0 ↔ x_X1_mend d Q 38 ls (.int 1 :: st) w 0 0 := rw_push rfl
theorem r_X1_mend_38 {d : Nat} {Q : nm_K} {w : nm_W} {ls st : List Value} {x y : Int32} : x_X1_mend d Q 38 ls (.int y :: .int x :: st) w 0 0 ↔ x_X1_mend d Q 39 ls (.int (x - y) :: st) w 0 0 := rw_bin (f := fun x y => x - y) rfl
theorem r_X1_mend_39 {d : Nat} {Q : nm_K} {w : nm_W} {ls st : List Value} {x : Nat} {y : Int32} : x_X1_mend d Q 39 ls (.int y :: .ref x :: st) w 0 0 ↔ nm_b (nm_put w x 1 2 (.int y)) (fun w' => x_X1_mend d Q 42 ls st w' 0 0) := rw_putI rfl
theorem r_X1_mend_42 {d : Nat} {Q : nm_K} {w : nm_W} {ls st : List Value} : x_X1_mend d Q 42 ls st w 0 0 ↔ x_X1_mend d Q 43 ls (.int 1 :: st) w 0 0 := rw_push rfl
theorem r_X1_mend_43 {d : Nat} {Q : nm_K} {w : nm_W} {ls : List Value} {x : Int32} : x_X1_mend d Q 43 ls [.int x] w 0 0 ↔ ((x = 0 ∨ x = 1) ∧ Q [.int x] w) := rw_retZ0 rfl
