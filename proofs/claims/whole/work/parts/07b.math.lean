/-! The two members of the library whose class isn't plain: max of ints, min of longs. -/
def op_max (MC MS nx : Nat) : nm_Op := fun ls st w k n => match st with
  | .int y :: .int x :: r => if r.length ≤ 4 ∧ k ≤ MC ∧ n ≤ MS then nm_go nx ls (.int (if x < y then y else x) :: r) w k n else none
  | _ => none
def op_lmin (MC MS nx : Nat) : nm_Op := fun ls st w k n => match st with
  | .long y :: .long x :: r => if r.length ≤ 4 ∧ k ≤ MC ∧ n ≤ MS then nm_go nx ls (.long (if y < x then y else x) :: r) w k n else none
  | _ => none
section OKM
variable {I : Nat → Option nm_I} {i : nm_I} {L : Nat} {xs : Nat → Int32} {pc nx tg : Nat}
theorem ok_max {idx : Nat} (hl : Cond.methodLink i.nm.cls idx Lib.Math.max.name ∈ nm_good) (hst : Cond.static Lib.Math.max.name ∈ nm_good) (hini : Cond.initialized "java/lang/Math" ∈ nm_good) (hcode : Cond.code Lib.Math.max.name Lib.Math.max.code 2 (some .int) ∈ nm_good) (hd : decode i.cc pc = .ok (.invokestatic idx, 3)) (hn : pc + 3 = nx) : nm_ok I i L xs pc (op_max i.mc i.ms nx) := by
  intro d l D cA b base p e R s m args below meth c QQ C Q hR1 hR2 hR3 hR4 hG hC hQ ls st w k n hop H locs A hz hP hS hL
  obtain ⟨hx, hb, hml, hown, hts, hN, hK, hX, hbb, hbs, hin⟩ := hG
  subst hn
  unfold op_max at hop
  split at hop
  · rename_i y x r
    split at hop
    · rename_i hh
      have hcs := nm_cat_sum (b := b) (base := base) r
      exact va_mmax hx hb (by rw [hml]; exact hL.1.symm) hown (hts _ hl) (hts _ hst) (hts _ hini) (hts _ hcode) (by omega) (by omega) (Nat.le_trans hh.2.1 hR3) (Nat.le_trans hh.2.2 hR4) hd (hop H locs A hz hP hS hL)
    · exact False.elim hop
  · exact False.elim hop
theorem ok_lmin {idx : Nat} (hl : Cond.methodLink i.nm.cls idx Lib.MathLoose.min_long.x ∈ nm_good) (hst : Cond.static Lib.MathLoose.min_long.x ∈ nm_good) (hini : Cond.initialized "java/lang/Math" ∈ nm_good) (hcode : Cond.code Lib.MathLoose.min_long.x Lib.MathLoose.min_long.code 4 (some .long) ∈ nm_good) (hd : decode i.cc pc = .ok (.invokestatic idx, 3)) (hn : pc + 3 = nx) : nm_ok I i L xs pc (op_lmin i.mc i.ms nx) := by
  intro d l D cA b base p e R s m args below meth c QQ C Q hR1 hR2 hR3 hR4 hG hC hQ ls st w k n hop H locs A hz hP hS hL
  obtain ⟨hx, hb, hml, hown, hts, hN, hK, hX, hbb, hbs, hin⟩ := hG
  subst hn
  unfold op_lmin at hop
  split at hop
  · rename_i y x r
    split at hop
    · rename_i hh
      have hcs := nm_cat_sum (b := b) (base := base) r
      exact va_mmin_long hx hb (by rw [hml]; exact hL.1.symm) hown (hts _ hl) (hts _ hst) (hts _ hini) (hts _ hcode) (by omega) (by omega) (Nat.le_trans hh.2.1 hR3) (Nat.le_trans hh.2.2 hR4) hd (hop H locs A hz hP hS hL)
    · exact False.elim hop
  · exact False.elim hop
end OKM
