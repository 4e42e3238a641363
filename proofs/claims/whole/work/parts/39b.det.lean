/-! A run has one end, and it can be named. -/
def nm_Det (C : nm_C) : Prop := ∀ (y : Nat) (as : List Value) (w : nm_W) (K : nm_K), C y as w K → ∃ v w', K v w' ∧ ∀ Q : nm_K, Q v w' → C y as w Q
theorem nm_X_det {t : nm_T} {C : nm_C} (hM : nm_Mono C) (hC : nm_Det C) {P : nm_K} {pc : Nat} {ls st : List Value} {w : nm_W} {k n : Nat} (h : nm_X t C P pc ls st w k n) : ∃ v w', P v w' ∧ ∀ Q : nm_K, Q v w' → nm_X t C Q pc ls st w k n := by
  refine h (fun pc ls st w k n => ∃ v w', P v w' ∧ ∀ Q : nm_K, Q v w' → nm_X t C Q pc ls st w k n) ?_
  intro pc ls st w k n hs
  unfold nm_stp at hs
  cases ho : nm_look t pc with
  | none => rw [ho] at hs; exact False.elim hs
  | some op =>
    rw [ho] at hs
    dsimp only at hs
    have lift : ∀ Q : nm_K, nm_sem C Q (nm_X t C Q) (op ls st w k n) → nm_X t C Q pc ls st w k n := by
      intro Q hq
      refine nm_X_in hM ?_
      unfold nm_stp
      rw [ho]
      exact hq
    generalize op ls st w k n = r at hs lift
    rcases r with _ | ⟨pc, ls, st, w, k, n⟩ | ⟨v, w⟩ | ⟨y, as, w, pc, ls, st, k, n⟩
    · exact False.elim hs
    · obtain ⟨v, w', h1, h2⟩ := hs
      exact ⟨v, w', h1, fun Q hQ => lift Q (h2 Q hQ)⟩
    · exact ⟨v, w, hs, fun Q hQ => lift Q hQ⟩
    · obtain ⟨v1, w1, ⟨v2, w2, h1, h2⟩, h3⟩ := hC _ _ _ _ hs
      exact ⟨v2, w2, h1, fun Q hQ => lift Q (h3 _ (h2 Q hQ))⟩
theorem nm_callG_det (P : nm_P) : ∀ d, nm_Det (nm_callG P d)
  | 0 => fun _ _ _ _ h => False.elim h
  | d + 1 => fun y as w K h => by
    rw [nm_callG] at h
    split at h
    · rename_i t i ho
      obtain ⟨v, w', h1, h2⟩ := nm_X_det (nm_callG_mono P d) (nm_callG_det P d) h.2
      refine ⟨v, w', h1, fun Q hQ => ?_⟩
      rw [nm_callG]
      dsimp only
      rw [ho]
      exact ⟨h.1, h2 Q hQ⟩
    · exact False.elim h
theorem nm_out {d y : Nat} {as : List Value} {w : nm_W} {K : nm_K} (h : nm_call d y as w K) : ∃ v w', K v w' ∧ ∀ Q : nm_K, Q v w' → nm_call d y as w Q := nm_callG_det nm_prog d y as w K h
/-- what is known of the end, and a run to it -/
theorem Runs_of {y : Nat} {as : List Value} {s : nm_S} {Φ : Int32 → nm_S → Prop} (h : nm_call 60 y as (rep s) (fun v w => ∃ x t, v = [.int x] ∧ w = rep t ∧ Φ x t)) : ∃ x t, Runs y as s x t ∧ Φ x t := by
  obtain ⟨v, w', ⟨x, t, rfl, rfl, h1⟩, h2⟩ := nm_out h
  exact ⟨x, t, fun Q hQ => h2 Q hQ, h1⟩
/-- the same of a call that gives nothing -/
theorem call_of {d y : Nat} {as : List Value} {s : nm_S} {Φ : nm_S → Prop} (h : nm_call d y as (rep s) (fun v w => ∃ t, v = [] ∧ w = rep t ∧ Φ t)) : ∃ t, Φ t ∧ ∀ Q : nm_K, nm_call d y as (rep s) Q ↔ Q [] (rep t) := by
  obtain ⟨v, w', ⟨t, rfl, rfl, h1⟩, h2⟩ := nm_out h
  exact ⟨t, h1, fun Q => iff_of h2 Q⟩
