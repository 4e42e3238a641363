/-! SHARING: what a sharing is, what it costs, which is the best. -/
def sumP (p : Nat → Bool) (f : Nat → Nat) : Nat → Nat
  | 0 => 0
  | n + 1 => sumP p f n + (if p n = true then f n else 0)
theorem sumP_s (p : Nat → Bool) (f : Nat → Nat) (n : Nat) : sumP p f (n + 1) = sumP p f n + (if p n = true then f n else 0) := rfl
theorem sumP_cong {p q : Nat → Bool} {f : Nat → Nat} : ∀ {n : Nat}, (∀ i, i < n → p i = q i) → sumP p f n = sumP q f n
  | 0, _ => rfl
  | n + 1, h => by rw [sumP_s, sumP_s, sumP_cong (fun i hi => h i (by omega)), h n (by omega)]
theorem sumP_mono (p : Nat → Bool) (f : Nat → Nat) (n : Nat) : ∀ m, sumP p f n ≤ sumP p f (n + m)
  | 0 => Nat.le_refl _
  | m + 1 => by
    have := sumP_mono p f n m
    rw [← Nat.add_assoc, sumP_s]
    omega
theorem sumP_le {p : Nat → Bool} {f : Nat → Nat} {B : Nat} : ∀ {n : Nat}, (∀ i, i < n → f i ≤ B) → sumP p f n ≤ n * B
  | 0, _ => by simp [sumP]
  | n + 1, h => by
    have h1 := sumP_le (p := p) (n := n) (fun i hi => h i (by omega))
    have h2 := h n (by omega)
    rw [sumP_s, Nat.succ_mul]
    split <;> omega
theorem cnt_up (p : Nat → Bool) (n : Nat) : ∀ m, cnt p n ≤ cnt p (n + m)
  | 0 => Nat.le_refl _
  | m + 1 => by
    have := cnt_up p n m
    rw [← Nat.add_assoc, cnt_s]
    omega
def inCv (A : Nat → Nat) (c : Nat) (t : Nat) : Bool := decide (A t = c)
def hcd (A : Nat → Nat) : Nat → Nat
  | 0 => 0
  | n + 1 => hcd A n * 8 + A n
theorem hcd_s (A : Nat → Nat) (n : Nat) : hcd A (n + 1) = hcd A n * 8 + A n := rfl
theorem hcd_cong {A B : Nat → Nat} : ∀ {n : Nat}, (∀ i, i < n → A i = B i) → hcd A n = hcd B n
  | 0, _ => rfl
  | n + 1, h => by rw [hcd_s, hcd_s, hcd_cong (fun i hi => h i (by omega)), h n (by omega)]
theorem hcd_lt {A B : Nat → Nat} {n : Nat} (h : hcd A n < hcd B n) : ∀ m, (∀ i, n ≤ i → i < n + m → A i < 8) → hcd A (n + m) < hcd B (n + m)
  | 0, _ => h
  | m + 1, hd => by
    have ih := hcd_lt h m (fun i h1 h2 => hd i h1 (by omega))
    have := hd (n + m) (by omega) (by omega)
    rw [← Nat.add_assoc, hcd_s, hcd_s]
    omega
/-- what is known of things and convoys -/
abbrev ShD : Type := (Nat → Nat → Prop) × (Nat → Nat) × (Nat → Nat) × (Nat → Nat) × (Nat → Nat)
/-- a sharing of the first t things that keeps to all -/
def Pf (D : ShD) (C : Nat) (A : Nat → Nat) (t : Nat) : Prop := (∀ k, k < t → (A k < C ∧ D.1 (A k) k) ∨ A k = 4) ∧ ∀ c, c < C → cnt (inCv A c) t ≤ D.2.2.2.1 c ∧ sumP (inCv A c) D.2.1 t ≤ D.2.2.2.2 c
def dcost (D : ShD) (A : Nat → Nat) (t : Nat) : Nat := sumP (inCv A 4) D.2.2.1 t
def dg (a : Nat) : Int32 := if a = 4 then -1 else nI a
def Ext (D : ShD) (T C : Nat) (A : Nat → Nat) (t : Nat) (E : Nat → Nat) : Prop := Pf D C E T ∧ ∀ k, k < t → E k = A k
def Post (D : ShD) (T : Nat) (S : (Nat → Nat) → Prop) (bc : Nat) (f : Nat → Int32) (bc' : Nat) (f' : Nat → Int32) : Prop := (bc' = bc ∧ f' = f ∧ ∀ E, S E → bc ≤ dcost D E T) ∨ (bc' < bc ∧ ∃ B, S B ∧ dcost D B T = bc' ∧ (∀ k, k < T → f' k = dg (B k)) ∧ ∀ E, S E → bc' < dcost D E T ∨ (bc' = dcost D E T ∧ hcd B T ≤ hcd E T))
theorem Post_tr {D : ShD} {T : Nat} {S1 S2 S : (Nat → Nat) → Prop} {b0 b1 b2 : Nat} {f0 f1 f2 : Nat → Int32} (hlt : ∀ E1 E2, S1 E1 → S2 E2 → hcd E1 T ≤ hcd E2 T) (hS : ∀ E, S E ↔ S1 E ∨ S2 E) (h1 : Post D T S1 b0 f0 b1 f1) (h2 : Post D T S2 b1 f1 b2 f2) : Post D T S b0 f0 b2 f2 := by
  rcases h1 with ⟨a1, a2, a3⟩ | ⟨a1, B, a2, a3, a4, a5⟩
  · rcases h2 with ⟨c1, c2, c3⟩ | ⟨c1, B, c2, c3, c4, c5⟩
    · refine Or.inl ⟨c1.trans a1, c2.trans a2, fun E hE => ?_⟩
      rcases (hS E).mp hE with z | z
      · exact a3 E z
      · rw [← a1]; exact c3 E z
    · refine Or.inr ⟨by omega, B, (hS B).mpr (Or.inr c2), c3, c4, fun E hE => ?_⟩
      rcases (hS E).mp hE with z | z
      · have := a3 E z; left; omega
      · exact c5 E z
  · rcases h2 with ⟨c1, c2, c3⟩ | ⟨c1, B', c2, c3, c4, c5⟩
    · refine Or.inr ⟨by omega, B, (hS B).mpr (Or.inl a2), by omega, by rw [c2]; exact a4, fun E hE => ?_⟩
      rcases (hS E).mp hE with z | z
      · rw [c1]; exact a5 E z
      · have y1 := c3 E z
        have y2 := hlt B E a2 z
        omega
    · refine Or.inr ⟨by omega, B', (hS B').mpr (Or.inr c2), c3, c4, fun E hE => ?_⟩
      rcases (hS E).mp hE with z | z
      · rcases a5 E z with y | y
        · left; omega
        · left; omega
      · exact c5 E z
def updN (A : Nat → Nat) (t c : Nat) : Nat → Nat := fun k => if k = t then c else A k
theorem updN_at (A : Nat → Nat) (t c : Nat) : updN A t c t = c := by unfold updN; rw [if_pos rfl]
theorem updN_ne {A : Nat → Nat} {t c k : Nat} (h : k ≠ t) : updN A t c k = A k := by unfold updN; rw [if_neg h]
theorem cnt_updN (A : Nat → Nat) (t c c' : Nat) : cnt (inCv (updN A t c) c') (t + 1) = cnt (inCv A c') t + (if c = c' then 1 else 0) := by
  rw [cnt_s]
  have e : cnt (inCv (updN A t c) c') t = cnt (inCv A c') t := cnt_cong (fun i hi => by unfold inCv; rw [updN_ne (by omega)])
  rw [e]
  unfold inCv
  rw [updN_at]
  by_cases h : c = c' <;> simp [h]
theorem sumP_updN (A : Nat → Nat) (f : Nat → Nat) (t c c' : Nat) : sumP (inCv (updN A t c) c') f (t + 1) = sumP (inCv A c') f t + (if c = c' then f t else 0) := by
  rw [sumP_s]
  have e : sumP (inCv (updN A t c) c') f t = sumP (inCv A c') f t := sumP_cong (fun i hi => by unfold inCv; rw [updN_ne (by omega)])
  rw [e]
  unfold inCv
  rw [updN_at]
  by_cases h : c = c' <;> simp [h]
theorem Ext_dig {D : ShD} {T C t : Nat} {A E : Nat → Nat} (hC : C ≤ 4) (ht : t < T) (h : Ext D T C A t E) : E t ≤ 4 := by
  rcases h.1.1 t ht with z | z <;> omega
/-- earlier digits, smaller codes -/
theorem Ext_ord {D : ShD} {T C t : Nat} {A E1 E2 : Nat → Nat} (hC : C ≤ 4) (ht : t < T) (h1 : Ext D T C A t E1) (h2 : Ext D T C A t E2) (h : E1 t < E2 t) : hcd E1 T ≤ hcd E2 T := by
  have a : hcd E1 t = hcd E2 t := hcd_cong (fun i hi => by rw [h1.2 i hi, h2.2 i hi])
  have b : hcd E1 (t + 1) < hcd E2 (t + 1) := by rw [hcd_s, hcd_s]; omega
  have c := hcd_lt b (T - (t + 1)) (fun i hi1 hi2 => by
    rcases h1.1.1 i (by omega) with z | z <;> omega)
  rw [show t + 1 + (T - (t + 1)) = T by omega] at c
  omega
/-- a thing more in a convoy: when it may be -/
theorem Pf_add {D : ShD} {C t c : Nat} {A : Nat → Nat} (h : Pf D C A t) (hc : c < C) (hf : D.1 c t) (h1 : cnt (inCv A c) t < D.2.2.2.1 c) (h2 : sumP (inCv A c) D.2.1 t + D.2.1 t ≤ D.2.2.2.2 c) : Pf D C (updN A t c) (t + 1) := by
  refine ⟨fun k hk => ?_, fun c' hc' => ?_⟩
  · by_cases e : k = t
    · subst e; rw [updN_at]; exact Or.inl ⟨hc, hf⟩
    · rw [updN_ne e]; exact h.1 k (by omega)
  · rw [cnt_updN, sumP_updN]
    have := h.2 c' hc'
    by_cases e : c = c'
    · subst e; rw [if_pos rfl, if_pos rfl]; omega
    · rw [if_neg e, if_neg e]; omega
theorem Pf_dbl {D : ShD} {C t : Nat} {A : Nat → Nat} (hC : C ≤ 4) (h : Pf D C A t) : Pf D C (updN A t 4) (t + 1) := by
  refine ⟨fun k hk => ?_, fun c' hc' => ?_⟩
  · by_cases e : k = t
    · subst e; rw [updN_at]; exact Or.inr rfl
    · rw [updN_ne e]; exact h.1 k (by omega)
  · rw [cnt_updN, sumP_updN, if_neg (by omega), if_neg (by omega)]
    exact h.2 c' hc'
/-- and when it may not -/
theorem Ext_no {D : ShD} {T C t c : Nat} {A E : Nat → Nat} (ht : t < T) (h : Ext D T C A t E) (hc : c < C) (hC : C ≤ 4) (e : E t = c) : D.1 c t ∧ cnt (inCv A c) t < D.2.2.2.1 c ∧ sumP (inCv A c) D.2.1 t + D.2.1 t ≤ D.2.2.2.2 c := by
  have a : cnt (inCv E c) t = cnt (inCv A c) t := cnt_cong (fun i hi => by unfold inCv; rw [h.2 i hi])
  have b : sumP (inCv E c) D.2.1 t = sumP (inCv A c) D.2.1 t := sumP_cong (fun i hi => by unfold inCv; rw [h.2 i hi])
  have d : inCv E c t = true := by unfold inCv; simp [e]
  have a1 : cnt (inCv E c) (t + 1) = cnt (inCv E c) t + 1 := by rw [cnt_s, d]; rfl
  have b1 : sumP (inCv E c) D.2.1 (t + 1) = sumP (inCv E c) D.2.1 t + D.2.1 t := by rw [sumP_s, d]; rfl
  have a2 := cnt_up (inCv E c) (t + 1) (T - (t + 1))
  have b2' := sumP_mono (inCv E c) D.2.1 (t + 1) (T - (t + 1))
  rw [show t + 1 + (T - (t + 1)) = T by omega] at a2 b2'
  have p := h.1.2 c hc
  refine ⟨?_, by omega, by omega⟩
  rcases h.1.1 t ht with z | z
  · rw [e] at z; exact z.2
  · omega
theorem Ext_step {D : ShD} {T C t c : Nat} {A E : Nat → Nat} : Ext D T C (updN A t c) (t + 1) E ↔ Ext D T C A t E ∧ E t = c := by
  constructor
  · rintro ⟨h1, h2⟩
    refine ⟨⟨h1, fun k hk => ?_⟩, ?_⟩
    · rw [h2 k (by omega), updN_ne (by omega)]
    · rw [h2 t (by omega), updN_at]
  · rintro ⟨⟨h1, h2⟩, h3⟩
    refine ⟨h1, fun k hk => ?_⟩
    by_cases e : k = t
    · subst e; rw [updN_at]; exact h3
    · rw [updN_ne e]; exact h2 k (by omega)
theorem dcost_ext {D : ShD} {T C t : Nat} {A E : Nat → Nat} (ht : t ≤ T) (h : Ext D T C A t E) : dcost D A t ≤ dcost D E T := by
  unfold dcost
  have b : sumP (inCv E 4) D.2.2.1 t = sumP (inCv A 4) D.2.2.1 t := sumP_cong (fun i hi => by unfold inCv; rw [h.2 i hi])
  have c := sumP_mono (inCv E 4) D.2.2.1 t (T - t)
  rw [show t + (T - t) = T by omega] at c
  omega
