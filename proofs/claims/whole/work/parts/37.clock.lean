/-! STAGES: what time does, in one form for both. -/
def Cl (N m : Nat) (mi bg : Nat → Nat) (pt : Nat → Bool) (st : Nat → Nat) (sf : Nat → Bool) (r : Nat) (ro en : Nat → Nat) (st' : Nat → Nat) (sf' : Nat → Bool) (r' : Nat) (ro' en' : Nat → Nat) : Prop :=
  (∀ i, i < N → (st' i = 2 ∧ st i = 1 ∧ bg i + mi i ≤ m) ∨ (st' i = 0 ∧ st i = 3 ∧ ∃ j, j < r ∧ ro j = i ∧ en j ≤ m) ∨ (st' i = st i ∧ (st i = 1 → m < bg i + mi i) ∧ (st i = 3 → ∀ j, j < r → ro j = i → m < en j))) ∧
  (∀ i, i < N → (sf' i = true ↔ sf i = true ∨ (st' i = 2 ∧ ∃ p, p < N ∧ st p = 1 ∧ pt p = true ∧ bg p + mi p ≤ m ∧ bg i + mi i ≤ bg p + mi p))) ∧
  ∃ c, c ≤ r ∧ r' = r - c ∧ (∀ j, j < c → en j ≤ m) ∧ (c < r → m < en c) ∧ (∀ j, ro' j = ro (j + c)) ∧ ∀ j, en' j = en (j + c)
theorem Cl_rf {N T r : Nat} {st bg mi nd bk : Nat → Nat} {pt sf : Nat → Bool} {ro en : Nat → Nat} (hW : WF N T st bg mi nd bk sf) (hB : BK N T r st bg bk ro en) : Cl N T mi bg pt st sf r ro en st sf r ro en := by
  refine ⟨fun i hi => Or.inr (Or.inr ⟨rfl, fun h => ((hW i hi).2.2.2.2.1 h).2, fun h j hj e => (hB.2.1 j hj).2.2.1⟩), fun i hi => ⟨Or.inl, fun h => ?_⟩, 0, Nat.zero_le _, rfl, fun j hj => by omega, fun h => (hB.2.1 0 h).2.2.1, fun _ => rfl, fun _ => rfl⟩
  rcases h with h | ⟨-, p, h1, h2, -, h3, -⟩
  · exact h
  · have := ((hW p h1).2.2.2.2.1 h2).2
    omega
theorem Cl_tr {N m m' r r1 r2 : Nat} {mi bg : Nat → Nat} {pt : Nat → Bool} {st st1 st2 : Nat → Nat} {sf sf1 sf2 : Nat → Bool} {ro ro1 ro2 en en1 en2 : Nat → Nat} (hm : m ≤ m') (h : Cl N m mi bg pt st sf r ro en st1 sf1 r1 ro1 en1) (h' : Cl N m' mi bg pt st1 sf1 r1 ro1 en1 st2 sf2 r2 ro2 en2) : Cl N m' mi bg pt st sf r ro en st2 sf2 r2 ro2 en2 := by
  obtain ⟨h1, h2, c, h3, h4, h5, h6, h7, h8⟩ := h
  obtain ⟨k1, k2, c', k3, k4, k5, k6, k7, k8⟩ := h'
  refine ⟨fun i hi => ?_, fun i hi => ?_, c + c', by omega, by omega, fun j hj => ?_, fun hc => ?_, fun j => ?_, fun j => ?_⟩
  · rcases h1 i hi with ⟨a1, a2, a3⟩ | ⟨a1, a2, j, a3, a4, a5⟩ | ⟨a1, a2, a3⟩
    · rcases k1 i hi with ⟨b1, b2, b3⟩ | ⟨b1, b2, b3⟩ | ⟨b1, b2, b3⟩
      · omega
      · omega
      · exact Or.inl ⟨by omega, a2, by omega⟩
    · rcases k1 i hi with ⟨b1, b2, b3⟩ | ⟨b1, b2, b3⟩ | ⟨b1, b2, b3⟩
      · omega
      · omega
      · exact Or.inr (Or.inl ⟨by omega, a2, j, a3, a4, by omega⟩)
    · rcases k1 i hi with ⟨b1, b2, b3⟩ | ⟨b1, b2, j, b3, b4, b5⟩ | ⟨b1, b2, b3⟩
      · exact Or.inl ⟨b1, by omega, b3⟩
      · exact Or.inr (Or.inl ⟨b1, by omega, j + c, by omega, by rw [← h7]; exact b4, by rw [← h8]; exact b5⟩)
      · refine Or.inr (Or.inr ⟨by omega, fun z => b2 (by omega), fun z j hj e => ?_⟩)
        by_cases hjc : j < c
        · have := h5 j hjc
          have := a3 z j hj e
          omega
        · have := b3 (by omega) (j - c) (by omega) (by rw [h7, show j - c + c = j by omega]; exact e)
          rw [h8, show j - c + c = j by omega] at this
          exact this
  · rw [k2 i hi, h2 i hi]
    constructor
    · rintro ((z | ⟨z, p, z1, z2, z3, z4, z5⟩) | ⟨z, p, z1, z2, z3, z4, z5⟩)
      · exact Or.inl z
      · refine Or.inr ⟨?_, p, z1, z2, z3, by omega, z5⟩
        rcases k1 i hi with ⟨b1, b2, b3⟩ | ⟨b1, b2, b3⟩ | ⟨b1, b2, b3⟩
        · exact b1
        · omega
        · omega
      · refine Or.inr ⟨z, p, z1, ?_, z3, z4, z5⟩
        rcases h1 p z1 with ⟨a1, a2, a3⟩ | ⟨a1, a2, a3⟩ | ⟨a1, a2, a3⟩ <;> omega
    · rintro (z | ⟨z, p, z1, z2, z3, z4, z5⟩)
      · exact Or.inl (Or.inl z)
      · by_cases hp : bg p + mi p ≤ m
        · refine Or.inl (Or.inr ⟨?_, p, z1, z2, z3, hp, z5⟩)
          rcases k1 i hi with ⟨b1, b2, b3⟩ | ⟨b1, b2, b3⟩ | ⟨b1, b2, b3⟩
          · rcases h1 i hi with ⟨a1, a2, a3⟩ | ⟨a1, a2, a3⟩ | ⟨a1, a2, a3⟩
            · omega
            · omega
            · have := a2 (by omega)
              omega
          · omega
          · omega
        · refine Or.inr ⟨z, p, z1, ?_, z3, z4, z5⟩
          rcases h1 p z1 with ⟨a1, a2, a3⟩ | ⟨a1, a2, a3⟩ | ⟨a1, a2, a3⟩ <;> omega
  · by_cases hjc : j < c
    · have := h5 j hjc
      omega
    · have := k5 (j - c) (by omega)
      rw [h8, show j - c + c = j by omega] at this
      exact this
  · have := k6 (by omega)
    rw [h8, show c' + c = c + c' by omega] at this
    exact this
  · rw [k7, h7, show j + c' + c = j + (c + c') by omega]
  · rw [k8, h8, show j + c' + c = j + (c + c') by omega]
theorem Cl_WF {N T m r r1 : Nat} {st bg mi nd bk st1 : Nat → Nat} {pt sf sf1 : Nat → Bool} {ro en ro1 en1 : Nat → Nat} (hm : T ≤ m) (hW : WF N T st bg mi nd bk sf) (h : Cl N m mi bg pt st sf r ro en st1 sf1 r1 ro1 en1) : WF N m st1 bg mi nd bk sf1 := by
  intro i hi
  obtain ⟨h1, h2, -⟩ := h
  obtain ⟨a1, a2, a3, a4, a5, a6, a7, a8⟩ := hW i hi
  have b := h1 i hi
  refine ⟨a1, a2, a3, ?_, fun z => ?_, fun z => ?_, fun z => ?_, fun z => ?_⟩
  · rcases b with ⟨b1, b2, b3⟩ | ⟨b1, b2, b3⟩ | ⟨b1, b2, b3⟩ <;> omega
  · rcases b with ⟨b1, b2, b3⟩ | ⟨b1, b2, b3⟩ | ⟨b1, b2, b3⟩
    · omega
    · omega
    · have := a5 (by omega); have := b2 (by omega); omega
  · rcases b with ⟨b1, b2, b3⟩ | ⟨b1, b2, b3⟩ | ⟨b1, b2, b3⟩
    · exact b3
    · omega
    · have := a6 (by omega); omega
  · rcases b with ⟨b1, b2, b3⟩ | ⟨b1, b2, b3⟩ | ⟨b1, b2, b3⟩
    · omega
    · omega
    · have := a7 (by omega); omega
  · rcases (h2 i hi).mp z with y | ⟨y, -⟩
    · have := a8 y
      rcases b with ⟨b1, b2, b3⟩ | ⟨b1, b2, b3⟩ | ⟨b1, b2, b3⟩ <;> omega
    · exact y
theorem BK_inj {N T r : Nat} {st bg bk ro en : Nat → Nat} (hB : BK N T r st bg bk ro en) {j k : Nat} (hj : j < r) (hk : k < r) (e : ro j = ro k) : j = k := by
  have h := hB.2.2.2.1
  rcases Nat.lt_trichotomy j k with z | z | z
  · have := h j k z hk
    unfold ltN at this
    rw [e] at this
    omega
  · exact z
  · have := h k j z hj
    unfold ltN at this
    rw [e] at this
    omega
theorem BK_mono {N T r : Nat} {st bg bk ro en : Nat → Nat} (hB : BK N T r st bg bk ro en) (j : Nat) : ∀ n, j + n < r → en j ≤ en (j + n)
  | 0, _ => Nat.le_refl _
  | n + 1, h => by
    have := BK_mono hB j n (by omega)
    have e := hB.2.2.1 (j + n) (by omega)
    rw [show j + (n + 1) = j + n + 1 by omega, e]
    omega
theorem Cl_BK {N T m r r1 : Nat} {st bg mi bk st1 : Nat → Nat} {pt sf sf1 : Nat → Bool} {ro en ro1 en1 : Nat → Nat} (hB : BK N T r st bg bk ro en) (h : Cl N m mi bg pt st sf r ro en st1 sf1 r1 ro1 en1) : BK N m r1 st1 bg bk ro1 en1 := by
  obtain ⟨h1, -, c, h3, h4, h5, h6, h7, h8⟩ := h
  have hB' := hB
  obtain ⟨b1, b2, b3, b4, b5, b6⟩ := hB
  refine ⟨by omega, fun k hk => ?_, fun k hk => ?_, fun j k hjk hk => ?_, fun i hi hs => ?_, fun h0 i hi z => ?_⟩
  · obtain ⟨c1, c2, c3, c4⟩ := b2 (k + c) (by omega)
    have hen : m < en (k + c) := by
      have := h6 (by omega)
      have := BK_mono hB' c k (by omega)
      rw [show c + k = k + c by omega] at this
      omega
    rw [h7, h8]
    refine ⟨c1, ?_, hen, c4⟩
    rcases h1 _ c1 with ⟨a1, a2, a3⟩ | ⟨a1, a2, j, a3, a4, a5⟩ | ⟨a1, a2, a3⟩
    · omega
    · have := BK_inj hB' a3 (by omega) a4
      subst this
      omega
    · omega
  · rw [h8, h8, h7, show k + 1 + c = k + c + 1 by omega]
    exact b3 (k + c) (by omega)
  · rw [h7, h7]
    exact b4 (j + c) (k + c) (by omega) (by omega)
  · rcases h1 i hi with ⟨a1, a2, a3⟩ | ⟨a1, a2, j, a3, a4, a5⟩ | ⟨a1, a2, a3⟩
    · omega
    · omega
    · obtain ⟨k, k1, k2⟩ := b5 i hi (by omega)
      have hk := a3 (by omega) k k1 k2
      have hkc : c ≤ k := by
        rcases Nat.lt_or_ge k c with z | z
        · have := h5 k z; omega
        · exact z
      exact ⟨k - c, by omega, by rw [h7, show k - c + c = k by omega]; exact k2⟩
  · have := b6 (by omega) i hi
    rcases h1 i hi with ⟨a1, a2, a3⟩ | ⟨a1, a2, j, a3, a4, a5⟩ | ⟨a1, a2, a3⟩ <;> omega
theorem nI_ad (a b : Nat) : nI a + nI b = nI (a + b) := by
  apply Int32.toBitVec_inj.1
  show BitVec.ofNat 32 a + BitVec.ofNat 32 b = BitVec.ofNat 32 (a + b)
  rw [← BitVec.ofNat_add]
