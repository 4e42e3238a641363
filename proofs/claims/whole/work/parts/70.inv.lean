/-! The invariant: it holds at first, and each call keeps it. -/
def Inv (s : nm_S) : Prop := IvB s ∧ IvG s ∧ IvC s ∧ IvL s ∧ IvF s ∧ IvT s ∧ IvS s ∧ IvR s ∧ IvSh s
theorem Inv_0 {f : Nat → Int32} (hf : ∀ S, S < 1024 → f S = nI (cdS S)) : Inv (s0 f) := by
  have g : ∀ k, gi (s0 f) k = if k = 4009 then 480 else if k = 4008 then 3 else if k = 4007 then 40 else if k = 3709 then 32 else if k = 3708 then 32 else if k = 606 then 3 else if k = 605 then 40 else if k = 10 then 480 else 0 := by
    intro k
    unfold s0
    simp only [gi_si, gi_sa]
    rfl
  have a : ∀ c, ga (s0 f) c = if c = 12 then f else fun _ => 0 := by
    intro c
    unfold s0
    simp only [ga_sa, ga_si]
    rfl
  have h0 : (0 : Int32) = nI 0 := rfl
  refine ⟨?_, ?_, ?_, ?_, ?_, ?_, ?_, ?_, ?_⟩
  · unfold IvB
    simp only [g]
    decide
  · refine ⟨0, by omega, ?_, ?_, fun i hi => by omega, fun S hS => ?_⟩
    · simp only [g]; decide
    · simp only [g]; decide
    · simp only [a]
      exact ⟨rfl, rfl⟩
  · refine ⟨0, by omega, ?_, ?_, fun i hi => by omega, fun _ => 0, fun k hk => by omega, fun j k _ hk => by omega, fun i hi => by omega⟩
    · simp only [g]; decide
    · simp only [g]; decide
  · refine ⟨0, 0, by omega, ?_, ?_, ?_, by omega, fun _ => rfl, fun k hk => by omega⟩
    · simp only [g]; decide
    · simp only [g]; decide
    · simp only [g]; decide
  · refine ⟨0, by omega, ?_, ?_, fun i hi => ?_, fun i _ hi => ?_, ?_⟩
    · simp only [g]; decide
    · simp only [g]; decide
    · simp only [a]
      exact ⟨rfl, Or.inl rfl⟩
    · simp only [a]
      rfl
    · show _ = nI 0
      simp only [g]; decide
  · refine ⟨0, by omega, ?_, ?_, fun i hi => by omega⟩
    · simp only [g]; decide
    · simp only [g]; decide
  · refine ⟨0, 0, 0, fun _ => 0, fun _ => 0, fun _ => 0, fun _ => 0, fun _ => 0, fun _ => false, fun _ => false, fun _ => 0, fun _ => 0, ⟨by omega, by omega⟩, ⟨?_, ?_⟩, ?_, ⟨?_, fun i hi => by omega⟩, ⟨?_, fun i hi => by omega, fun i _ hi => ?_⟩, fun i hi => by omega, ⟨by omega, fun k hk => by omega, fun k hk => by omega, fun j k _ hk => by omega, fun i hi => by omega, fun h => by omega⟩, ⟨?_, ?_, fun k hk => by omega⟩, fun k hk => by omega⟩
    · simp only [g]; decide
    · simp only [g]; decide
    · simp only [g]; decide
    · simp only [g]; decide
    · simp only [g]; decide
    · simp only [a]
      exact ⟨rfl, rfl⟩
    · simp only [g]; decide
    · simp only [g]; decide
  · left
    simp only [g]
    decide
  · have e1 : gi (s0 f) 1105 = 0 := by simp only [g]; decide
    have e2 : gi (s0 f) 11 = 0 := by simp only [g]; decide
    refine ⟨fun S hS => ?_, Or.inl e1, fun h => ?_, 0, 0, ⟨by omega, by omega⟩, ⟨?_, ?_⟩, fun h => ?_⟩
    · simp only [a, if_true]
      exact hf S hS
    · rw [e2] at h
      exact absurd h (by decide)
    · simp only [g]; decide
    · simp only [g]; decide
    · rw [e1] at h
      exact absurd h (by decide)
def nmBoth (y z : Nat) (as bs : List Value) (s : nm_S) : Prop := ∃ v s1 s2, Runs y as s v s1 ∧ Runs z bs s1 v s2 ∧ Inv s2
/-- a call that touches none of what the invariant reads -/
theorem Inv_fr {ks cs : List Nat} {s t : nm_S} (h : Inv s) (hf : Fr ks cs s t) (hk : ∀ k ∈ [9, 10, 11, 605, 606, 4000, 4007, 4008, 4009, 4010, 104, 4001, 604, 4002, 1407, 4003, 3101, 3102, 4005, 3301, 4041, 2103, 2104, 4004, 4006, 4034, 4035, 3501, 4046, 1105, 4022], k ∉ ks) (hc : ∀ c ∈ [2, 3, 4, 5, 41, 42, 43, 44, 7, 8, 9, 10, 45, 46, 47, 18, 19, 20, 52, 53, 54, 32, 64, 34, 65, 22, 23, 24, 25, 26, 27, 28, 29, 55, 56, 57, 58, 59, 60, 61, 62, 36, 66, 12, 49], c ∉ cs) : Inv t := by
  obtain ⟨hB, hG, hC, hL, hF, hT, hS, hR, hI⟩ := h
  have k' : ∀ X : List Nat, (∀ x ∈ X, x ∈ [9, 10, 11, 605, 606, 4000, 4007, 4008, 4009, 4010, 104, 4001, 604, 4002, 1407, 4003, 3101, 3102, 4005, 3301, 4041, 2103, 2104, 4004, 4006, 4034, 4035, 3501, 4046, 1105, 4022]) → ∀ k ∈ X, k ∉ ks := fun X hX k hk' => hk k (hX k hk')
  have c' : ∀ X : List Nat, (∀ x ∈ X, x ∈ [2, 3, 4, 5, 41, 42, 43, 44, 7, 8, 9, 10, 45, 46, 47, 18, 19, 20, 52, 53, 54, 32, 64, 34, 65, 22, 23, 24, 25, 26, 27, 28, 29, 55, 56, 57, 58, 59, 60, 61, 62, 36, 66, 12, 49]) → ∀ c ∈ X, c ∉ cs := fun X hX c hc' => hc c (hX c hc')
  exact ⟨IvB_reads.fr hf (k' _ (by decide)) (c' _ (by decide)) hB, IvG_reads.fr hf (k' _ (by decide)) (c' _ (by decide)) hG, IvC_reads.fr hf (k' _ (by decide)) (c' _ (by decide)) hC, IvL_reads.fr hf (k' _ (by decide)) (c' _ (by decide)) hL, IvF_reads.fr hf (k' _ (by decide)) (c' _ (by decide)) hF, IvT_reads.fr hf (k' _ (by decide)) (c' _ (by decide)) hT, IvS_reads.fr hf (k' _ (by decide)) (c' _ (by decide)) hS, IvR_reads.fr hf (k' _ (by decide)) (c' _ (by decide)) hR, IvSh_fr hI hf (k' _ (by decide)) (c' _ (by decide))⟩
theorem v_thing {s : nm_S} (a b l c : Int32) (h : Inv s) : nmBoth 69 103 [.ref 0, .int a, .int b, .int l, .int c] [.ref 40, .int a, .int b, .int l, .int c] s := by
  obtain ⟨hB, hG, hC, hL, hF, hT, hS, hR, hI⟩ := h
  obtain ⟨v, s1, s2, r1, r2, hf, gG, fg⟩ := st_thing a b l c hB hG
  have gC := IvC_reads.fr hf (by decide) (by decide) hC
  exact ⟨v, s1, s2, r1, r2, IvB_reads.fr hf (by decide) (by decide) hB, gG, gC, IvL_reads.fr hf (by decide) (by decide) hL, IvF_reads.fr hf (by decide) (by decide) hF, IvT_reads.fr hf (by decide) (by decide) hT, IvS_reads.fr hf (by decide) (by decide) hS, IvR_reads.fr hf (by decide) (by decide) hR, IvSh_forget hI fg (hf.2.1 12 (by decide)) (hf.1 11 (by decide)) gG gC⟩
theorem v_convoy {s : nm_S} (a b c : Int32) (h : Inv s) : nmBoth 70 104 [.ref 0, .int a, .int b, .int c] [.ref 40, .int a, .int b, .int c] s := by
  have h' := h
  obtain ⟨hB, hG, hC, hL, hF, hT, hS, hR, hI⟩ := h
  obtain ⟨v, s1, s2, r1, r2, hf, gC, fg⟩ := st_convoy a b c hB hC
  have gG := IvG_reads.fr hf (by decide) (by decide) hG
  have gL : IvL s2 := by
    rcases fg with z | ⟨z, -⟩
    · rw [z]; exact hL
    · obtain ⟨n, C, l1, l2, l3, l4, l5, l6, l7⟩ := hL
      have hn := l6 z
      subst hn
      obtain ⟨C', c1, c2, c3, -⟩ := gC
      refine ⟨0, C', by omega, ?_, ?_, c3, c1, fun _ => rfl, fun k hk => by omega⟩
      · rw [hf.1 1407 (by decide)]; exact l2
      · rw [hf.1 4003 (by decide)]; exact l3
  exact ⟨v, s1, s2, r1, r2, IvB_reads.fr hf (by decide) (by decide) hB, gG, gC, gL, IvF_reads.fr hf (by decide) (by decide) hF, IvT_reads.fr hf (by decide) (by decide) hT, IvS_reads.fr hf (by decide) (by decide) hS, IvR_reads.fr hf (by decide) (by decide) hR, IvSh_forget hI fg (hf.2.1 12 (by decide)) (hf.1 11 (by decide)) gG gC⟩
theorem v_set {s : nm_S} (a b c : Int32) (h : Inv s) : nmBoth 71 105 [.ref 0, .int a, .int b, .int c] [.ref 40, .int a, .int b, .int c] s := by
  obtain ⟨hB, hG, hC, hL, hF, hT, hS, hR, hI⟩ := h
  obtain ⟨v, s1, s2, r1, r2, hf, gB, fg⟩ := st_set a b c hB
  have gG := IvG_reads.fr hf (by decide) (by decide) hG
  have gC := IvC_reads.fr hf (by decide) (by decide) hC
  exact ⟨v, s1, s2, r1, r2, gB, gG, gC, IvL_reads.fr hf (by decide) (by decide) hL, IvF_reads.fr hf (by decide) (by decide) hF, IvT_reads.fr hf (by decide) (by decide) hT, IvS_reads.fr hf (by decide) (by decide) hS, IvR_reads.fr hf (by decide) (by decide) hR, IvSh_forget hI fg (hf.2.1 12 (by decide)) (hf.1 11 (by decide)) gG gC⟩
theorem v_least {s : nm_S} (h : Inv s) : nmBoth 72 108 [.ref 0] [.ref 40] s := by
  obtain ⟨hB, hG, hC, hL, hF, hT, hS, hR, hI⟩ := h
  obtain ⟨v, s1, s2, r1, r2, hf, gI⟩ := st_least hB hG hC hI
  exact ⟨v, s1, s2, r1, r2, IvB_reads.frP hf (by decide) (by decide) hB, IvG_reads.frP hf (by decide) (by decide) hG, IvC_reads.frP hf (by decide) (by decide) hC, IvL_reads.frP hf (by decide) (by decide) hL, IvF_reads.frP hf (by decide) (by decide) hF, IvT_reads.frP hf (by decide) (by decide) hT, IvS_reads.frP hf (by decide) (by decide) hS, IvR_reads.frP hf (by decide) (by decide) hR, gI⟩
theorem v_share {s : nm_S} (x : Int32) (h : Inv s) : nmBoth 73 109 [.ref 0, .int x] [.ref 40, .int x] s := by
  obtain ⟨hB, hG, hC, hL, hF, hT, hS, hR, hI⟩ := h
  obtain ⟨v, s1, s2, r1, r2, hf, gI⟩ := st_share x hB hG hC hI
  exact ⟨v, s1, s2, r1, r2, IvB_reads.frP hf (by decide) (by decide) hB, IvG_reads.frP hf (by decide) (by decide) hG, IvC_reads.frP hf (by decide) (by decide) hC, IvL_reads.frP hf (by decide) (by decide) hL, IvF_reads.frP hf (by decide) (by decide) hF, IvT_reads.frP hf (by decide) (by decide) hT, IvS_reads.frP hf (by decide) (by decide) hS, IvR_reads.frP hf (by decide) (by decide) hR, gI⟩
theorem v_settle {s : nm_S} (h : Inv s) : nmBoth 74 110 [.ref 0] [.ref 40] s := by
  obtain ⟨hB, hG, hC, hL, hF, hT, hS, hR, hI⟩ := h
  obtain ⟨v, s1, s2, r1, r2, hf, gI, gB, hx⟩ := st_settle hB hG hC hI
  have gL : IvL s2 := by
    rcases hx with z | z
    · obtain ⟨n, C, l1, l2, l3, l4, l5, l6, l7⟩ := hL
      refine ⟨n, C, l1, ?_, ?_, ?_, l5, fun y => ?_, ?_⟩
      · rw [hf.1 1407 (by decide)]; exact l2
      · rw [hf.1 4003 (by decide)]; exact l3
      · rw [hf.1 4002 (by decide)]; exact l4
      · rw [z] at y; exact absurd y (by decide)
      · rw [hf.2 18 (by decide), hf.2 19 (by decide), hf.2 20 (by decide), hf.2 52 (by decide), hf.2 53 (by decide), hf.2 54 (by decide)]
        exact l7
    · rw [z]; exact hL
  exact ⟨v, s1, s2, r1, r2, gB, IvG_reads.frP hf (by decide) (by decide) hG, IvC_reads.frP hf (by decide) (by decide) hC, gL, IvF_reads.frP hf (by decide) (by decide) hF, IvT_reads.frP hf (by decide) (by decide) hT, IvS_reads.frP hf (by decide) (by decide) hS, IvR_reads.frP hf (by decide) (by decide) hR, gI⟩
theorem v_late {s : nm_S} (x m : Int32) (h : Inv s) : nmBoth 75 115 [.ref 0, .int x, .int m] [.ref 40, .int x, .int m] s := by
  obtain ⟨hB, hG, hC, hL, hF, hT, hS, hR, hI⟩ := h
  obtain ⟨v, s1, s2, r1, r2, hf, gL⟩ := st_late x m hB hC hL
  exact ⟨v, s1, s2, r1, r2, IvB_reads.fr hf (by decide) (by decide) hB, IvG_reads.fr hf (by decide) (by decide) hG, IvC_reads.fr hf (by decide) (by decide) hC, gL, IvF_reads.fr hf (by decide) (by decide) hF, IvT_reads.fr hf (by decide) (by decide) hT, IvS_reads.fr hf (by decide) (by decide) hS, IvR_reads.fr hf (by decide) (by decide) hR, IvSh_fr hI hf (by decide) (by decide)⟩
theorem v_road {s : nm_S} (x q y : Int32) (h : Inv s) : nmBoth 76 116 [.ref 0, .int x, .int q, .int y] [.ref 40, .int x, .int q, .int y] s := by
  obtain ⟨hB, hG, hC, hL, hF, hT, hS, hR, hI⟩ := id h
  obtain ⟨v, s1, s2, r1, r2, hf⟩ := st_road x q y hB hG hC hL (IvSh_D hI hG)
  exact ⟨v, s1, s2, r1, r2, Inv_fr h hf (by decide) (by decide)⟩
theorem v_place {s : nm_S} (x m q : Int32) (h : Inv s) : nmBoth 77 119 [.ref 0, .int x, .int m, .int q] [.ref 40, .int x, .int m, .int q] s := by
  obtain ⟨hB, hG, hC, hL, hF, hT, hS, hR, hI⟩ := id h
  obtain ⟨v, s1, s2, r1, r2, hf⟩ := st_place x m q hB hG hC hL (IvSh_D hI hG)
  exact ⟨v, s1, s2, r1, r2, Inv_fr h hf (by decide) (by decide)⟩
theorem v_many {s : nm_S} (x m q : Int32) (h : Inv s) : nmBoth 79 121 [.ref 0, .int x, .int m, .int q] [.ref 40, .int x, .int m, .int q] s := by
  obtain ⟨hB, hG, hC, hL, hF, hT, hS, hR, hI⟩ := id h
  obtain ⟨v, s1, s2, r1, r2, hf⟩ := st_many x m q hB hG hC hL (IvSh_D hI hG)
  exact ⟨v, s1, s2, r1, r2, Inv_fr h hf (by decide) (by decide)⟩
theorem v_lacks {s : nm_S} (x q : Int32) (h : Inv s) : nmBoth 78 120 [.ref 0, .int x, .int q] [.ref 40, .int x, .int q] s := by
  obtain ⟨hB, hG, hC, hL, hF, hT, hS, hR, hI⟩ := id h
  obtain ⟨v, s1, s2, r1, r2, hf⟩ := st_lacks x q hB hG hC hL (IvSh_D hI hG)
  exact ⟨v, s1, s2, r1, r2, Inv_fr h hf (by decide) (by decide)⟩
theorem v_told {s : nm_S} (x y : Int32) (h : Inv s) : nmBoth 84 129 [.ref 0, .int x, .int y] [.ref 40, .int x, .int y] s := by
  obtain ⟨hB, hG, hC, hL, hF, hT, hS, hR, hI⟩ := id h
  obtain ⟨v, s1, s2, r1, r2, hf⟩ := st_told x y hS
  exact ⟨v, s1, s2, r1, r2, Inv_fr h hf (by decide) (by decide)⟩
theorem v_back {s : nm_S} (h : Inv s) : nmBoth 85 130 [.ref 0] [.ref 40] s := by
  obtain ⟨hB, hG, hC, hL, hF, hT, hS, hR, hI⟩ := id h
  obtain ⟨v, s1, s2, r1, r2, hf⟩ := st_back hS
  exact ⟨v, s1, s2, r1, r2, Inv_fr h hf (by decide) (by decide)⟩
theorem v_whole {s : nm_S} (h : Inv s) : nmBoth 86 131 [.ref 0] [.ref 40] s := by
  obtain ⟨hB, hG, hC, hL, hF, hT, hS, hR, hI⟩ := id h
  obtain ⟨v, s1, s2, r1, r2, hf⟩ := st_whole hS
  exact ⟨v, s1, s2, r1, r2, Inv_fr h hf (by decide) (by decide)⟩
theorem v_ready {s : nm_S} (h : Inv s) : nmBoth 87 132 [.ref 0] [.ref 40] s := by
  obtain ⟨hB, hG, hC, hL, hF, hT, hS, hR, hI⟩ := id h
  obtain ⟨v, s1, s2, r1, r2, hf⟩ := st_ready hS
  exact ⟨v, s1, s2, r1, r2, Inv_fr h hf (by decide) (by decide)⟩
theorem v_fault {s : nm_S} (h : Inv s) : nmBoth 92 145 [.ref 0] [.ref 40] s := by
  obtain ⟨hB, hG, hC, hL, hF, hT, hS, hR, hI⟩ := id h
  obtain ⟨v, s1, s2, r1, r2, hf⟩ := st_fault hT
  exact ⟨v, s1, s2, r1, r2, Inv_fr h hf (by decide) (by decide)⟩
theorem v_go {s : nm_S} (h : Inv s) : nmBoth 94 147 [.ref 0] [.ref 40] s := by
  obtain ⟨hB, hG, hC, hL, hF, hT, hS, hR, hI⟩ := id h
  obtain ⟨v, s1, s2, r1, r2, hf⟩ := st_go hS hB hF hR
  exact ⟨v, s1, s2, r1, r2, Inv_fr h hf (by decide) (by decide)⟩
theorem v_count {s : nm_S} (y : Int32) (h : Inv s) : nmBoth 95 148 [.ref 0, .int y] [.ref 40, .int y] s := by
  obtain ⟨hB, hG, hC, hL, hF, hT, hS, hR, hI⟩ := id h
  obtain ⟨v, s1, s2, r1, r2, hf⟩ := st_count y hS hB hG hC hF hT
  exact ⟨v, s1, s2, r1, r2, Inv_fr h hf (by decide) (by decide)⟩
theorem v_stage {s : nm_S} (m n b p : Int32) (hp : p = 0 ∨ p = 1) (h : Inv s) : nmBoth 80 122 [.ref 0, .int m, .int n, .int b, .int p] [.ref 40, .int m, .int n, .int b, .int p] s := by
  obtain ⟨hB, hG, hC, hL, hF, hT, hS, hR, hI⟩ := h
  obtain ⟨v, s1, s2, r1, r2, hf, gS⟩ := st_stage m n b p hp hS
  exact ⟨v, s1, s2, r1, r2, IvB_reads.fr hf (by decide) (by decide) hB, IvG_reads.fr hf (by decide) (by decide) hG, IvC_reads.fr hf (by decide) (by decide) hC, IvL_reads.fr hf (by decide) (by decide) hL, IvF_reads.fr hf (by decide) (by decide) hF, IvT_reads.fr hf (by decide) (by decide) hT, gS, IvR_reads.fr hf (by decide) (by decide) hR, IvSh_fr hI hf (by decide) (by decide)⟩
theorem v_begin {s : nm_S} (x : Int32) (h : Inv s) : nmBoth 81 124 [.ref 0, .int x] [.ref 40, .int x] s := by
  obtain ⟨hB, hG, hC, hL, hF, hT, hS, hR, hI⟩ := h
  obtain ⟨v, s1, s2, r1, r2, hf, gS⟩ := st_begin x hS
  exact ⟨v, s1, s2, r1, r2, IvB_reads.fr hf (by decide) (by decide) hB, IvG_reads.fr hf (by decide) (by decide) hG, IvC_reads.fr hf (by decide) (by decide) hC, IvL_reads.fr hf (by decide) (by decide) hL, IvF_reads.fr hf (by decide) (by decide) hF, IvT_reads.fr hf (by decide) (by decide) hT, gS, IvR_reads.fr hf (by decide) (by decide) hR, IvSh_fr hI hf (by decide) (by decide)⟩
theorem v_fail {s : nm_S} (x : Int32) (h : Inv s) : nmBoth 82 126 [.ref 0, .int x] [.ref 40, .int x] s := by
  obtain ⟨hB, hG, hC, hL, hF, hT, hS, hR, hI⟩ := h
  obtain ⟨v, s1, s2, r1, r2, hf, gS⟩ := st_fail x hS
  exact ⟨v, s1, s2, r1, r2, IvB_reads.fr hf (by decide) (by decide) hB, IvG_reads.fr hf (by decide) (by decide) hG, IvC_reads.fr hf (by decide) (by decide) hC, IvL_reads.fr hf (by decide) (by decide) hL, IvF_reads.fr hf (by decide) (by decide) hF, IvT_reads.fr hf (by decide) (by decide) hT, gS, IvR_reads.fr hf (by decide) (by decide) hR, IvSh_fr hI hf (by decide) (by decide)⟩
theorem v_tick {s : nm_S} (x : Int32) (h : Inv s) : nmBoth 83 128 [.ref 0, .int x] [.ref 40, .int x] s := by
  obtain ⟨hB, hG, hC, hL, hF, hT, hS, hR, hI⟩ := h
  obtain ⟨v, s1, s2, r1, r2, hf, gS, gB⟩ := st_tick x hS hB
  exact ⟨v, s1, s2, r1, r2, gB, IvG_reads.fr hf (by decide) (by decide) hG, IvC_reads.fr hf (by decide) (by decide) hC, IvL_reads.fr hf (by decide) (by decide) hL, IvF_reads.fr hf (by decide) (by decide) hF, IvT_reads.fr hf (by decide) (by decide) hT, gS, IvR_reads.fr hf (by decide) (by decide) hR, IvSh_fr hI hf (by decide) (by decide)⟩
theorem v_find {s : nm_S} (h : Inv s) : nmBoth 88 133 [.ref 0] [.ref 40] s := by
  obtain ⟨hB, hG, hC, hL, hF, hT, hS, hR, hI⟩ := h
  obtain ⟨v, s1, s2, r1, r2, hf, gF⟩ := st_find hF
  exact ⟨v, s1, s2, r1, r2, IvB_reads.fr hf (by decide) (by decide) hB, IvG_reads.fr hf (by decide) (by decide) hG, IvC_reads.fr hf (by decide) (by decide) hC, IvL_reads.fr hf (by decide) (by decide) hL, gF, IvT_reads.fr hf (by decide) (by decide) hT, IvS_reads.fr hf (by decide) (by decide) hS, IvR_reads.fr hf (by decide) (by decide) hR, IvSh_fr hI hf (by decide) (by decide)⟩
theorem v_close {s : nm_S} (x : Int32) (h : Inv s) : nmBoth 89 134 [.ref 0, .int x] [.ref 40, .int x] s := by
  obtain ⟨hB, hG, hC, hL, hF, hT, hS, hR, hI⟩ := h
  obtain ⟨v, s1, s2, r1, r2, hf, gF⟩ := st_close x hF
  exact ⟨v, s1, s2, r1, r2, IvB_reads.fr hf (by decide) (by decide) hB, IvG_reads.fr hf (by decide) (by decide) hG, IvC_reads.fr hf (by decide) (by decide) hC, IvL_reads.fr hf (by decide) (by decide) hL, gF, IvT_reads.fr hf (by decide) (by decide) hT, IvS_reads.fr hf (by decide) (by decide) hS, IvR_reads.fr hf (by decide) (by decide) hR, IvSh_fr hI hf (by decide) (by decide)⟩
theorem v_feed {s : nm_S} (x : Int32) (h : Inv s) : nmBoth 90 137 [.ref 0, .int x] [.ref 40, .int x] s := by
  obtain ⟨hB, hG, hC, hL, hF, hT, hS, hR, hI⟩ := h
  obtain ⟨v, s1, s2, r1, r2, hf, gT⟩ := st_feed x hT
  exact ⟨v, s1, s2, r1, r2, IvB_reads.fr hf (by decide) (by decide) hB, IvG_reads.fr hf (by decide) (by decide) hG, IvC_reads.fr hf (by decide) (by decide) hC, IvL_reads.fr hf (by decide) (by decide) hL, IvF_reads.fr hf (by decide) (by decide) hF, gT, IvS_reads.fr hf (by decide) (by decide) hS, IvR_reads.fr hf (by decide) (by decide) hR, IvSh_fr hI hf (by decide) (by decide)⟩
theorem v_end {s : nm_S} (x : Int32) (h : Inv s) : nmBoth 91 138 [.ref 0, .int x] [.ref 40, .int x] s := by
  obtain ⟨hB, hG, hC, hL, hF, hT, hS, hR, hI⟩ := h
  obtain ⟨v, s1, s2, r1, r2, hf, gT⟩ := st_end x hT
  exact ⟨v, s1, s2, r1, r2, IvB_reads.fr hf (by decide) (by decide) hB, IvG_reads.fr hf (by decide) (by decide) hG, IvC_reads.fr hf (by decide) (by decide) hC, IvL_reads.fr hf (by decide) (by decide) hL, IvF_reads.fr hf (by decide) (by decide) hF, gT, IvS_reads.fr hf (by decide) (by decide) hS, IvR_reads.fr hf (by decide) (by decide) hR, IvSh_fr hI hf (by decide) (by decide)⟩
theorem v_rule {s : nm_S} (h : Inv s) : nmBoth 93 146 [.ref 0] [.ref 40] s := by
  obtain ⟨hB, hG, hC, hL, hF, hT, hS, hR, hI⟩ := h
  obtain ⟨v, s1, s2, r1, r2, hf, gT, gR⟩ := st_rule hT hR
  exact ⟨v, s1, s2, r1, r2, IvB_reads.fr hf (by decide) (by decide) hB, IvG_reads.fr hf (by decide) (by decide) hG, IvC_reads.fr hf (by decide) (by decide) hC, IvL_reads.fr hf (by decide) (by decide) hL, IvF_reads.fr hf (by decide) (by decide) hF, gT, IvS_reads.fr hf (by decide) (by decide) hS, gR, IvSh_fr hI hf (by decide) (by decide)⟩
