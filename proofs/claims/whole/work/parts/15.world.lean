/-! The world: the class of the document (cells 0 to 39) and the reference (from 40 on). -/
abbrev nm_S : Type := (Nat → Int32) × (Nat → Nat → Int32) × Int64 × (Nat → Int64)
def gi (s : nm_S) (k : Nat) : Int32 := s.1 k
def ga (s : nm_S) (c : Nat) : Nat → Int32 := s.2.1 c
def gb (s : nm_S) : Int64 := s.2.2.1
def gp (s : nm_S) : Nat → Int64 := s.2.2.2
def si (s : nm_S) (k : Nat) (x : Int32) : nm_S := (fun j => bif Nat.beq j k then x else s.1 j, s.2)
def sa (s : nm_S) (c : Nat) (f : Nat → Int32) : nm_S := (s.1, fun j => bif Nat.beq j c then f else s.2.1 j, s.2.2)
def sb (s : nm_S) (x : Int64) : nm_S := (s.1, s.2.1, x, s.2.2.2)
def sp (s : nm_S) (f : Nat → Int64) : nm_S := (s.1, s.2.1, s.2.2.1, f)
def rep (s : nm_S) : nm_W := [
  .inr (8, [.ref 1, .ref 6, .ref 11, .ref 14, .ref 21, .ref 31, .ref 33, .ref 35, .ref 37, .int (gi s 9), .int (gi s 10), .int (gi s 11)]),
  .inr (2, [.ref 2, .ref 3, .ref 4, .ref 5, .int (gi s 104)]),
  .inl (2, 10, .inl (ga s 2)),
  .inl (2, 10, .inl (ga s 3)),
  .inl (2, 1024, .inl (ga s 4)),
  .inl (2, 1024, .inl (ga s 5)),
  .inr (0, [.ref 7, .ref 8, .ref 9, .ref 10, .int (gi s 604), .int (gi s 605), .int (gi s 606)]),
  .inl (2, 4, .inl (ga s 7)),
  .inl (2, 4, .inl (ga s 8)),
  .inl (2, 4, .inl (ga s 9)),
  .inl (2, 4, .inl (ga s 10)),
  .inr (4, [.ref 1, .ref 6, .ref 12, .ref 13, .long (gb s), .int (gi s 1105)]),
  .inl (2, 1024, .inl (ga s 12)),
  .inl (3, 1024, .inr (gp s)),
  .inr (7, [.ref 15, .ref 16, .ref 17, .ref 6, .ref 18, .ref 19, .ref 20, .int (gi s 1407)]),
  .inl (2, 4, .inl (ga s 15)),
  .inl (2, 4, .inl (ga s 16)),
  .inl (2, 4, .inl (ga s 17)),
  .inl (2, 60, .inl (ga s 18)),
  .inl (2, 60, .inl (ga s 19)),
  .inl (2, 60, .inl (ga s 20)),
  .inr (5, [.ref 22, .ref 23, .ref 24, .int (gi s 2103), .int (gi s 2104), .ref 25, .ref 26, .ref 27, .ref 28, .ref 29, .ref 30]),
  .inl (2, 10, .inl (ga s 22)),
  .inl (2, 10, .inl (ga s 23)),
  .inl (0, 10, .inl (ga s 24)),
  .inl (2, 10, .inl (ga s 25)),
  .inl (2, 10, .inl (ga s 26)),
  .inl (2, 10, .inl (ga s 27)),
  .inl (0, 10, .inl (ga s 28)),
  .inl (2, 10, .inl (ga s 29)),
  .inl (2, 10, .inl (ga s 30)),
  .inr (1, [.ref 32, .int (gi s 3101), .int (gi s 3102)]),
  .inl (0, 100, .inl (ga s 32)),
  .inr (6, [.ref 34, .int (gi s 3301)]),
  .inl (1, 100, .inl (ga s 34)),
  .inr (6, [.ref 36, .int (gi s 3501)]),
  .inl (1, 100, .inl (ga s 36)),
  .inr (3, [.int (gi s 3700), .int (gi s 3701), .int (gi s 3702), .int (gi s 3703), .ref 38, .ref 39, .int (gi s 3706), .int (gi s 3707), .int (gi s 3708), .int (gi s 3709), .int (gi s 3710), .int (gi s 3711)]),
  .inl (0, 9, .inl (ga s 38)),
  .inl (0, 9, .inl (ga s 39)),
  .inr (9, [.int (gi s 4000), .int (gi s 4001), .int (gi s 4002), .int (gi s 4003), .int (gi s 4004), .int (gi s 4005), .int (gi s 4006), .int (gi s 4007), .int (gi s 4008), .int (gi s 4009), .int (gi s 4010), .ref 41, .ref 42, .ref 43, .ref 44, .ref 45, .ref 46, .ref 47, .ref 48, .ref 49, .ref 50, .ref 51, .int (gi s 4022), .ref 52, .ref 53, .ref 54, .ref 55, .ref 56, .ref 57, .ref 58, .ref 59, .ref 60, .ref 61, .ref 62, .int (gi s 4034), .int (gi s 4035), .ref 63, .ref 64, .ref 65, .ref 66, .ref 67, .int (gi s 4041), .int (gi s 4042), .int (gi s 4043), .int (gi s 4044), .int (gi s 4045), .int (gi s 4046), .ref 68]),
  .inl (2, 10, .inl (ga s 41)),
  .inl (2, 10, .inl (ga s 42)),
  .inl (2, 10, .inl (ga s 43)),
  .inl (2, 10, .inl (ga s 44)),
  .inl (2, 4, .inl (ga s 45)),
  .inl (2, 4, .inl (ga s 46)),
  .inl (2, 4, .inl (ga s 47)),
  .inl (2, 10, .inl (ga s 48)),
  .inl (2, 10, .inl (ga s 49)),
  .inl (2, 4, .inl (ga s 50)),
  .inl (2, 4, .inl (ga s 51)),
  .inl (2, 60, .inl (ga s 52)),
  .inl (2, 60, .inl (ga s 53)),
  .inl (2, 60, .inl (ga s 54)),
  .inl (2, 10, .inl (ga s 55)),
  .inl (2, 10, .inl (ga s 56)),
  .inl (2, 10, .inl (ga s 57)),
  .inl (0, 10, .inl (ga s 58)),
  .inl (2, 10, .inl (ga s 59)),
  .inl (2, 10, .inl (ga s 60)),
  .inl (0, 10, .inl (ga s 61)),
  .inl (2, 10, .inl (ga s 62)),
  .inl (2, 10, .inl (ga s 63)),
  .inl (0, 100, .inl (ga s 64)),
  .inl (2, 100, .inl (ga s 65)),
  .inl (2, 240, .inl (ga s 66)),
  .inl (2, 240, .inl (ga s 67)),
  .inl (0, 120, .inl (ga s 68))]
theorem gi_si (s : nm_S) (k j : Nat) (x : Int32) : gi (si s k x) j = if j = k then x else gi s j := by
  unfold gi si
  by_cases h : j = k
  · subst h; simp
  · have : Nat.beq j k = false := by
      cases hb : Nat.beq j k with
      | false => rfl
      | true => exact absurd (Nat.eq_of_beq_eq_true hb) h
    simp [h, this]
theorem ga_sa (s : nm_S) (k j : Nat) (f : Nat → Int32) : ga (sa s k f) j = if j = k then f else ga s j := by
  unfold ga sa
  by_cases h : j = k
  · subst h; simp
  · have : Nat.beq j k = false := by
      cases hb : Nat.beq j k with
      | false => rfl
      | true => exact absurd (Nat.eq_of_beq_eq_true hb) h
    simp [h, this]
theorem gi_sa (s : nm_S) (k j : Nat) (f : Nat → Int32) : gi (sa s k f) j = gi s j := rfl
theorem gi_sb (s : nm_S) (j : Nat) (f : Int64) : gi (sb s f) j = gi s j := rfl
theorem gi_sp (s : nm_S) (j : Nat) (f : Nat → Int64) : gi (sp s f) j = gi s j := rfl
theorem ga_si (s : nm_S) (k j : Nat) (x : Int32) : ga (si s k x) j = ga s j := rfl
theorem ga_sb (s : nm_S) (j : Nat) (f : Int64) : ga (sb s f) j = ga s j := rfl
theorem ga_sp (s : nm_S) (j : Nat) (f : Nat → Int64) : ga (sp s f) j = ga s j := rfl
theorem gb_si (s : nm_S) (k : Nat) (x : Int32) : gb (si s k x) = gb s := rfl
theorem gb_sa (s : nm_S) (k : Nat) (f : Nat → Int32) : gb (sa s k f) = gb s := rfl
theorem gb_sb (s : nm_S) (x : Int64) : gb (sb s x) = x := rfl
theorem gb_sp (s : nm_S) (f : Nat → Int64) : gb (sp s f) = gb s := rfl
theorem gp_si (s : nm_S) (k : Nat) (x : Int32) : gp (si s k x) = gp s := rfl
theorem gp_sa (s : nm_S) (k : Nat) (f : Nat → Int32) : gp (sa s k f) = gp s := rfl
theorem gp_sb (s : nm_S) (x : Int64) : gp (sb s x) = gp s := rfl
theorem gp_sp (s : nm_S) (f : Nat → Int64) : gp (sp s f) = f := rfl
theorem nm_b_some {α : Type} {a : α} {f : α → Prop} : nm_b (some a) f ↔ f a := Iff.rfl
theorem nm_b_ald {w : nm_W} {a t n : Nat} {f : Nat → Int32} {i : Int32} {g : Int32 → Prop} (h : w[a]? = some (.inl (t, n, .inl f))) : nm_b (nm_ald w a t i) g ↔ vp_in i n ∧ g (f i.toNatClampNeg) := by
  simp only [nm_ald, h]
  by_cases hi : i < 0 ∨ n ≤ i.toNatClampNeg
  · simp [hi, nm_b, vp_in]
  · simp [hi, nm_b, vp_in]
theorem nm_b_lald {w : nm_W} {a n : Nat} {f : Nat → Int64} {i : Int32} {g : Int64 → Prop} (h : w[a]? = some (.inl (3, n, .inr f))) : nm_b (nm_lald w a i) g ↔ vp_in i n ∧ g (f i.toNatClampNeg) := by
  simp only [nm_lald, h]
  by_cases hi : i < 0 ∨ n ≤ i.toNatClampNeg
  · simp [hi, nm_b, vp_in]
  · simp [hi, nm_b, vp_in]
theorem nm_b_ast {w : nm_W} {a t n : Nat} {f : Nat → Int32} {i x : Int32} {g : nm_W → Prop} {W' : (Nat → Int32) → nm_W} (h : w[a]? = some (.inl (t, n, .inl f))) (h2 : ∀ f', w.set a (.inl (t, n, .inl f')) = W' f') : nm_b (nm_ast w a t i x) g ↔ vp_in i n ∧ g (W' (upd f i.toNatClampNeg (nm_nar t x))) := by
  simp only [nm_ast, h, ← h2]
  by_cases hi : i < 0 ∨ n ≤ i.toNatClampNeg
  · simp [hi, nm_b, vp_in]
  · simp [hi, nm_b, vp_in]
theorem nm_b_last {w : nm_W} {a n : Nat} {f : Nat → Int64} {i : Int32} {x : Int64} {g : nm_W → Prop} {W' : (Nat → Int64) → nm_W} (h : w[a]? = some (.inl (3, n, .inr f))) (h2 : ∀ f', w.set a (.inl (3, n, .inr f')) = W' f') : nm_b (nm_last w a i x) g ↔ vp_in i n ∧ g (W' (vp_updL f i.toNatClampNeg x)) := by
  simp only [nm_last, h, ← h2]
  by_cases hi : i < 0 ∨ n ≤ i.toNatClampNeg
  · simp [hi, nm_b, vp_in]
  · simp [hi, nm_b, vp_in]
theorem ob_0 {s : nm_S} : nm_obj (rep s) 0 8 := ⟨_, rfl⟩
theorem gt_0_0 {s : nm_S} {g : Value → Prop} : nm_b (nm_get (rep s) 0 8 0) g ↔ g (.ref 1) := Iff.rfl
theorem gt_0_1 {s : nm_S} {g : Value → Prop} : nm_b (nm_get (rep s) 0 8 1) g ↔ g (.ref 6) := Iff.rfl
theorem gt_0_2 {s : nm_S} {g : Value → Prop} : nm_b (nm_get (rep s) 0 8 2) g ↔ g (.ref 11) := Iff.rfl
theorem gt_0_3 {s : nm_S} {g : Value → Prop} : nm_b (nm_get (rep s) 0 8 3) g ↔ g (.ref 14) := Iff.rfl
theorem gt_0_4 {s : nm_S} {g : Value → Prop} : nm_b (nm_get (rep s) 0 8 4) g ↔ g (.ref 21) := Iff.rfl
theorem gt_0_5 {s : nm_S} {g : Value → Prop} : nm_b (nm_get (rep s) 0 8 5) g ↔ g (.ref 31) := Iff.rfl
theorem gt_0_6 {s : nm_S} {g : Value → Prop} : nm_b (nm_get (rep s) 0 8 6) g ↔ g (.ref 33) := Iff.rfl
theorem gt_0_7 {s : nm_S} {g : Value → Prop} : nm_b (nm_get (rep s) 0 8 7) g ↔ g (.ref 35) := Iff.rfl
theorem gt_0_8 {s : nm_S} {g : Value → Prop} : nm_b (nm_get (rep s) 0 8 8) g ↔ g (.ref 37) := Iff.rfl
theorem gt_0_9 {s : nm_S} {g : Value → Prop} : nm_b (nm_get (rep s) 0 8 9) g ↔ g (.int (gi s 9)) := Iff.rfl
theorem pt_0_9 {s : nm_S} {x : Int32} {g : nm_W → Prop} : nm_b (nm_put (rep s) 0 8 9 (.int x)) g ↔ g (rep (si s 9 x)) := Iff.rfl
theorem gt_0_10 {s : nm_S} {g : Value → Prop} : nm_b (nm_get (rep s) 0 8 10) g ↔ g (.int (gi s 10)) := Iff.rfl
theorem pt_0_10 {s : nm_S} {x : Int32} {g : nm_W → Prop} : nm_b (nm_put (rep s) 0 8 10 (.int x)) g ↔ g (rep (si s 10 x)) := Iff.rfl
theorem gt_0_11 {s : nm_S} {g : Value → Prop} : nm_b (nm_get (rep s) 0 8 11) g ↔ g (.int (gi s 11)) := Iff.rfl
theorem pt_0_11 {s : nm_S} {x : Int32} {g : nm_W → Prop} : nm_b (nm_put (rep s) 0 8 11 (.int x)) g ↔ g (rep (si s 11 x)) := Iff.rfl
theorem ob_1 {s : nm_S} : nm_obj (rep s) 1 2 := ⟨_, rfl⟩
theorem gt_1_0 {s : nm_S} {g : Value → Prop} : nm_b (nm_get (rep s) 1 2 0) g ↔ g (.ref 2) := Iff.rfl
theorem gt_1_1 {s : nm_S} {g : Value → Prop} : nm_b (nm_get (rep s) 1 2 1) g ↔ g (.ref 3) := Iff.rfl
theorem gt_1_2 {s : nm_S} {g : Value → Prop} : nm_b (nm_get (rep s) 1 2 2) g ↔ g (.ref 4) := Iff.rfl
theorem gt_1_3 {s : nm_S} {g : Value → Prop} : nm_b (nm_get (rep s) 1 2 3) g ↔ g (.ref 5) := Iff.rfl
theorem gt_1_4 {s : nm_S} {g : Value → Prop} : nm_b (nm_get (rep s) 1 2 4) g ↔ g (.int (gi s 104)) := Iff.rfl
theorem pt_1_4 {s : nm_S} {x : Int32} {g : nm_W → Prop} : nm_b (nm_put (rep s) 1 2 4 (.int x)) g ↔ g (rep (si s 104 x)) := Iff.rfl
theorem ad_2 {s : nm_S} {i : Int32} {g : Int32 → Prop} : nm_b (nm_ald (rep s) 2 2 i) g ↔ vp_in i 10 ∧ g (ga s 2 i.toNatClampNeg) := nm_b_ald rfl
theorem as_2 {s : nm_S} {i x : Int32} {g : nm_W → Prop} : nm_b (nm_ast (rep s) 2 2 i x) g ↔ vp_in i 10 ∧ g (rep (sa s 2 (upd (ga s 2) i.toNatClampNeg x))) := nm_b_ast (W' := fun f => rep (sa s 2 f)) rfl (fun _ => rfl)
theorem ad_3 {s : nm_S} {i : Int32} {g : Int32 → Prop} : nm_b (nm_ald (rep s) 3 2 i) g ↔ vp_in i 10 ∧ g (ga s 3 i.toNatClampNeg) := nm_b_ald rfl
theorem as_3 {s : nm_S} {i x : Int32} {g : nm_W → Prop} : nm_b (nm_ast (rep s) 3 2 i x) g ↔ vp_in i 10 ∧ g (rep (sa s 3 (upd (ga s 3) i.toNatClampNeg x))) := nm_b_ast (W' := fun f => rep (sa s 3 f)) rfl (fun _ => rfl)
theorem ad_4 {s : nm_S} {i : Int32} {g : Int32 → Prop} : nm_b (nm_ald (rep s) 4 2 i) g ↔ vp_in i 1024 ∧ g (ga s 4 i.toNatClampNeg) := nm_b_ald rfl
theorem as_4 {s : nm_S} {i x : Int32} {g : nm_W → Prop} : nm_b (nm_ast (rep s) 4 2 i x) g ↔ vp_in i 1024 ∧ g (rep (sa s 4 (upd (ga s 4) i.toNatClampNeg x))) := nm_b_ast (W' := fun f => rep (sa s 4 f)) rfl (fun _ => rfl)
theorem ad_5 {s : nm_S} {i : Int32} {g : Int32 → Prop} : nm_b (nm_ald (rep s) 5 2 i) g ↔ vp_in i 1024 ∧ g (ga s 5 i.toNatClampNeg) := nm_b_ald rfl
theorem as_5 {s : nm_S} {i x : Int32} {g : nm_W → Prop} : nm_b (nm_ast (rep s) 5 2 i x) g ↔ vp_in i 1024 ∧ g (rep (sa s 5 (upd (ga s 5) i.toNatClampNeg x))) := nm_b_ast (W' := fun f => rep (sa s 5 f)) rfl (fun _ => rfl)
theorem ob_6 {s : nm_S} : nm_obj (rep s) 6 0 := ⟨_, rfl⟩
theorem gt_6_0 {s : nm_S} {g : Value → Prop} : nm_b (nm_get (rep s) 6 0 0) g ↔ g (.ref 7) := Iff.rfl
theorem gt_6_1 {s : nm_S} {g : Value → Prop} : nm_b (nm_get (rep s) 6 0 1) g ↔ g (.ref 8) := Iff.rfl
theorem gt_6_2 {s : nm_S} {g : Value → Prop} : nm_b (nm_get (rep s) 6 0 2) g ↔ g (.ref 9) := Iff.rfl
theorem gt_6_3 {s : nm_S} {g : Value → Prop} : nm_b (nm_get (rep s) 6 0 3) g ↔ g (.ref 10) := Iff.rfl
theorem gt_6_4 {s : nm_S} {g : Value → Prop} : nm_b (nm_get (rep s) 6 0 4) g ↔ g (.int (gi s 604)) := Iff.rfl
theorem pt_6_4 {s : nm_S} {x : Int32} {g : nm_W → Prop} : nm_b (nm_put (rep s) 6 0 4 (.int x)) g ↔ g (rep (si s 604 x)) := Iff.rfl
theorem gt_6_5 {s : nm_S} {g : Value → Prop} : nm_b (nm_get (rep s) 6 0 5) g ↔ g (.int (gi s 605)) := Iff.rfl
theorem pt_6_5 {s : nm_S} {x : Int32} {g : nm_W → Prop} : nm_b (nm_put (rep s) 6 0 5 (.int x)) g ↔ g (rep (si s 605 x)) := Iff.rfl
theorem gt_6_6 {s : nm_S} {g : Value → Prop} : nm_b (nm_get (rep s) 6 0 6) g ↔ g (.int (gi s 606)) := Iff.rfl
theorem pt_6_6 {s : nm_S} {x : Int32} {g : nm_W → Prop} : nm_b (nm_put (rep s) 6 0 6 (.int x)) g ↔ g (rep (si s 606 x)) := Iff.rfl
theorem ad_7 {s : nm_S} {i : Int32} {g : Int32 → Prop} : nm_b (nm_ald (rep s) 7 2 i) g ↔ vp_in i 4 ∧ g (ga s 7 i.toNatClampNeg) := nm_b_ald rfl
theorem as_7 {s : nm_S} {i x : Int32} {g : nm_W → Prop} : nm_b (nm_ast (rep s) 7 2 i x) g ↔ vp_in i 4 ∧ g (rep (sa s 7 (upd (ga s 7) i.toNatClampNeg x))) := nm_b_ast (W' := fun f => rep (sa s 7 f)) rfl (fun _ => rfl)
theorem ad_8 {s : nm_S} {i : Int32} {g : Int32 → Prop} : nm_b (nm_ald (rep s) 8 2 i) g ↔ vp_in i 4 ∧ g (ga s 8 i.toNatClampNeg) := nm_b_ald rfl
theorem as_8 {s : nm_S} {i x : Int32} {g : nm_W → Prop} : nm_b (nm_ast (rep s) 8 2 i x) g ↔ vp_in i 4 ∧ g (rep (sa s 8 (upd (ga s 8) i.toNatClampNeg x))) := nm_b_ast (W' := fun f => rep (sa s 8 f)) rfl (fun _ => rfl)
theorem ad_9 {s : nm_S} {i : Int32} {g : Int32 → Prop} : nm_b (nm_ald (rep s) 9 2 i) g ↔ vp_in i 4 ∧ g (ga s 9 i.toNatClampNeg) := nm_b_ald rfl
theorem as_9 {s : nm_S} {i x : Int32} {g : nm_W → Prop} : nm_b (nm_ast (rep s) 9 2 i x) g ↔ vp_in i 4 ∧ g (rep (sa s 9 (upd (ga s 9) i.toNatClampNeg x))) := nm_b_ast (W' := fun f => rep (sa s 9 f)) rfl (fun _ => rfl)
theorem ad_10 {s : nm_S} {i : Int32} {g : Int32 → Prop} : nm_b (nm_ald (rep s) 10 2 i) g ↔ vp_in i 4 ∧ g (ga s 10 i.toNatClampNeg) := nm_b_ald rfl
theorem as_10 {s : nm_S} {i x : Int32} {g : nm_W → Prop} : nm_b (nm_ast (rep s) 10 2 i x) g ↔ vp_in i 4 ∧ g (rep (sa s 10 (upd (ga s 10) i.toNatClampNeg x))) := nm_b_ast (W' := fun f => rep (sa s 10 f)) rfl (fun _ => rfl)
theorem ob_11 {s : nm_S} : nm_obj (rep s) 11 4 := ⟨_, rfl⟩
theorem gt_11_0 {s : nm_S} {g : Value → Prop} : nm_b (nm_get (rep s) 11 4 0) g ↔ g (.ref 1) := Iff.rfl
theorem gt_11_1 {s : nm_S} {g : Value → Prop} : nm_b (nm_get (rep s) 11 4 1) g ↔ g (.ref 6) := Iff.rfl
theorem gt_11_2 {s : nm_S} {g : Value → Prop} : nm_b (nm_get (rep s) 11 4 2) g ↔ g (.ref 12) := Iff.rfl
theorem gt_11_3 {s : nm_S} {g : Value → Prop} : nm_b (nm_get (rep s) 11 4 3) g ↔ g (.ref 13) := Iff.rfl
theorem gt_11_4 {s : nm_S} {g : Value → Prop} : nm_b (nm_get (rep s) 11 4 4) g ↔ g (.long (gb s)) := Iff.rfl
theorem pt_11_4 {s : nm_S} {x : Int64} {g : nm_W → Prop} : nm_b (nm_put (rep s) 11 4 4 (.long x)) g ↔ g (rep (sb s x)) := Iff.rfl
theorem gt_11_5 {s : nm_S} {g : Value → Prop} : nm_b (nm_get (rep s) 11 4 5) g ↔ g (.int (gi s 1105)) := Iff.rfl
theorem pt_11_5 {s : nm_S} {x : Int32} {g : nm_W → Prop} : nm_b (nm_put (rep s) 11 4 5 (.int x)) g ↔ g (rep (si s 1105 x)) := Iff.rfl
theorem ad_12 {s : nm_S} {i : Int32} {g : Int32 → Prop} : nm_b (nm_ald (rep s) 12 2 i) g ↔ vp_in i 1024 ∧ g (ga s 12 i.toNatClampNeg) := nm_b_ald rfl
theorem as_12 {s : nm_S} {i x : Int32} {g : nm_W → Prop} : nm_b (nm_ast (rep s) 12 2 i x) g ↔ vp_in i 1024 ∧ g (rep (sa s 12 (upd (ga s 12) i.toNatClampNeg x))) := nm_b_ast (W' := fun f => rep (sa s 12 f)) rfl (fun _ => rfl)
theorem ad_13 {s : nm_S} {i : Int32} {g : Int64 → Prop} : nm_b (nm_lald (rep s) 13 i) g ↔ vp_in i 1024 ∧ g (gp s i.toNatClampNeg) := nm_b_lald rfl
theorem as_13 {s : nm_S} {i : Int32} {x : Int64} {g : nm_W → Prop} : nm_b (nm_last (rep s) 13 i x) g ↔ vp_in i 1024 ∧ g (rep (sp s (vp_updL (gp s) i.toNatClampNeg x))) := nm_b_last (W' := fun f => rep (sp s f)) rfl (fun _ => rfl)
theorem ob_14 {s : nm_S} : nm_obj (rep s) 14 7 := ⟨_, rfl⟩
theorem gt_14_0 {s : nm_S} {g : Value → Prop} : nm_b (nm_get (rep s) 14 7 0) g ↔ g (.ref 15) := Iff.rfl
theorem gt_14_1 {s : nm_S} {g : Value → Prop} : nm_b (nm_get (rep s) 14 7 1) g ↔ g (.ref 16) := Iff.rfl
theorem gt_14_2 {s : nm_S} {g : Value → Prop} : nm_b (nm_get (rep s) 14 7 2) g ↔ g (.ref 17) := Iff.rfl
theorem gt_14_3 {s : nm_S} {g : Value → Prop} : nm_b (nm_get (rep s) 14 7 3) g ↔ g (.ref 6) := Iff.rfl
theorem gt_14_4 {s : nm_S} {g : Value → Prop} : nm_b (nm_get (rep s) 14 7 4) g ↔ g (.ref 18) := Iff.rfl
theorem gt_14_5 {s : nm_S} {g : Value → Prop} : nm_b (nm_get (rep s) 14 7 5) g ↔ g (.ref 19) := Iff.rfl
theorem gt_14_6 {s : nm_S} {g : Value → Prop} : nm_b (nm_get (rep s) 14 7 6) g ↔ g (.ref 20) := Iff.rfl
theorem gt_14_7 {s : nm_S} {g : Value → Prop} : nm_b (nm_get (rep s) 14 7 7) g ↔ g (.int (gi s 1407)) := Iff.rfl
theorem pt_14_7 {s : nm_S} {x : Int32} {g : nm_W → Prop} : nm_b (nm_put (rep s) 14 7 7 (.int x)) g ↔ g (rep (si s 1407 x)) := Iff.rfl
theorem ad_15 {s : nm_S} {i : Int32} {g : Int32 → Prop} : nm_b (nm_ald (rep s) 15 2 i) g ↔ vp_in i 4 ∧ g (ga s 15 i.toNatClampNeg) := nm_b_ald rfl
theorem as_15 {s : nm_S} {i x : Int32} {g : nm_W → Prop} : nm_b (nm_ast (rep s) 15 2 i x) g ↔ vp_in i 4 ∧ g (rep (sa s 15 (upd (ga s 15) i.toNatClampNeg x))) := nm_b_ast (W' := fun f => rep (sa s 15 f)) rfl (fun _ => rfl)
theorem ad_16 {s : nm_S} {i : Int32} {g : Int32 → Prop} : nm_b (nm_ald (rep s) 16 2 i) g ↔ vp_in i 4 ∧ g (ga s 16 i.toNatClampNeg) := nm_b_ald rfl
theorem as_16 {s : nm_S} {i x : Int32} {g : nm_W → Prop} : nm_b (nm_ast (rep s) 16 2 i x) g ↔ vp_in i 4 ∧ g (rep (sa s 16 (upd (ga s 16) i.toNatClampNeg x))) := nm_b_ast (W' := fun f => rep (sa s 16 f)) rfl (fun _ => rfl)
theorem ad_17 {s : nm_S} {i : Int32} {g : Int32 → Prop} : nm_b (nm_ald (rep s) 17 2 i) g ↔ vp_in i 4 ∧ g (ga s 17 i.toNatClampNeg) := nm_b_ald rfl
theorem as_17 {s : nm_S} {i x : Int32} {g : nm_W → Prop} : nm_b (nm_ast (rep s) 17 2 i x) g ↔ vp_in i 4 ∧ g (rep (sa s 17 (upd (ga s 17) i.toNatClampNeg x))) := nm_b_ast (W' := fun f => rep (sa s 17 f)) rfl (fun _ => rfl)
theorem ad_18 {s : nm_S} {i : Int32} {g : Int32 → Prop} : nm_b (nm_ald (rep s) 18 2 i) g ↔ vp_in i 60 ∧ g (ga s 18 i.toNatClampNeg) := nm_b_ald rfl
theorem as_18 {s : nm_S} {i x : Int32} {g : nm_W → Prop} : nm_b (nm_ast (rep s) 18 2 i x) g ↔ vp_in i 60 ∧ g (rep (sa s 18 (upd (ga s 18) i.toNatClampNeg x))) := nm_b_ast (W' := fun f => rep (sa s 18 f)) rfl (fun _ => rfl)
theorem ad_19 {s : nm_S} {i : Int32} {g : Int32 → Prop} : nm_b (nm_ald (rep s) 19 2 i) g ↔ vp_in i 60 ∧ g (ga s 19 i.toNatClampNeg) := nm_b_ald rfl
theorem as_19 {s : nm_S} {i x : Int32} {g : nm_W → Prop} : nm_b (nm_ast (rep s) 19 2 i x) g ↔ vp_in i 60 ∧ g (rep (sa s 19 (upd (ga s 19) i.toNatClampNeg x))) := nm_b_ast (W' := fun f => rep (sa s 19 f)) rfl (fun _ => rfl)
theorem ad_20 {s : nm_S} {i : Int32} {g : Int32 → Prop} : nm_b (nm_ald (rep s) 20 2 i) g ↔ vp_in i 60 ∧ g (ga s 20 i.toNatClampNeg) := nm_b_ald rfl
theorem as_20 {s : nm_S} {i x : Int32} {g : nm_W → Prop} : nm_b (nm_ast (rep s) 20 2 i x) g ↔ vp_in i 60 ∧ g (rep (sa s 20 (upd (ga s 20) i.toNatClampNeg x))) := nm_b_ast (W' := fun f => rep (sa s 20 f)) rfl (fun _ => rfl)
theorem ob_21 {s : nm_S} : nm_obj (rep s) 21 5 := ⟨_, rfl⟩
theorem gt_21_0 {s : nm_S} {g : Value → Prop} : nm_b (nm_get (rep s) 21 5 0) g ↔ g (.ref 22) := Iff.rfl
theorem gt_21_1 {s : nm_S} {g : Value → Prop} : nm_b (nm_get (rep s) 21 5 1) g ↔ g (.ref 23) := Iff.rfl
theorem gt_21_2 {s : nm_S} {g : Value → Prop} : nm_b (nm_get (rep s) 21 5 2) g ↔ g (.ref 24) := Iff.rfl
theorem gt_21_3 {s : nm_S} {g : Value → Prop} : nm_b (nm_get (rep s) 21 5 3) g ↔ g (.int (gi s 2103)) := Iff.rfl
theorem pt_21_3 {s : nm_S} {x : Int32} {g : nm_W → Prop} : nm_b (nm_put (rep s) 21 5 3 (.int x)) g ↔ g (rep (si s 2103 x)) := Iff.rfl
theorem gt_21_4 {s : nm_S} {g : Value → Prop} : nm_b (nm_get (rep s) 21 5 4) g ↔ g (.int (gi s 2104)) := Iff.rfl
theorem pt_21_4 {s : nm_S} {x : Int32} {g : nm_W → Prop} : nm_b (nm_put (rep s) 21 5 4 (.int x)) g ↔ g (rep (si s 2104 x)) := Iff.rfl
theorem gt_21_5 {s : nm_S} {g : Value → Prop} : nm_b (nm_get (rep s) 21 5 5) g ↔ g (.ref 25) := Iff.rfl
theorem gt_21_6 {s : nm_S} {g : Value → Prop} : nm_b (nm_get (rep s) 21 5 6) g ↔ g (.ref 26) := Iff.rfl
theorem gt_21_7 {s : nm_S} {g : Value → Prop} : nm_b (nm_get (rep s) 21 5 7) g ↔ g (.ref 27) := Iff.rfl
theorem gt_21_8 {s : nm_S} {g : Value → Prop} : nm_b (nm_get (rep s) 21 5 8) g ↔ g (.ref 28) := Iff.rfl
theorem gt_21_9 {s : nm_S} {g : Value → Prop} : nm_b (nm_get (rep s) 21 5 9) g ↔ g (.ref 29) := Iff.rfl
theorem gt_21_10 {s : nm_S} {g : Value → Prop} : nm_b (nm_get (rep s) 21 5 10) g ↔ g (.ref 30) := Iff.rfl
theorem ad_22 {s : nm_S} {i : Int32} {g : Int32 → Prop} : nm_b (nm_ald (rep s) 22 2 i) g ↔ vp_in i 10 ∧ g (ga s 22 i.toNatClampNeg) := nm_b_ald rfl
theorem as_22 {s : nm_S} {i x : Int32} {g : nm_W → Prop} : nm_b (nm_ast (rep s) 22 2 i x) g ↔ vp_in i 10 ∧ g (rep (sa s 22 (upd (ga s 22) i.toNatClampNeg x))) := nm_b_ast (W' := fun f => rep (sa s 22 f)) rfl (fun _ => rfl)
theorem ad_23 {s : nm_S} {i : Int32} {g : Int32 → Prop} : nm_b (nm_ald (rep s) 23 2 i) g ↔ vp_in i 10 ∧ g (ga s 23 i.toNatClampNeg) := nm_b_ald rfl
theorem as_23 {s : nm_S} {i x : Int32} {g : nm_W → Prop} : nm_b (nm_ast (rep s) 23 2 i x) g ↔ vp_in i 10 ∧ g (rep (sa s 23 (upd (ga s 23) i.toNatClampNeg x))) := nm_b_ast (W' := fun f => rep (sa s 23 f)) rfl (fun _ => rfl)
theorem ad_24 {s : nm_S} {i : Int32} {g : Int32 → Prop} : nm_b (nm_ald (rep s) 24 0 i) g ↔ vp_in i 10 ∧ g (ga s 24 i.toNatClampNeg) := nm_b_ald rfl
theorem as_24 {s : nm_S} {i x : Int32} {g : nm_W → Prop} : nm_b (nm_ast (rep s) 24 0 i x) g ↔ vp_in i 10 ∧ g (rep (sa s 24 (upd (ga s 24) i.toNatClampNeg (x &&& 1)))) := nm_b_ast (W' := fun f => rep (sa s 24 f)) rfl (fun _ => rfl)
theorem ad_25 {s : nm_S} {i : Int32} {g : Int32 → Prop} : nm_b (nm_ald (rep s) 25 2 i) g ↔ vp_in i 10 ∧ g (ga s 25 i.toNatClampNeg) := nm_b_ald rfl
theorem as_25 {s : nm_S} {i x : Int32} {g : nm_W → Prop} : nm_b (nm_ast (rep s) 25 2 i x) g ↔ vp_in i 10 ∧ g (rep (sa s 25 (upd (ga s 25) i.toNatClampNeg x))) := nm_b_ast (W' := fun f => rep (sa s 25 f)) rfl (fun _ => rfl)
theorem ad_26 {s : nm_S} {i : Int32} {g : Int32 → Prop} : nm_b (nm_ald (rep s) 26 2 i) g ↔ vp_in i 10 ∧ g (ga s 26 i.toNatClampNeg) := nm_b_ald rfl
theorem as_26 {s : nm_S} {i x : Int32} {g : nm_W → Prop} : nm_b (nm_ast (rep s) 26 2 i x) g ↔ vp_in i 10 ∧ g (rep (sa s 26 (upd (ga s 26) i.toNatClampNeg x))) := nm_b_ast (W' := fun f => rep (sa s 26 f)) rfl (fun _ => rfl)
theorem ad_27 {s : nm_S} {i : Int32} {g : Int32 → Prop} : nm_b (nm_ald (rep s) 27 2 i) g ↔ vp_in i 10 ∧ g (ga s 27 i.toNatClampNeg) := nm_b_ald rfl
theorem as_27 {s : nm_S} {i x : Int32} {g : nm_W → Prop} : nm_b (nm_ast (rep s) 27 2 i x) g ↔ vp_in i 10 ∧ g (rep (sa s 27 (upd (ga s 27) i.toNatClampNeg x))) := nm_b_ast (W' := fun f => rep (sa s 27 f)) rfl (fun _ => rfl)
theorem ad_28 {s : nm_S} {i : Int32} {g : Int32 → Prop} : nm_b (nm_ald (rep s) 28 0 i) g ↔ vp_in i 10 ∧ g (ga s 28 i.toNatClampNeg) := nm_b_ald rfl
theorem as_28 {s : nm_S} {i x : Int32} {g : nm_W → Prop} : nm_b (nm_ast (rep s) 28 0 i x) g ↔ vp_in i 10 ∧ g (rep (sa s 28 (upd (ga s 28) i.toNatClampNeg (x &&& 1)))) := nm_b_ast (W' := fun f => rep (sa s 28 f)) rfl (fun _ => rfl)
theorem ad_29 {s : nm_S} {i : Int32} {g : Int32 → Prop} : nm_b (nm_ald (rep s) 29 2 i) g ↔ vp_in i 10 ∧ g (ga s 29 i.toNatClampNeg) := nm_b_ald rfl
theorem as_29 {s : nm_S} {i x : Int32} {g : nm_W → Prop} : nm_b (nm_ast (rep s) 29 2 i x) g ↔ vp_in i 10 ∧ g (rep (sa s 29 (upd (ga s 29) i.toNatClampNeg x))) := nm_b_ast (W' := fun f => rep (sa s 29 f)) rfl (fun _ => rfl)
theorem ad_30 {s : nm_S} {i : Int32} {g : Int32 → Prop} : nm_b (nm_ald (rep s) 30 2 i) g ↔ vp_in i 10 ∧ g (ga s 30 i.toNatClampNeg) := nm_b_ald rfl
theorem as_30 {s : nm_S} {i x : Int32} {g : nm_W → Prop} : nm_b (nm_ast (rep s) 30 2 i x) g ↔ vp_in i 10 ∧ g (rep (sa s 30 (upd (ga s 30) i.toNatClampNeg x))) := nm_b_ast (W' := fun f => rep (sa s 30 f)) rfl (fun _ => rfl)
theorem ob_31 {s : nm_S} : nm_obj (rep s) 31 1 := ⟨_, rfl⟩
theorem gt_31_0 {s : nm_S} {g : Value → Prop} : nm_b (nm_get (rep s) 31 1 0) g ↔ g (.ref 32) := Iff.rfl
theorem gt_31_1 {s : nm_S} {g : Value → Prop} : nm_b (nm_get (rep s) 31 1 1) g ↔ g (.int (gi s 3101)) := Iff.rfl
theorem pt_31_1 {s : nm_S} {x : Int32} {g : nm_W → Prop} : nm_b (nm_put (rep s) 31 1 1 (.int x)) g ↔ g (rep (si s 3101 x)) := Iff.rfl
theorem gt_31_2 {s : nm_S} {g : Value → Prop} : nm_b (nm_get (rep s) 31 1 2) g ↔ g (.int (gi s 3102)) := Iff.rfl
theorem pt_31_2 {s : nm_S} {x : Int32} {g : nm_W → Prop} : nm_b (nm_put (rep s) 31 1 2 (.int x)) g ↔ g (rep (si s 3102 x)) := Iff.rfl
theorem ad_32 {s : nm_S} {i : Int32} {g : Int32 → Prop} : nm_b (nm_ald (rep s) 32 0 i) g ↔ vp_in i 100 ∧ g (ga s 32 i.toNatClampNeg) := nm_b_ald rfl
theorem as_32 {s : nm_S} {i x : Int32} {g : nm_W → Prop} : nm_b (nm_ast (rep s) 32 0 i x) g ↔ vp_in i 100 ∧ g (rep (sa s 32 (upd (ga s 32) i.toNatClampNeg (x &&& 1)))) := nm_b_ast (W' := fun f => rep (sa s 32 f)) rfl (fun _ => rfl)
theorem ob_33 {s : nm_S} : nm_obj (rep s) 33 6 := ⟨_, rfl⟩
theorem gt_33_0 {s : nm_S} {g : Value → Prop} : nm_b (nm_get (rep s) 33 6 0) g ↔ g (.ref 34) := Iff.rfl
theorem gt_33_1 {s : nm_S} {g : Value → Prop} : nm_b (nm_get (rep s) 33 6 1) g ↔ g (.int (gi s 3301)) := Iff.rfl
theorem pt_33_1 {s : nm_S} {x : Int32} {g : nm_W → Prop} : nm_b (nm_put (rep s) 33 6 1 (.int x)) g ↔ g (rep (si s 3301 x)) := Iff.rfl
theorem ad_34 {s : nm_S} {i : Int32} {g : Int32 → Prop} : nm_b (nm_ald (rep s) 34 1 i) g ↔ vp_in i 100 ∧ g (ga s 34 i.toNatClampNeg) := nm_b_ald rfl
theorem as_34 {s : nm_S} {i x : Int32} {g : nm_W → Prop} : nm_b (nm_ast (rep s) 34 1 i x) g ↔ vp_in i 100 ∧ g (rep (sa s 34 (upd (ga s 34) i.toNatClampNeg (vp_nar .char x)))) := nm_b_ast (W' := fun f => rep (sa s 34 f)) rfl (fun _ => rfl)
theorem ob_35 {s : nm_S} : nm_obj (rep s) 35 6 := ⟨_, rfl⟩
theorem gt_35_0 {s : nm_S} {g : Value → Prop} : nm_b (nm_get (rep s) 35 6 0) g ↔ g (.ref 36) := Iff.rfl
theorem gt_35_1 {s : nm_S} {g : Value → Prop} : nm_b (nm_get (rep s) 35 6 1) g ↔ g (.int (gi s 3501)) := Iff.rfl
theorem pt_35_1 {s : nm_S} {x : Int32} {g : nm_W → Prop} : nm_b (nm_put (rep s) 35 6 1 (.int x)) g ↔ g (rep (si s 3501 x)) := Iff.rfl
theorem ad_36 {s : nm_S} {i : Int32} {g : Int32 → Prop} : nm_b (nm_ald (rep s) 36 1 i) g ↔ vp_in i 100 ∧ g (ga s 36 i.toNatClampNeg) := nm_b_ald rfl
theorem as_36 {s : nm_S} {i x : Int32} {g : nm_W → Prop} : nm_b (nm_ast (rep s) 36 1 i x) g ↔ vp_in i 100 ∧ g (rep (sa s 36 (upd (ga s 36) i.toNatClampNeg (vp_nar .char x)))) := nm_b_ast (W' := fun f => rep (sa s 36 f)) rfl (fun _ => rfl)
theorem ob_37 {s : nm_S} : nm_obj (rep s) 37 3 := ⟨_, rfl⟩
theorem gt_37_0 {s : nm_S} {g : Value → Prop} : nm_b (nm_get (rep s) 37 3 0) g ↔ g (.int (gi s 3700)) := Iff.rfl
theorem pt_37_0 {s : nm_S} {x : Int32} {g : nm_W → Prop} : nm_b (nm_put (rep s) 37 3 0 (.int x)) g ↔ g (rep (si s 3700 x)) := Iff.rfl
theorem gt_37_1 {s : nm_S} {g : Value → Prop} : nm_b (nm_get (rep s) 37 3 1) g ↔ g (.int (gi s 3701)) := Iff.rfl
theorem pt_37_1 {s : nm_S} {x : Int32} {g : nm_W → Prop} : nm_b (nm_put (rep s) 37 3 1 (.int x)) g ↔ g (rep (si s 3701 x)) := Iff.rfl
theorem gt_37_2 {s : nm_S} {g : Value → Prop} : nm_b (nm_get (rep s) 37 3 2) g ↔ g (.int (gi s 3702)) := Iff.rfl
theorem pt_37_2 {s : nm_S} {x : Int32} {g : nm_W → Prop} : nm_b (nm_put (rep s) 37 3 2 (.int x)) g ↔ g (rep (si s 3702 x)) := Iff.rfl
theorem gt_37_3 {s : nm_S} {g : Value → Prop} : nm_b (nm_get (rep s) 37 3 3) g ↔ g (.int (gi s 3703)) := Iff.rfl
theorem pt_37_3 {s : nm_S} {x : Int32} {g : nm_W → Prop} : nm_b (nm_put (rep s) 37 3 3 (.int x)) g ↔ g (rep (si s 3703 x)) := Iff.rfl
theorem gt_37_4 {s : nm_S} {g : Value → Prop} : nm_b (nm_get (rep s) 37 3 4) g ↔ g (.ref 38) := Iff.rfl
theorem gt_37_5 {s : nm_S} {g : Value → Prop} : nm_b (nm_get (rep s) 37 3 5) g ↔ g (.ref 39) := Iff.rfl
theorem gt_37_6 {s : nm_S} {g : Value → Prop} : nm_b (nm_get (rep s) 37 3 6) g ↔ g (.int (gi s 3706)) := Iff.rfl
theorem pt_37_6 {s : nm_S} {x : Int32} {g : nm_W → Prop} : nm_b (nm_put (rep s) 37 3 6 (.int x)) g ↔ g (rep (si s 3706 x)) := Iff.rfl
theorem gt_37_7 {s : nm_S} {g : Value → Prop} : nm_b (nm_get (rep s) 37 3 7) g ↔ g (.int (gi s 3707)) := Iff.rfl
theorem pt_37_7 {s : nm_S} {x : Int32} {g : nm_W → Prop} : nm_b (nm_put (rep s) 37 3 7 (.int x)) g ↔ g (rep (si s 3707 x)) := Iff.rfl
theorem gt_37_8 {s : nm_S} {g : Value → Prop} : nm_b (nm_get (rep s) 37 3 8) g ↔ g (.int (gi s 3708)) := Iff.rfl
theorem pt_37_8 {s : nm_S} {x : Int32} {g : nm_W → Prop} : nm_b (nm_put (rep s) 37 3 8 (.int x)) g ↔ g (rep (si s 3708 x)) := Iff.rfl
theorem gt_37_9 {s : nm_S} {g : Value → Prop} : nm_b (nm_get (rep s) 37 3 9) g ↔ g (.int (gi s 3709)) := Iff.rfl
theorem pt_37_9 {s : nm_S} {x : Int32} {g : nm_W → Prop} : nm_b (nm_put (rep s) 37 3 9 (.int x)) g ↔ g (rep (si s 3709 x)) := Iff.rfl
theorem gt_37_10 {s : nm_S} {g : Value → Prop} : nm_b (nm_get (rep s) 37 3 10) g ↔ g (.int (gi s 3710)) := Iff.rfl
theorem pt_37_10 {s : nm_S} {x : Int32} {g : nm_W → Prop} : nm_b (nm_put (rep s) 37 3 10 (.int x)) g ↔ g (rep (si s 3710 x)) := Iff.rfl
theorem gt_37_11 {s : nm_S} {g : Value → Prop} : nm_b (nm_get (rep s) 37 3 11) g ↔ g (.int (gi s 3711)) := Iff.rfl
theorem pt_37_11 {s : nm_S} {x : Int32} {g : nm_W → Prop} : nm_b (nm_put (rep s) 37 3 11 (.int x)) g ↔ g (rep (si s 3711 x)) := Iff.rfl
theorem ad_38 {s : nm_S} {i : Int32} {g : Int32 → Prop} : nm_b (nm_ald (rep s) 38 0 i) g ↔ vp_in i 9 ∧ g (ga s 38 i.toNatClampNeg) := nm_b_ald rfl
theorem as_38 {s : nm_S} {i x : Int32} {g : nm_W → Prop} : nm_b (nm_ast (rep s) 38 0 i x) g ↔ vp_in i 9 ∧ g (rep (sa s 38 (upd (ga s 38) i.toNatClampNeg (x &&& 1)))) := nm_b_ast (W' := fun f => rep (sa s 38 f)) rfl (fun _ => rfl)
theorem ad_39 {s : nm_S} {i : Int32} {g : Int32 → Prop} : nm_b (nm_ald (rep s) 39 0 i) g ↔ vp_in i 9 ∧ g (ga s 39 i.toNatClampNeg) := nm_b_ald rfl
theorem as_39 {s : nm_S} {i x : Int32} {g : nm_W → Prop} : nm_b (nm_ast (rep s) 39 0 i x) g ↔ vp_in i 9 ∧ g (rep (sa s 39 (upd (ga s 39) i.toNatClampNeg (x &&& 1)))) := nm_b_ast (W' := fun f => rep (sa s 39 f)) rfl (fun _ => rfl)
theorem ob_40 {s : nm_S} : nm_obj (rep s) 40 9 := ⟨_, rfl⟩
theorem gt_40_0 {s : nm_S} {g : Value → Prop} : nm_b (nm_get (rep s) 40 9 0) g ↔ g (.int (gi s 4000)) := Iff.rfl
theorem pt_40_0 {s : nm_S} {x : Int32} {g : nm_W → Prop} : nm_b (nm_put (rep s) 40 9 0 (.int x)) g ↔ g (rep (si s 4000 x)) := Iff.rfl
theorem gt_40_1 {s : nm_S} {g : Value → Prop} : nm_b (nm_get (rep s) 40 9 1) g ↔ g (.int (gi s 4001)) := Iff.rfl
theorem pt_40_1 {s : nm_S} {x : Int32} {g : nm_W → Prop} : nm_b (nm_put (rep s) 40 9 1 (.int x)) g ↔ g (rep (si s 4001 x)) := Iff.rfl
theorem gt_40_2 {s : nm_S} {g : Value → Prop} : nm_b (nm_get (rep s) 40 9 2) g ↔ g (.int (gi s 4002)) := Iff.rfl
theorem pt_40_2 {s : nm_S} {x : Int32} {g : nm_W → Prop} : nm_b (nm_put (rep s) 40 9 2 (.int x)) g ↔ g (rep (si s 4002 x)) := Iff.rfl
theorem gt_40_3 {s : nm_S} {g : Value → Prop} : nm_b (nm_get (rep s) 40 9 3) g ↔ g (.int (gi s 4003)) := Iff.rfl
theorem pt_40_3 {s : nm_S} {x : Int32} {g : nm_W → Prop} : nm_b (nm_put (rep s) 40 9 3 (.int x)) g ↔ g (rep (si s 4003 x)) := Iff.rfl
theorem gt_40_4 {s : nm_S} {g : Value → Prop} : nm_b (nm_get (rep s) 40 9 4) g ↔ g (.int (gi s 4004)) := Iff.rfl
theorem pt_40_4 {s : nm_S} {x : Int32} {g : nm_W → Prop} : nm_b (nm_put (rep s) 40 9 4 (.int x)) g ↔ g (rep (si s 4004 x)) := Iff.rfl
theorem gt_40_5 {s : nm_S} {g : Value → Prop} : nm_b (nm_get (rep s) 40 9 5) g ↔ g (.int (gi s 4005)) := Iff.rfl
theorem pt_40_5 {s : nm_S} {x : Int32} {g : nm_W → Prop} : nm_b (nm_put (rep s) 40 9 5 (.int x)) g ↔ g (rep (si s 4005 x)) := Iff.rfl
theorem gt_40_6 {s : nm_S} {g : Value → Prop} : nm_b (nm_get (rep s) 40 9 6) g ↔ g (.int (gi s 4006)) := Iff.rfl
theorem pt_40_6 {s : nm_S} {x : Int32} {g : nm_W → Prop} : nm_b (nm_put (rep s) 40 9 6 (.int x)) g ↔ g (rep (si s 4006 x)) := Iff.rfl
theorem gt_40_7 {s : nm_S} {g : Value → Prop} : nm_b (nm_get (rep s) 40 9 7) g ↔ g (.int (gi s 4007)) := Iff.rfl
theorem pt_40_7 {s : nm_S} {x : Int32} {g : nm_W → Prop} : nm_b (nm_put (rep s) 40 9 7 (.int x)) g ↔ g (rep (si s 4007 x)) := Iff.rfl
theorem gt_40_8 {s : nm_S} {g : Value → Prop} : nm_b (nm_get (rep s) 40 9 8) g ↔ g (.int (gi s 4008)) := Iff.rfl
theorem pt_40_8 {s : nm_S} {x : Int32} {g : nm_W → Prop} : nm_b (nm_put (rep s) 40 9 8 (.int x)) g ↔ g (rep (si s 4008 x)) := Iff.rfl
theorem gt_40_9 {s : nm_S} {g : Value → Prop} : nm_b (nm_get (rep s) 40 9 9) g ↔ g (.int (gi s 4009)) := Iff.rfl
theorem pt_40_9 {s : nm_S} {x : Int32} {g : nm_W → Prop} : nm_b (nm_put (rep s) 40 9 9 (.int x)) g ↔ g (rep (si s 4009 x)) := Iff.rfl
theorem gt_40_10 {s : nm_S} {g : Value → Prop} : nm_b (nm_get (rep s) 40 9 10) g ↔ g (.int (gi s 4010)) := Iff.rfl
theorem pt_40_10 {s : nm_S} {x : Int32} {g : nm_W → Prop} : nm_b (nm_put (rep s) 40 9 10 (.int x)) g ↔ g (rep (si s 4010 x)) := Iff.rfl
theorem gt_40_11 {s : nm_S} {g : Value → Prop} : nm_b (nm_get (rep s) 40 9 11) g ↔ g (.ref 41) := Iff.rfl
theorem gt_40_12 {s : nm_S} {g : Value → Prop} : nm_b (nm_get (rep s) 40 9 12) g ↔ g (.ref 42) := Iff.rfl
theorem gt_40_13 {s : nm_S} {g : Value → Prop} : nm_b (nm_get (rep s) 40 9 13) g ↔ g (.ref 43) := Iff.rfl
theorem gt_40_14 {s : nm_S} {g : Value → Prop} : nm_b (nm_get (rep s) 40 9 14) g ↔ g (.ref 44) := Iff.rfl
theorem gt_40_15 {s : nm_S} {g : Value → Prop} : nm_b (nm_get (rep s) 40 9 15) g ↔ g (.ref 45) := Iff.rfl
theorem gt_40_16 {s : nm_S} {g : Value → Prop} : nm_b (nm_get (rep s) 40 9 16) g ↔ g (.ref 46) := Iff.rfl
theorem gt_40_17 {s : nm_S} {g : Value → Prop} : nm_b (nm_get (rep s) 40 9 17) g ↔ g (.ref 47) := Iff.rfl
theorem gt_40_18 {s : nm_S} {g : Value → Prop} : nm_b (nm_get (rep s) 40 9 18) g ↔ g (.ref 48) := Iff.rfl
theorem gt_40_19 {s : nm_S} {g : Value → Prop} : nm_b (nm_get (rep s) 40 9 19) g ↔ g (.ref 49) := Iff.rfl
theorem gt_40_20 {s : nm_S} {g : Value → Prop} : nm_b (nm_get (rep s) 40 9 20) g ↔ g (.ref 50) := Iff.rfl
theorem gt_40_21 {s : nm_S} {g : Value → Prop} : nm_b (nm_get (rep s) 40 9 21) g ↔ g (.ref 51) := Iff.rfl
theorem gt_40_22 {s : nm_S} {g : Value → Prop} : nm_b (nm_get (rep s) 40 9 22) g ↔ g (.int (gi s 4022)) := Iff.rfl
theorem pt_40_22 {s : nm_S} {x : Int32} {g : nm_W → Prop} : nm_b (nm_put (rep s) 40 9 22 (.int x)) g ↔ g (rep (si s 4022 x)) := Iff.rfl
theorem gt_40_23 {s : nm_S} {g : Value → Prop} : nm_b (nm_get (rep s) 40 9 23) g ↔ g (.ref 52) := Iff.rfl
theorem gt_40_24 {s : nm_S} {g : Value → Prop} : nm_b (nm_get (rep s) 40 9 24) g ↔ g (.ref 53) := Iff.rfl
theorem gt_40_25 {s : nm_S} {g : Value → Prop} : nm_b (nm_get (rep s) 40 9 25) g ↔ g (.ref 54) := Iff.rfl
theorem gt_40_26 {s : nm_S} {g : Value → Prop} : nm_b (nm_get (rep s) 40 9 26) g ↔ g (.ref 55) := Iff.rfl
theorem gt_40_27 {s : nm_S} {g : Value → Prop} : nm_b (nm_get (rep s) 40 9 27) g ↔ g (.ref 56) := Iff.rfl
theorem gt_40_28 {s : nm_S} {g : Value → Prop} : nm_b (nm_get (rep s) 40 9 28) g ↔ g (.ref 57) := Iff.rfl
theorem gt_40_29 {s : nm_S} {g : Value → Prop} : nm_b (nm_get (rep s) 40 9 29) g ↔ g (.ref 58) := Iff.rfl
theorem gt_40_30 {s : nm_S} {g : Value → Prop} : nm_b (nm_get (rep s) 40 9 30) g ↔ g (.ref 59) := Iff.rfl
theorem gt_40_31 {s : nm_S} {g : Value → Prop} : nm_b (nm_get (rep s) 40 9 31) g ↔ g (.ref 60) := Iff.rfl
theorem gt_40_32 {s : nm_S} {g : Value → Prop} : nm_b (nm_get (rep s) 40 9 32) g ↔ g (.ref 61) := Iff.rfl
theorem gt_40_33 {s : nm_S} {g : Value → Prop} : nm_b (nm_get (rep s) 40 9 33) g ↔ g (.ref 62) := Iff.rfl
theorem gt_40_34 {s : nm_S} {g : Value → Prop} : nm_b (nm_get (rep s) 40 9 34) g ↔ g (.int (gi s 4034)) := Iff.rfl
theorem pt_40_34 {s : nm_S} {x : Int32} {g : nm_W → Prop} : nm_b (nm_put (rep s) 40 9 34 (.int x)) g ↔ g (rep (si s 4034 x)) := Iff.rfl
theorem gt_40_35 {s : nm_S} {g : Value → Prop} : nm_b (nm_get (rep s) 40 9 35) g ↔ g (.int (gi s 4035)) := Iff.rfl
theorem pt_40_35 {s : nm_S} {x : Int32} {g : nm_W → Prop} : nm_b (nm_put (rep s) 40 9 35 (.int x)) g ↔ g (rep (si s 4035 x)) := Iff.rfl
theorem gt_40_36 {s : nm_S} {g : Value → Prop} : nm_b (nm_get (rep s) 40 9 36) g ↔ g (.ref 63) := Iff.rfl
theorem gt_40_37 {s : nm_S} {g : Value → Prop} : nm_b (nm_get (rep s) 40 9 37) g ↔ g (.ref 64) := Iff.rfl
theorem gt_40_38 {s : nm_S} {g : Value → Prop} : nm_b (nm_get (rep s) 40 9 38) g ↔ g (.ref 65) := Iff.rfl
theorem gt_40_39 {s : nm_S} {g : Value → Prop} : nm_b (nm_get (rep s) 40 9 39) g ↔ g (.ref 66) := Iff.rfl
theorem gt_40_40 {s : nm_S} {g : Value → Prop} : nm_b (nm_get (rep s) 40 9 40) g ↔ g (.ref 67) := Iff.rfl
theorem gt_40_41 {s : nm_S} {g : Value → Prop} : nm_b (nm_get (rep s) 40 9 41) g ↔ g (.int (gi s 4041)) := Iff.rfl
theorem pt_40_41 {s : nm_S} {x : Int32} {g : nm_W → Prop} : nm_b (nm_put (rep s) 40 9 41 (.int x)) g ↔ g (rep (si s 4041 x)) := Iff.rfl
theorem gt_40_42 {s : nm_S} {g : Value → Prop} : nm_b (nm_get (rep s) 40 9 42) g ↔ g (.int (gi s 4042)) := Iff.rfl
theorem pt_40_42 {s : nm_S} {x : Int32} {g : nm_W → Prop} : nm_b (nm_put (rep s) 40 9 42 (.int x)) g ↔ g (rep (si s 4042 x)) := Iff.rfl
theorem gt_40_43 {s : nm_S} {g : Value → Prop} : nm_b (nm_get (rep s) 40 9 43) g ↔ g (.int (gi s 4043)) := Iff.rfl
theorem pt_40_43 {s : nm_S} {x : Int32} {g : nm_W → Prop} : nm_b (nm_put (rep s) 40 9 43 (.int x)) g ↔ g (rep (si s 4043 x)) := Iff.rfl
theorem gt_40_44 {s : nm_S} {g : Value → Prop} : nm_b (nm_get (rep s) 40 9 44) g ↔ g (.int (gi s 4044)) := Iff.rfl
theorem pt_40_44 {s : nm_S} {x : Int32} {g : nm_W → Prop} : nm_b (nm_put (rep s) 40 9 44 (.int x)) g ↔ g (rep (si s 4044 x)) := Iff.rfl
theorem gt_40_45 {s : nm_S} {g : Value → Prop} : nm_b (nm_get (rep s) 40 9 45) g ↔ g (.int (gi s 4045)) := Iff.rfl
theorem pt_40_45 {s : nm_S} {x : Int32} {g : nm_W → Prop} : nm_b (nm_put (rep s) 40 9 45 (.int x)) g ↔ g (rep (si s 4045 x)) := Iff.rfl
theorem gt_40_46 {s : nm_S} {g : Value → Prop} : nm_b (nm_get (rep s) 40 9 46) g ↔ g (.int (gi s 4046)) := Iff.rfl
theorem pt_40_46 {s : nm_S} {x : Int32} {g : nm_W → Prop} : nm_b (nm_put (rep s) 40 9 46 (.int x)) g ↔ g (rep (si s 4046 x)) := Iff.rfl
theorem gt_40_47 {s : nm_S} {g : Value → Prop} : nm_b (nm_get (rep s) 40 9 47) g ↔ g (.ref 68) := Iff.rfl
theorem ad_41 {s : nm_S} {i : Int32} {g : Int32 → Prop} : nm_b (nm_ald (rep s) 41 2 i) g ↔ vp_in i 10 ∧ g (ga s 41 i.toNatClampNeg) := nm_b_ald rfl
theorem as_41 {s : nm_S} {i x : Int32} {g : nm_W → Prop} : nm_b (nm_ast (rep s) 41 2 i x) g ↔ vp_in i 10 ∧ g (rep (sa s 41 (upd (ga s 41) i.toNatClampNeg x))) := nm_b_ast (W' := fun f => rep (sa s 41 f)) rfl (fun _ => rfl)
theorem ad_42 {s : nm_S} {i : Int32} {g : Int32 → Prop} : nm_b (nm_ald (rep s) 42 2 i) g ↔ vp_in i 10 ∧ g (ga s 42 i.toNatClampNeg) := nm_b_ald rfl
theorem as_42 {s : nm_S} {i x : Int32} {g : nm_W → Prop} : nm_b (nm_ast (rep s) 42 2 i x) g ↔ vp_in i 10 ∧ g (rep (sa s 42 (upd (ga s 42) i.toNatClampNeg x))) := nm_b_ast (W' := fun f => rep (sa s 42 f)) rfl (fun _ => rfl)
theorem ad_43 {s : nm_S} {i : Int32} {g : Int32 → Prop} : nm_b (nm_ald (rep s) 43 2 i) g ↔ vp_in i 10 ∧ g (ga s 43 i.toNatClampNeg) := nm_b_ald rfl
theorem as_43 {s : nm_S} {i x : Int32} {g : nm_W → Prop} : nm_b (nm_ast (rep s) 43 2 i x) g ↔ vp_in i 10 ∧ g (rep (sa s 43 (upd (ga s 43) i.toNatClampNeg x))) := nm_b_ast (W' := fun f => rep (sa s 43 f)) rfl (fun _ => rfl)
theorem ad_44 {s : nm_S} {i : Int32} {g : Int32 → Prop} : nm_b (nm_ald (rep s) 44 2 i) g ↔ vp_in i 10 ∧ g (ga s 44 i.toNatClampNeg) := nm_b_ald rfl
theorem as_44 {s : nm_S} {i x : Int32} {g : nm_W → Prop} : nm_b (nm_ast (rep s) 44 2 i x) g ↔ vp_in i 10 ∧ g (rep (sa s 44 (upd (ga s 44) i.toNatClampNeg x))) := nm_b_ast (W' := fun f => rep (sa s 44 f)) rfl (fun _ => rfl)
theorem ad_45 {s : nm_S} {i : Int32} {g : Int32 → Prop} : nm_b (nm_ald (rep s) 45 2 i) g ↔ vp_in i 4 ∧ g (ga s 45 i.toNatClampNeg) := nm_b_ald rfl
theorem as_45 {s : nm_S} {i x : Int32} {g : nm_W → Prop} : nm_b (nm_ast (rep s) 45 2 i x) g ↔ vp_in i 4 ∧ g (rep (sa s 45 (upd (ga s 45) i.toNatClampNeg x))) := nm_b_ast (W' := fun f => rep (sa s 45 f)) rfl (fun _ => rfl)
theorem ad_46 {s : nm_S} {i : Int32} {g : Int32 → Prop} : nm_b (nm_ald (rep s) 46 2 i) g ↔ vp_in i 4 ∧ g (ga s 46 i.toNatClampNeg) := nm_b_ald rfl
theorem as_46 {s : nm_S} {i x : Int32} {g : nm_W → Prop} : nm_b (nm_ast (rep s) 46 2 i x) g ↔ vp_in i 4 ∧ g (rep (sa s 46 (upd (ga s 46) i.toNatClampNeg x))) := nm_b_ast (W' := fun f => rep (sa s 46 f)) rfl (fun _ => rfl)
theorem ad_47 {s : nm_S} {i : Int32} {g : Int32 → Prop} : nm_b (nm_ald (rep s) 47 2 i) g ↔ vp_in i 4 ∧ g (ga s 47 i.toNatClampNeg) := nm_b_ald rfl
theorem as_47 {s : nm_S} {i x : Int32} {g : nm_W → Prop} : nm_b (nm_ast (rep s) 47 2 i x) g ↔ vp_in i 4 ∧ g (rep (sa s 47 (upd (ga s 47) i.toNatClampNeg x))) := nm_b_ast (W' := fun f => rep (sa s 47 f)) rfl (fun _ => rfl)
theorem ad_48 {s : nm_S} {i : Int32} {g : Int32 → Prop} : nm_b (nm_ald (rep s) 48 2 i) g ↔ vp_in i 10 ∧ g (ga s 48 i.toNatClampNeg) := nm_b_ald rfl
theorem as_48 {s : nm_S} {i x : Int32} {g : nm_W → Prop} : nm_b (nm_ast (rep s) 48 2 i x) g ↔ vp_in i 10 ∧ g (rep (sa s 48 (upd (ga s 48) i.toNatClampNeg x))) := nm_b_ast (W' := fun f => rep (sa s 48 f)) rfl (fun _ => rfl)
theorem ad_49 {s : nm_S} {i : Int32} {g : Int32 → Prop} : nm_b (nm_ald (rep s) 49 2 i) g ↔ vp_in i 10 ∧ g (ga s 49 i.toNatClampNeg) := nm_b_ald rfl
theorem as_49 {s : nm_S} {i x : Int32} {g : nm_W → Prop} : nm_b (nm_ast (rep s) 49 2 i x) g ↔ vp_in i 10 ∧ g (rep (sa s 49 (upd (ga s 49) i.toNatClampNeg x))) := nm_b_ast (W' := fun f => rep (sa s 49 f)) rfl (fun _ => rfl)
theorem ad_50 {s : nm_S} {i : Int32} {g : Int32 → Prop} : nm_b (nm_ald (rep s) 50 2 i) g ↔ vp_in i 4 ∧ g (ga s 50 i.toNatClampNeg) := nm_b_ald rfl
theorem as_50 {s : nm_S} {i x : Int32} {g : nm_W → Prop} : nm_b (nm_ast (rep s) 50 2 i x) g ↔ vp_in i 4 ∧ g (rep (sa s 50 (upd (ga s 50) i.toNatClampNeg x))) := nm_b_ast (W' := fun f => rep (sa s 50 f)) rfl (fun _ => rfl)
theorem ad_51 {s : nm_S} {i : Int32} {g : Int32 → Prop} : nm_b (nm_ald (rep s) 51 2 i) g ↔ vp_in i 4 ∧ g (ga s 51 i.toNatClampNeg) := nm_b_ald rfl
theorem as_51 {s : nm_S} {i x : Int32} {g : nm_W → Prop} : nm_b (nm_ast (rep s) 51 2 i x) g ↔ vp_in i 4 ∧ g (rep (sa s 51 (upd (ga s 51) i.toNatClampNeg x))) := nm_b_ast (W' := fun f => rep (sa s 51 f)) rfl (fun _ => rfl)
theorem ad_52 {s : nm_S} {i : Int32} {g : Int32 → Prop} : nm_b (nm_ald (rep s) 52 2 i) g ↔ vp_in i 60 ∧ g (ga s 52 i.toNatClampNeg) := nm_b_ald rfl
theorem as_52 {s : nm_S} {i x : Int32} {g : nm_W → Prop} : nm_b (nm_ast (rep s) 52 2 i x) g ↔ vp_in i 60 ∧ g (rep (sa s 52 (upd (ga s 52) i.toNatClampNeg x))) := nm_b_ast (W' := fun f => rep (sa s 52 f)) rfl (fun _ => rfl)
theorem ad_53 {s : nm_S} {i : Int32} {g : Int32 → Prop} : nm_b (nm_ald (rep s) 53 2 i) g ↔ vp_in i 60 ∧ g (ga s 53 i.toNatClampNeg) := nm_b_ald rfl
theorem as_53 {s : nm_S} {i x : Int32} {g : nm_W → Prop} : nm_b (nm_ast (rep s) 53 2 i x) g ↔ vp_in i 60 ∧ g (rep (sa s 53 (upd (ga s 53) i.toNatClampNeg x))) := nm_b_ast (W' := fun f => rep (sa s 53 f)) rfl (fun _ => rfl)
theorem ad_54 {s : nm_S} {i : Int32} {g : Int32 → Prop} : nm_b (nm_ald (rep s) 54 2 i) g ↔ vp_in i 60 ∧ g (ga s 54 i.toNatClampNeg) := nm_b_ald rfl
theorem as_54 {s : nm_S} {i x : Int32} {g : nm_W → Prop} : nm_b (nm_ast (rep s) 54 2 i x) g ↔ vp_in i 60 ∧ g (rep (sa s 54 (upd (ga s 54) i.toNatClampNeg x))) := nm_b_ast (W' := fun f => rep (sa s 54 f)) rfl (fun _ => rfl)
theorem ad_55 {s : nm_S} {i : Int32} {g : Int32 → Prop} : nm_b (nm_ald (rep s) 55 2 i) g ↔ vp_in i 10 ∧ g (ga s 55 i.toNatClampNeg) := nm_b_ald rfl
theorem as_55 {s : nm_S} {i x : Int32} {g : nm_W → Prop} : nm_b (nm_ast (rep s) 55 2 i x) g ↔ vp_in i 10 ∧ g (rep (sa s 55 (upd (ga s 55) i.toNatClampNeg x))) := nm_b_ast (W' := fun f => rep (sa s 55 f)) rfl (fun _ => rfl)
theorem ad_56 {s : nm_S} {i : Int32} {g : Int32 → Prop} : nm_b (nm_ald (rep s) 56 2 i) g ↔ vp_in i 10 ∧ g (ga s 56 i.toNatClampNeg) := nm_b_ald rfl
theorem as_56 {s : nm_S} {i x : Int32} {g : nm_W → Prop} : nm_b (nm_ast (rep s) 56 2 i x) g ↔ vp_in i 10 ∧ g (rep (sa s 56 (upd (ga s 56) i.toNatClampNeg x))) := nm_b_ast (W' := fun f => rep (sa s 56 f)) rfl (fun _ => rfl)
theorem ad_57 {s : nm_S} {i : Int32} {g : Int32 → Prop} : nm_b (nm_ald (rep s) 57 2 i) g ↔ vp_in i 10 ∧ g (ga s 57 i.toNatClampNeg) := nm_b_ald rfl
theorem as_57 {s : nm_S} {i x : Int32} {g : nm_W → Prop} : nm_b (nm_ast (rep s) 57 2 i x) g ↔ vp_in i 10 ∧ g (rep (sa s 57 (upd (ga s 57) i.toNatClampNeg x))) := nm_b_ast (W' := fun f => rep (sa s 57 f)) rfl (fun _ => rfl)
theorem ad_58 {s : nm_S} {i : Int32} {g : Int32 → Prop} : nm_b (nm_ald (rep s) 58 0 i) g ↔ vp_in i 10 ∧ g (ga s 58 i.toNatClampNeg) := nm_b_ald rfl
theorem as_58 {s : nm_S} {i x : Int32} {g : nm_W → Prop} : nm_b (nm_ast (rep s) 58 0 i x) g ↔ vp_in i 10 ∧ g (rep (sa s 58 (upd (ga s 58) i.toNatClampNeg (x &&& 1)))) := nm_b_ast (W' := fun f => rep (sa s 58 f)) rfl (fun _ => rfl)
theorem ad_59 {s : nm_S} {i : Int32} {g : Int32 → Prop} : nm_b (nm_ald (rep s) 59 2 i) g ↔ vp_in i 10 ∧ g (ga s 59 i.toNatClampNeg) := nm_b_ald rfl
theorem as_59 {s : nm_S} {i x : Int32} {g : nm_W → Prop} : nm_b (nm_ast (rep s) 59 2 i x) g ↔ vp_in i 10 ∧ g (rep (sa s 59 (upd (ga s 59) i.toNatClampNeg x))) := nm_b_ast (W' := fun f => rep (sa s 59 f)) rfl (fun _ => rfl)
theorem ad_60 {s : nm_S} {i : Int32} {g : Int32 → Prop} : nm_b (nm_ald (rep s) 60 2 i) g ↔ vp_in i 10 ∧ g (ga s 60 i.toNatClampNeg) := nm_b_ald rfl
theorem as_60 {s : nm_S} {i x : Int32} {g : nm_W → Prop} : nm_b (nm_ast (rep s) 60 2 i x) g ↔ vp_in i 10 ∧ g (rep (sa s 60 (upd (ga s 60) i.toNatClampNeg x))) := nm_b_ast (W' := fun f => rep (sa s 60 f)) rfl (fun _ => rfl)
theorem ad_61 {s : nm_S} {i : Int32} {g : Int32 → Prop} : nm_b (nm_ald (rep s) 61 0 i) g ↔ vp_in i 10 ∧ g (ga s 61 i.toNatClampNeg) := nm_b_ald rfl
theorem as_61 {s : nm_S} {i x : Int32} {g : nm_W → Prop} : nm_b (nm_ast (rep s) 61 0 i x) g ↔ vp_in i 10 ∧ g (rep (sa s 61 (upd (ga s 61) i.toNatClampNeg (x &&& 1)))) := nm_b_ast (W' := fun f => rep (sa s 61 f)) rfl (fun _ => rfl)
theorem ad_62 {s : nm_S} {i : Int32} {g : Int32 → Prop} : nm_b (nm_ald (rep s) 62 2 i) g ↔ vp_in i 10 ∧ g (ga s 62 i.toNatClampNeg) := nm_b_ald rfl
theorem as_62 {s : nm_S} {i x : Int32} {g : nm_W → Prop} : nm_b (nm_ast (rep s) 62 2 i x) g ↔ vp_in i 10 ∧ g (rep (sa s 62 (upd (ga s 62) i.toNatClampNeg x))) := nm_b_ast (W' := fun f => rep (sa s 62 f)) rfl (fun _ => rfl)
theorem ad_63 {s : nm_S} {i : Int32} {g : Int32 → Prop} : nm_b (nm_ald (rep s) 63 2 i) g ↔ vp_in i 10 ∧ g (ga s 63 i.toNatClampNeg) := nm_b_ald rfl
theorem as_63 {s : nm_S} {i x : Int32} {g : nm_W → Prop} : nm_b (nm_ast (rep s) 63 2 i x) g ↔ vp_in i 10 ∧ g (rep (sa s 63 (upd (ga s 63) i.toNatClampNeg x))) := nm_b_ast (W' := fun f => rep (sa s 63 f)) rfl (fun _ => rfl)
theorem ad_64 {s : nm_S} {i : Int32} {g : Int32 → Prop} : nm_b (nm_ald (rep s) 64 0 i) g ↔ vp_in i 100 ∧ g (ga s 64 i.toNatClampNeg) := nm_b_ald rfl
theorem as_64 {s : nm_S} {i x : Int32} {g : nm_W → Prop} : nm_b (nm_ast (rep s) 64 0 i x) g ↔ vp_in i 100 ∧ g (rep (sa s 64 (upd (ga s 64) i.toNatClampNeg (x &&& 1)))) := nm_b_ast (W' := fun f => rep (sa s 64 f)) rfl (fun _ => rfl)
theorem ad_65 {s : nm_S} {i : Int32} {g : Int32 → Prop} : nm_b (nm_ald (rep s) 65 2 i) g ↔ vp_in i 100 ∧ g (ga s 65 i.toNatClampNeg) := nm_b_ald rfl
theorem as_65 {s : nm_S} {i x : Int32} {g : nm_W → Prop} : nm_b (nm_ast (rep s) 65 2 i x) g ↔ vp_in i 100 ∧ g (rep (sa s 65 (upd (ga s 65) i.toNatClampNeg x))) := nm_b_ast (W' := fun f => rep (sa s 65 f)) rfl (fun _ => rfl)
theorem ad_66 {s : nm_S} {i : Int32} {g : Int32 → Prop} : nm_b (nm_ald (rep s) 66 2 i) g ↔ vp_in i 240 ∧ g (ga s 66 i.toNatClampNeg) := nm_b_ald rfl
theorem as_66 {s : nm_S} {i x : Int32} {g : nm_W → Prop} : nm_b (nm_ast (rep s) 66 2 i x) g ↔ vp_in i 240 ∧ g (rep (sa s 66 (upd (ga s 66) i.toNatClampNeg x))) := nm_b_ast (W' := fun f => rep (sa s 66 f)) rfl (fun _ => rfl)
theorem ad_67 {s : nm_S} {i : Int32} {g : Int32 → Prop} : nm_b (nm_ald (rep s) 67 2 i) g ↔ vp_in i 240 ∧ g (ga s 67 i.toNatClampNeg) := nm_b_ald rfl
theorem as_67 {s : nm_S} {i x : Int32} {g : nm_W → Prop} : nm_b (nm_ast (rep s) 67 2 i x) g ↔ vp_in i 240 ∧ g (rep (sa s 67 (upd (ga s 67) i.toNatClampNeg x))) := nm_b_ast (W' := fun f => rep (sa s 67 f)) rfl (fun _ => rfl)
theorem ad_68 {s : nm_S} {i : Int32} {g : Int32 → Prop} : nm_b (nm_ald (rep s) 68 0 i) g ↔ vp_in i 120 ∧ g (ga s 68 i.toNatClampNeg) := nm_b_ald rfl
theorem as_68 {s : nm_S} {i x : Int32} {g : nm_W → Prop} : nm_b (nm_ast (rep s) 68 0 i x) g ↔ vp_in i 120 ∧ g (rep (sa s 68 (upd (ga s 68) i.toNatClampNeg (x &&& 1)))) := nm_b_ast (W' := fun f => rep (sa s 68 f)) rfl (fun _ => rfl)
