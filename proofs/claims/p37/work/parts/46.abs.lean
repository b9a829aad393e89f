/-! the abstract state and its steps -/
/-- what both sides stand for: the numbers, the towns ahead of the latest changes, the snapshot, the text, its error, the latest refusal -/
abbrev AS : Type := NA × List NA × Option NA × Nat × NA × Int32 × (Int32 × Int32)
def CA (c : CC) (A : AS) : Prop := CR c A.1 A.2.1 A.2.2.1 A.2.2.2.1 A.2.2.2.2.1 A.2.2.2.2.2.1 A.2.2.2.2.2.2
/-- code, answer and what stands behind: of a change, of a question -/
def stepC (A : AS) (r : OR) (n : Nat) : Nat × Int32 × AS := match r with
  | .inl q => (0, q.1, (q.2, (A.1 :: A.2.1).take 8, A.2.2))
  | .inr (.inl q) => (n, nI 0, (A.1, A.2.1, A.2.2.1, A.2.2.2.1, A.2.2.2.2.1, A.2.2.2.2.2.1, q))
  | .inr (.inr k) => (k, nI 0, A)
def stepQ (A : AS) (q : QR) : Nat × Int32 × AS := match q with
  | .inl v => (0, v, A)
  | .inr k => (k, nI 0, A)
/-- a refusal's reason is above 0; another exception is the first or the second -/
def OK2 (r : OR) : Prop := (∀ q, r = .inr (.inl q) → 0 < q.1) ∧ (∀ k, r = .inr (.inr k) → k = 1 ∨ k = 2)
theorem OK2.a {q : Int32 × NA} : OK2 (.inl q) := ⟨fun q h => (by cases h), fun q h => (by cases h)⟩
theorem OK2.b {x y : Int32} (h : 0 < x) : OK2 (.inr (.inl (x, y))) := ⟨fun q e => (by cases e; exact h), fun q e => (by cases e)⟩
theorem OK2.c {k : Nat} (h : k = 1 ∨ k = 2) : OK2 (.inr (.inr k)) := ⟨fun q e => (by cases e), fun q e => (by cases e; exact h)⟩
theorem o2_ring (N : NA) (x : Int32) : OK2 (S_ring N x) := by
  unfold S_ring
  repeat' split
  all_goals first | exact OK2.a | exact OK2.b (by decide) | exact OK2.c (by decide)
theorem o2_gas (N : NA) (x : Int32) : OK2 (S_gas N x) := by
  unfold S_gas
  repeat' split
  all_goals first | exact OK2.a | exact OK2.b (by decide) | exact OK2.c (by decide)
theorem o2_balloon (N : NA) (x : Int32) : OK2 (S_balloon N x) := by
  unfold S_balloon
  repeat' split
  all_goals first | exact OK2.a | exact OK2.b (by decide) | exact OK2.c (by decide)
theorem o2_courier (N : NA) (x y : Int32) : OK2 (S_courier N x y) := by
  unfold S_courier
  repeat' split
  all_goals first | exact OK2.a | exact OK2.b (by decide) | exact OK2.c (by decide)
theorem o2_letter (N : NA) (x y : Int32) : OK2 (S_letter N x y) := by
  unfold S_letter
  repeat' split
  all_goals first | exact OK2.a | exact OK2.b (by decide) | exact OK2.c (by decide)
theorem o2_loadAll (N : NA) (x : Int32) : OK2 (S_loadAll N x) := by
  unfold S_loadAll
  repeat' split
  all_goals first | exact OK2.a | exact OK2.b (by decide) | exact OK2.c (by decide)
theorem o2_blows (N : NA) (x y z : Int32) : OK2 (S_blows N x y z) := by
  unfold S_blows
  repeat' split
  all_goals first | exact OK2.a | exact OK2.b (by decide) | exact OK2.c (by decide)
theorem o2_fills (N : NA) (x y : Int32) : OK2 (S_fills N x y) := by
  unfold S_fills
  repeat' split
  all_goals first | exact OK2.a | exact OK2.b (by decide) | exact OK2.c (by decide)
theorem o2_lays (N : NA) (x y : Int32) : OK2 (S_lays N x y) := by
  unfold S_lays
  repeat' split
  all_goals first | exact OK2.a | exact OK2.b (by decide) | exact OK2.c (by decide)
theorem o2_drops (N : NA) (x y : Int32) : OK2 (S_drops N x y) := by
  unfold S_drops
  repeat' split
  all_goals first | exact OK2.a | exact OK2.b (by decide) | exact OK2.c (by decide)
theorem o2_loads (N : NA) (x y : Int32) : OK2 (S_loads N x y) := by
  unfold S_loads
  repeat' split
  all_goals first | exact OK2.a | exact OK2.b (by decide) | exact OK2.c (by decide)
theorem o2_launches (N : NA) (x : Int32) : OK2 (S_launches N x) := by
  unfold S_launches
  repeat' split
  all_goals first | exact OK2.a | exact OK2.b (by decide) | exact OK2.c (by decide)
theorem o2_passes (N : NA) (x : Int32) : OK2 (S_passes N x) := by
  unfold S_passes
  repeat' split
  all_goals first | exact OK2.a | exact OK2.b (by decide) | exact OK2.c (by decide)
/-- bestDrop's third way out is its second exception -/
def stepB (A : AS) (q : QR) : Nat × Int32 × AS := match q with
  | .inl v => (0, v, A)
  | .inr 3 => (2, nI 0, A)
  | .inr k => (k, nI 0, A)
def stepU (A : AS) : Nat × Int32 × AS := match A.2.1 with
  | [] => (1, nI 0, A)
  | S :: r => (0, nI r.length, (S, r, A.2.2))
def stepR (A : AS) : Nat × Int32 × AS := match A.2.2.1 with
  | none => (1, nI 0, A)
  | some S => (0, S 3, (S, [], A.2.2))
def stepS (A : AS) : Nat × Int32 × AS := (0, A.1 3, (A.1, A.2.1, some A.1, A.2.2.2))
def stepA (A : AS) (x : Int32) : Nat × Int32 × AS := if A.2.2.2.1 = 60 then (1, nI 0, A) else (0, nI (A.2.2.2.1 + 1), (A.1, A.2.1, A.2.2.1, A.2.2.2.1 + 1, upN A.2.2.2.2.1 A.2.2.2.1 x, A.2.2.2.2.2))
def stepD (A : AS) : Nat × Int32 × AS := match (pSeq A.2.2.2.2.1 A.2.2.2.1 20 0).2 with
  | none => (1, nI 0, (A.1, A.2.1, A.2.2.1, 0, A.2.2.2.2.1, nI (pSeq A.2.2.2.2.1 A.2.2.2.1 20 0).1, A.2.2.2.2.2.2))
  | some os => match exL A.1 os with
    | .inl M => (0, nI os.length, (M, (A.1 :: A.2.1).take 8, A.2.2.1, 0, A.2.2.2.2.1, (-1 : Int32), A.2.2.2.2.2.2))
    | .inr (.inl q) => (2, nI 0, (A.1, A.2.1, A.2.2.1, 0, A.2.2.2.2.1, (-1 : Int32), q))
    | .inr (.inr _) => (1, nI 0, (A.1, A.2.1, A.2.2.1, 0, A.2.2.2.2.1, (-1 : Int32), A.2.2.2.2.2.2))
theorem CA.frame {c c' : CC} {A : AS} (H : CA c A) (hk : ∀ a k, a ≠ 388 → a < 395 → c' a k = c a k) : CA c' A := by
  obtain ⟨h1, h2, h3, h4, h5, h6, h7, h8, h9, h10⟩ := H
  have fc : ∀ a, a ≠ 388 → a < 395 → c' a = c a := fun a p q => funext fun k => hk a k p q
  exact ⟨h1, h2.frame h1.cn.1 h1.cn.2.2.1 (fun a p q k _ => hk a k (by omega) (by omega)), h3.frame (fun a k p q => hk a k (by omega) (by omega)), by
    cases hs : A.2.2.1 with
    | none =>
      rw [hs] at h4
      exact (hk 0 5 (by decide) (by decide)).trans h4
    | some S =>
      rw [hs] at h4
      obtain ⟨q1, q2, q3⟩ := h4
      exact ⟨(hk 0 5 (by decide) (by decide)).trans q1, q2, q3.frame q2.cn.1 q2.cn.2.2.1 (fun a p q k _ => hk a k (by omega) (by omega))⟩, h5, (hk _ _ (by decide) (by decide)).trans h6, (fc _ (by decide) (by decide)).trans h7, (hk _ _ (by decide) (by decide)).trans h8, (hk _ _ (by decide) (by decide)).trans h9, (hk _ _ (by decide) (by decide)).trans h10⟩
