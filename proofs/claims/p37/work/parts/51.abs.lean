/-! the helpers of the law against the abstract state -/
/-- the int that a helper answers -/
def hvS (st : Nat × Int32 × AS) : Int32 := match st.1 with
  | 0 => st.2.1
  | j + 1 => cdI j
/-- behind a helper: answer, state -/
def HP (od : Int64 × UInt64) (st : Nat × Int32 × AS) (k : Int32) (σ' : SS) : Prop := ∃ c', σ' = (c', od) ∧ CA c' st.2.2 ∧ k = hvS st
theorem HP.s {od : Int64 × UInt64} {st : Nat × Int32 × AS} {c' : CC} {j : Nat} (H : CA c' st.2.2) (h : st.1 = j + 1) : HP od st (cdI j) (c', od) := ⟨c', rfl, H, by unfold hvS; rw [h]⟩
theorem HP.z {od : Int64 × UInt64} {st : Nat × Int32 × AS} {c' : CC} {r : Int32} (H : CA c' st.2.2) (h : st.1 = 0) (e : r = st.2.1) : HP od st r (c', od) := ⟨c', rfl, H, by unfold hvS; rw [h, e]⟩
theorem idx_eq {l : List String} {i j : Nat} {E : String} (hn : l.Nodup) (h1 : l[j]? = some E) (h2 : l[i]? = some E) : j = i :=
  (List.getElem?_inj (List.getElem?_eq_some_iff.mp h1).1 hn).mp (h1.trans h2.symm)
theorem HP.ofCO {M : MT} {as : List Value} {c : CC} {od : Int64 × UInt64} {A : AS} {l : List String} {ec : Nat → Int32} {r : OR} {n : Nat} (hn : l.Nodup) (h1 : ∀ q, r = .inr (.inl q) → ∃ i, n = i + 1 ∧ l[i]? = some uoE) (h2 : ∀ k, r = .inr (.inr k) → ∃ i, k = i + 1 ∧ l[i]? = some (exE (ec k)))
    (h : CM M as (c, od) (HQ l (CO c od A.1 A.2.1 A.2.2.1 A.2.2.2.1 A.2.2.2.2.1 A.2.2.2.2.2.1 A.2.2.2.2.2.2 ec r))) : CM M as (c, od) (PI (HP od (stepC A r n))) :=
  CM.mono h (fun o s q => by
    obtain ⟨k, rfl, q⟩ := q
    refine ⟨k, rfl, ?_⟩
    rcases q with ⟨c', rfl, f, q⟩ | ⟨E, j, ⟨c', rfl, f, q⟩, hj, rfl⟩
    · rcases r with q0 | q0 | k0
      · obtain ⟨e, H⟩ := q
        cases e
        exact HP.z H rfl rfl
      · exact absurd q.1 (fun z => by cases z)
      · exact absurd q.1 (fun z => by cases z)
    · rcases r with q0 | q0 | k0
      · exact absurd q.1 (fun z => by cases z)
      · obtain ⟨e, H⟩ := q
        obtain ⟨i, rfl, hi⟩ := h1 _ rfl
        have e := Sum.inr.inj e
        rw [e] at hj
        rw [idx_eq hn hj hi]
        exact HP.s H rfl
      · obtain ⟨e, H⟩ := q
        obtain ⟨i, hk, hi⟩ := h2 _ rfl
        have e := Sum.inr.inj e
        rw [e] at hj
        rw [idx_eq hn hj hi]
        exact HP.s H hk)
theorem HP.ofQX {M : MT} {as : List Value} {c : CC} {od : Int64 × UInt64} {A : AS} (H : CA c A) {l : List String} {ex : Nat → String} {r : QR} (hn : l.Nodup) (h2 : ∀ k, r = .inr k → ∃ i, k = i + 1 ∧ l[i]? = some (ex k))
    (h : CM M as (c, od) (HQ l (QX c od ex r))) : CM M as (c, od) (PI (HP od (stepQ A r))) :=
  CM.mono h (fun o s q => by
    obtain ⟨k, rfl, q⟩ := q
    refine ⟨k, rfl, ?_⟩
    rcases q with ⟨c', rfl, f, q⟩ | ⟨E, j, ⟨c', rfl, f, q⟩, hj, rfl⟩
    · rcases r with v | k0
      · cases q
        exact HP.z (H.frame (fun a k p _ => f a k p)) rfl rfl
      · cases q
    · rcases r with v | k0
      · cases q
      · obtain ⟨i, hk, hi⟩ := h2 _ rfl
        have e := Sum.inr.inj q
        rw [e] at hj
        rw [idx_eq hn hj hi]
        exact HP.s (H.frame (fun a k p _ => f a k p)) hk)
theorem HP.ofQB {M : MT} {as : List Value} {c : CC} {od : Int64 × UInt64} {A : AS} (H : CA c A) {r : QR} (h2 : ∀ k, r = .inr k → k = 1 ∨ k = 2 ∨ k = 3)
    (h : CM M as (c, od) (HQ [ioE, nsE] (QX c od (ex3 ioE nsE nsE) r))) : CM M as (c, od) (PI (HP od (stepB A r))) :=
  CM.mono h (fun o s q => by
    obtain ⟨k, rfl, q⟩ := q
    refine ⟨k, rfl, ?_⟩
    rcases q with ⟨c', rfl, f, q⟩ | ⟨E, j, ⟨c', rfl, f, q⟩, hj, rfl⟩
    · rcases r with v | k0
      · cases q
        exact HP.z (H.frame (fun a k p _ => f a k p)) rfl rfl
      · cases q
    · rcases r with v | k0
      · cases q
      · have e := Sum.inr.inj q
        rw [e] at hj
        rcases h2 _ rfl with rfl | rfl | rfl
        · rw [idx_eq (i := 0) (by decide +kernel) hj rfl]
          exact HP.s (st := stepB A (.inr 1)) (H.frame (fun a k p _ => f a k p)) rfl
        · rw [idx_eq (i := 1) (by decide +kernel) hj rfl]
          exact HP.s (st := stepB A (.inr 2)) (H.frame (fun a k p _ => f a k p)) rfl
        · rw [idx_eq (i := 1) (by decide +kernel) hj rfl]
          exact HP.s (st := stepB A (.inr 3)) (H.frame (fun a k p _ => f a k p)) rfl)
theorem CO_I {c : CC} {od : Int64 × UInt64} {N : NA} {h : List NA} {s : Option NA} {n : Nat} {t : NA} {e : Int32} {w : Int32 × Int32} {ec : Nat → Int32} {r : OR} : isI (CO c od N h s n t e w ec r) := by
  intro v σ1 q
  obtain ⟨c', -, -, q⟩ := q
  rcases r with q0 | q0 | k0
  · exact ⟨_, Sum.inl.inj q.1⟩
  · exact absurd q.1 (fun z => by cases z)
  · exact absurd q.1 (fun z => by cases z)
theorem CO_X {c : CC} {od : Int64 × UInt64} {N : NA} {h : List NA} {s : Option NA} {n : Nat} {t : NA} {e : Int32} {w : Int32 × Int32} {ec : Nat → Int32} {r : OR} {l : List String} (h1 : ∀ q, r = .inr (.inl q) → uoE ∈ l) (h2 : ∀ k, r = .inr (.inr k) → exE (ec k) ∈ l) : isX l (CO c od N h s n t e w ec r) := by
  intro E σ1 q
  obtain ⟨c', -, -, q⟩ := q
  rcases r with q0 | q0 | k0
  · exact absurd q.1 (fun z => by cases z)
  · rw [Sum.inr.inj q.1]
    exact h1 _ rfl
  · rw [Sum.inr.inj q.1]
    exact h2 _ rfl
theorem QX_I {c : CC} {od : Int64 × UInt64} {ex : Nat → String} {r : QR} : isI (QX c od ex r) := by
  intro v σ1 q
  obtain ⟨c', -, -, q⟩ := q
  rcases r with q0 | k0
  · exact ⟨_, Sum.inl.inj q⟩
  · cases q
theorem QX_X {c : CC} {od : Int64 × UInt64} {ex : Nat → String} {r : QR} {l : List String} (h2 : ∀ k, r = .inr k → ex k ∈ l) : isX l (QX c od ex r) := by
  intro E σ1 q
  obtain ⟨c', -, -, q⟩ := q
  rcases r with q0 | k0
  · cases q
  · rw [Sum.inr.inj q]
    exact h2 _ rfl
theorem x_ring (c : CC) (od : Int64 × UInt64) (A : AS) (H : CA c A) (x : Int32) : CM mL_ring [.ref 0, .int x] (c, od) (PI (HP od (stepC A (S_ring A.1 x) 1))) :=
  HP.ofCO (l := [iaE]) (ec := eB) (by decide +kernel) (fun q => by
    unfold S_ring
    repeat' split
    all_goals first | (intro e; cases e; done) | (intro _; exact ⟨0, rfl, rfl⟩)) (fun k => by
    unfold S_ring
    repeat' split
    all_goals first | (intro e; cases e; done) | (intro e; cases e; exact ⟨_, rfl, rfl⟩)) (h_ring _ _ x (p_ring c od A.1 A.2.1 A.2.2.1 A.2.2.2.1 A.2.2.2.2.1 A.2.2.2.2.2.1 A.2.2.2.2.2.2 H x) CO_I (CO_X (fun q => by
    unfold S_ring
    repeat' split
    all_goals first | (intro e; cases e; done) | (intro _; decide +kernel)) (fun k => by
    unfold S_ring
    repeat' split
    all_goals first | (intro e; cases e; done) | (intro e; cases e; decide +kernel))))
theorem x_wind (c : CC) (od : Int64 × UInt64) (A : AS) (H : CA c A) (x y z : Int32) : CM mL_wind [.ref 0, .int x, .int y, .int z] (c, od) (PI (HP od (stepC A (S_blows A.1 x y z) 3))) :=
  HP.ofCO (l := [ioE, iaE]) (ec := eA) (by decide +kernel) (fun q => by
    unfold S_blows
    repeat' split
    all_goals first | (intro e; cases e; done) | (intro _; exact ⟨0, rfl, rfl⟩)) (fun k => by
    unfold S_blows
    repeat' split
    all_goals first | (intro e; cases e; done) | (intro e; cases e; exact ⟨_, rfl, rfl⟩)) (h_wind _ _ x y z (p_wind c od A.1 A.2.1 A.2.2.1 A.2.2.2.1 A.2.2.2.2.1 A.2.2.2.2.2.1 A.2.2.2.2.2.2 H x y z) CO_I (CO_X (fun q => by
    unfold S_blows
    repeat' split
    all_goals first | (intro e; cases e; done) | (intro _; decide +kernel)) (fun k => by
    unfold S_blows
    repeat' split
    all_goals first | (intro e; cases e; done) | (intro e; cases e; decide +kernel))))
theorem x_gas (c : CC) (od : Int64 × UInt64) (A : AS) (H : CA c A) (x : Int32) : CM mL_gas [.ref 0, .int x] (c, od) (PI (HP od (stepC A (S_gas A.1 x) 1))) :=
  HP.ofCO (l := [iaE]) (ec := eB) (by decide +kernel) (fun q => by
    unfold S_gas
    repeat' split
    all_goals first | (intro e; cases e; done) | (intro _; exact ⟨0, rfl, rfl⟩)) (fun k => by
    unfold S_gas
    repeat' split
    all_goals first | (intro e; cases e; done) | (intro e; cases e; exact ⟨_, rfl, rfl⟩)) (h_gas _ _ x (p_gas c od A.1 A.2.1 A.2.2.1 A.2.2.2.1 A.2.2.2.2.1 A.2.2.2.2.2.1 A.2.2.2.2.2.2 H x) CO_I (CO_X (fun q => by
    unfold S_gas
    repeat' split
    all_goals first | (intro e; cases e; done) | (intro _; decide +kernel)) (fun k => by
    unfold S_gas
    repeat' split
    all_goals first | (intro e; cases e; done) | (intro e; cases e; decide +kernel))))
theorem x_balloon (c : CC) (od : Int64 × UInt64) (A : AS) (H : CA c A) (x : Int32) : CM mL_balloon [.ref 0, .int x] (c, od) (PI (HP od (stepC A (S_balloon A.1 x) 2))) :=
  HP.ofCO (l := [iaE, uoE]) (ec := eB) (by decide +kernel) (fun q => by
    unfold S_balloon
    repeat' split
    all_goals first | (intro e; cases e; done) | (intro _; exact ⟨1, rfl, rfl⟩)) (fun k => by
    unfold S_balloon
    repeat' split
    all_goals first | (intro e; cases e; done) | (intro e; cases e; exact ⟨_, rfl, rfl⟩)) (h_balloon _ _ x (p_balloon c od A.1 A.2.1 A.2.2.1 A.2.2.2.1 A.2.2.2.2.1 A.2.2.2.2.2.1 A.2.2.2.2.2.2 H x) CO_I (CO_X (fun q => by
    unfold S_balloon
    repeat' split
    all_goals first | (intro e; cases e; done) | (intro _; decide +kernel)) (fun k => by
    unfold S_balloon
    repeat' split
    all_goals first | (intro e; cases e; done) | (intro e; cases e; decide +kernel))))
theorem x_fill (c : CC) (od : Int64 × UInt64) (A : AS) (H : CA c A) (x y : Int32) : CM mL_fill [.ref 0, .int x, .int y] (c, od) (PI (HP od (stepC A (S_fills A.1 x y) 3))) :=
  HP.ofCO (l := [ioE, iaE, uoE]) (ec := eA) (by decide +kernel) (fun q => by
    unfold S_fills
    repeat' split
    all_goals first | (intro e; cases e; done) | (intro _; exact ⟨2, rfl, rfl⟩)) (fun k => by
    unfold S_fills
    repeat' split
    all_goals first | (intro e; cases e; done) | (intro e; cases e; exact ⟨_, rfl, rfl⟩)) (h_fill _ _ x y (p_fill c od A.1 A.2.1 A.2.2.1 A.2.2.2.1 A.2.2.2.2.1 A.2.2.2.2.2.1 A.2.2.2.2.2.2 H x y) CO_I (CO_X (fun q => by
    unfold S_fills
    repeat' split
    all_goals first | (intro e; cases e; done) | (intro _; decide +kernel)) (fun k => by
    unfold S_fills
    repeat' split
    all_goals first | (intro e; cases e; done) | (intro e; cases e; decide +kernel))))
theorem x_ballast (c : CC) (od : Int64 × UInt64) (A : AS) (H : CA c A) (x y : Int32) : CM mL_ballast [.ref 0, .int x, .int y] (c, od) (PI (HP od (stepC A (S_lays A.1 x y) 3))) :=
  HP.ofCO (l := [ioE, iaE, uoE]) (ec := eA) (by decide +kernel) (fun q => by
    unfold S_lays
    repeat' split
    all_goals first | (intro e; cases e; done) | (intro _; exact ⟨2, rfl, rfl⟩)) (fun k => by
    unfold S_lays
    repeat' split
    all_goals first | (intro e; cases e; done) | (intro e; cases e; exact ⟨_, rfl, rfl⟩)) (h_ballast _ _ x y (p_ballast c od A.1 A.2.1 A.2.2.1 A.2.2.2.1 A.2.2.2.2.1 A.2.2.2.2.2.1 A.2.2.2.2.2.2 H x y) CO_I (CO_X (fun q => by
    unfold S_lays
    repeat' split
    all_goals first | (intro e; cases e; done) | (intro _; decide +kernel)) (fun k => by
    unfold S_lays
    repeat' split
    all_goals first | (intro e; cases e; done) | (intro e; cases e; decide +kernel))))
theorem x_courier (c : CC) (od : Int64 × UInt64) (A : AS) (H : CA c A) (x y : Int32) : CM mL_courier [.ref 0, .int x, .int y] (c, od) (PI (HP od (stepC A (S_courier A.1 x y) 3))) :=
  HP.ofCO (l := [ioE, iaE, uoE]) (ec := eA) (by decide +kernel) (fun q => by
    unfold S_courier
    repeat' split
    all_goals first | (intro e; cases e; done) | (intro _; exact ⟨2, rfl, rfl⟩)) (fun k => by
    unfold S_courier
    repeat' split
    all_goals first | (intro e; cases e; done) | (intro e; cases e; exact ⟨_, rfl, rfl⟩)) (h_courier _ _ x y (p_courier c od A.1 A.2.1 A.2.2.1 A.2.2.2.1 A.2.2.2.2.1 A.2.2.2.2.2.1 A.2.2.2.2.2.2 H x y) CO_I (CO_X (fun q => by
    unfold S_courier
    repeat' split
    all_goals first | (intro e; cases e; done) | (intro _; decide +kernel)) (fun k => by
    unfold S_courier
    repeat' split
    all_goals first | (intro e; cases e; done) | (intro e; cases e; decide +kernel))))
theorem x_letter (c : CC) (od : Int64 × UInt64) (A : AS) (H : CA c A) (x y : Int32) : CM mL_letter [.ref 0, .int x, .int y] (c, od) (PI (HP od (stepC A (S_letter A.1 x y) 2))) :=
  HP.ofCO (l := [iaE, uoE]) (ec := eB) (by decide +kernel) (fun q => by
    unfold S_letter
    repeat' split
    all_goals first | (intro e; cases e; done) | (intro _; exact ⟨1, rfl, rfl⟩)) (fun k => by
    unfold S_letter
    repeat' split
    all_goals first | (intro e; cases e; done) | (intro e; cases e; exact ⟨_, rfl, rfl⟩)) (h_letter _ _ x y (p_letter c od A.1 A.2.1 A.2.2.1 A.2.2.2.1 A.2.2.2.2.1 A.2.2.2.2.2.1 A.2.2.2.2.2.2 H x y) CO_I (CO_X (fun q => by
    unfold S_letter
    repeat' split
    all_goals first | (intro e; cases e; done) | (intro _; decide +kernel)) (fun k => by
    unfold S_letter
    repeat' split
    all_goals first | (intro e; cases e; done) | (intro e; cases e; decide +kernel))))
theorem x_load (c : CC) (od : Int64 × UInt64) (A : AS) (H : CA c A) (x y : Int32) : CM mL_load [.ref 0, .int x, .int y] (c, od) (PI (HP od (stepC A (S_loads A.1 x y) 2))) :=
  HP.ofCO (l := [ioE, uoE]) (ec := eC) (by decide +kernel) (fun q => by
    unfold S_loads
    repeat' split
    all_goals first | (intro e; cases e; done) | (intro _; exact ⟨1, rfl, rfl⟩)) (fun k => by
    unfold S_loads
    repeat' split
    all_goals first | (intro e; cases e; done) | (intro e; cases e; exact ⟨_, rfl, rfl⟩)) (h_load _ _ x y (p_load c od A.1 A.2.1 A.2.2.1 A.2.2.2.1 A.2.2.2.2.1 A.2.2.2.2.2.1 A.2.2.2.2.2.2 H x y) CO_I (CO_X (fun q => by
    unfold S_loads
    repeat' split
    all_goals first | (intro e; cases e; done) | (intro _; decide +kernel)) (fun k => by
    unfold S_loads
    repeat' split
    all_goals first | (intro e; cases e; done) | (intro e; cases e; decide +kernel))))
theorem x_loadAll (c : CC) (od : Int64 × UInt64) (A : AS) (H : CA c A) (x : Int32) : CM mL_loadAll [.ref 0, .int x] (c, od) (PI (HP od (stepC A (S_loadAll A.1 x) 2))) :=
  HP.ofCO (l := [ioE, uoE]) (ec := eC) (by decide +kernel) (fun q => by
    unfold S_loadAll
    repeat' split
    all_goals first | (intro e; cases e; done) | (intro _; exact ⟨1, rfl, rfl⟩)) (fun k => by
    unfold S_loadAll
    repeat' split
    all_goals first | (intro e; cases e; done) | (intro e; cases e; exact ⟨_, rfl, rfl⟩)) (h_loadAll _ _ x (p_loadAll c od A.1 A.2.1 A.2.2.1 A.2.2.2.1 A.2.2.2.2.1 A.2.2.2.2.2.1 A.2.2.2.2.2.2 H x) CO_I (CO_X (fun q => by
    unfold S_loadAll
    repeat' split
    all_goals first | (intro e; cases e; done) | (intro _; decide +kernel)) (fun k => by
    unfold S_loadAll
    repeat' split
    all_goals first | (intro e; cases e; done) | (intro e; cases e; decide +kernel))))
theorem x_launch (c : CC) (od : Int64 × UInt64) (A : AS) (H : CA c A) (x : Int32) : CM mL_launch [.ref 0, .int x] (c, od) (PI (HP od (stepC A (S_launches A.1 x) 2))) :=
  HP.ofCO (l := [ioE, uoE]) (ec := eC) (by decide +kernel) (fun q => by
    unfold S_launches
    repeat' split
    all_goals first | (intro e; cases e; done) | (intro _; exact ⟨1, rfl, rfl⟩)) (fun k => by
    unfold S_launches
    repeat' split
    all_goals first | (intro e; cases e; done) | (intro e; cases e; exact ⟨_, rfl, rfl⟩)) (h_launch _ _ x (p_launch c od A.1 A.2.1 A.2.2.1 A.2.2.2.1 A.2.2.2.2.1 A.2.2.2.2.2.1 A.2.2.2.2.2.2 H x) CO_I (CO_X (fun q => by
    unfold S_launches
    repeat' split
    all_goals first | (intro e; cases e; done) | (intro _; decide +kernel)) (fun k => by
    unfold S_launches
    repeat' split
    all_goals first | (intro e; cases e; done) | (intro e; cases e; decide +kernel))))
theorem x_drop (c : CC) (od : Int64 × UInt64) (A : AS) (H : CA c A) (x y : Int32) : CM mL_drop [.ref 0, .int x, .int y] (c, od) (PI (HP od (stepC A (S_drops A.1 x y) 3))) :=
  HP.ofCO (l := [ioE, iaE, uoE]) (ec := eA) (by decide +kernel) (fun q => by
    unfold S_drops
    repeat' split
    all_goals first | (intro e; cases e; done) | (intro _; exact ⟨2, rfl, rfl⟩)) (fun k => by
    unfold S_drops
    repeat' split
    all_goals first | (intro e; cases e; done) | (intro e; cases e; exact ⟨_, rfl, rfl⟩)) (h_drop _ _ x y (p_drop c od A.1 A.2.1 A.2.2.1 A.2.2.2.1 A.2.2.2.2.1 A.2.2.2.2.2.1 A.2.2.2.2.2.2 H x y) CO_I (CO_X (fun q => by
    unfold S_drops
    repeat' split
    all_goals first | (intro e; cases e; done) | (intro _; decide +kernel)) (fun k => by
    unfold S_drops
    repeat' split
    all_goals first | (intro e; cases e; done) | (intro e; cases e; decide +kernel))))
theorem x_pass (c : CC) (od : Int64 × UInt64) (A : AS) (H : CA c A) (x : Int32) : CM mL_pass [.ref 0, .int x] (c, od) (PI (HP od (stepC A (S_passes A.1 x) 1))) :=
  HP.ofCO (l := [iaE]) (ec := eB) (by decide +kernel) (fun q => by
    unfold S_passes
    repeat' split
    all_goals first | (intro e; cases e; done) | (intro _; exact ⟨0, rfl, rfl⟩)) (fun k => by
    unfold S_passes
    repeat' split
    all_goals first | (intro e; cases e; done) | (intro e; cases e; exact ⟨_, rfl, rfl⟩)) (h_pass _ _ x (p_pass c od A.1 A.2.1 A.2.2.1 A.2.2.2.1 A.2.2.2.2.1 A.2.2.2.2.2.1 A.2.2.2.2.2.2 H x) CO_I (CO_X (fun q => by
    unfold S_passes
    repeat' split
    all_goals first | (intro e; cases e; done) | (intro _; decide +kernel)) (fun k => by
    unfold S_passes
    repeat' split
    all_goals first | (intro e; cases e; done) | (intro e; cases e; decide +kernel))))
theorem x_balloonOf (c : CC) (od : Int64 × UInt64) (A : AS) (H : CA c A) (x y : Int32) : CM mL_balloonOf [.ref 0, .int x, .int y] (c, od) (PI (HP od (stepQ A (Q_balloonOf A.1 x y)))) :=
  HP.ofQX (l := [ioE, iaE]) (ex := (ex3 ioE iaE iaE)) H (by decide +kernel) (fun k => by
    unfold Q_balloonOf
    repeat' split
    all_goals first | (intro e; cases e; done) | (intro e; cases e; exact ⟨_, rfl, rfl⟩)) (h_balloonOf _ _ x y (p_balloonOf c od A.1 H.2.1 H.1 x y) QX_I (QX_X (fun k => by
    unfold Q_balloonOf
    repeat' split
    all_goals first | (intro e; cases e; done) | (intro e; cases e; decide +kernel))))
theorem x_letterOf (c : CC) (od : Int64 × UInt64) (A : AS) (H : CA c A) (x y : Int32) : CM mL_letterOf [.ref 0, .int x, .int y] (c, od) (PI (HP od (stepQ A (Q_letterOf A.1 x y)))) :=
  HP.ofQX (l := [ioE, iaE]) (ex := (ex3 ioE iaE iaE)) H (by decide +kernel) (fun k => by
    unfold Q_letterOf
    repeat' split
    all_goals first | (intro e; cases e; done) | (intro e; cases e; exact ⟨_, rfl, rfl⟩)) (h_letterOf _ _ x y (p_letterOf c od A.1 H.2.1 H.1 x y) QX_I (QX_X (fun k => by
    unfold Q_letterOf
    repeat' split
    all_goals first | (intro e; cases e; done) | (intro e; cases e; decide +kernel))))
theorem x_weightAgain (c : CC) (od : Int64 × UInt64) (A : AS) (H : CA c A) (x : Int32) : CM mL_weightAgain [.ref 0, .int x] (c, od) (PI (HP od (stepQ A (Q_weight A.1 x)))) :=
  HP.ofQX (l := [ioE]) (ex := (ex3 ioE ioE ioE)) H (by decide +kernel) (fun k => by
    unfold Q_weight
    repeat' split
    all_goals first | (intro e; cases e; done) | (intro e; cases e; exact ⟨_, rfl, rfl⟩)) (h_weightAgain _ _ x (p_weightAgain c od A.1 H.2.1 H.1 x) QX_I (QX_X (fun k => by
    unfold Q_weight
    repeat' split
    all_goals first | (intro e; cases e; done) | (intro e; cases e; decide +kernel))))
theorem x_waiting (c : CC) (od : Int64 × UInt64) (A : AS) (H : CA c A) (x : Int32) : CM mL_waiting [.ref 0, .int x] (c, od) (PI (HP od (stepQ A (Q_waiting A.1 x)))) :=
  HP.ofQX (l := [nsE]) (ex := (ex3 nsE nsE nsE)) H (by decide +kernel) (fun k => by
    unfold Q_waiting
    repeat' split
    all_goals first | (intro e; cases e; done) | (intro e; cases e; exact ⟨_, rfl, rfl⟩)) (h_waiting _ _ x (p_waiting c od A.1 H.2.1 H.1 x) QX_I (QX_X (fun k => by
    unfold Q_waiting
    repeat' split
    all_goals first | (intro e; cases e; done) | (intro e; cases e; decide +kernel))))
theorem x_word (c : CC) (od : Int64 × UInt64) (A : AS) (H : CA c A) (x : Int32) : CM mL_word [.ref 0, .int x] (c, od) (PI (HP od (stepQ A (Q_word A.1 x)))) :=
  HP.ofQX (l := [ioE, nsE]) (ex := (ex3 ioE nsE nsE)) H (by decide +kernel) (fun k => by
    unfold Q_word
    repeat' split
    all_goals first | (intro e; cases e; done) | (intro e; cases e; exact ⟨_, rfl, rfl⟩)) (h_word _ _ x (p_word c od A.1 H.2.1 H.1 x) QX_I (QX_X (fun k => by
    unfold Q_word
    repeat' split
    all_goals first | (intro e; cases e; done) | (intro e; cases e; decide +kernel))))
theorem x_sign (c : CC) (od : Int64 × UInt64) (A : AS) (H : CA c A) (x : Int32) : CM mL_sign [.ref 0, .int x] (c, od) (PI (HP od (stepQ A (Q_sign A.1 x)))) :=
  HP.ofQX (l := [ioE]) (ex := (ex3 ioE ioE ioE)) H (by decide +kernel) (fun k => by
    unfold Q_sign
    repeat' split
    all_goals first | (intro e; cases e; done) | (intro e; cases e; exact ⟨_, rfl, rfl⟩)) (h_sign _ _ x (p_sign c od A.1 H.2.1 H.1 x) QX_I (QX_X (fun k => by
    unfold Q_sign
    repeat' split
    all_goals first | (intro e; cases e; done) | (intro e; cases e; decide +kernel))))
theorem x_isWithin (c : CC) (od : Int64 × UInt64) (A : AS) (H : CA c A) (x y : Int32) : CM mL_isWithin [.ref 0, .int x, .int y] (c, od) (PI (HP od (stepQ A (Q_within A.1 x y)))) :=
  HP.ofQX (l := [ioE]) (ex := (ex3 ioE ioE ioE)) H (by decide +kernel) (fun k => by
    unfold Q_within
    repeat' split
    all_goals first | (intro e; cases e; done) | (intro e; cases e; exact ⟨_, rfl, rfl⟩)) (h_isWithin _ _ x y (p_isWithin c od A.1 H.2.1 H.1 x y) QX_I (QX_X (fun k => by
    unfold Q_within
    repeat' split
    all_goals first | (intro e; cases e; done) | (intro e; cases e; decide +kernel))) (fun r σ1 q => by
    obtain ⟨c', -, -, q⟩ := q
    rcases e : Q_within A.1 x y with v | k
    · rw [e] at q
      cases q
      unfold Q_within at e
      split at e
      · split at e
        · cases e
          unfold b2i
          split
          · exact Or.inr rfl
          · exact Or.inl rfl
        · cases e
      · cases e
    · rw [e] at q
      cases q))
theorem x_endsIn (c : CC) (od : Int64 × UInt64) (A : AS) (H : CA c A) (x : Int32) : CM mL_endsIn [.ref 0, .int x] (c, od) (PI (HP od (stepQ A (Q_endsIn A.1 x 1000)))) :=
  HP.ofQX (l := [ioE, nsE]) (ex := (ex3 ioE nsE nsE)) H (by decide +kernel) (fun k => by
    unfold Q_endsIn
    repeat' split
    all_goals first | (intro e; cases e; done) | (intro e; cases e; exact ⟨_, rfl, rfl⟩)) (h_endsIn _ _ x (p_endsIn c od A.1 H.2.1 H.1 x) QX_I (QX_X (fun k => by
    unfold Q_endsIn
    repeat' split
    all_goals first | (intro e; cases e; done) | (intro e; cases e; decide +kernel))))
theorem x_ends (c : CC) (od : Int64 × UInt64) (A : AS) (H : CA c A) (x y : Int32) : CM mL_ends [.ref 0, .int x, .int y] (c, od) (PI (HP od (stepQ A (Q_ends A.1 x y 1000)))) :=
  HP.ofQX (l := [ioE, iaE, nsE]) (ex := (ex3 ioE iaE nsE)) H (by decide +kernel) (fun k => by
    unfold Q_ends
    repeat' split
    all_goals first | (intro e; cases e; done) | (intro e; cases e; exact ⟨_, rfl, rfl⟩)) (h_ends _ _ x y (p_ends c od A.1 H.2.1 H.1 x y) QX_I (QX_X (fun k => by
    unfold Q_ends
    repeat' split
    all_goals first | (intro e; cases e; done) | (intro e; cases e; decide +kernel))))
theorem x_bestDrop (c : CC) (od : Int64 × UInt64) (A : AS) (H : CA c A) (x : Int32) : CM mL_bestDrop [.ref 0, .int x] (c, od) (PI (HP od (stepB A (Q_bestDrop A.1 x 1000)))) :=
  HP.ofQB H (fun k => by
    unfold Q_bestDrop
    repeat' split
    all_goals first | (intro e; cases e; done) | (intro e; cases e; decide)) (h_bestDrop _ _ x (p_bestDrop c od A.1 H.2.1 H.1 x) QX_I (QX_X (fun k => by
    unfold Q_bestDrop
    repeat' split
    all_goals first | (intro e; cases e; done) | (intro e; cases e; decide +kernel))))
theorem x_refusal (c : CC) (od : Int64 × UInt64) (A : AS) (H : CA c A) (x : Int32) : CM mL_refusal [.ref 0, .int x] (c, od) (PI (HP od (stepQ A (Q_why A.2.2.2.2.2.2 x)))) :=
  HP.ofQX (l := [nsE]) (ex := (ex3 nsE nsE nsE)) H (by decide +kernel) (fun k => by
    unfold Q_why
    repeat' split
    all_goals first | (intro e; cases e; done) | (intro e; cases e; exact ⟨_, rfl, rfl⟩)) (h_refusal _ _ x (p_refusal c od A.2.2.2.2.2.2 H.2.2.2.2.2.2.2.2.1 H.2.2.2.2.2.2.2.2.2 x) QX_I (QX_X (fun k => by
    unfold Q_why
    repeat' split
    all_goals first | (intro e; cases e; done) | (intro e; cases e; decide +kernel))))
theorem x_account (c : CC) (od : Int64 × UInt64) (A : AS) (H : CA c A) (x : Int32) : CM mL_account [.ref 0, .int x] (c, od) (PI (HP od (stepQ A (Q_acc A.1 (nI A.2.2.2.1) (nI A.2.1.length) x)))) :=
  HP.ofQX (l := [iaE]) (ex := (ex3 iaE iaE iaE)) H (by decide +kernel) (fun k => by
    unfold Q_acc
    repeat' split
    all_goals first | (intro e; cases e; done) | (intro e; cases e; exact ⟨_, rfl, rfl⟩)) (h_account _ _ x (by
    have q := p_account c od A.1 H.2.1 H.1 x
    rw [H.2.2.2.2.2.1, H.2.2.1.2.1] at q
    exact q) QX_I (QX_X (fun k => by
    unfold Q_acc
    repeat' split
    all_goals first | (intro e; cases e; done) | (intro e; cases e; decide +kernel))))
theorem HP.ofOA {M : MT} {as : List Value} {c : CC} {od : Int64 × UInt64} {l : List String} {p : AO → CC → Prop} {st : Nat × Int32 × AS} (hn : l.Nodup) (h0 : ∀ r c', p (.inl (some (.int r))) c' → CA c' st.2.2 ∧ st.1 = 0 ∧ r = st.2.1) (h1 : ∀ E c', p (.inr E) c' → CA c' st.2.2 ∧ ∃ i, st.1 = i + 1 ∧ l[i]? = some E) (h : CM M as (c, od) (HQ l (OA c od p))) : CM M as (c, od) (PI (HP od st)) :=
  CM.mono h (fun o s q => by
    obtain ⟨k, rfl, q⟩ := q
    refine ⟨k, rfl, ?_⟩
    rcases q with ⟨c', rfl, f, q⟩ | ⟨E, j, ⟨c', rfl, f, q⟩, hj, rfl⟩
    · obtain ⟨g1, g2, g3⟩ := h0 _ _ q
      exact HP.z g1 g2 g3
    · obtain ⟨g1, i, g2, g3⟩ := h1 _ _ q
      rw [idx_eq hn hj g3]
      exact HP.s g1 g2)
theorem x_append (c : CC) (od : Int64 × UInt64) (A : AS) (H : CA c A) (x : Int32) (hx : vp_nar .char x = x) : CM mL_append [.ref 0, .int x] (c, od) (PI (HP od (stepA A x))) := by
  have h := p_append c od A.1 A.2.1 A.2.2.1 A.2.2.2.1 A.2.2.2.2.1 A.2.2.2.2.2.1 A.2.2.2.2.2.2 H x hx
  have h60 := H.2.2.2.2.1
  refine HP.ofOA (l := [isE]) (by decide +kernel) (fun r c' q => ?_) (fun E c' q => ?_) (h_append _ _ x h (fun v σ1 q => ?_) (fun E σ1 q => ?_))
  · unfold stepA
    by_cases hl : A.2.2.2.1 < 60
    · rw [if_pos hl] at q
      obtain ⟨e, q⟩ := q
      cases e
      rw [if_neg (by omega)]
      exact ⟨q, rfl, rfl⟩
    · rw [if_neg hl] at q
      cases q.1
  · unfold stepA
    by_cases hl : A.2.2.2.1 < 60
    · rw [if_pos hl] at q
      cases q.1
    · rw [if_neg hl] at q
      obtain ⟨e, q⟩ := q
      cases e
      rw [if_pos (by omega)]
      exact ⟨q, 0, rfl, rfl⟩
  · obtain ⟨c', -, -, q⟩ := q
    by_cases hl : A.2.2.2.1 < 60
    · rw [if_pos hl] at q
      exact ⟨_, Sum.inl.inj q.1⟩
    · rw [if_neg hl] at q
      cases q.1
  · obtain ⟨c', -, -, q⟩ := q
    by_cases hl : A.2.2.2.1 < 60
    · rw [if_pos hl] at q
      cases q.1
    · rw [if_neg hl] at q
      rw [Sum.inr.inj q.1]
      decide +kernel
theorem x_undo (c : CC) (od : Int64 × UInt64) (A : AS) (H : CA c A) : CM mL_undo [.ref 0] (c, od) (PI (HP od (stepU A))) := by
  obtain ⟨N, h, s, n, t, e, w⟩ := A
  have hp := p_undo c od N h s n t e w H
  cases h with
  | nil =>
    refine HP.ofOA (l := [isE]) (by decide +kernel) (fun r c' q => ?_) (fun E c' q => ?_) (h_undo _ _ hp (fun v σ1 q => ?_) (fun E σ1 q => ?_))
    · cases q.1
    · obtain ⟨e, q⟩ := q
      cases e
      exact ⟨q, 0, rfl, rfl⟩
    · obtain ⟨c', -, -, q⟩ := q
      cases q.1
    · obtain ⟨c', -, -, q⟩ := q
      rw [Sum.inr.inj q.1]
      decide +kernel
  | cons S r =>
    refine HP.ofOA (l := [isE]) (by decide +kernel) (fun r c' q => ?_) (fun E c' q => ?_) (h_undo _ _ hp (fun v σ1 q => ?_) (fun E σ1 q => ?_))
    · obtain ⟨e, q⟩ := q
      cases e
      exact ⟨q, rfl, rfl⟩
    · cases q.1
    · obtain ⟨c', -, -, q⟩ := q
      exact ⟨_, Sum.inl.inj q.1⟩
    · obtain ⟨c', -, -, q⟩ := q
      cases q.1
theorem x_restore (c : CC) (od : Int64 × UInt64) (A : AS) (H : CA c A) : CM mL_restore [.ref 0] (c, od) (PI (HP od (stepR A))) := by
  obtain ⟨N, h, s, n, t, e, w⟩ := A
  have hp := p_restore c od N h s n t e w H
  cases s with
  | none =>
    refine HP.ofOA (l := [isE]) (by decide +kernel) (fun r c' q => ?_) (fun E c' q => ?_) (h_restore _ _ hp (fun v σ1 q => ?_) (fun E σ1 q => ?_))
    · cases q.1
    · obtain ⟨e, q⟩ := q
      cases e
      exact ⟨q, 0, rfl, rfl⟩
    · obtain ⟨c', -, -, q⟩ := q
      cases q.1
    · obtain ⟨c', -, -, q⟩ := q
      rw [Sum.inr.inj q.1]
      decide +kernel
  | some S =>
    refine HP.ofOA (l := [isE]) (by decide +kernel) (fun r c' q => ?_) (fun E c' q => ?_) (h_restore _ _ hp (fun v σ1 q => ?_) (fun E σ1 q => ?_))
    · obtain ⟨e, q⟩ := q
      cases e
      exact ⟨q, rfl, rfl⟩
    · cases q.1
    · obtain ⟨c', -, -, q⟩ := q
      exact ⟨_, Sum.inl.inj q.1⟩
    · obtain ⟨c', -, -, q⟩ := q
      cases q.1
theorem x_read (c : CC) (od : Int64 × UInt64) (A : AS) (H : CA c A) : CM mL_read [.ref 0] (c, od) (PI (HP od (stepD A))) := by
  obtain ⟨N, h, s, n, t, e, w⟩ := A
  have hp := p_read c od N h s n t e w H
  have key : ∀ (o : AO) (c' : CC), RDP c' N h s n t w o → (∃ r, o = .inl (some (.int r)) ∧ CA c' (stepD (N, h, s, n, t, e, w)).2.2 ∧ (stepD (N, h, s, n, t, e, w)).1 = 0 ∧ r = (stepD (N, h, s, n, t, e, w)).2.1) ∨ ∃ E, o = .inr E ∧ E ∈ [iaE, uoE] ∧ CA c' (stepD (N, h, s, n, t, e, w)).2.2 ∧ ∃ i, (stepD (N, h, s, n, t, e, w)).1 = i + 1 ∧ [iaE, uoE][i]? = some E := by
    intro o c' q
    unfold RDP at q
    rcases hs : (pSeq t n 20 0).2 with _ | os
    · rw [hs] at q
      obtain ⟨e1, q⟩ := q
      refine Or.inr ⟨_, e1, by decide +kernel, ?_⟩
      have e2 : stepD (N, h, s, n, t, e, w) = (1, nI 0, (N, h, s, 0, t, nI (pSeq t n 20 0).1, w)) := by simp only [stepD, hs]
      rw [e2]
      exact ⟨q, 0, rfl, rfl⟩
    · rw [hs] at q
      have q : RDX c' N h s t w os o (exL N os) := q
      unfold RDX at q
      rcases hR : exL N os with M | q0 | k0
      · rw [hR] at q
        obtain ⟨e1, q⟩ := q
        refine Or.inl ⟨_, e1, ?_⟩
        have e2 : stepD (N, h, s, n, t, e, w) = (0, nI os.length, (M, (N :: h).take 8, s, 0, t, (-1 : Int32), w)) := by simp only [stepD, hs, hR]
        rw [e2]
        exact ⟨q, rfl, rfl⟩
      · rw [hR] at q
        obtain ⟨e1, q⟩ := q
        refine Or.inr ⟨_, e1, by decide +kernel, ?_⟩
        have e2 : stepD (N, h, s, n, t, e, w) = (2, nI 0, (N, h, s, 0, t, (-1 : Int32), q0)) := by simp only [stepD, hs, hR]
        rw [e2]
        exact ⟨q, 1, rfl, rfl⟩
      · rw [hR] at q
        obtain ⟨e1, q⟩ := q
        refine Or.inr ⟨_, e1, by decide +kernel, ?_⟩
        have e2 : stepD (N, h, s, n, t, e, w) = (1, nI 0, (N, h, s, 0, t, (-1 : Int32), w)) := by simp only [stepD, hs, hR]
        rw [e2]
        exact ⟨q, 0, rfl, rfl⟩
  refine HP.ofOA (l := [iaE, uoE]) (by decide +kernel) (fun r c' q => ?_) (fun E c' q => ?_) (h_read _ _ hp (fun v σ1 q => ?_) (fun E σ1 q => ?_))
  · rcases key _ _ q with ⟨r, e1, q⟩ | ⟨E, e1, q⟩
    · cases e1
      exact q
    · cases e1
  · rcases key _ _ q with ⟨r, e1, q⟩ | ⟨E, e1, q1, q⟩
    · cases e1
    · cases e1
      exact q
  · obtain ⟨c', -, -, q⟩ := q
    rcases key _ _ q with ⟨r, e1, q⟩ | ⟨E, e1, q⟩
    · exact ⟨r, Sum.inl.inj e1⟩
    · cases e1
  · obtain ⟨c', -, -, q⟩ := q
    rcases key _ _ q with ⟨r, e1, q⟩ | ⟨E, e1, q1, q⟩
    · cases e1
    · cases e1
      exact q1
theorem x_save (c : CC) (od : Int64 × UInt64) (A : AS) (H : CA c A) : CM mX5_save [.ref 0] (c, od) (PI (HP od (stepS A))) :=
  CM.mono (p_save c od A.1 A.2.1 A.2.2.1 A.2.2.2.1 A.2.2.2.2.1 A.2.2.2.2.2.1 A.2.2.2.2.2.2 H) (fun o s q => by
    obtain ⟨c', rfl, f, rfl, q⟩ := q
    exact ⟨_, rfl, HP.z q rfl rfl⟩)
theorem x_errorPosition (c : CC) (od : Int64 × UInt64) (A : AS) (H : CA c A) : CM mX5_errorPosition [.ref 0] (c, od) (RI A.2.2.2.2.2.1 (c, od)) :=
  CM.mono (p_errorPosition c od) (fun o s q => by
    obtain ⟨rfl, rfl⟩ := q
    exact RI.mk H.2.2.2.2.2.2.2.1 rfl)
theorem x_isWell (c : CC) (od : Int64 × UInt64) (A : AS) (H : CA c A) : CM mX5_isWell [.ref 0] (c, od) (RI (nI 1) (c, od)) := p_isWell c od A.1 H.2.1 H.1
/-- the bits of the mean distance and of the share, as the helpers answer them -/
def mdB (N : NA) : UInt64 := if mdN N = 0 then 13875388141788987392 else dqN (diN N (nbN N)) (mdN N)
def shB (N : NA) : UInt32 := if l2N N + l3N N = 0 then 3296346112 else fqN (l2N N) (l2N N + l3N N)
theorem x_meanDistance (c : CC) (od : Int64 × UInt64) (A : AS) (H : CA c A) : CM mL_meanDistance [.ref 0] (c, od) (RW (.double (mdB A.1)) (c, od)) := h_meanDistance _ _ _ (p_meanDistance c od A.1 H.2.1 H.1)
theorem x_share (c : CC) (od : Int64 × UInt64) (A : AS) (H : CA c A) : CM mL_share [.ref 0] (c, od) (RW (.float (shB A.1)) (c, od)) := h_share _ _ _ (p_share c od A.1 H.2.1 H.1)
