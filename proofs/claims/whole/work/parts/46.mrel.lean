/-- what both sides stand for: the numbers, the towns ahead of the latest changes, the snapshot, the text, its error, the latest refusal -/
abbrev AS : Type := NA × List NA × Option NA × Nat × NA × Int32 × (Int32 × Int32)
def CA (c : CC) (A : AS) : Prop := CR c A.1 A.2.1 A.2.2.1 A.2.2.2.1 A.2.2.2.2.1 A.2.2.2.2.2.1 A.2.2.2.2.2.2
def MH (c : CC) (h : List NA) : Prop := c 395 4 = nI h.length ∧ ∀ t (S : NA), h[t]? = some S → ∀ k, k < 184 → c 399 (184 * (h.length - 1 - t) + k) = S k
def MSn (c : CC) (s : Option NA) : Prop := match s with
  | none => c 395 6 = nI 0
  | some S => c 395 6 = nI 1 ∧ ∀ k, k < 184 → c 400 k = S k
def MA (c : CC) (A : AS) : Prop := (∀ k, k < 184 → c 396 k = A.1 k) ∧ MH c A.2.1 ∧ MSn c A.2.2.1 ∧ c 395 8 = nI A.2.2.2.1 ∧ c 401 = A.2.2.2.2.1 ∧ c 395 12 = A.2.2.2.2.2.1 ∧ c 395 13 = A.2.2.2.2.2.2.1 ∧ c 395 14 = A.2.2.2.2.2.2.2
/-- code, answer and what stands behind: of a change, of a question -/
def stepC (A : AS) (r : OR) (n : Nat) : Nat × Int32 × AS := match r with
  | .inl q => (0, q.1, (q.2, (A.1 :: A.2.1).take 8, A.2.2))
  | .inr (.inl q) => (n, nI 0, (A.1, A.2.1, A.2.2.1, A.2.2.2.1, A.2.2.2.2.1, A.2.2.2.2.2.1, q))
  | .inr (.inr k) => (k, nI 0, A)
def stepQ (A : AS) (q : QR) : Nat × Int32 × AS := match q with
  | .inl v => (0, v, A)
  | .inr k => (k, nI 0, A)
def MPst (c : CC) (st : Nat × Int32 × AS) (b : Int32) (c' : CC) : Prop := (∀ a k, a < 395 → c' a k = c a k) ∧ c' 395 16 = nI st.1 ∧ (st.1 = 0 → b = st.2.1) ∧ MA c' st.2.2
def RCP (c : CC) (od : Int64 × UInt64) (st : Nat × Int32 × AS) : AO → SS → Prop := PI fun b σ => ∃ c', σ = (c', od) ∧ MPst c st b c'
theorem RCP.of {M : MT} {as : List Value} {c : CC} {od : Int64 × UInt64} {st : Nat × Int32 × AS} {b : Int32} {c' : CC} (h : CM M as (c, od) (RI b (c', od))) (g : MPst c st b c') : CM M as (c, od) (RCP c od st) :=
  CM.mono h (fun o s q => by
    obtain ⟨rfl, rfl⟩ := q
    exact ⟨b, rfl, c', rfl, g⟩)
theorem MH.keep {c1 : CC} {h : List NA} {N : NA} (hl : h.length ≤ 8) (hH : MH c1 h) (hN : ∀ k, k < 184 → c1 397 k = N k) : MH (S_keeps c1) ((N :: h).take 8) := by
  obtain ⟨hu, hr⟩ := hH
  have hlen : ((N :: h).take 8).length = if h.length < 8 then h.length + 1 else 8 := by
    rw [List.length_take, List.length_cons]
    split <;> omega
  by_cases h8 : h.length = 8
  · have e4 : c1 395 4 = nI 8 := by rw [hu, h8]
    have eK : S_keeps c1 = u2 (setR c1 399 (puK 7 184 (c1 397) (shK 1288 (c1 399)))) 395 4 (nI 8) := by
      unfold S_keeps
      rw [if_pos e4]
    rw [if_neg (by omega)] at hlen
    refine ⟨?_, fun t S hS k hk => ?_⟩
    · rw [hlen, eK, u2_eq]
    · have ht : t < 8 := by
        have := (List.getElem?_eq_some_iff.mp hS).1
        omega
      rw [hlen, eK, u2_ne _ _ (by omega), setR_at]
      rw [List.getElem?_take_of_lt ht] at hS
      cases t with
      | zero =>
        have hS : some N = some S := hS
        cases hS
        unfold puK
        rw [if_pos (by omega), show 184 * (8 - 1 - 0) + k - 184 * 7 = k by omega]
        exact hN k hk
      | succ t =>
        have hS : h[t]? = some S := hS
        unfold puK shK
        rw [if_neg (by omega), if_pos (by omega)]
        have := hr t S hS k hk
        rw [h8] at this
        rwa [show 184 + (184 * (8 - 1 - (t + 1)) + k) = 184 * (8 - 1 - t) + k by omega]
  · have hlt : h.length < 8 := by omega
    have e4 : ¬ c1 395 4 = nI 8 := by
      rw [hu]
      exact nI_ne (by omega) (by decide) h8
    have eK : S_keeps c1 = u2 (setR c1 399 (puK h.length 184 (c1 397) (c1 399))) 395 4 (nI (h.length + 1)) := by
      unfold S_keeps
      rw [if_neg e4, hu, nI_clamp (by omega), nI_s1]
    rw [if_pos hlt] at hlen
    refine ⟨?_, fun t S hS k hk => ?_⟩
    · rw [hlen, eK, u2_eq]
    · have ht : t < h.length + 1 := by
        have := (List.getElem?_eq_some_iff.mp hS).1
        omega
      rw [hlen, eK, u2_ne _ _ (by omega), setR_at]
      rw [List.getElem?_take_of_lt (by omega)] at hS
      cases t with
      | zero =>
        have hS : some N = some S := hS
        cases hS
        unfold puK
        rw [if_pos (by omega), show 184 * (h.length + 1 - 1 - 0) + k - 184 * h.length = k by omega]
        exact hN k hk
      | succ t =>
        have hS : h[t]? = some S := hS
        unfold puK
        rw [if_neg (by omega)]
        have := hr t S hS k hk
        rwa [show h.length + 1 - 1 - (t + 1) = h.length - 1 - t by omega]
/-- what the reference's own numbers keep -/
theorem MH.same {c c' : CC} {h : List NA} (H : MH c h) (h4 : c' 395 4 = c 395 4) (h9 : c' 399 = c 399) : MH c' h := by
  unfold MH
  rw [h4, h9]
  exact H
theorem MSn.same {c c' : CC} {s : Option NA} (H : MSn c s) (h6 : c' 395 6 = c 395 6) (h0 : c' 400 = c 400) : MSn c' s := by
  cases s with
  | none => exact h6.trans H
  | some S => exact ⟨h6.trans H.1, by rw [h0]; exact H.2⟩
theorem MA.same {c c' : CC} {A : AS} (H : MA c A) (h5 : ∀ k, k ≠ 16 → k ≠ 15 → k ≠ 9 → k ≠ 11 → c' 395 k = c 395 k) (h6 : ∀ k, k < 184 → c' 396 k = c 396 k) (h9 : c' 399 = c 399) (h0 : c' 400 = c 400) (h1 : c' 401 = c 401) : MA c' A := by
  obtain ⟨g1, g2, g3, g4, g5, g6, g7, g8⟩ := H
  exact ⟨fun k hk => (h6 k hk).trans (g1 k hk), g2.same (h5 4 (by decide) (by decide) (by decide) (by decide)) h9, g3.same (h5 6 (by decide) (by decide) (by decide) (by decide)) h0, (h5 8 (by decide) (by decide) (by decide) (by decide)).trans g4, h1.trans g5, (h5 12 (by decide) (by decide) (by decide) (by decide)).trans g6, (h5 13 (by decide) (by decide) (by decide) (by decide)).trans g7, (h5 14 (by decide) (by decide) (by decide) (by decide)).trans g8⟩
/-- a refusal's reason is above 0; another exception is the first or the second -/
def OK2 (r : OR) : Prop := (∀ q, r = .inr (.inl q) → 0 < q.1) ∧ (∀ k, r = .inr (.inr k) → k = 1 ∨ k = 2)
theorem OK2.a {q : Int32 × NA} : OK2 (.inl q) := ⟨fun q h => (by cases h), fun q h => (by cases h)⟩
theorem OK2.b {x y : Int32} (h : 0 < x) : OK2 (.inr (.inl (x, y))) := ⟨fun q e => (by cases e; exact h), fun q e => (by cases e)⟩
theorem OK2.c {k : Nat} (h : k = 1 ∨ k = 2) : OK2 (.inr (.inr k)) := ⟨fun q e => (by cases e), fun q e => (by cases e; exact h)⟩
theorem o2_ring (N : NA) (x : Int32) : OK2 (S_ring N x) := by
  unfold S_ring
  repeat' split
  all_goals first | exact OK2.a | exact OK2.b (by decide) | exact OK2.c (by decide)
theorem o2_gas (N : NA) (x : Int32) : OK2 (S_gas N x) := by
  unfold S_gas
  repeat' split
  all_goals first | exact OK2.a | exact OK2.b (by decide) | exact OK2.c (by decide)
theorem o2_balloon (N : NA) (x : Int32) : OK2 (S_balloon N x) := by
  unfold S_balloon
  repeat' split
  all_goals first | exact OK2.a | exact OK2.b (by decide) | exact OK2.c (by decide)
theorem o2_courier (N : NA) (x y : Int32) : OK2 (S_courier N x y) := by
  unfold S_courier
  repeat' split
  all_goals first | exact OK2.a | exact OK2.b (by decide) | exact OK2.c (by decide)
theorem o2_letter (N : NA) (x y : Int32) : OK2 (S_letter N x y) := by
  unfold S_letter
  repeat' split
  all_goals first | exact OK2.a | exact OK2.b (by decide) | exact OK2.c (by decide)
theorem o2_loadAll (N : NA) (x : Int32) : OK2 (S_loadAll N x) := by
  unfold S_loadAll
  repeat' split
  all_goals first | exact OK2.a | exact OK2.b (by decide) | exact OK2.c (by decide)
theorem o2_blows (N : NA) (x y z : Int32) : OK2 (S_blows N x y z) := by
  unfold S_blows
  repeat' split
  all_goals first | exact OK2.a | exact OK2.b (by decide) | exact OK2.c (by decide)
theorem o2_fills (N : NA) (x y : Int32) : OK2 (S_fills N x y) := by
  unfold S_fills
  repeat' split
  all_goals first | exact OK2.a | exact OK2.b (by decide) | exact OK2.c (by decide)
theorem o2_lays (N : NA) (x y : Int32) : OK2 (S_lays N x y) := by
  unfold S_lays
  repeat' split
  all_goals first | exact OK2.a | exact OK2.b (by decide) | exact OK2.c (by decide)
theorem o2_drops (N : NA) (x y : Int32) : OK2 (S_drops N x y) := by
  unfold S_drops
  repeat' split
  all_goals first | exact OK2.a | exact OK2.b (by decide) | exact OK2.c (by decide)
theorem o2_loads (N : NA) (x y : Int32) : OK2 (S_loads N x y) := by
  unfold S_loads
  repeat' split
  all_goals first | exact OK2.a | exact OK2.b (by decide) | exact OK2.c (by decide)
theorem o2_launches (N : NA) (x : Int32) : OK2 (S_launches N x) := by
  unfold S_launches
  repeat' split
  all_goals first | exact OK2.a | exact OK2.b (by decide) | exact OK2.c (by decide)
theorem o2_passes (N : NA) (x : Int32) : OK2 (S_passes N x) := by
  unfold S_passes
  repeat' split
  all_goals first | exact OK2.a | exact OK2.b (by decide) | exact OK2.c (by decide)
/-- kept: c1 is the reference behind the change, before it keeps -/
theorem MA.kept {c c1 : CC} {A : AS} {M : NA} (H : MA c A) (hl : A.2.1.length ≤ 8) (h5 : ∀ k, k ≠ 16 → k ≠ 15 → k ≠ 9 → k ≠ 11 → c1 395 k = c 395 k) (h16 : c1 395 16 = nI 0) (h6 : c1 396 = M) (h7 : ∀ k, k < 184 → c1 397 k = A.1 k) (h9 : c1 399 = c 399) (h0 : c1 400 = c 400) (h1 : c1 401 = c 401) (hlow : ∀ a k, a < 395 → c1 a k = c a k) {v : Int32} : MPst c (0, v, (M, (A.1 :: A.2.1).take 8, A.2.2)) v (S_keeps c1) := by
  obtain ⟨g1, g2, g3, g4, g5, g6, g7, g8⟩ := H
  have f : ∀ a, a ≠ 399 → a ≠ 395 → S_keeps c1 a = c1 a := fun a q1 q2 => funext fun k => kp_o c1 q1 (by omega)
  have f5 : ∀ k, k ≠ 4 → S_keeps c1 395 k = c1 395 k := fun k q => kp_o c1 (by decide) (by omega)
  refine ⟨fun a k ha => (kp_o c1 (by omega) (by omega)).trans (hlow a k ha), (f5 _ (by decide)).trans h16, fun _ => rfl, fun k hk => ?_, ?_, ?_, ?_, ?_, ?_, ?_, ?_⟩
  · rw [f 396 (by decide) (by decide), h6]
  · exact (g2.same (h5 4 (by decide) (by decide) (by decide) (by decide)) h9).keep hl h7
  · exact g3.same ((f5 _ (by decide)).trans (h5 6 (by decide) (by decide) (by decide) (by decide))) ((f 400 (by decide) (by decide)).trans h0)
  · exact ((f5 _ (by decide)).trans (h5 8 (by decide) (by decide) (by decide) (by decide))).trans g4
  · exact ((f 401 (by decide) (by decide)).trans h1).trans g5
  · exact ((f5 _ (by decide)).trans (h5 12 (by decide) (by decide) (by decide) (by decide))).trans g6
  · exact ((f5 _ (by decide)).trans (h5 13 (by decide) (by decide) (by decide) (by decide))).trans g7
  · exact ((f5 _ (by decide)).trans (h5 14 (by decide) (by decide) (by decide) (by decide))).trans g8
/-- an exception: the places 16 (and 13, 14) alone, and what was tried -/
theorem MA.exc {c c1 : CC} {A : AS} (H : MA c A) (j : Nat) (w : Int32 × Int32) (h5 : ∀ k, k ≠ 16 → k ≠ 15 → k ≠ 9 → k ≠ 11 → k ≠ 13 → k ≠ 14 → c1 395 k = c 395 k) (h16 : c1 395 16 = nI j) (h13 : c1 395 13 = w.1) (h14 : c1 395 14 = w.2) (h6 : ∀ k, k < 184 → c1 396 k = c 396 k) (h9 : c1 399 = c 399) (h0 : c1 400 = c 400) (h1 : c1 401 = c 401) (hlow : ∀ a k, a < 395 → c1 a k = c a k) (hj : j ≠ 0) {b v : Int32} : MPst c (j, v, (A.1, A.2.1, A.2.2.1, A.2.2.2.1, A.2.2.2.2.1, A.2.2.2.2.2.1, w)) b c1 := by
  obtain ⟨g1, g2, g3, g4, g5, g6, g7, g8⟩ := H
  exact ⟨hlow, h16, fun q => absurd q hj, fun k hk => (h6 k hk).trans (g1 k hk), g2.same (h5 4 (by decide) (by decide) (by decide) (by decide) (by decide) (by decide)) h9, g3.same (h5 6 (by decide) (by decide) (by decide) (by decide) (by decide) (by decide)) h0, (h5 8 (by decide) (by decide) (by decide) (by decide) (by decide) (by decide)).trans g4, h1.trans g5, (h5 12 (by decide) (by decide) (by decide) (by decide) (by decide) (by decide)).trans g6, h13, h14⟩
theorem S_out_n {c : CC} {is n : Int32} (h : 0 < is) : S_out c is n = (nI 0, u2 c 395 16 n) := by
  unfold S_out
  have h0 : ¬ is = 0 := fun q => by
    rw [q] at h
    exact absurd h (by decide)
  rw [if_neg h0, if_pos (Int32.le_of_lt h)]
theorem why_out {c : CC} {A : AS} (H : MA c A) {q : Int32 × Int32} (hq : 0 < q.1) {n : Nat} (hn : n ≠ 0) : MPst c (n, nI 0, (A.1, A.2.1, A.2.2.1, A.2.2.2.1, A.2.2.2.2.1, A.2.2.2.2.2.1, q)) (S_out (u2 (u2 (triesS c) 395 13 q.1) 395 14 q.2) q.1 (nI n)).1 (S_out (u2 (u2 (triesS c) 395 13 q.1) 395 14 q.2) q.1 (nI n)).2 := by
  rw [S_out_n hq]
  refine H.exc n q (fun k h1 h2 h3 h4 h5 h6 => ?_) (u2_eq _ _ _ _) ?_ ?_ (fun k hk => ?_) ?_ ?_ ?_ (fun a k ha => ?_) hn
  · rw [u2_ne _ _ (by omega), u2_ne _ _ (by omega), u2_ne _ _ (by omega), tr_395 _ h1]
  · rw [u2_ne _ _ (by omega), u2_ne _ _ (by omega), u2_eq]
  · rw [u2_ne _ _ (by omega), u2_eq]
  · rw [u2_ne _ _ (by omega), u2_ne _ _ (by omega), u2_ne _ _ (by omega), tr_396]
  · rw [u2_o _ _ _ (by decide), u2_o _ _ _ (by decide), u2_o _ _ _ (by decide), tr_o _ (by decide) (by decide)]
  · rw [u2_o _ _ _ (by decide), u2_o _ _ _ (by decide), u2_o _ _ _ (by decide), tr_o _ (by decide) (by decide)]
  · rw [u2_o _ _ _ (by decide), u2_o _ _ _ (by decide), u2_o _ _ _ (by decide), tr_o _ (by decide) (by decide)]
  · rw [u2_ne _ _ (by omega), u2_ne _ _ (by omega), u2_ne _ _ (by omega), tr_o _ (by omega) (by omega)]
theorem thr_out {c : CC} {A : AS} (H : MA c A) {k : Nat} (hk : k ≠ 0) {x : Int32} (hx : x = nI k) : MPst c (k, nI 0, A) (nI 0) (u2 (triesS c) 395 16 x) := by
  refine H.exc k A.2.2.2.2.2.2 (fun k h1 h2 h3 h4 h5 h6 => ?_) (by rw [u2_eq, hx]) ?_ ?_ (fun k hk => ?_) ?_ ?_ ?_ (fun a k ha => ?_) hk
  · rw [u2_ne _ _ (by omega), tr_395 _ h1]
  · rw [u2_ne _ _ (by omega), tr_395 _ (by decide)]
    exact H.2.2.2.2.2.2.1
  · rw [u2_ne _ _ (by omega), tr_395 _ (by decide)]
    exact H.2.2.2.2.2.2.2
  · rw [u2_ne _ _ (by omega), tr_396]
  · rw [u2_o _ _ _ (by decide), tr_o _ (by decide) (by decide)]
  · rw [u2_o _ _ _ (by decide), tr_o _ (by decide) (by decide)]
  · rw [u2_o _ _ _ (by decide), tr_o _ (by decide) (by decide)]
  · rw [u2_ne _ _ (by omega), tr_o _ (by omega) (by omega)]
theorem mG_ok {c : CC} {A : AS} (H : MA c A) (hl : A.2.1.length ≤ 8) {r : OR} (h2 : OK2 r) {n : Nat} (hn : n ≠ 0) : MPst c (stepC A r n) (mG c r n).1 (mG c r n).2 := by
  rcases r with q | q | k
  · show MPst c (0, q.1, _) q.1 (S_keeps (setN (triesS c) q.2))
    refine H.kept hl (fun k h1 h2 h3 h4 => ?_) ?_ (setN_at _ _) (fun k hk => ?_) ?_ ?_ ?_ (fun a k ha => ?_)
    · rw [setN_o _ _ (by decide), tr_395 _ h1]
    · rw [setN_o _ _ (by decide), tr_16]
    · rw [setN_o _ _ (by decide), tr_397, cpN_lt _ _ hk]
      exact H.1 k hk
    · rw [setN_o _ _ (by decide), tr_o _ (by decide) (by decide)]
    · rw [setN_o _ _ (by decide), tr_o _ (by decide) (by decide)]
    · rw [setN_o _ _ (by decide), tr_o _ (by decide) (by decide)]
    · rw [setN_o _ _ (by omega), tr_o _ (by omega) (by omega)]
  · exact why_out H (h2.1 q rfl) hn
  · have := h2.2 k rfl
    exact thr_out H (by omega) rfl
theorem mF_ok {c : CC} {A : AS} (H : MA c A) (hl : A.2.1.length ≤ 8) {r : OR} (h2 : OK2 r) {n : Nat} (hn : n ≠ 0) : MPst c (stepC A r n) (mF c r n).1 (mF c r n).2 := by
  rcases r with q | q | k
  · have e : mF c (.inl q) n = (q.1, S_keeps (setN (u2 (triesS c) 395 15 q.1) q.2)) := by
      unfold mF S_out
      rw [if_pos (show mcode (.inl q) = 0 from rfl)]
      show (setN (u2 (triesS c) 395 15 q.1) q.2 395 15, _) = _
      rw [setN_o _ _ (by decide), u2_eq]
      rfl
    rw [e]
    show MPst c (0, q.1, _) q.1 (S_keeps (setN (u2 (triesS c) 395 15 q.1) q.2))
    refine H.kept hl (fun k h1 h2 h3 h4 => ?_) ?_ (setN_at _ _) (fun k hk => ?_) ?_ ?_ ?_ (fun a k ha => ?_)
    · rw [setN_o _ _ (by decide), u2_ne _ _ (by omega), tr_395 _ h1]
    · rw [setN_o _ _ (by decide), u2_ne _ _ (by decide), tr_16]
    · rw [setN_o _ _ (by decide), u2_o _ _ _ (by decide), tr_397, cpN_lt _ _ hk]
      exact H.1 k hk
    · rw [setN_o _ _ (by decide), u2_o _ _ _ (by decide), tr_o _ (by decide) (by decide)]
    · rw [setN_o _ _ (by decide), u2_o _ _ _ (by decide), tr_o _ (by decide) (by decide)]
    · rw [setN_o _ _ (by decide), u2_o _ _ _ (by decide), tr_o _ (by decide) (by decide)]
    · rw [setN_o _ _ (by omega), u2_ne _ _ (by omega), tr_o _ (by omega) (by omega)]
  · exact why_out H (h2.1 q rfl) hn
  · rcases h2.2 k rfl with rfl | rfl
    · exact thr_out H (by decide) (by show (if (0 : Int32) ≤ (-1 : Int32) then nI n else -(-1 : Int32)) = nI 1; rw [if_neg (by decide)]; decide)
    · exact thr_out H (by decide) (by show (if (0 : Int32) ≤ (-2 : Int32) then nI n else -(-2 : Int32)) = nI 2; rw [if_neg (by decide)]; decide)
theorem q_out {c c1 : CC} {A : AS} (H : MA c A) (k : Nat) {b v : Int32} (hv : k = 0 → b = v) (h16 : c1 395 16 = nI k) (h5 : ∀ k, k ≠ 16 → c1 395 k = c 395 k) (h6 : ∀ k, k < 184 → c1 396 k = c 396 k) (h9 : c1 399 = c 399) (h0 : c1 400 = c 400) (h1 : c1 401 = c 401) (hlow : ∀ a k, a < 395 → c1 a k = c a k) : MPst c (k, v, A) b c1 :=
  ⟨hlow, h16, hv, H.same (fun k q _ _ _ => h5 k q) h6 h9 h0 h1⟩
theorem q_u2 {c : CC} {A : AS} (H : MA c A) (k : Nat) {b v : Int32} (hv : k = 0 → b = v) : MPst c (k, v, A) b (u2 c 395 16 (nI k)) :=
  q_out H k hv (u2_eq _ _ _ _) (fun k q => u2_ne _ _ (by omega)) (fun k _ => u2_ne _ _ (by omega)) (u2_o _ _ _ (by decide)) (u2_o _ _ _ (by decide)) (u2_o _ _ _ (by decide)) (fun a k ha => u2_ne _ _ (by omega))
theorem mQ_ok {c : CC} {A : AS} (H : MA c A) {q : QR} (hq : ∀ k, q = .inr k → k ≠ 0) : MPst c (stepQ A q) (mQ c q).1 (mQ c q).2 := by
  rcases q with v | k
  · exact q_u2 H 0 (fun _ => rfl)
  · exact q_u2 H k (fun q => absurd q (hq k rfl))
theorem back_o (c : CC) (N : NA) {a : Nat} (h6 : a ≠ 396) (h8 : a ≠ 398) : backS c N a = c a := by
  unfold backS thinkS
  rw [setN_o _ _ h6, setR_o _ _ h8]
theorem mA_ok {c : CC} {A : AS} (H : MA c A) {q : QR} (hq : ∀ k, q = .inr k → k ≠ 0) (N : NA) : MPst c (stepQ A q) (mA c q N).1 (mA c q N).2 := by
  rcases q with v | k
  · show MPst c (0, v, A) v (backS (u2 c 395 16 (nI 0)) N)
    refine q_out H 0 (fun _ => rfl) ?_ (fun k q => ?_) (fun k hk => ?_) ?_ ?_ ?_ (fun a k ha => ?_)
    · rw [back_o _ _ (by decide) (by decide), u2_eq]
    · rw [back_o _ _ (by decide) (by decide), u2_ne _ _ (by omega)]
    · unfold backS
      rw [setN_at, cpN_lt _ _ hk, u2_o _ _ _ (by decide)]
    · rw [back_o _ _ (by decide) (by decide), u2_o _ _ _ (by decide)]
    · rw [back_o _ _ (by decide) (by decide), u2_o _ _ _ (by decide)]
    · rw [back_o _ _ (by decide) (by decide), u2_o _ _ _ (by decide)]
    · rw [back_o _ _ (by omega) (by omega), u2_ne _ _ (by omega)]
  · exact q_u2 H k (fun q => absurd q (hq k rfl))
/-- bestDrop's third way out is its second exception -/
def stepB (A : AS) (q : QR) : Nat × Int32 × AS := match q with
  | .inl v => (0, v, A)
  | .inr 3 => (2, nI 0, A)
  | .inr k => (k, nI 0, A)
theorem th_o (c : CC) {a : Nat} (h : a ≠ 398) : thinkS c a = c a := setR_o _ _ h
theorem mB_ok {c : CC} {A : AS} (H : MA c A) {q : QR} (hq : ∀ k, q = .inr k → k = 1 ∨ k = 2 ∨ k = 3) : MPst c (stepB A q) (mB c q).1 (mB c q).2 := by
  rcases q with v | k
  · show MPst c (0, v, A) v (thinkS (u2 c 395 16 (nI 0)))
    refine q_out H 0 (fun _ => rfl) ?_ (fun k q => ?_) (fun k hk => ?_) ?_ ?_ ?_ (fun a k ha => ?_)
    · rw [th_o _ (by decide), u2_eq]
    · rw [th_o _ (by decide), u2_ne _ _ (by omega)]
    · rw [th_o _ (by decide), u2_ne _ _ (by omega)]
    · rw [th_o _ (by decide), u2_o _ _ _ (by decide)]
    · rw [th_o _ (by decide), u2_o _ _ _ (by decide)]
    · rw [th_o _ (by decide), u2_o _ _ _ (by decide)]
    · rw [th_o _ (by omega), u2_ne _ _ (by omega)]
  · rcases hq k rfl with rfl | rfl | rfl
    · exact q_u2 H 1 (fun q => absurd q (by decide))
    · exact q_u2 H 2 (fun q => absurd q (by decide))
    · show MPst c (2, nI 0, A) (nI 0) (u2 (thinkS (u2 c 395 16 (nI 0))) 395 16 (nI 2))
      refine q_out H 2 (fun q => absurd q (by decide)) (u2_eq _ _ _ _) (fun k q => ?_) (fun k hk => ?_) ?_ ?_ ?_ (fun a k ha => ?_)
      · rw [u2_ne _ _ (by omega), th_o _ (by decide), u2_ne _ _ (by omega)]
      · rw [u2_ne _ _ (by omega), th_o _ (by decide), u2_ne _ _ (by omega)]
      · rw [u2_o _ _ _ (by decide), th_o _ (by decide), u2_o _ _ _ (by decide)]
      · rw [u2_o _ _ _ (by decide), th_o _ (by decide), u2_o _ _ _ (by decide)]
      · rw [u2_o _ _ _ (by decide), th_o _ (by decide), u2_o _ _ _ (by decide)]
      · rw [u2_ne _ _ (by omega), th_o _ (by omega), u2_ne _ _ (by omega)]
