-- whole, 28.rel.lean.txt
def nbN (N : NA) : Nat := (N 3).toNatClampNeg
def lcN (N : NA) (b : Int32) (nl : Nat) : Int32 := ctL (fun n => 0 < N (88 + 4 * n + 2) ∧ N (88 + 4 * n + 3) = b) nl
/-- the slots of a balloon, and the places of its row in the reference -/
def bP : List (Nat × Nat) := [(0, 0), (1, 1), (2, 2), (3, 3), (4, 4), (7, 5), (8, 10), (9, 6), (10, 7), (11, 8)]
def sP : List (Nat × Nat) := [(4, 3), (5, 4), (6, 0), (7, 1), (8, 2), (9, 5), (10, 6), (11, 7), (12, 8), (13, 9)]
def RelF (c : CC) (o : Nat) (N : NA) (j nl : Nat) : Prop := (∀ p, p ∈ bP → c o p.1 = N (22 + 11 * j + p.2)) ∧ c o 6 = shN N (nI j) nl
def RelB (c : CC) (o : Nat) (N : NA) (j nl : Nat) : Prop := RelF c o N j nl ∧ c o 5 = lcN N (nI j) nl ∧ (N (22 + 11 * j + 5) = nI 2 → c o 12 = woN N j)
def FreB (c : CC) (o : Nat) : Prop := ∀ k, k < 12 → c o k = if k = 9 ∨ k = 10 then nI 20 else nI 0
def RelL (c : CC) (o : Nat) (N : NA) (l : Nat) : Prop := c o 0 = N (88 + 4 * l) ∧ c o 1 = N (88 + 4 * l + 1) ∧ c o 2 = N (88 + 4 * l + 3)
/-- the class's town at T is the reference's town N -/
def RelT (c : CC) (T : Nat) (N : NA) : Prop :=
  (∀ p, p ∈ sP → c T p.1 = N p.2) ∧ (∀ h, h < 6 → c (T + 1) h = N (10 + 2 * h) ∧ c (T + 2) h = N (10 + 2 * h + 1)) ∧
  (∀ j, j < nbN N → RelB c (T + 5 + j) N j (nlN N)) ∧ (∀ j, nbN N ≤ j → j < 6 → FreB c (T + 5 + j)) ∧
  (∀ l, l < nlN N → RelL c (T + 11 + l) N l) ∧ (∀ l, nlN N ≤ l → l < 24 → c (T + 11 + l) 2 = (-1 : Int32))
theorem shN_congr {N N' : NA} (b : Int32) : ∀ n, (∀ k, 88 ≤ k → k < 88 + 4 * n → N' k = N k) → shN N' b n = shN N b n
  | 0, _ => rfl
  | n + 1, h => by
    have ih := shN_congr (N := N) (N' := N') b n (fun k h1 h2 => h k h1 (by omega))
    simp only [shN]
    rw [ih, h (88 + 4 * n + 2) (by omega) (by omega), h (88 + 4 * n + 3) (by omega) (by omega), h (88 + 4 * n) (by omega) (by omega)]
theorem ctL_congr {p q : Nat → Prop} [DecidablePred p] [DecidablePred q] : ∀ n, (∀ i, i < n → (p i ↔ q i)) → ctL p n = ctL q n
  | 0, _ => rfl
  | n + 1, h => by
    have ih := ctL_congr (p := p) (q := q) n (fun i hi => h i (by omega))
    simp only [ctL]
    rw [ih]
    by_cases hq : q n
    · rw [if_pos hq, if_pos ((h n (by omega)).mpr hq)]
    · rw [if_neg hq, if_neg (fun x => hq ((h n (by omega)).mp x))]
theorem lcN_congr {N N' : NA} (b : Int32) (n : Nat) (h : ∀ k, 88 ≤ k → k < 88 + 4 * n → N' k = N k) : lcN N' b n = lcN N b n := by
  unfold lcN
  refine ctL_congr n (fun i hi => ?_)
  rw [h (88 + 4 * i + 2) (by omega) (by omega), h (88 + 4 * i + 3) (by omega) (by omega)]
theorem bP_lt : ∀ p, p ∈ bP → p.1 < 12 ∧ p.2 < 11 ∧ p.1 ≠ 5 ∧ p.1 ≠ 6 ∧ p.2 ≠ 9 := by decide
theorem sP_lt : ∀ p, p ∈ sP → 4 ≤ p.1 ∧ p.1 < 14 ∧ p.2 < 10 := by decide
theorem RelF.congr {c c' : CC} {o o' : Nat} {N N' : NA} {j nl : Nat} (hc : ∀ k, k < 12 → c' o' k = c o k) (hN : ∀ w, w < 11 → N' (22 + 11 * j + w) = N (22 + 11 * j + w)) (hL : ∀ k, 88 ≤ k → k < 88 + 4 * nl → N' k = N k) (h : RelF c o N j nl) : RelF c' o' N' j nl := by
  refine ⟨fun p hp => ?_, ?_⟩
  · have := bP_lt p hp
    rw [hc _ (by omega), hN _ (by omega)]
    exact h.1 p hp
  · rw [hc _ (by omega), shN_congr _ _ hL]
    exact h.2
theorem woN_congr {N N' : NA} {j : Nat} (hN : ∀ w, w < 11 → N' (22 + 11 * j + w) = N (22 + 11 * j + w)) : woN N' j = woN N j := by
  unfold woN
  rw [hN 9 (by omega), hN 6 (by omega), hN 7 (by omega)]
theorem RelB.congr {c c' : CC} {o o' : Nat} {N N' : NA} {j nl : Nat} (hc : ∀ k, k < 13 → c' o' k = c o k) (hN : ∀ w, w < 11 → N' (22 + 11 * j + w) = N (22 + 11 * j + w)) (hL : ∀ k, 88 ≤ k → k < 88 + 4 * nl → N' k = N k) (h : RelB c o N j nl) : RelB c' o' N' j nl := by
  refine ⟨h.1.congr (fun k hk => hc k (by omega)) hN hL, ?_, ?_⟩
  · rw [hc _ (by omega), lcN_congr _ _ hL]
    exact h.2.1
  · rw [hN 5 (by omega), hc _ (by omega), woN_congr hN]
    exact h.2.2
theorem FreB.congr {c c' : CC} {o o' : Nat} (hc : ∀ k, k < 12 → c' o' k = c o k) (h : FreB c o) : FreB c' o' := fun k hk => by
  rw [hc k hk]
  exact h k hk
theorem RelL.congr {c c' : CC} {o o' : Nat} {N N' : NA} {l : Nat} (hc : ∀ k, k < 3 → c' o' k = c o k) (hL : ∀ k, 88 + 4 * l ≤ k → k < 88 + 4 * l + 4 → N' k = N k) (h : RelL c o N l) : RelL c' o' N' l := by
  unfold RelL
  rw [hc 0 (by omega), hc 1 (by omega), hc 2 (by omega), hL (88 + 4 * l) (by omega) (by omega), hL (88 + 4 * l + 1) (by omega) (by omega), hL (88 + 4 * l + 3) (by omega) (by omega)]
  exact h
/-- another town of the same ints -/
theorem RelT.congr {c c' : CC} {T T' : Nat} {N N' : NA} (hn : nbN N ≤ 6) (hl : nlN N ≤ 24) (hs : ∀ k, 4 ≤ k → k < 14 → c' T' k = c T k) (hw : ∀ k, k < 6 → c' (T' + 1) k = c (T + 1) k ∧ c' (T' + 2) k = c (T + 2) k) (hb : ∀ j, j < 6 → ∀ k, k < 13 → c' (T' + 5 + j) k = c (T + 5 + j) k) (hL : ∀ l, l < 24 → ∀ k, k < 3 → c' (T' + 11 + l) k = c (T + 11 + l) k) (hN : ∀ k, k < 184 → N' k = N k) (h : RelT c T N) : RelT c' T' N' := by
  have e3 : nbN N' = nbN N := by unfold nbN; rw [hN 3 (by omega)]
  have e4 : nlN N' = nlN N := by unfold nlN; rw [hN 4 (by omega)]
  obtain ⟨h1, h2, h3, h4, h5, h6⟩ := h
  refine ⟨fun p hp => ?_, fun k hk => ?_, fun j hj => ?_, fun j hj hj6 => ?_, fun l hl2 => ?_, fun l hl2 hl3 => ?_⟩
  · have := sP_lt p hp
    rw [hs _ (by omega) (by omega), hN _ (by omega)]
    exact h1 p hp
  · rw [(hw k hk).1, (hw k hk).2, hN _ (by omega), hN _ (by omega)]
    exact h2 k hk
  · rw [e3] at hj
    rw [e4]
    exact (h3 j hj).congr (hb j (by omega)) (fun w hw2 => hN _ (by omega)) (fun k q1 q2 => hN _ (by omega))
  · rw [e3] at hj
    exact (h4 j hj hj6).congr (fun k hk => hb j hj6 k (by omega))
  · rw [e4] at hl2
    exact (h5 l hl2).congr (hL l (by omega)) (fun k q1 q2 => hN _ (by omega))
  · rw [e4] at hl2
    rw [hL l hl3 2 (by omega)]
    exact h6 l hl2 hl3
theorem RelT.frame {c c' : CC} {T : Nat} {N : NA} (hn : nbN N ≤ 6) (hl : nlN N ≤ 24) (h : RelT c T N) (hc : ∀ a, T ≤ a → a < T + 35 → ∀ k, ¬ (a = T ∧ 14 ≤ k) → c' a k = c a k) : RelT c' T N :=
  h.congr hn hl (fun k q1 q2 => hc T (by omega) (by omega) k (by omega)) (fun k q => ⟨hc _ (by omega) (by omega) k (by omega), hc _ (by omega) (by omega) k (by omega)⟩) (fun j hj k hk => hc _ (by omega) (by omega) k (by omega)) (fun l hl2 k hk => hc _ (by omega) (by omega) k (by omega)) (fun k _ => rfl)
theorem nbN_up (N : NA) {k : Nat} (x : Int32) (h : k ≠ 3) : nbN (upN N k x) = nbN N := by
  unfold nbN
  rw [upN_ne _ _ _ (by omega)]
theorem nlN_up (N : NA) {k : Nat} (x : Int32) (h : k ≠ 4) : nlN (upN N k x) = nlN N := by
  unfold nlN
  rw [upN_ne _ _ _ (by omega)]
theorem sP_inj : ∀ p, p ∈ sP → ∀ q, q ∈ sP → (p.1 = q.1 ↔ p.2 = q.2) := by decide
theorem bP_inj : ∀ p, p ∈ bP → ∀ q, q ∈ bP → (p.1 = q.1 ↔ p.2 = q.2) := by decide
/-- a number of the town -/
theorem RelT.sca {c : CC} {T : Nat} {N : NA} (h : RelT c T N) (q : Nat × Nat) (hq : q ∈ sP) (h3 : q.2 ≠ 3) (h4 : q.2 ≠ 4) (v : Int32) : RelT (u2 c T q.1 v) T (upN N q.2 v) := by
  have hq2 := sP_lt q hq
  obtain ⟨g1, g2, g3, g4, g5, g6⟩ := h
  refine ⟨fun p hp => ?_, fun k hk => ?_, fun j hj => ?_, fun j hj hj6 => ?_, fun l hl => ?_, fun l hl hl2 => ?_⟩
  · by_cases e : p.1 = q.1
    · rw [(sP_inj p hp q hq).mp e, e, u2_eq, upN_eq]
    · rw [u2_ne _ _ (by omega), upN_ne _ _ _ (fun x => e ((sP_inj p hp q hq).mpr x))]
      exact g1 p hp
  · rw [u2_ne _ _ (by omega), u2_ne _ _ (by omega), upN_ne _ _ _ (by omega), upN_ne _ _ _ (by omega)]
    exact g2 k hk
  · rw [nbN_up _ _ h3] at hj
    rw [nlN_up _ _ h4]
    exact (g3 j hj).congr (fun k hk => u2_ne _ _ (by omega)) (fun w hw => upN_ne _ _ _ (by omega)) (fun k q1 q2 => upN_ne _ _ _ (by omega))
  · rw [nbN_up _ _ h3] at hj
    exact (g4 j hj hj6).congr (fun k hk => u2_ne _ _ (by omega))
  · rw [nlN_up _ _ h4] at hl
    exact (g5 l hl).congr (fun k hk => u2_ne _ _ (by omega)) (fun k q1 q2 => upN_ne _ _ _ (by omega))
  · rw [nlN_up _ _ h4] at hl
    rw [u2_ne _ _ (by omega)]
    exact g6 l hl hl2
/-- a number of a balloon that isn't landed -/
theorem RelT.bal {c : CC} {T : Nat} {N : NA} (h : RelT c T N) (hn : nbN N ≤ 6) (q : Nat × Nat) (hq : q ∈ bP) {j : Nat} (hj : j < nbN N) (v : Int32) (hs : upN N (22 + 11 * j + q.2) v (22 + 11 * j + 5) ≠ nI 2) : RelT (u2 c (T + 5 + j) q.1 v) T (upN N (22 + 11 * j + q.2) v) := by
  have hq2 := bP_lt q hq
  obtain ⟨g1, g2, g3, g4, g5, g6⟩ := h
  have e3 : nbN (upN N (22 + 11 * j + q.2) v) = nbN N := nbN_up _ _ (by omega)
  have e4 : nlN (upN N (22 + 11 * j + q.2) v) = nlN N := nlN_up _ _ (by omega)
  refine ⟨fun p hp => ?_, fun k hk => ?_, fun i hi => ?_, fun i hi hi6 => ?_, fun l hl => ?_, fun l hl hl2 => ?_⟩
  · have := sP_lt p hp
    rw [u2_ne _ _ (by omega), upN_ne _ _ _ (by omega)]
    exact g1 p hp
  · rw [u2_ne _ _ (by omega), u2_ne _ _ (by omega), upN_ne _ _ _ (by omega), upN_ne _ _ _ (by omega)]
    exact g2 k hk
  · rw [e3] at hi
    rw [e4]
    by_cases e : i = j
    · subst e
      have g := g3 i hj
      refine ⟨⟨fun p hp => ?_, ?_⟩, ?_, fun x => absurd x hs⟩
      · by_cases e : p.1 = q.1
        · rw [(bP_inj p hp q hq).mp e, e, u2_eq, upN_eq]
        · rw [u2_ne _ _ (by omega), upN_ne _ _ _ (fun x => e ((bP_inj p hp q hq).mpr (by omega)))]
          exact g.1.1 p hp
      · rw [u2_ne _ _ (by omega), shN_congr _ _ (fun k q1 q2 => upN_ne _ _ _ (by omega))]
        exact g.1.2
      · rw [u2_ne _ _ (by omega), lcN_congr _ _ (fun k q1 q2 => upN_ne _ _ _ (by omega))]
        exact g.2.1
    · exact (g3 i hi).congr (fun k hk => u2_ne _ _ (by omega)) (fun w hw => upN_ne _ _ _ (by omega)) (fun k q1 q2 => upN_ne _ _ _ (by omega))
  · rw [e3] at hi
    exact (g4 i hi hi6).congr (fun k hk => u2_ne _ _ (by omega))
  · rw [e4] at hl
    exact (g5 l hl).congr (fun k hk => u2_ne _ _ (by omega)) (fun k q1 q2 => upN_ne _ _ _ (by omega))
  · rw [e4] at hl
    rw [u2_ne _ _ (by omega)]
    exact g6 l hl hl2
theorem RelT.wind {c : CC} {T : Nat} {N : NA} (h : RelT c T N) {i : Nat} (hi : i < 6) (x y : Int32) : RelT (u2 (u2 c (T + 1) i x) (T + 2) i y) T (upN (upN N (10 + 2 * i) x) (10 + 2 * i + 1) y) := by
  obtain ⟨g1, g2, g3, g4, g5, g6⟩ := h
  have e3 : nbN (upN (upN N (10 + 2 * i) x) (10 + 2 * i + 1) y) = nbN N := by rw [nbN_up _ _ (by omega), nbN_up _ _ (by omega)]
  have e4 : nlN (upN (upN N (10 + 2 * i) x) (10 + 2 * i + 1) y) = nlN N := by rw [nlN_up _ _ (by omega), nlN_up _ _ (by omega)]
  have hN : ∀ k, ¬ (k = 10 + 2 * i ∨ k = 10 + 2 * i + 1) → upN (upN N (10 + 2 * i) x) (10 + 2 * i + 1) y k = N k := fun k hk => by rw [upN_ne _ _ _ (by omega), upN_ne _ _ _ (by omega)]
  have hc : ∀ a k, ¬ ((a = T + 1 ∨ a = T + 2) ∧ k = i) → u2 (u2 c (T + 1) i x) (T + 2) i y a k = c a k := fun a k hk => by rw [u2_ne _ _ (by omega), u2_ne _ _ (by omega)]
  refine ⟨fun p hp => ?_, fun k hk => ?_, fun j hj => ?_, fun j hj hj6 => ?_, fun l hl => ?_, fun l hl hl2 => ?_⟩
  · have := sP_lt p hp
    rw [hc _ _ (by omega), hN _ (by omega)]
    exact g1 p hp
  · by_cases e : k = i
    · subst e
      rw [u2_ne _ _ (by omega), u2_eq, u2_eq, upN_ne _ _ _ (by omega), upN_eq, upN_eq]
      exact ⟨rfl, rfl⟩
    · rw [hc _ _ (by omega), hc _ _ (by omega), hN _ (by omega), hN _ (by omega)]
      exact g2 k hk
  · rw [e3] at hj
    rw [e4]
    exact (g3 j hj).congr (fun k hk => hc _ _ (by omega)) (fun w hw => hN _ (by omega)) (fun k q1 q2 => hN _ (by omega))
  · rw [e3] at hj
    exact (g4 j hj hj6).congr (fun k hk => hc _ _ (by omega))
  · rw [e4] at hl
    exact (g5 l hl).congr (fun k hk => hc _ _ (by omega)) (fun k q1 q2 => hN _ (by omega))
  · rw [e4] at hl
    rw [hc _ _ (by omega)]
    exact g6 l hl hl2
theorem nI_s1 (n : Nat) : nI n + nI 1 = nI (n + 1) := nI_1 n
theorem shN_0 {N : NA} {b : Int32} : ∀ n, (∀ l, l < n → ¬ (0 < N (88 + 4 * l + 2) ∧ N (88 + 4 * l + 3) = b)) → shN N b n = nI 0
  | 0, _ => rfl
  | n + 1, h => by
    simp only [shN]
    rw [if_neg (h n (by omega))]
    exact shN_0 n (fun l hl => h l (by omega))
theorem ctL_0 {p : Nat → Prop} [DecidablePred p] : ∀ n, (∀ l, l < n → ¬ p l) → ctL p n = nI 0
  | 0, _ => rfl
  | n + 1, h => by
    simp only [ctL]
    rw [if_neg (h n (by omega))]
    exact ctL_0 n (fun l hl => h l (by omega))
theorem baN_row (N : NA) (j : Nat) (s : Int32) {w : Nat} (hw : w < 11) : baN N j s (22 + 11 * j + w) = if w = 0 then s else if w = 6 ∨ w = 7 then nI 20 else nI 0 := by
  unfold baN
  by_cases h7 : w = 7
  · subst h7
    rw [upN_eq]
    rfl
  · rw [upN_ne _ _ _ (by omega)]
    by_cases h6 : w = 6
    · subst h6
      rw [upN_eq]
      rfl
    · rw [upN_ne _ _ _ (by omega)]
      by_cases h0 : w = 0
      · subst h0
        rw [upN_eq]
        rfl
      · rw [upN_ne _ _ _ (by omega), if_neg h0, if_neg (by omega)]
        unfold zeN
        rw [if_pos (by omega)]
theorem baN_o (N : NA) (j : Nat) (s : Int32) {k : Nat} (h3 : k ≠ 3) (h : ¬ (22 + 11 * j ≤ k ∧ k < 22 + 11 * j + 11)) : baN N j s k = N k := by
  unfold baN
  rw [upN_ne _ _ _ (by omega), upN_ne _ _ _ (by omega), upN_ne _ _ _ (by omega)]
  unfold zeN
  rw [if_neg (by omega), upN_ne _ _ _ h3]
theorem baN_3 (N : NA) (j : Nat) (s : Int32) : baN N j s 3 = N 3 + nI 1 := by
  unfold baN
  rw [upN_ne _ _ _ (by omega), upN_ne _ _ _ (by omega), upN_ne _ _ _ (by omega)]
  unfold zeN
  rw [if_neg (by omega), upN_eq]
theorem RelT.newB {c : CC} {T : Nat} {N : NA} (h : RelT c T N) {b : Nat} (hb : b < 6) (e : N 3 = nI b) (hl : ∀ l, l < nlN N → ¬ (0 < N (88 + 4 * l + 2) ∧ N (88 + 4 * l + 3) = nI b)) (s : Int32) : RelT (u2 (u2 c (T + 5 + b) 0 s) T 4 (nI (b + 1))) T (baN N b s) := by
  obtain ⟨g1, g2, g3, g4, g5, g6⟩ := h
  have eb : nbN N = b := by unfold nbN; rw [e]; exact nI_clamp (by omega)
  have e3 : nbN (baN N b s) = b + 1 := by unfold nbN; rw [baN_3, e, nI_s1]; exact nI_clamp (by omega)
  have e4 : nlN (baN N b s) = nlN N := by unfold nlN; rw [baN_o _ _ _ (by omega) (by omega)]
  rw [eb] at g3 g4
  have hc : ∀ a k, ¬ (a = T + 5 + b ∧ k = 0) → ¬ (a = T ∧ k = 4) → u2 (u2 c (T + 5 + b) 0 s) T 4 (nI (b + 1)) a k = c a k := fun a k h1 h2 => by rw [u2_ne _ _ h2, u2_ne _ _ h1]
  refine ⟨fun p hp => ?_, fun k hk => ?_, fun j hj => ?_, fun j hj hj6 => ?_, fun l hl2 => ?_, fun l hl2 hl3 => ?_⟩
  · have hp2 := sP_lt p hp
    by_cases e5 : p.1 = 4
    · have e6 : p.2 = 3 := (sP_inj p hp (4, 3) (by decide)).mp e5
      rw [e5, e6, u2_eq, baN_3, e, nI_s1]
    · have e6 : p.2 ≠ 3 := fun x => e5 ((sP_inj p hp (4, 3) (by decide)).mpr x)
      rw [hc _ _ (by omega) (by omega), baN_o _ _ _ e6 (by omega)]
      exact g1 p hp
  · rw [hc _ _ (by omega) (by omega), hc _ _ (by omega) (by omega), baN_o _ _ _ (by omega) (by omega), baN_o _ _ _ (by omega) (by omega)]
    exact g2 k hk
  · rw [e3] at hj
    rw [e4]
    by_cases e5 : j = b
    · subst e5
      have g := g4 j (Nat.le_refl _) hb
      refine ⟨⟨fun p hp => ?_, ?_⟩, ?_, fun x => ?_⟩
      · have hp2 := bP_lt p hp
        rw [baN_row _ _ _ hp2.2.1]
        by_cases e6 : p.1 = 0
        · rw [e6, (bP_inj p hp (0, 0) (by decide)).mp e6, u2_ne _ _ (by omega), u2_eq]
          rfl
        · rw [hc _ _ (by omega) (by omega), g _ hp2.1, if_neg (fun x => e6 ((bP_inj p hp (0, 0) (by decide)).mpr x))]
          have q1 := bP_inj p hp (9, 6) (by decide)
          have q2 := bP_inj p hp (10, 7) (by decide)
          simp only at q1 q2
          simp only [q1, q2]
      · rw [hc _ _ (by omega) (by omega), g 6 (by omega), shN_congr _ _ (fun k q1 q2 => baN_o _ _ _ (by omega) (by omega)), shN_0 _ hl]
        rfl
      · rw [hc _ _ (by omega) (by omega), g 5 (by omega), lcN_congr _ _ (fun k q1 q2 => baN_o _ _ _ (by omega) (by omega))]
        exact (ctL_0 _ hl).symm
      · rw [baN_row _ _ _ (by decide), if_neg (by decide), if_neg (by decide)] at x
        exact absurd x (by decide)
    · exact (g3 j (by omega)).congr (fun k hk => hc _ _ (by omega) (by omega)) (fun w hw => baN_o _ _ _ (by omega) (by omega)) (fun k q1 q2 => baN_o _ _ _ (by omega) (by omega))
  · rw [e3] at hj
    exact (g4 j (by omega) hj6).congr (fun k hk => hc _ _ (by omega) (by omega))
  · rw [e4] at hl2
    exact (g5 l hl2).congr (fun k hk => hc _ _ (by omega) (by omega)) (fun k q1 q2 => baN_o _ _ _ (by omega) (by omega))
  · rw [e4] at hl2
    rw [hc _ _ (by omega) (by omega)]
    exact g6 l hl2 hl3
theorem leN_o (N : NA) (l : Nat) (s r : Int32) {k : Nat} (h4 : k ≠ 4) (h : ¬ (88 + 4 * l ≤ k ∧ k < 88 + 4 * l + 4)) : leN N l s r k = N k := by
  unfold leN
  rw [upN_ne _ _ _ (by omega), upN_ne _ _ _ (by omega), upN_ne _ _ _ (by omega), upN_ne _ _ _ (by omega), upN_ne _ _ _ h4]
theorem RelT.newL {c : CC} {T : Nat} {N : NA} (h : RelT c T N) (hn : nbN N ≤ 6) {b : Nat} (hb : b < 24) (e : N 4 = nI b) (s r : Int32) : RelT (u2 (u2 (u2 c (T + 11 + b) 0 s) (T + 11 + b) 1 r) T 5 (nI (b + 1))) T (leN N b s r) := by
  obtain ⟨g1, g2, g3, g4, g5, g6⟩ := h
  have eb : nlN N = b := by unfold nlN; rw [e]; exact nI_clamp (by omega)
  have e4' : leN N b s r 4 = nI (b + 1) := by
    unfold leN
    rw [upN_ne _ _ _ (by omega), upN_ne _ _ _ (by omega), upN_ne _ _ _ (by omega), upN_ne _ _ _ (by omega), upN_eq, e, nI_s1]
  have e4 : nlN (leN N b s r) = b + 1 := by unfold nlN; rw [e4']; exact nI_clamp (by omega)
  have e3 : nbN (leN N b s r) = nbN N := by unfold nbN; rw [leN_o _ _ _ _ (by omega) (by omega)]
  have w2 : leN N b s r (88 + 4 * b + 2) = nI 0 := by
    unfold leN
    rw [upN_ne _ _ _ (by omega), upN_eq]
  rw [eb] at g3 g5 g6
  have hc : ∀ a k, ¬ (a = T + 11 + b ∧ k < 2) → ¬ (a = T ∧ k = 5) → u2 (u2 (u2 c (T + 11 + b) 0 s) (T + 11 + b) 1 r) T 5 (nI (b + 1)) a k = c a k := fun a k h1 h2 => by rw [u2_ne _ _ h2, u2_ne _ _ (by omega), u2_ne _ _ (by omega)]
  refine ⟨fun p hp => ?_, fun k hk => ?_, fun j hj => ?_, fun j hj hj6 => ?_, fun l hl2 => ?_, fun l hl2 hl3 => ?_⟩
  · have hp2 := sP_lt p hp
    by_cases e5 : p.1 = 5
    · have e6 : p.2 = 4 := (sP_inj p hp (5, 4) (by decide)).mp e5
      rw [e5, e6, u2_eq, e4']
    · have e6 : p.2 ≠ 4 := fun x => e5 ((sP_inj p hp (5, 4) (by decide)).mpr x)
      rw [hc _ _ (by omega) (by omega), leN_o _ _ _ _ e6 (by omega)]
      exact g1 p hp
  · rw [hc _ _ (by omega) (by omega), hc _ _ (by omega) (by omega), leN_o _ _ _ _ (by omega) (by omega), leN_o _ _ _ _ (by omega) (by omega)]
    exact g2 k hk
  · rw [e3] at hj
    rw [e4]
    have g := (g3 j hj).congr (c' := u2 (u2 (u2 c (T + 11 + b) 0 s) (T + 11 + b) 1 r) T 5 (nI (b + 1))) (o' := T + 5 + j) (N' := leN N b s r) (fun k hk => hc _ _ (by omega) (by omega)) (fun w hw => leN_o _ _ _ _ (by omega) (by omega)) (fun k q1 q2 => leN_o _ _ _ _ (by omega) (by omega))
    refine ⟨⟨g.1.1, ?_⟩, ?_, g.2.2⟩
    · rw [g.1.2]
      show _ = ite _ _ _
      rw [if_neg (fun q => absurd (w2 ▸ q.1) (by decide))]
    · rw [g.2.1]
      show _ = ite _ _ _
      rw [if_neg (fun q => absurd (w2 ▸ q.1) (by decide))]
      rfl
  · rw [e3] at hj
    exact (g4 j hj hj6).congr (fun k hk => hc _ _ (by omega) (by omega))
  · rw [e4] at hl2
    by_cases e5 : l = b
    · subst e5
      have g := g6 l (Nat.le_refl _) hb
      refine ⟨?_, ?_, ?_⟩
      · rw [u2_ne _ _ (by omega), u2_ne _ _ (by omega), u2_eq]
        unfold leN
        rw [upN_ne _ _ _ (by omega), upN_ne _ _ _ (by omega), upN_ne _ _ _ (by omega), upN_eq]
      · rw [u2_ne _ _ (by omega), u2_eq]
        unfold leN
        rw [upN_ne _ _ _ (by omega), upN_ne _ _ _ (by omega), upN_eq]
      · rw [hc _ _ (by omega) (by omega), g]
        unfold leN
        rw [upN_eq]
    · exact (g5 l (by omega)).congr (fun k hk => hc _ _ (by omega) (by omega)) (fun k q1 q2 => leN_o _ _ _ _ (by omega) (by omega))
  · rw [e4] at hl2
    rw [hc _ _ (by omega) (by omega)]
    exact g6 l (by omega) hl3
theorem ldN_o (N : NA) (l : Nat) (b : Int32) {k : Nat} (h : k ≠ 88 + 4 * l + 2) (h3 : k ≠ 88 + 4 * l + 3) : ldN N l b k = N k := by
  unfold ldN
  rw [upN_ne _ _ _ h3, upN_ne _ _ _ h]
theorem ldN_3 (N : NA) (l : Nat) (b : Int32) : ldN N l b (88 + 4 * l + 3) = b := by
  unfold ldN
  rw [upN_eq]
theorem shN_t {N : NA} {b : Int32} {n : Nat} (h : 0 < N (88 + 4 * n + 2) ∧ N (88 + 4 * n + 3) = b) : shN N b (n + 1) = shN N b n + N (88 + 4 * n) := by
  show ite _ _ _ = _
  rw [if_pos h]
theorem shN_f {N : NA} {b : Int32} {n : Nat} (h : ¬ (0 < N (88 + 4 * n + 2) ∧ N (88 + 4 * n + 3) = b)) : shN N b (n + 1) = shN N b n := by
  show ite _ _ _ = _
  rw [if_neg h]
theorem lcN_0 (N : NA) (b : Int32) : lcN N b 0 = nI 0 := rfl
theorem shN_00 (N : NA) (b : Int32) : shN N b 0 = nI 0 := rfl
theorem lcN_t {N : NA} {b : Int32} {n : Nat} (h : 0 < N (88 + 4 * n + 2) ∧ N (88 + 4 * n + 3) = b) : lcN N b (n + 1) = lcN N b n + nI 1 := by
  show ite _ _ _ = _
  rw [if_pos h]
  rfl
theorem lcN_f {N : NA} {b : Int32} {n : Nat} (h : ¬ (0 < N (88 + 4 * n + 2) ∧ N (88 + 4 * n + 3) = b)) : lcN N b (n + 1) = lcN N b n := by
  show ite _ _ _ = _
  rw [if_neg h]
  rfl
theorem on_ld {N : NA} {l n : Nat} {b b' : Int32} (e : n ≠ l) : (0 < ldN N l b (88 + 4 * n + 2) ∧ ldN N l b (88 + 4 * n + 3) = b') ↔ (0 < N (88 + 4 * n + 2) ∧ N (88 + 4 * n + 3) = b') := by
  rw [ldN_o _ _ _ (by omega) (by omega), ldN_o _ _ _ (by omega) (by omega)]
theorem lcN_ld {N : NA} {l : Nat} (b : Int32) (h : N (88 + 4 * l + 2) = 0) : ∀ n, lcN (ldN N l b) b n = if l < n then lcN N b n + nI 1 else lcN N b n
  | 0 => rfl
  | n + 1 => by
    have ih := lcN_ld b h n
    by_cases e : n = l
    · subst e
      rw [lcN_t ⟨by rw [ldN_2]; decide, ldN_3 _ _ _⟩, ih, if_neg (Nat.lt_irrefl _), if_pos (Nat.lt_succ_self _), lcN_f (fun q => absurd (h ▸ q.1) (by decide))]
    · by_cases e3 : 0 < N (88 + 4 * n + 2) ∧ N (88 + 4 * n + 3) = b
      · rw [lcN_t ((on_ld e).mpr e3), lcN_t e3, ih]
        by_cases e2 : l < n
        · rw [if_pos e2, if_pos (show l < n + 1 by omega)]
        · rw [if_neg e2, if_neg (show ¬ l < n + 1 by omega)]
      · rw [lcN_f (fun q => e3 ((on_ld e).mp q)), lcN_f e3, ih]
        by_cases e2 : l < n
        · rw [if_pos e2, if_pos (show l < n + 1 by omega)]
        · rw [if_neg e2, if_neg (show ¬ l < n + 1 by omega)]
theorem lcN_ldo {N : NA} {l : Nat} {b b' : Int32} (hb : b ≠ b') (h : N (88 + 4 * l + 2) = 0) (n : Nat) : lcN (ldN N l b) b' n = lcN N b' n := by
  have h0 : ¬ (0 < N (88 + 4 * l + 2) ∧ N (88 + 4 * l + 3) = b') := fun q => by
    rw [h] at q
    exact absurd q.1 (by decide)
  have h1 : ¬ (0 < ldN N l b (88 + 4 * l + 2) ∧ ldN N l b (88 + 4 * l + 3) = b') := fun q => hb ((ldN_3 N l b).symm.trans q.2)
  induction n with
  | zero => exact (lcN_0 _ _).trans (lcN_0 _ _).symm
  | succ n ih =>
    by_cases e : n = l
    · subst e
      rw [lcN_f h1, lcN_f h0, ih]
    · by_cases e3 : 0 < N (88 + 4 * n + 2) ∧ N (88 + 4 * n + 3) = b'
      · rw [lcN_t ((on_ld e).mpr e3), lcN_t e3, ih]
      · rw [lcN_f (fun q => e3 ((on_ld e).mp q)), lcN_f e3, ih]
theorem shN_ld {N : NA} {l : Nat} (b : Int32) (h : N (88 + 4 * l + 2) = 0) : ∀ n, shN (ldN N l b) b n = if l < n then shN N b n + N (88 + 4 * l) else shN N b n
  | 0 => rfl
  | n + 1 => by
    have ih := shN_ld b h n
    have e1 : ldN N l b (88 + 4 * n) = N (88 + 4 * n) := ldN_o _ _ _ (by omega) (by omega)
    by_cases e : n = l
    · subst e
      rw [shN_t ⟨by rw [ldN_2]; decide, ldN_3 _ _ _⟩, ih, if_neg (Nat.lt_irrefl _), if_pos (Nat.lt_succ_self _), shN_f (fun q => absurd (h ▸ q.1) (by decide)), e1]
    · by_cases e3 : 0 < N (88 + 4 * n + 2) ∧ N (88 + 4 * n + 3) = b
      · rw [shN_t ((on_ld e).mpr e3), shN_t e3, ih, e1]
        by_cases e2 : l < n
        · rw [if_pos e2, if_pos (show l < n + 1 by omega), Int32.add_assoc, Int32.add_assoc, Int32.add_comm (N (88 + 4 * l))]
        · rw [if_neg e2, if_neg (show ¬ l < n + 1 by omega)]
      · rw [shN_f (fun q => e3 ((on_ld e).mp q)), shN_f e3, ih]
        by_cases e2 : l < n
        · rw [if_pos e2, if_pos (show l < n + 1 by omega)]
        · rw [if_neg e2, if_neg (show ¬ l < n + 1 by omega)]
theorem shN_ldo {N : NA} {l : Nat} {b b' : Int32} (hb : b ≠ b') (h : N (88 + 4 * l + 2) = 0) : ∀ n, shN (ldN N l b) b' n = shN N b' n
  | 0 => (shN_00 _ _).trans (shN_00 _ _).symm
  | n + 1 => by
    have ih := shN_ldo hb h n
    by_cases e : n = l
    · subst e
      rw [shN_f (fun q => hb (by rw [← q.2, ldN_3])), shN_f (fun q => absurd (h ▸ q.1) (by decide)), ih]
    · by_cases e3 : 0 < N (88 + 4 * n + 2) ∧ N (88 + 4 * n + 3) = b'
      · rw [shN_t ((on_ld e).mpr e3), shN_t e3, ih, ldN_o _ _ _ (by omega) (by omega)]
      · rw [shN_f (fun q => e3 ((on_ld e).mp q)), shN_f e3, ih]
/-- a letter is put into a balloon of the town -/
theorem RelT.load {c : CC} {N : NA} (h : RelT c 1 N) (hn : nbN N ≤ 6) (hn2 : nlN N ≤ 24) {l j : Nat} (hl : l < nlN N) (hj : j < nbN N) (hw : N (88 + 4 * l + 2) = 0) (hs : N (22 + 11 * j + 5) ≠ nI 2) : RelT (putS c l j) 1 (ldN N l (nI j)) := by
  obtain ⟨g1, g2, g3, g4, g5, g6⟩ := h
  have e3 : nbN (ldN N l (nI j)) = nbN N := by unfold nbN; rw [ldN_o _ _ _ (by omega) (by omega)]
  have e4 : nlN (ldN N l (nI j)) = nlN N := by unfold nlN; rw [ldN_o _ _ _ (by omega) (by omega)]
  have hc : ∀ a k, ¬ (a = 12 + l ∧ k = 2) → ¬ (a = 6 + j ∧ (k = 5 ∨ k = 6)) → putS c l j a k = c a k := fun a k h1 h2 => by unfold putS; rw [u2_ne _ _ (by omega), u2_ne _ _ (by omega), u2_ne _ _ h1]
  refine ⟨fun p hp => ?_, fun k hk => ?_, fun i hi => ?_, fun i hi hi6 => ?_, fun i hi => ?_, fun i hi hi2 => ?_⟩
  · have hp2 := sP_lt p hp
    rw [hc _ _ (by omega) (by omega), ldN_o _ _ _ (by omega) (by omega)]
    exact g1 p hp
  · rw [hc _ _ (by omega) (by omega), hc _ _ (by omega) (by omega), ldN_o _ _ _ (by omega) (by omega), ldN_o _ _ _ (by omega) (by omega)]
    exact g2 k hk
  · rw [e3] at hi
    rw [e4]
    by_cases e : i = j
    · subst e
      have g := g3 i hi
      have gl := g5 l hl
      refine ⟨⟨fun p hp => ?_, ?_⟩, ?_, fun x => ?_⟩
      · have hp2 := bP_lt p hp
        rw [hc _ _ (by omega) (by omega), ldN_o _ _ _ (by omega) (by omega)]
        exact g.1.1 p hp
      · rw [shN_ld _ hw, if_pos hl, ← g.1.2, ← gl.1]
        unfold putS
        rw [show (1 : Nat) + 5 + i = 6 + i by omega, u2_eq]
      · rw [lcN_ld _ hw, if_pos hl, ← g.2.1]
        unfold putS
        rw [show (1 : Nat) + 5 + i = 6 + i by omega, u2_ne _ _ (by omega), u2_eq]
      · rw [ldN_o _ _ _ (by omega) (by omega)] at x
        exact absurd x hs
    · have g := g3 i hi
      have hne : nI j ≠ nI i := nI_ne (by omega) (by omega) (fun q => e q.symm)
      refine ⟨⟨fun p hp => ?_, ?_⟩, ?_, fun x => ?_⟩
      · have hp2 := bP_lt p hp
        rw [hc _ _ (by omega) (by omega), ldN_o _ _ _ (by omega) (by omega)]
        exact g.1.1 p hp
      · rw [shN_ldo hne hw, hc _ _ (by omega) (by omega)]
        exact g.1.2
      · rw [lcN_ldo hne hw, hc _ _ (by omega) (by omega)]
        exact g.2.1
      · rw [ldN_o _ _ _ (by omega) (by omega)] at x
        rw [hc _ _ (by omega) (by omega), woN_congr (fun w hw => ldN_o _ _ _ (by omega) (by omega))]
        exact g.2.2 x
  · rw [e3] at hi
    exact (g4 i hi hi6).congr (fun k hk => hc _ _ (by omega) (by omega))
  · rw [e4] at hi
    by_cases e : i = l
    · subst e
      have g := g5 i hi
      refine ⟨?_, ?_, ?_⟩
      · rw [hc _ _ (by omega) (by omega), ldN_o _ _ _ (by omega) (by omega)]
        exact g.1
      · rw [hc _ _ (by omega) (by omega), ldN_o _ _ _ (by omega) (by omega)]
        exact g.2.1
      · rw [ldN_3]
        unfold putS
        rw [u2_ne _ _ (by omega), u2_ne _ _ (by omega), show (1 : Nat) + 11 + i = 12 + i by omega, u2_eq]
    · exact (g5 i hi).congr (fun k hk => hc _ _ (by omega) (by omega)) (fun k q1 q2 => ldN_o _ _ _ (by omega) (by omega))
  · rw [e4] at hi
    rw [hc _ _ (by omega) (by omega)]
    exact g6 i hi hi2
-- whole, 28z.read.lean.txt
theorem pSeq_none {T : NA} {n f p : Nat} (h : (pOrd T n p).2 = none) : pSeq T n (f + 1) p = ((pOrd T n p).1, none) := by
  simp only [pSeq, h]
theorem pSeq_end {T : NA} {n f p : Nat} {o : Ord} (h : (pOrd T n p).2 = some o) (hq : ¬ (pOrd T n p).1 < n) : pSeq T n (f + 1) p = ((pOrd T n p).1, some [o]) := by
  simp only [pSeq, h]
  rw [if_neg hq]
theorem pSeq_bad {T : NA} {n f p : Nat} {o : Ord} (h : (pOrd T n p).2 = some o) (hq : (pOrd T n p).1 < n) (h59 : ¬ T (pOrd T n p).1 = nI 59) : pSeq T n (f + 1) p = ((pOrd T n p).1, none) := by
  simp only [pSeq, h]
  rw [if_pos hq, if_neg h59]
theorem pSeq_more {T : NA} {n f p : Nat} {o : Ord} (h : (pOrd T n p).2 = some o) (hq : (pOrd T n p).1 < n) (h59 : T (pOrd T n p).1 = nI 59) : pSeq T n (f + 1) p = ((pSeq T n f ((pOrd T n p).1 + 1)).1, (pSeq T n f ((pOrd T n p).1 + 1)).2.map (o :: ·)) := by
  simp only [pSeq, h]
  rw [if_pos hq, if_pos h59]
def FR (c0 c1 : CC) : Prop := ∀ a k, a ≠ 396 → a ≠ 402 → ¬ (a = 395 ∧ (k = 9 ∨ k = 11 ∨ k = 15)) → c1 a k = c0 a k
def QQ (c0 c1 : CC) (n p : Nat) (N : NA) : Prop := c1 395 8 = nI n ∧ c1 395 9 = nI p ∧ p ≤ n ∧ c1 396 = N ∧ FR c0 c1
theorem QQ.T {c0 c : CC} {n p : Nat} {N : NA} (h : QQ c0 c n p N) : c 401 = c0 401 := funext fun k => h.2.2.2.2 401 k (by decide) (by decide) (by omega)
theorem At.same {c : CC} {n p : Nat} (h1 : c 395 8 = nI n) (h2 : c 395 9 = nI p) (h3 : p ≤ n) : At c c n p := ⟨h1, h2, h3, fun _ _ _ _ => rfl⟩
