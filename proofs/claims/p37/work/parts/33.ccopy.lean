/-- a town's place -/
def TT (T : Nat) : Prop := T = 1 ∨ ∃ r, r < 10 ∧ T = 38 + 35 * r
theorem TT.k {T : Nat} (h : TT T) {q : Nat} (hq : q < 35) : KD (T + q) = kdT q ∧ T + q < NN := by
  rcases h with rfl | ⟨r, hr, rfl⟩
  · refine ⟨?_, by unfold NN; omega⟩
    unfold KD
    rw [if_neg (by omega), if_pos (by omega), show 1 + q - 1 = q by omega]
  · refine ⟨?_, by unfold NN; omega⟩
    unfold KD
    rw [if_neg (by omega), if_neg (by omega), if_neg (by omega), if_neg (by omega), if_pos (by omega), show (38 + 35 * r + q - 38) % 35 = q by omega]
theorem TT.k0 {T : Nat} (h : TT T) : KD T = 4 ∧ T < NN := h.k (q := 0) (by decide)
theorem TT.kw {T : Nat} (h : TT T) : KD (T + 1) = 10 ∧ T + 1 < NN := h.k (q := 1) (by decide)
theorem TT.kv {T : Nat} (h : TT T) : KD (T + 1 + 1) = 10 ∧ T + 1 + 1 < NN := h.k (q := 2) (by decide)
theorem TT.kB {T : Nat} (h : TT T) : KD (T + 1 + 2) = 12 ∧ T + 1 + 2 < NN := h.k (q := 3) (by decide)
theorem TT.kL {T : Nat} (h : TT T) : KD (T + 1 + 3) = 13 ∧ T + 1 + 3 < NN := h.k (q := 4) (by decide)
theorem TT.kb {T : Nat} (h : TT T) {j : Nat} (hj : j < 6) : KD (T + 1 + 2 + 2 + j) = 0 ∧ T + 1 + 2 + 2 + j < NN := by
  have := h.k (q := 5 + j) (by omega)
  rw [show T + 1 + 2 + 2 + j = T + (5 + j) by omega]
  refine ⟨this.1.trans ?_, this.2⟩
  unfold kdT
  rw [if_neg (by omega), if_neg (by omega), if_neg (by omega), if_neg (by omega), if_pos (by omega)]
theorem TT.kl {T : Nat} (h : TT T) {l : Nat} (hl : l < 24) : KD (T + 1 + 3 + 7 + l) = 2 ∧ T + 1 + 3 + 7 + l < NN := by
  have := h.k (q := 11 + l) (by omega)
  rw [show T + 1 + 3 + 7 + l = T + (11 + l) by omega]
  refine ⟨this.1.trans ?_, this.2⟩
  unfold kdT
  rw [if_neg (by omega), if_neg (by omega), if_neg (by omega), if_neg (by omega), if_neg (by omega)]
def DJ (T S : Nat) : Prop := T + 35 ≤ S ∨ S + 35 ≤ T
theorem lnT_q {T : Nat} (h : TT T) {q : Nat} (hq : q < 35) : LN (T + q) = lnT q := by
  rcases h with rfl | ⟨r, hr, rfl⟩
  · unfold LN
    rw [if_pos (by omega), show 1 + q - 1 = q by omega]
  · unfold LN
    rw [if_neg (by omega), if_neg (by omega), if_pos (by omega), show (38 + 35 * r + q - 38) % 35 = q by omega]
theorem lnw {T i : Nat} (h : TT T) (hi : i < 6) : i < LN (T + 1) := by rw [lnT_q h (q := 1) (by decide)]; exact hi
theorem lnv {T i : Nat} (h : TT T) (hi : i < 6) : i < LN (T + 1 + 1) := by rw [show T + 1 + 1 = T + 2 from rfl, lnT_q h (q := 2) (by decide)]; exact hi
theorem lnB {T i : Nat} (h : TT T) (hi : i < 6) : i < LN (T + 1 + 2) := by rw [show T + 1 + 2 = T + 3 from rfl, lnT_q h (q := 3) (by decide)]; exact hi
theorem lnL {T i : Nat} (h : TT T) (hi : i < 24) : i < LN (T + 1 + 3) := by rw [show T + 1 + 3 = T + 4 from rfl, lnT_q h (q := 4) (by decide)]; exact hi
set_option maxRecDepth 20000 in
set_option maxHeartbeats 1000000 in
theorem c_cp_w {G : GT} (c : CC) (od : Int64 × UInt64) (T S : Nat) (hT : TT T) (hS : TT S) (hD : DJ T S) (k : ∀ c' : CC, ((∀ h, h < 6 → c' (T + 1) h = c (S + 1) h ∧ c' (T + 2) h = c (S + 2) h) ∧ ∀ a k, ¬ ((a = T + 1 ∨ a = T + 2) ∧ k < 6) → c' a k = c a k) → WE mX4_copyFrom 38 [(0, .ref T), (1, .ref S)] [] (c', od) 0 0 G) : ∀ (n i : Nat) (c' : CC), i ≤ 6 → 6 < i + n → ((∀ h, h < i → c' (T + 1) h = c (S + 1) h ∧ c' (T + 2) h = c (S + 2) h) ∧ ∀ a k, ¬ ((a = T + 1 ∨ a = T + 2) ∧ k < i) → c' a k = c a k) → WE mX4_copyFrom 2 [(0, .ref T), (1, .ref S), (2, .int (nI i))] [] (c', od) 0 0 G := by
  intro n
  induction n with
  | zero =>
    intro i c' h1 h2
    exact absurd h2 (by omega)
  | succ n ih =>
    intro i c' hi hn hI
    obtain ⟨p1, p2⟩ := hI
    refine WE.iload_n (n := 3) dX4_copyFrom_2 rfl rfl ?_
    refine WE.bipush (n := 5) (nI 6) dX4_copyFrom_3 rfl (by decide) ?_
    refine WE.icmp_ge (n := 8) (tgt := 38) dX4_copyFrom_5 rfl (by decide) (fun h5 => ?_) (fun h5 => ?_)
    · skip
      have hge : 6 ≤ i := ge_t (by omega) (by omega) h5
      obtain rfl : i = 6 := by omega
      refine WE.ofA (L' := [(0, .ref T), (1, .ref S)]) ⟨rfl, rfl, trivial⟩ (k _ ?_)
      exact ⟨p1, p2⟩
    · skip
      have hlt : i < 6 := ge_f (by omega) (by omega) h5
      refine WE.aload_n (n := 9) dX4_copyFrom_8 rfl rfl ?_
      refine WE.getR (n := 12) dX4_copyFrom_9 rfl fl_X4_9 ⟨by decide, by decide⟩ rfl (by first | decide | exact hT.k0 | exact hS.k0 | exact hT.kw | exact hS.kw | exact hT.kv | exact hS.kv | exact hT.kB | exact hS.kB | exact hT.kL | exact hS.kL | exact hT.kb hlt | exact hT.kl hlt | assumption) ?_
      refine WE.iload_n (n := 13) dX4_copyFrom_12 rfl rfl ?_
      refine WE.aload_n (n := 14) dX4_copyFrom_13 rfl rfl ?_
      refine WE.getR (n := 17) dX4_copyFrom_14 rfl fl_X4_9 ⟨by decide, by decide⟩ rfl (by first | decide | exact hT.k0 | exact hS.k0 | exact hT.kw | exact hS.kw | exact hT.kv | exact hS.kv | exact hT.kB | exact hS.kB | exact hT.kL | exact hS.kL | exact hT.kb hlt | exact hT.kl hlt | assumption) ?_
      refine WE.iload_n (n := 18) dX4_copyFrom_17 rfl rfl ?_
      refine WE.iald (n := 19) i dX4_copyFrom_18 rfl (by first | decide | exact hT.k0 | exact hS.k0 | exact hT.kw | exact hS.kw | exact hT.kv | exact hS.kv | exact hT.kB | exact hS.kB | exact hT.kL | exact hS.kL | exact hT.kb hlt | exact hT.kl hlt | assumption) rfl (lnw hS hlt) ?_
      refine WE.iast (n := 20) i dX4_copyFrom_19 rfl (by first | decide | exact hT.k0 | exact hS.k0 | exact hT.kw | exact hS.kw | exact hT.kv | exact hS.kv | exact hT.kB | exact hS.kB | exact hT.kL | exact hS.kL | exact hT.kb hlt | exact hT.kl hlt | assumption) rfl (lnw hT hlt) ?_
      refine WE.aload_n (n := 21) dX4_copyFrom_20 rfl rfl ?_
      refine WE.getR (n := 24) dX4_copyFrom_21 rfl fl_X4_15 ⟨by decide, by decide⟩ rfl (by first | decide | exact hT.k0 | exact hS.k0 | exact hT.kw | exact hS.kw | exact hT.kv | exact hS.kv | exact hT.kB | exact hS.kB | exact hT.kL | exact hS.kL | exact hT.kb hlt | exact hT.kl hlt | assumption) ?_
      refine WE.iload_n (n := 25) dX4_copyFrom_24 rfl rfl ?_
      refine WE.aload_n (n := 26) dX4_copyFrom_25 rfl rfl ?_
      refine WE.getR (n := 29) dX4_copyFrom_26 rfl fl_X4_15 ⟨by decide, by decide⟩ rfl (by first | decide | exact hT.k0 | exact hS.k0 | exact hT.kw | exact hS.kw | exact hT.kv | exact hS.kv | exact hT.kB | exact hS.kB | exact hT.kL | exact hS.kL | exact hT.kb hlt | exact hT.kl hlt | assumption) ?_
      refine WE.iload_n (n := 30) dX4_copyFrom_29 rfl rfl ?_
      refine WE.iald (n := 31) i dX4_copyFrom_30 rfl (by first | decide | exact hT.k0 | exact hS.k0 | exact hT.kw | exact hS.kw | exact hT.kv | exact hS.kv | exact hT.kB | exact hS.kB | exact hT.kL | exact hS.kL | exact hT.kb hlt | exact hT.kl hlt | assumption) rfl (lnv hS hlt) ?_
      refine WE.iast (n := 32) i dX4_copyFrom_31 rfl (by first | decide | exact hT.k0 | exact hS.k0 | exact hT.kw | exact hS.kw | exact hT.kv | exact hS.kv | exact hT.kB | exact hS.kB | exact hT.kL | exact hS.kL | exact hT.kb hlt | exact hT.kl hlt | assumption) rfl (lnv hT hlt) ?_
      refine WE.iincV (n := 35) (nI (i + 1)) dX4_copyFrom_32 rfl rfl (by decide) (nI_inc i) ?_
      refine WE.goto (tgt := 2) dX4_copyFrom_35 (by decide) ?_
      refine WE.ofA (L' := [(0, .ref T), (1, .ref S), (2, .int (nI (i + 1)))]) ⟨rfl, rfl, rfl, trivial⟩ (ih (i + 1) _ (by omega) (by omega) ?_)
      refine ⟨fun h hh => ?_, fun a k hk => ?_⟩
      · by_cases e : h = i
        · subst e
          refine ⟨?_, ?_⟩
          · rw [u2_ne _ _ (by omega), u2_eq]
            exact p2 _ _ (by unfold DJ at hD; omega)
          · rw [show T + 2 = T + 1 + 1 from rfl, u2_eq, u2_ne _ _ (by unfold DJ at hD; omega)]
            exact p2 _ _ (by unfold DJ at hD; omega)
        · rw [u2_ne _ _ (by omega), u2_ne _ _ (by omega), u2_ne _ _ (by omega), u2_ne _ _ (by omega)]
          exact p1 h (by omega)
      · rw [u2_ne _ _ (by omega), u2_ne _ _ (by omega)]
        exact p2 a k (by omega)
set_option maxRecDepth 20000 in
set_option maxHeartbeats 1000000 in
theorem c_cp_b {G : GT} (c : CC) (od : Int64 × UInt64) (T S : Nat) (hT : TT T) (hS : TT S) (hD : DJ T S) (k : ∀ c' : CC, ((∀ j, j < 6 → ∀ k, k < 13 → c' (T + 5 + j) k = c (S + 5 + j) k) ∧ ∀ a k, ¬ (T + 5 ≤ a ∧ a < T + 5 + 6) → c' a k = c a k) → WE mX4_copyFrom 67 [(0, .ref T), (1, .ref S)] [] (c', od) 0 0 G) : ∀ (n i : Nat) (c' : CC), i ≤ 6 → 6 < i + n → ((∀ j, j < i → ∀ k, k < 13 → c' (T + 5 + j) k = c (S + 5 + j) k) ∧ ∀ a k, ¬ (T + 5 ≤ a ∧ a < T + 5 + i) → c' a k = c a k) → WE mX4_copyFrom 40 [(0, .ref T), (1, .ref S), (2, .int (nI i))] [] (c', od) 0 0 G := by
  intro n
  induction n with
  | zero =>
    intro i c' h1 h2
    exact absurd h2 (by omega)
  | succ n ih =>
    intro i c' hi hn hI
    obtain ⟨p1, p2⟩ := hI
    refine WE.iload_n (n := 41) dX4_copyFrom_40 rfl rfl ?_
    refine WE.bipush (n := 43) (nI 6) dX4_copyFrom_41 rfl (by decide) ?_
    refine WE.icmp_ge (n := 46) (tgt := 67) dX4_copyFrom_43 rfl (by decide) (fun h43 => ?_) (fun h43 => ?_)
    · skip
      have hge : 6 ≤ i := ge_t (by omega) (by omega) h43
      obtain rfl : i = 6 := by omega
      refine WE.ofA (L' := [(0, .ref T), (1, .ref S)]) ⟨rfl, rfl, trivial⟩ (k _ ?_)
      exact ⟨p1, p2⟩
    · skip
      have hlt : i < 6 := ge_f (by omega) (by omega) h43
      refine WE.aload_n (n := 47) dX4_copyFrom_46 rfl rfl ?_
      refine WE.getR (n := 50) dX4_copyFrom_47 rfl fl_X4_20 ⟨by decide, by decide⟩ rfl (by first | decide | exact hT.k0 | exact hS.k0 | exact hT.kw | exact hS.kw | exact hT.kv | exact hS.kv | exact hT.kB | exact hS.kB | exact hT.kL | exact hS.kL | exact hT.kb hlt | exact hT.kl hlt | assumption) ?_
      refine WE.iload_n (n := 51) dX4_copyFrom_50 rfl rfl ?_
      refine WE.aald (n := 52) 12 i dX4_copyFrom_51 rfl (by first | decide | exact hT.k0 | exact hS.k0 | exact hT.kw | exact hS.kw | exact hT.kv | exact hS.kv | exact hT.kB | exact hS.kB | exact hT.kL | exact hS.kL | exact hT.kb hlt | exact hT.kl hlt | assumption) (by decide) rfl (lnB hT hlt) rfl ?_
      refine WE.aload_n (n := 53) dX4_copyFrom_52 rfl rfl ?_
      refine WE.getR (n := 56) dX4_copyFrom_53 rfl fl_X4_20 ⟨by decide, by decide⟩ rfl (by first | decide | exact hT.k0 | exact hS.k0 | exact hT.kw | exact hS.kw | exact hT.kv | exact hS.kv | exact hT.kB | exact hS.kB | exact hT.kL | exact hS.kL | exact hT.kb hlt | exact hT.kl hlt | assumption) ?_
      refine WE.iload_n (n := 57) dX4_copyFrom_56 rfl rfl ?_
      refine WE.aald (n := 58) 12 i dX4_copyFrom_57 rfl (by first | decide | exact hT.k0 | exact hS.k0 | exact hT.kw | exact hS.kw | exact hT.kv | exact hS.kv | exact hT.kB | exact hS.kB | exact hT.kL | exact hS.kL | exact hT.kb hlt | exact hT.kl hlt | assumption) (by decide) rfl (lnB hS hlt) rfl ?_
      refine WE.V1PV (M' := mX0_copyFrom) (n := 61) dX4_copyFrom_58 rfl cv_X4_39 (by first | decide | exact hT.k0 | exact hS.k0 | exact hT.kw | exact hS.kw | exact hT.kv | exact hS.kv | exact hT.kB | exact hS.kB | exact hT.kL | exact hS.kL | exact hT.kb hlt | exact hT.kl hlt | assumption) ⟨⟨by decide, by decide⟩, by decide, by decide⟩ (Nat.le_of_ble_eq_true rfl) (c_copyB c' od _ (hT.kb hlt) _ (hS.kb hlt) (by unfold DJ at hD; omega)) (fun σ58 q58 => ?_)
      obtain ⟨c2, rfl, P1, P2⟩ := q58
      refine WE.iincV (n := 64) (nI (i + 1)) dX4_copyFrom_61 rfl rfl (by decide) (nI_inc i) ?_
      refine WE.goto (tgt := 40) dX4_copyFrom_64 (by decide) ?_
      refine WE.ofA (L' := [(0, .ref T), (1, .ref S), (2, .int (nI (i + 1)))]) ⟨rfl, rfl, rfl, trivial⟩ (ih (i + 1) _ (by omega) (by omega) ?_)
      refine ⟨fun j hj k hk => ?_, fun a k hk => ?_⟩
      · by_cases e : j = i
        · subst e
          rw [show T + 5 + j = T + 1 + 2 + 2 + j by omega, P1 k hk, p2 _ _ (by unfold DJ at hD; omega), show S + 5 + j = S + 1 + 2 + 2 + j by omega]
        · rw [P2 _ _ (by omega)]
          exact p1 j (by omega) k hk
      · rw [P2 _ _ (by omega)]
        exact p2 a k (by omega)
set_option maxRecDepth 20000 in
set_option maxHeartbeats 1000000 in
theorem c_cp_l {G : GT} (c : CC) (od : Int64 × UInt64) (T S : Nat) (hT : TT T) (hS : TT S) (hD : DJ T S) (k : ∀ c' : CC, ((∀ j, j < 24 → ∀ k, k < 3 → c' (T + 11 + j) k = c (S + 11 + j) k) ∧ ∀ a k, ¬ (T + 11 ≤ a ∧ a < T + 11 + 24) → c' a k = c a k) → WE mX4_copyFrom 96 [(0, .ref T), (1, .ref S)] [] (c', od) 0 0 G) : ∀ (n i : Nat) (c' : CC), i ≤ 24 → 24 < i + n → ((∀ j, j < i → ∀ k, k < 3 → c' (T + 11 + j) k = c (S + 11 + j) k) ∧ ∀ a k, ¬ (T + 11 ≤ a ∧ a < T + 11 + i) → c' a k = c a k) → WE mX4_copyFrom 69 [(0, .ref T), (1, .ref S), (2, .int (nI i))] [] (c', od) 0 0 G := by
  intro n
  induction n with
  | zero =>
    intro i c' h1 h2
    exact absurd h2 (by omega)
  | succ n ih =>
    intro i c' hi hn hI
    obtain ⟨p1, p2⟩ := hI
    refine WE.iload_n (n := 70) dX4_copyFrom_69 rfl rfl ?_
    refine WE.bipush (n := 72) (nI 24) dX4_copyFrom_70 rfl (by decide) ?_
    refine WE.icmp_ge (n := 75) (tgt := 96) dX4_copyFrom_72 rfl (by decide) (fun h72 => ?_) (fun h72 => ?_)
    · skip
      have hge : 24 ≤ i := ge_t (by omega) (by omega) h72
      obtain rfl : i = 24 := by omega
      refine WE.ofA (L' := [(0, .ref T), (1, .ref S)]) ⟨rfl, rfl, trivial⟩ (k _ ?_)
      exact ⟨p1, p2⟩
    · skip
      have hlt : i < 24 := ge_f (by omega) (by omega) h72
      refine WE.aload_n (n := 76) dX4_copyFrom_75 rfl rfl ?_
      refine WE.getR (n := 79) dX4_copyFrom_76 rfl fl_X4_26 ⟨by decide, by decide⟩ rfl (by first | decide | exact hT.k0 | exact hS.k0 | exact hT.kw | exact hS.kw | exact hT.kv | exact hS.kv | exact hT.kB | exact hS.kB | exact hT.kL | exact hS.kL | exact hT.kb hlt | exact hT.kl hlt | assumption) ?_
      refine WE.iload_n (n := 80) dX4_copyFrom_79 rfl rfl ?_
      refine WE.aald (n := 81) 13 i dX4_copyFrom_80 rfl (by first | decide | exact hT.k0 | exact hS.k0 | exact hT.kw | exact hS.kw | exact hT.kv | exact hS.kv | exact hT.kB | exact hS.kB | exact hT.kL | exact hS.kL | exact hT.kb hlt | exact hT.kl hlt | assumption) (by decide) rfl (lnL hT hlt) rfl ?_
      refine WE.aload_n (n := 82) dX4_copyFrom_81 rfl rfl ?_
      refine WE.getR (n := 85) dX4_copyFrom_82 rfl fl_X4_26 ⟨by decide, by decide⟩ rfl (by first | decide | exact hT.k0 | exact hS.k0 | exact hT.kw | exact hS.kw | exact hT.kv | exact hS.kv | exact hT.kB | exact hS.kB | exact hT.kL | exact hS.kL | exact hT.kb hlt | exact hT.kl hlt | assumption) ?_
      refine WE.iload_n (n := 86) dX4_copyFrom_85 rfl rfl ?_
      refine WE.aald (n := 87) 13 i dX4_copyFrom_86 rfl (by first | decide | exact hT.k0 | exact hS.k0 | exact hT.kw | exact hS.kw | exact hT.kv | exact hS.kv | exact hT.kB | exact hS.kB | exact hT.kL | exact hS.kL | exact hT.kb hlt | exact hT.kl hlt | assumption) (by decide) rfl (lnL hS hlt) rfl ?_
      refine WE.V1PV (M' := mX2_copyFrom) (n := 90) dX4_copyFrom_87 rfl cv_X4_43 (by first | decide | exact hT.k0 | exact hS.k0 | exact hT.kw | exact hS.kw | exact hT.kv | exact hS.kv | exact hT.kB | exact hS.kB | exact hT.kL | exact hS.kL | exact hT.kb hlt | exact hT.kl hlt | assumption) ⟨⟨by decide, by decide⟩, by decide, by decide⟩ (Nat.le_of_ble_eq_true rfl) (c_copyL c' od _ (hT.kl hlt) _ (hS.kl hlt) (by unfold DJ at hD; omega)) (fun σ87 q87 => ?_)
      obtain ⟨c2, rfl, P1, P2⟩ := q87
      refine WE.iincV (n := 93) (nI (i + 1)) dX4_copyFrom_90 rfl rfl (by decide) (nI_inc i) ?_
      refine WE.goto (tgt := 69) dX4_copyFrom_93 (by decide) ?_
      refine WE.ofA (L' := [(0, .ref T), (1, .ref S), (2, .int (nI (i + 1)))]) ⟨rfl, rfl, rfl, trivial⟩ (ih (i + 1) _ (by omega) (by omega) ?_)
      refine ⟨fun j hj k hk => ?_, fun a k hk => ?_⟩
      · by_cases e : j = i
        · subst e
          rw [show T + 11 + j = T + 1 + 3 + 7 + j by omega, P1 k hk, p2 _ _ (by unfold DJ at hD; omega), show S + 11 + j = S + 1 + 3 + 7 + j by omega]
        · rw [P2 _ _ (by omega)]
          exact p1 j (by omega) k hk
      · rw [P2 _ _ (by omega)]
        exact p2 a k (by omega)
/-- the town at T as the town at S was; all else, and what the town was refused, as it was -/
def CPT (c c' : CC) (T S : Nat) : Prop := (∀ k, 4 ≤ k → k < 14 → c' T k = c S k) ∧ (∀ k, k < 6 → c' (T + 1) k = c (S + 1) k ∧ c' (T + 2) k = c (S + 2) k) ∧ (∀ j, j < 6 → ∀ k, k < 13 → c' (T + 5 + j) k = c (S + 5 + j) k) ∧ (∀ l, l < 24 → ∀ k, k < 3 → c' (T + 11 + l) k = c (S + 11 + l) k) ∧ ∀ a k, ¬ (T ≤ a ∧ a < T + 35) ∨ (a = T ∧ 14 ≤ k) → c' a k = c a k
theorem CPT.rel {c c' : CC} {T S : Nat} (h : CPT c c' T S) {N : NA} (hC : CN N) (hR : RelT c S N) : RelT c' T N := hR.congr hC.1 hC.2.2.1 (fun k q1 q2 => h.1 k q1 q2) (fun k q => h.2.1 k q) (fun j hj k hk => h.2.2.1 j hj k hk) (fun l hl k hk => h.2.2.2.1 l hl k hk) (fun _ _ => rfl)
set_option maxRecDepth 20000 in
set_option maxHeartbeats 1000000 in
theorem c_copyT (c : CC) (od : Int64 × UInt64) (T S : Nat) (hT : TT T) (hS : TT S) (hD : DJ T S) : CM mX4_copyFrom [.ref T, .ref S] (c, od) (PV fun σ => ∃ c', σ = (c', od) ∧ CPT c c' T S) := by
  refine CM.of [(0, .ref T), (1, .ref S)] rfl (by decide +kernel) rfl (Nat.le_of_ble_eq_true rfl) ?_
  refine WE.iconst (n := 1) (nI 0) dX4_copyFrom_0 rfl (by decide) ?_
  refine WE.istore_n (n := 2) dX4_copyFrom_1 rfl (by decide) ?_
  refine WE.ofA (L' := [(0, .ref T), (1, .ref S), (2, .int (nI 0))]) ⟨rfl, rfl, rfl, trivial⟩ (c_cp_w c od T S hT hS hD (fun c1 hI1 => ?_) 7 0 c (Nat.zero_le _) (by decide) ⟨fun h hh => absurd hh (Nat.not_lt_zero _), fun _ _ _ => rfl⟩)
  refine WE.iconst (n := 39) (nI 0) dX4_copyFrom_38 rfl (by decide) ?_
  refine WE.istore_n (n := 40) dX4_copyFrom_39 rfl (by decide) ?_
  refine WE.ofA (L' := [(0, .ref T), (1, .ref S), (2, .int (nI 0))]) ⟨rfl, rfl, rfl, trivial⟩ (c_cp_b c1 od T S hT hS hD (fun c2 hI2 => ?_) 7 0 c1 (Nat.zero_le _) (by decide) ⟨fun h hh => absurd hh (Nat.not_lt_zero _), fun _ _ _ => rfl⟩)
  refine WE.iconst (n := 68) (nI 0) dX4_copyFrom_67 rfl (by decide) ?_
  refine WE.istore_n (n := 69) dX4_copyFrom_68 rfl (by decide) ?_
  refine WE.ofA (L' := [(0, .ref T), (1, .ref S), (2, .int (nI 0))]) ⟨rfl, rfl, rfl, trivial⟩ (c_cp_l c2 od T S hT hS hD (fun c3 hI3 => ?_) 25 0 c2 (Nat.zero_le _) (by decide) ⟨fun h hh => absurd hh (Nat.not_lt_zero _), fun _ _ _ => rfl⟩)
  refine WE.aload_n (n := 97) dX4_copyFrom_96 rfl rfl ?_
  refine WE.aload_n (n := 98) dX4_copyFrom_97 rfl rfl ?_
  refine WE.getI (n := 101) dX4_copyFrom_98 rfl fl_X4_46 ⟨by decide, by decide, rfl⟩ (by first | decide | exact hT.k0 | exact hS.k0 | exact hT.kw | exact hS.kw | exact hT.kv | exact hS.kv | exact hT.kB | exact hS.kB | exact hT.kL | exact hS.kL | exact hT.kb hlt | exact hT.kl hlt | assumption) ?_
  refine WE.putI (n := 104) dX4_copyFrom_101 rfl fl_X4_46 ⟨by decide, by decide, rfl, rfl⟩ ⟨by first | rfl | decide, by first | rfl | decide⟩ (by first | decide | exact hT.k0 | exact hS.k0 | exact hT.kw | exact hS.kw | exact hT.kv | exact hS.kv | exact hT.kB | exact hS.kB | exact hT.kL | exact hS.kL | exact hT.kb hlt | exact hT.kl hlt | assumption) ?_
  refine WE.aload_n (n := 105) dX4_copyFrom_104 rfl rfl ?_
  refine WE.aload_n (n := 106) dX4_copyFrom_105 rfl rfl ?_
  refine WE.getI (n := 109) dX4_copyFrom_106 rfl fl_X4_49 ⟨by decide, by decide, rfl⟩ (by first | decide | exact hT.k0 | exact hS.k0 | exact hT.kw | exact hS.kw | exact hT.kv | exact hS.kv | exact hT.kB | exact hS.kB | exact hT.kL | exact hS.kL | exact hT.kb hlt | exact hT.kl hlt | assumption) ?_
  refine WE.putI (n := 112) dX4_copyFrom_109 rfl fl_X4_49 ⟨by decide, by decide, rfl, rfl⟩ ⟨by first | rfl | decide, by first | rfl | decide⟩ (by first | decide | exact hT.k0 | exact hS.k0 | exact hT.kw | exact hS.kw | exact hT.kv | exact hS.kv | exact hT.kB | exact hS.kB | exact hT.kL | exact hS.kL | exact hT.kb hlt | exact hT.kl hlt | assumption) ?_
  refine WE.aload_n (n := 113) dX4_copyFrom_112 rfl rfl ?_
  refine WE.aload_n (n := 114) dX4_copyFrom_113 rfl rfl ?_
  refine WE.getI (n := 117) dX4_copyFrom_114 rfl fl_X4_52 ⟨by decide, by decide, rfl⟩ (by first | decide | exact hT.k0 | exact hS.k0 | exact hT.kw | exact hS.kw | exact hT.kv | exact hS.kv | exact hT.kB | exact hS.kB | exact hT.kL | exact hS.kL | exact hT.kb hlt | exact hT.kl hlt | assumption) ?_
  refine WE.putI (n := 120) dX4_copyFrom_117 rfl fl_X4_52 ⟨by decide, by decide, rfl, rfl⟩ ⟨by first | rfl | decide, by first | rfl | decide⟩ (by first | decide | exact hT.k0 | exact hS.k0 | exact hT.kw | exact hS.kw | exact hT.kv | exact hS.kv | exact hT.kB | exact hS.kB | exact hT.kL | exact hS.kL | exact hT.kb hlt | exact hT.kl hlt | assumption) ?_
  refine WE.aload_n (n := 121) dX4_copyFrom_120 rfl rfl ?_
  refine WE.aload_n (n := 122) dX4_copyFrom_121 rfl rfl ?_
  refine WE.getI (n := 125) dX4_copyFrom_122 rfl fl_X4_30 ⟨by decide, by decide, rfl⟩ (by first | decide | exact hT.k0 | exact hS.k0 | exact hT.kw | exact hS.kw | exact hT.kv | exact hS.kv | exact hT.kB | exact hS.kB | exact hT.kL | exact hS.kL | exact hT.kb hlt | exact hT.kl hlt | assumption) ?_
  refine WE.putI (n := 128) dX4_copyFrom_125 rfl fl_X4_30 ⟨by decide, by decide, rfl, rfl⟩ ⟨by first | rfl | decide, by first | rfl | decide⟩ (by first | decide | exact hT.k0 | exact hS.k0 | exact hT.kw | exact hS.kw | exact hT.kv | exact hS.kv | exact hT.kB | exact hS.kB | exact hT.kL | exact hS.kL | exact hT.kb hlt | exact hT.kl hlt | assumption) ?_
  refine WE.aload_n (n := 129) dX4_copyFrom_128 rfl rfl ?_
  refine WE.aload_n (n := 130) dX4_copyFrom_129 rfl rfl ?_
  refine WE.getI (n := 133) dX4_copyFrom_130 rfl fl_X4_34 ⟨by decide, by decide, rfl⟩ (by first | decide | exact hT.k0 | exact hS.k0 | exact hT.kw | exact hS.kw | exact hT.kv | exact hS.kv | exact hT.kB | exact hS.kB | exact hT.kL | exact hS.kL | exact hT.kb hlt | exact hT.kl hlt | assumption) ?_
  refine WE.putI (n := 136) dX4_copyFrom_133 rfl fl_X4_34 ⟨by decide, by decide, rfl, rfl⟩ ⟨by first | rfl | decide, by first | rfl | decide⟩ (by first | decide | exact hT.k0 | exact hS.k0 | exact hT.kw | exact hS.kw | exact hT.kv | exact hS.kv | exact hT.kB | exact hS.kB | exact hT.kL | exact hS.kL | exact hT.kb hlt | exact hT.kl hlt | assumption) ?_
  refine WE.aload_n (n := 137) dX4_copyFrom_136 rfl rfl ?_
  refine WE.aload_n (n := 138) dX4_copyFrom_137 rfl rfl ?_
  refine WE.getI (n := 141) dX4_copyFrom_138 rfl fl_X4_55 ⟨by decide, by decide, rfl⟩ (by first | decide | exact hT.k0 | exact hS.k0 | exact hT.kw | exact hS.kw | exact hT.kv | exact hS.kv | exact hT.kB | exact hS.kB | exact hT.kL | exact hS.kL | exact hT.kb hlt | exact hT.kl hlt | assumption) ?_
  refine WE.putI (n := 144) dX4_copyFrom_141 rfl fl_X4_55 ⟨by decide, by decide, rfl, rfl⟩ ⟨by first | rfl | decide, by first | rfl | decide⟩ (by first | decide | exact hT.k0 | exact hS.k0 | exact hT.kw | exact hS.kw | exact hT.kv | exact hS.kv | exact hT.kB | exact hS.kB | exact hT.kL | exact hS.kL | exact hT.kb hlt | exact hT.kl hlt | assumption) ?_
  refine WE.aload_n (n := 145) dX4_copyFrom_144 rfl rfl ?_
  refine WE.aload_n (n := 146) dX4_copyFrom_145 rfl rfl ?_
  refine WE.getI (n := 149) dX4_copyFrom_146 rfl fl_X4_58 ⟨by decide, by decide, rfl⟩ (by first | decide | exact hT.k0 | exact hS.k0 | exact hT.kw | exact hS.kw | exact hT.kv | exact hS.kv | exact hT.kB | exact hS.kB | exact hT.kL | exact hS.kL | exact hT.kb hlt | exact hT.kl hlt | assumption) ?_
  refine WE.putI (n := 152) dX4_copyFrom_149 rfl fl_X4_58 ⟨by decide, by decide, rfl, rfl⟩ ⟨by first | rfl | decide, by first | rfl | decide⟩ (by first | decide | exact hT.k0 | exact hS.k0 | exact hT.kw | exact hS.kw | exact hT.kv | exact hS.kv | exact hT.kB | exact hS.kB | exact hT.kL | exact hS.kL | exact hT.kb hlt | exact hT.kl hlt | assumption) ?_
  refine WE.aload_n (n := 153) dX4_copyFrom_152 rfl rfl ?_
  refine WE.aload_n (n := 154) dX4_copyFrom_153 rfl rfl ?_
  refine WE.getI (n := 157) dX4_copyFrom_154 rfl fl_X4_61 ⟨by decide, by decide, rfl⟩ (by first | decide | exact hT.k0 | exact hS.k0 | exact hT.kw | exact hS.kw | exact hT.kv | exact hS.kv | exact hT.kB | exact hS.kB | exact hT.kL | exact hS.kL | exact hT.kb hlt | exact hT.kl hlt | assumption) ?_
  refine WE.putI (n := 160) dX4_copyFrom_157 rfl fl_X4_61 ⟨by decide, by decide, rfl, rfl⟩ ⟨by first | rfl | decide, by first | rfl | decide⟩ (by first | decide | exact hT.k0 | exact hS.k0 | exact hT.kw | exact hS.kw | exact hT.kv | exact hS.kv | exact hT.kB | exact hS.kB | exact hT.kL | exact hS.kL | exact hT.kb hlt | exact hT.kl hlt | assumption) ?_
  refine WE.aload_n (n := 161) dX4_copyFrom_160 rfl rfl ?_
  refine WE.aload_n (n := 162) dX4_copyFrom_161 rfl rfl ?_
  refine WE.getI (n := 165) dX4_copyFrom_162 rfl fl_X4_64 ⟨by decide, by decide, rfl⟩ (by first | decide | exact hT.k0 | exact hS.k0 | exact hT.kw | exact hS.kw | exact hT.kv | exact hS.kv | exact hT.kB | exact hS.kB | exact hT.kL | exact hS.kL | exact hT.kb hlt | exact hT.kl hlt | assumption) ?_
  refine WE.putI (n := 168) dX4_copyFrom_165 rfl fl_X4_64 ⟨by decide, by decide, rfl, rfl⟩ ⟨by first | rfl | decide, by first | rfl | decide⟩ (by first | decide | exact hT.k0 | exact hS.k0 | exact hT.kw | exact hS.kw | exact hT.kv | exact hS.kv | exact hT.kB | exact hS.kB | exact hT.kL | exact hS.kL | exact hT.kb hlt | exact hT.kl hlt | assumption) ?_
  refine WE.aload_n (n := 169) dX4_copyFrom_168 rfl rfl ?_
  refine WE.aload_n (n := 170) dX4_copyFrom_169 rfl rfl ?_
  refine WE.getI (n := 173) dX4_copyFrom_170 rfl fl_X4_67 ⟨by decide, by decide, rfl⟩ (by first | decide | exact hT.k0 | exact hS.k0 | exact hT.kw | exact hS.kw | exact hT.kv | exact hS.kv | exact hT.kB | exact hS.kB | exact hT.kL | exact hS.kL | exact hT.kb hlt | exact hT.kl hlt | assumption) ?_
  refine WE.putI (n := 176) dX4_copyFrom_173 rfl fl_X4_67 ⟨by decide, by decide, rfl, rfl⟩ ⟨by first | rfl | decide, by first | rfl | decide⟩ (by first | decide | exact hT.k0 | exact hS.k0 | exact hT.kw | exact hS.kw | exact hT.kv | exact hS.kv | exact hT.kB | exact hS.kB | exact hT.kL | exact hS.kL | exact hT.kb hlt | exact hT.kl hlt | assumption) ?_
  refine WE.vret dX4_copyFrom_176 rfl ⟨by decide, by decide⟩ ?_
  refine PV.mk ⟨_, rfl, fun k h4 h14 => ?_, fun k hk => ?_, fun j hj k hk => ?_, fun l hl k hk => ?_, fun a k hk => ?_⟩
  · have e : ∀ k, c3 S k = c S k := fun k => by rw [hI3.2 _ _ (by unfold DJ at hD; omega), hI2.2 _ _ (by unfold DJ at hD; omega), hI1.2 _ _ (by unfold DJ at hD; omega)]
    have hST : ¬ S = T := by unfold DJ at hD; omega
    rcases (show k = 4 ∨ k = 5 ∨ k = 6 ∨ k = 7 ∨ k = 8 ∨ k = 9 ∨ k = 10 ∨ k = 11 ∨ k = 12 ∨ k = 13 by omega) with rfl | rfl | rfl | rfl | rfl | rfl | rfl | rfl | rfl | rfl <;> simp [u2, hST, e]
  · rw [u2_ne _ _ (by omega), u2_ne _ _ (by omega), u2_ne _ _ (by omega), u2_ne _ _ (by omega), u2_ne _ _ (by omega), u2_ne _ _ (by omega), u2_ne _ _ (by omega), u2_ne _ _ (by omega), u2_ne _ _ (by omega), u2_ne _ _ (by omega), u2_ne _ _ (by omega), u2_ne _ _ (by omega), u2_ne _ _ (by omega), u2_ne _ _ (by omega), u2_ne _ _ (by omega), u2_ne _ _ (by omega), u2_ne _ _ (by omega), u2_ne _ _ (by omega), u2_ne _ _ (by omega), u2_ne _ _ (by omega), hI3.2 _ _ (by omega), hI3.2 _ _ (by omega), hI2.2 _ _ (by omega), hI2.2 _ _ (by omega)]
    exact hI1.1 k hk
  · rw [u2_ne _ _ (by omega), u2_ne _ _ (by omega), u2_ne _ _ (by omega), u2_ne _ _ (by omega), u2_ne _ _ (by omega), u2_ne _ _ (by omega), u2_ne _ _ (by omega), u2_ne _ _ (by omega), u2_ne _ _ (by omega), u2_ne _ _ (by omega), hI3.2 _ _ (by omega), hI2.1 j hj k hk, hI1.2 _ _ (by unfold DJ at hD; omega)]
  · rw [u2_ne _ _ (by omega), u2_ne _ _ (by omega), u2_ne _ _ (by omega), u2_ne _ _ (by omega), u2_ne _ _ (by omega), u2_ne _ _ (by omega), u2_ne _ _ (by omega), u2_ne _ _ (by omega), u2_ne _ _ (by omega), u2_ne _ _ (by omega), hI3.1 l hl k hk, hI2.2 _ _ (by unfold DJ at hD; omega), hI1.2 _ _ (by unfold DJ at hD; omega)]
  · rw [u2_ne _ _ (by omega), u2_ne _ _ (by omega), u2_ne _ _ (by omega), u2_ne _ _ (by omega), u2_ne _ _ (by omega), u2_ne _ _ (by omega), u2_ne _ _ (by omega), u2_ne _ _ (by omega), u2_ne _ _ (by omega), u2_ne _ _ (by omega), hI3.2 _ _ (by omega), hI2.2 _ _ (by omega), hI1.2 _ _ (by omega)]
