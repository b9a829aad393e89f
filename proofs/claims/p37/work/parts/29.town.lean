theorem kd_let' {j : Nat} (h : j < 24) : KD (1 + 11 + j) = 2 ∧ 1 + 11 + j < NN := by
  rw [show (1 : Nat) + 11 + j = 12 + j by omega]
  exact kd_let h
theorem kd_bal' {j : Nat} (h : j < 6) : KD (1 + 5 + j) = 0 ∧ 1 + 5 + j < NN := by
  rw [show (1 : Nat) + 5 + j = 6 + j by omega]
  exact kd_bal h
/-- the counts of the numbers N -/
def CN (N : NA) : Prop := nbN N ≤ 6 ∧ N 3 = nI (nbN N) ∧ nlN N ≤ 24 ∧ N 4 = nI (nlN N)
theorem RelT.s {c : CC} {T : Nat} {N : NA} (h : RelT c T N) (q : Nat × Nat) (hq : q ∈ sP) : c T q.1 = N q.2 := h.1 q hq
theorem RelT.b {c : CC} {N : NA} (h : RelT c 1 N) {j : Nat} (hj : j < nbN N) (q : Nat × Nat) (hq : q ∈ bP) : c (6 + j) q.1 = N (22 + 11 * j + q.2) := by
  have := (h.2.2.1 j hj).1.1 q hq
  rwa [show (1 : Nat) + 5 + j = 6 + j by omega] at this
theorem RelT.b6 {c : CC} {N : NA} (h : RelT c 1 N) {j : Nat} (hj : j < nbN N) : c (6 + j) 6 = shN N (nI j) (nlN N) := by
  have := (h.2.2.1 j hj).1.2
  rwa [show (1 : Nat) + 5 + j = 6 + j by omega] at this
theorem RelT.b5 {c : CC} {N : NA} (h : RelT c 1 N) {j : Nat} (hj : j < nbN N) : c (6 + j) 5 = lcN N (nI j) (nlN N) := by
  have := (h.2.2.1 j hj).2.1
  rwa [show (1 : Nat) + 5 + j = 6 + j by omega] at this
theorem RelT.l {c : CC} {N : NA} (h : RelT c 1 N) {l : Nat} (hl : l < nlN N) : RelL c (12 + l) N l := by
  have := h.2.2.2.2.1 l hl
  rwa [show (1 : Nat) + 11 + l = 12 + l by omega] at this
theorem wg_rel {c : CC} {N : NA} (h : RelT c 1 N) {j : Nat} (hj : j < nbN N) : wgB c (6 + j) (nI 0) = wgN N j (nlN N) := by
  unfold wgB wgN
  rw [h.b hj (0, 0) (by decide), h.b hj (2, 2) (by decide), h.b hj (4, 4) (by decide), h.b6 hj, show shN N (nI j) (nlN N) + nI 0 = shN N (nI j) (nlN N) from Int32.add_zero _]
theorem be_rel {c : CC} {N : NA} (h : RelT c 1 N) {j : Nat} (hj : j < nbN N) : c (6 + j) 1 - wgB c (6 + j) (nI 0) = beN N j (nlN N) := by
  unfold beN
  rw [wg_rel h hj, h.b hj (1, 1) (by decide)]
theorem RelT.bal' {c : CC} {N : NA} (h : RelT c 1 N) (hn : nbN N ≤ 6) (q : Nat × Nat) (hq : q ∈ bP) (h5 : q.2 ≠ 5) {j : Nat} (hj : j < nbN N) (v : Int32) (hs : N (22 + 11 * j + 5) ≠ nI 2) : RelT (u2 c (6 + j) q.1 v) 1 (upN N (22 + 11 * j + q.2) v) := by
  have := h.bal hn q hq hj v (by rw [upN_ne _ _ _ (by omega)]; exact hs)
  rwa [show (1 : Nat) + 5 + j = 6 + j by omega] at this
theorem RelT.why {c : CC} {N : NA} (h : RelT c 1 N) (k : CN N) (r x : Int32) : RelT (u2 (u2 c 1 14 r) 1 15 x) 1 N := h.frame k.1 k.2.2.1 (fun a h1 h2 k h3 => by rw [u2_ne _ _ (by omega), u2_ne _ _ (by omega)])
/-- what a change of the town comes to, when the reference's comes to r; ec: the failure's number -/
def PT (c : CC) (od : Int64 × UInt64) (N : NA) (ec : Nat → Int32) (r : OR) : AO → SS → Prop := PI fun v σ => ∃ c', σ = (c', od) ∧ (∀ a k, ¬ (1 ≤ a ∧ a ≤ 35) → c' a k = c a k) ∧ match r with
  | .inl q => v = q.1 ∧ RelT c' 1 q.2 ∧ c' 1 14 = c 1 14 ∧ c' 1 15 = c 1 15
  | .inr (.inl q) => v = (-103 : Int32) ∧ RelT c' 1 N ∧ c' 1 14 = q.1 ∧ c' 1 15 = q.2
  | .inr (.inr k) => v = ec k ∧ c' = c
theorem PT.no {c : CC} {od : Int64 × UInt64} {N : NA} {ec : Nat → Int32} {r : OR} {v : Int32} (k : Nat) (e : r = .inr (.inr k)) (hv : v = ec k) : PT c od N ec r (.inl (some (.int v))) (c, od) := by
  subst e
  exact ⟨v, rfl, c, rfl, fun _ _ _ => rfl, hv, rfl⟩
theorem PT.ref {c : CC} {od : Int64 × UInt64} {N : NA} {ec : Nat → Int32} {r : OR} {x y : Int32} (hR : RelT c 1 N) (hC : CN N) (e : r = .inr (.inl (x, y))) : PT c od N ec r (.inl (some (.int (-103 : Int32)))) (u2 (u2 c 1 14 x) 1 15 y, od) := by
  subst e
  refine ⟨_, rfl, _, rfl, fun a k h => ?_, rfl, hR.why hC x y, ?_, ?_⟩
  · rw [u2_ne _ _ (by omega), u2_ne _ _ (by omega)]
  · rw [u2_ne _ _ (by decide), u2_eq]
  · rw [u2_eq]
theorem PT.ok {c c' : CC} {od : Int64 × UInt64} {N M : NA} {ec : Nat → Int32} {r : OR} {v : Int32} (e : r = .inl (v, M)) (hR : RelT c' 1 M) (hf : ∀ a k, ¬ (1 ≤ a ∧ a ≤ 35) ∨ (a = 1 ∧ 14 ≤ k) → c' a k = c a k) : PT c od N ec r (.inl (some (.int v))) (c', od) := by
  subst e
  exact ⟨_, rfl, _, rfl, fun a k h => hf a k (Or.inl h), rfl, hR, hf 1 14 (Or.inr ⟨rfl, by decide⟩), hf 1 15 (Or.inr ⟨rfl, by decide⟩)⟩
def eA (k : Nat) : Int32 := if k = 1 then (-101 : Int32) else (-102 : Int32)
def eB (_ : Nat) : Int32 := (-102 : Int32)
def eC (_ : Nat) : Int32 := (-101 : Int32)
theorem m1m (x : Int32) : x + nI 1 - nI 1 = x := Int32.add_sub_cancel _ _
set_option maxRecDepth 20000 in
set_option maxHeartbeats 1000000 in
theorem c_setRing (c : CC) (od : Int64 × UInt64) (N : NA) (hR : RelT c 1 N) (hC : CN N) (r : Int32) : CM mX4_setRing [.ref 1, .int r] (c, od) (PT c od N eB (S_ring N r)) := by
  refine CM.of [(0, .ref 1), (1, .int r)] rfl (by decide +kernel) rfl (Nat.le_of_ble_eq_true rfl) ?_
  have s4 : c 1 4 = N 3 := hR.s (4, 3) (by decide)
  have s5 : c 1 5 = N 4 := hR.s (5, 4) (by decide)
  have s6 : c 1 6 = N 0 := hR.s (6, 0) (by decide)
  have s7 : c 1 7 = N 1 := hR.s (7, 1) (by decide)
  have s8 : c 1 8 = N 2 := hR.s (8, 2) (by decide)
  have s9 : c 1 9 = N 5 := hR.s (9, 5) (by decide)
  have s10 : c 1 10 = N 6 := hR.s (10, 6) (by decide)
  refine WE.iload_n (n := 1) dX4_setRing_0 rfl rfl ?_
  refine WE.iconst (n := 2) (nI 1) dX4_setRing_1 rfl (by decide) ?_
  refine WE.bipush (n := 4) (nI 15) dX4_setRing_2 rfl (by decide) ?_
  refine WE.N3I (M' := mX5_isBetween) (n := 7) dX4_setRing_4 rfl cv_X4_80  ⟨⟨by decide, by decide⟩, by decide, by decide⟩ (Nat.le_of_ble_eq_true rfl) (c_isBetween _ _ _ _) ?_
  refine WE.if_neB (n := 10) (tgt := 13) dX4_setRing_7 rfl (by decide) (fun h7 => ?_) (fun h7 => ?_)
  · skip
    refine WE.aload_n (n := 14) dX4_setRing_13 rfl rfl ?_
    refine WE.getI (n := 17) dX4_setRing_14 rfl fl_X4_30 ⟨by decide, by decide, rfl⟩ (by first | decide | exact kd_bal (by omega) | exact kd_let (by omega) | assumption) ?_
    refine WE.istore_n (n := 18) dX4_setRing_17 rfl (by decide) ?_
    refine WE.aload_n (n := 19) dX4_setRing_18 rfl rfl ?_
    refine WE.iload_n (n := 20) dX4_setRing_19 rfl rfl ?_
    refine WE.putI (n := 23) dX4_setRing_20 rfl fl_X4_30 ⟨by decide, by decide, rfl, rfl⟩ ⟨by first | rfl | decide, by first | rfl | decide⟩ (by first | decide | exact kd_bal (by omega) | exact kd_let (by omega) | assumption) ?_
    refine WE.iload_n (n := 24) dX4_setRing_23 rfl rfl ?_
    refine WE.iret (ty := .int) dX4_setRing_24 rfl rfl ⟨by decide, by decide⟩ ?_
    try simp only [s4, s5, s7, s8, s9, s10] at h7
    try simp only [u2_eq, s7]
    exact PT.ok (by unfold S_ring; (first | simp only [bk, lk, hcl, hcl2] | simp only [bk, lk, hcl] | simp only [bk, lk] | skip); repeat (first | rw [if_pos (by assumption)] | rw [if_neg (by assumption)])) (hR.sca (7, 1) (by decide) (by decide) (by decide) _) (fun a k h => by repeat rw [u2_ne _ _ (by omega)])
  · skip
    refine WE.bipush (n := 12) ((-102 : Int32)) dX4_setRing_10 rfl (by decide) ?_
    refine WE.iret (ty := .int) dX4_setRing_12 rfl rfl ⟨by decide, by decide⟩ ?_
    try simp only [s4, s5, s7, s8, s9, s10] at h7
    exact PT.no 1 (by unfold S_ring; (first | simp only [bk, lk, hcl, hcl2] | simp only [bk, lk, hcl] | simp only [bk, lk] | skip); repeat (first | rw [if_pos (by assumption)] | rw [if_neg (by assumption)])) (by decide)
theorem mn_comm9 (x : Int32) : mn x (nI 9999) = mn (nI 9999) x := by
  unfold mn
  by_cases h1 : nI 9999 < x
  · rw [if_pos h1, if_neg (fun q => by simp only [Int32.lt_iff_toInt_lt] at *; omega)]
  · by_cases h2 : x < nI 9999
    · rw [if_neg h1, if_pos h2]
    · rw [if_neg h1, if_neg h2]
      have e : x.toInt = (nI 9999).toInt := by simp only [Int32.lt_iff_toInt_lt] at h1 h2; omega
      exact Int32.toInt_inj.mp e
set_option maxRecDepth 20000 in
set_option maxHeartbeats 1000000 in
theorem c_makeGas (c : CC) (od : Int64 × UInt64) (N : NA) (hR : RelT c 1 N) (hC : CN N) (r : Int32) : CM mX4_makeGas [.ref 1, .int r] (c, od) (PT c od N eB (S_gas N r)) := by
  refine CM.of [(0, .ref 1), (1, .int r)] rfl (by decide +kernel) rfl (Nat.le_of_ble_eq_true rfl) ?_
  have s4 : c 1 4 = N 3 := hR.s (4, 3) (by decide)
  have s5 : c 1 5 = N 4 := hR.s (5, 4) (by decide)
  have s6 : c 1 6 = N 0 := hR.s (6, 0) (by decide)
  have s7 : c 1 7 = N 1 := hR.s (7, 1) (by decide)
  have s8 : c 1 8 = N 2 := hR.s (8, 2) (by decide)
  have s9 : c 1 9 = N 5 := hR.s (9, 5) (by decide)
  have s10 : c 1 10 = N 6 := hR.s (10, 6) (by decide)
  refine WE.iload_n (n := 1) dX4_makeGas_0 rfl rfl ?_
  refine WE.iconst (n := 2) (nI 1) dX4_makeGas_1 rfl (by decide) ?_
  refine WE.sipush (n := 5) (nI 999) dX4_makeGas_2 rfl (by decide) ?_
  refine WE.N3I (M' := mX5_isBetween) (n := 8) dX4_makeGas_5 rfl cv_X4_80  ⟨⟨by decide, by decide⟩, by decide, by decide⟩ (Nat.le_of_ble_eq_true rfl) (c_isBetween _ _ _ _) ?_
  refine WE.if_neB (n := 11) (tgt := 14) dX4_makeGas_8 rfl (by decide) (fun h8 => ?_) (fun h8 => ?_)
  · skip
    refine WE.aload_n (n := 15) dX4_makeGas_14 rfl rfl ?_
    refine WE.aload_n (n := 16) dX4_makeGas_15 rfl rfl ?_
    refine WE.getI (n := 19) dX4_makeGas_16 rfl fl_X4_34 ⟨by decide, by decide, rfl⟩ (by first | decide | exact kd_bal (by omega) | exact kd_let (by omega) | assumption) ?_
    refine WE.iload_n (n := 20) dX4_makeGas_19 rfl rfl ?_
    refine WE.iadd (n := 21) dX4_makeGas_20 rfl ?_
    refine WE.sipush (n := 24) (nI 9999) dX4_makeGas_21 rfl (by decide) ?_
    refine WE.mmin (n := 27) dX4_makeGas_24 rfl ml_X4_84 ⟨by decide, Nat.le_of_ble_eq_true rfl, by decide, by decide⟩ ?_
    refine WE.putI (n := 30) dX4_makeGas_27 rfl fl_X4_34 ⟨by decide, by decide, rfl, rfl⟩ ⟨by first | rfl | decide, by first | rfl | decide⟩ (by first | decide | exact kd_bal (by omega) | exact kd_let (by omega) | assumption) ?_
    refine WE.aload_n (n := 31) dX4_makeGas_30 rfl rfl ?_
    refine WE.getI (n := 34) dX4_makeGas_31 rfl fl_X4_34 ⟨by decide, by decide, rfl⟩ (by first | decide | exact kd_bal (by omega) | exact kd_let (by omega) | assumption) ?_
    refine WE.iret (ty := .int) dX4_makeGas_34 rfl rfl ⟨by decide, by decide⟩ ?_
    try simp only [s4, s5, s7, s8, s9, s10] at h8
    try simp only [u2_eq, s8]
    simp only [show (if nI 9999 < N 2 + r then nI 9999 else N 2 + r) = mn (nI 9999) (N 2 + r) from mn_comm9 _]
    exact PT.ok (by unfold S_gas; (first | simp only [bk, lk, hcl, hcl2] | simp only [bk, lk, hcl] | simp only [bk, lk] | skip); repeat (first | rw [if_pos (by assumption)] | rw [if_neg (by assumption)])) (hR.sca (8, 2) (by decide) (by decide) (by decide) _) (fun a k h => by repeat rw [u2_ne _ _ (by omega)])
  · skip
    refine WE.bipush (n := 13) ((-102 : Int32)) dX4_makeGas_11 rfl (by decide) ?_
    refine WE.iret (ty := .int) dX4_makeGas_13 rfl rfl ⟨by decide, by decide⟩ ?_
    try simp only [s4, s5, s7, s8, s9, s10] at h8
    exact PT.no 1 (by unfold S_gas; (first | simp only [bk, lk, hcl, hcl2] | simp only [bk, lk, hcl] | simp only [bk, lk] | skip); repeat (first | rw [if_pos (by assumption)] | rw [if_neg (by assumption)])) (by decide)
set_option maxRecDepth 20000 in
set_option maxHeartbeats 1000000 in
theorem c_fillBalloon (c : CC) (od : Int64 × UInt64) (N : NA) (hR : RelT c 1 N) (hC : CN N) (b x : Int32) : CM mX4_fillBalloon [.ref 1, .int b, .int x] (c, od) (PT c od N eA (S_fills N b x)) := by
  refine CM.of [(0, .ref 1), (1, .int b), (2, .int x)] rfl (by decide +kernel) rfl (Nat.le_of_ble_eq_true rfl) ?_
  have s4 : c 1 4 = N 3 := hR.s (4, 3) (by decide)
  have s5 : c 1 5 = N 4 := hR.s (5, 4) (by decide)
  have s6 : c 1 6 = N 0 := hR.s (6, 0) (by decide)
  have s7 : c 1 7 = N 1 := hR.s (7, 1) (by decide)
  have s8 : c 1 8 = N 2 := hR.s (8, 2) (by decide)
  have s9 : c 1 9 = N 5 := hR.s (9, 5) (by decide)
  have s10 : c 1 10 = N 6 := hR.s (10, 6) (by decide)
  refine WE.aload_n (n := 1) dX4_fillBalloon_0 rfl rfl ?_
  refine WE.iload_n (n := 2) dX4_fillBalloon_1 rfl rfl ?_
  refine WE.V1I (M' := mX4_hasBalloon) (n := 5) dX4_fillBalloon_2 rfl cv_X4_95 (by first | decide | exact kd_bal (by omega) | exact kd_let (by omega) | assumption) ⟨⟨by decide, by decide⟩, by decide, by decide⟩ (Nat.le_of_ble_eq_true rfl) (c_hasB _ _ _ (nbN N) (by have := hC.1; omega) ((hR.s (4, 3) (by decide)).trans hC.2.1)) ?_
  refine WE.if_neB (n := 8) (tgt := 11) dX4_fillBalloon_5 rfl (by decide) (fun h5 => ?_) (fun h5 => ?_)
  · skip
    obtain ⟨j, hj, rfl⟩ := isB_of hC.1 hC.2.1 (by rw [hC.2.1]; exact h5)
    have hj6 : j < 6 := by have := hC.1; omega
    have hcl := nI_clamp (show j < 2 ^ 31 by omega)
    have h5 : isBN N (nI j) := by unfold isBN; rw [hC.2.1]; exact h5
    have g0 : c (6 + j) 0 = N (22 + 11 * j + 0) := hR.b hj (0, 0) (by decide)
    have g1 : c (6 + j) 1 = N (22 + 11 * j + 1) := hR.b hj (1, 1) (by decide)
    have g2 : c (6 + j) 2 = N (22 + 11 * j + 2) := hR.b hj (2, 2) (by decide)
    have g3 : c (6 + j) 3 = N (22 + 11 * j + 3) := hR.b hj (3, 3) (by decide)
    have g4 : c (6 + j) 4 = N (22 + 11 * j + 4) := hR.b hj (4, 4) (by decide)
    have g7 : c (6 + j) 7 = N (22 + 11 * j + 5) := hR.b hj (7, 5) (by decide)
    refine WE.iload_n (n := 12) dX4_fillBalloon_11 rfl rfl ?_
    refine WE.iconst (n := 13) (nI 1) dX4_fillBalloon_12 rfl (by decide) ?_
    refine WE.bipush (n := 15) (nI 99) dX4_fillBalloon_13 rfl (by decide) ?_
    refine WE.N3I (M' := mX5_isBetween) (n := 18) dX4_fillBalloon_15 rfl cv_X4_80  ⟨⟨by decide, by decide⟩, by decide, by decide⟩ (Nat.le_of_ble_eq_true rfl) (c_isBetween _ _ _ _) ?_
    refine WE.if_neB (n := 21) (tgt := 24) dX4_fillBalloon_18 rfl (by decide) (fun h18 => ?_) (fun h18 => ?_)
    · skip
      refine WE.aload_n (n := 25) dX4_fillBalloon_24 rfl rfl ?_
      refine WE.getR (n := 28) dX4_fillBalloon_25 rfl fl_X4_20 ⟨by decide, by decide⟩ rfl (by first | decide | exact kd_bal (by omega) | exact kd_let (by omega) | assumption) ?_
      refine WE.iload_n (n := 29) dX4_fillBalloon_28 rfl rfl ?_
      refine WE.aald (n := 30) 12 j dX4_fillBalloon_29 rfl (by first | decide | assumption) (by decide) rfl (by show _ < 6; omega) rfl ?_
      refine WE.astore_n (n := 31) dX4_fillBalloon_30 rfl (by decide) ?_
      refine WE.aload_n (n := 32) dX4_fillBalloon_31 rfl rfl ?_
      refine WE.getI (n := 35) dX4_fillBalloon_32 rfl fl_X4_99 ⟨by decide, by decide, rfl⟩ (by first | decide | exact kd_bal (by omega) | exact kd_let (by omega) | assumption) ?_
      refine WE.if_eq (n := 38) (tgt := 45) dX4_fillBalloon_35 rfl (by decide) (fun h35 => ?_) (fun h35 => ?_)
      · skip
        refine WE.iload_n (n := 46) dX4_fillBalloon_45 rfl rfl ?_
        refine WE.aload_n (n := 47) dX4_fillBalloon_46 rfl rfl ?_
        refine WE.getI (n := 50) dX4_fillBalloon_47 rfl fl_X4_34 ⟨by decide, by decide, rfl⟩ (by first | decide | exact kd_bal (by omega) | exact kd_let (by omega) | assumption) ?_
        refine WE.icmp_le (n := 53) (tgt := 63) dX4_fillBalloon_50 rfl (by decide) (fun h50 => ?_) (fun h50 => ?_)
        · skip
          refine WE.aload_n (n := 64) dX4_fillBalloon_63 rfl rfl ?_
          refine WE.getI (n := 67) dX4_fillBalloon_64 rfl fl_X4_92 ⟨by decide, by decide, rfl⟩ (by first | decide | exact kd_bal (by omega) | exact kd_let (by omega) | assumption) ?_
          refine WE.aload_n (n := 68) dX4_fillBalloon_67 rfl rfl ?_
          refine WE.getI (n := 71) dX4_fillBalloon_68 rfl fl_X4_102 ⟨by decide, by decide, rfl⟩ (by first | decide | exact kd_bal (by omega) | exact kd_let (by omega) | assumption) ?_
          refine WE.isub (n := 72) dX4_fillBalloon_71 rfl ?_
          refine WE.istore (n := 74) dX4_fillBalloon_72 rfl (by decide) ?_
          refine WE.iload_n (n := 75) dX4_fillBalloon_74 rfl rfl ?_
          refine WE.iload (n := 77) dX4_fillBalloon_75 rfl rfl ?_
          refine WE.icmp_le (n := 80) (tgt := 88) dX4_fillBalloon_77 rfl (by decide) (fun h77 => ?_) (fun h77 => ?_)
          · skip
            refine WE.aload_n (n := 89) dX4_fillBalloon_88 rfl rfl ?_
            refine WE.dup (n := 90) dX4_fillBalloon_89 rfl rfl ?_
            refine WE.getI (n := 93) dX4_fillBalloon_90 rfl fl_X4_34 ⟨by decide, by decide, rfl⟩ (by first | decide | exact kd_bal (by omega) | exact kd_let (by omega) | assumption) ?_
            refine WE.iload_n (n := 94) dX4_fillBalloon_93 rfl rfl ?_
            refine WE.isub (n := 95) dX4_fillBalloon_94 rfl ?_
            refine WE.putI (n := 98) dX4_fillBalloon_95 rfl fl_X4_34 ⟨by decide, by decide, rfl, rfl⟩ ⟨by first | rfl | decide, by first | rfl | decide⟩ (by first | decide | exact kd_bal (by omega) | exact kd_let (by omega) | assumption) ?_
            refine WE.aload_n (n := 99) dX4_fillBalloon_98 rfl rfl ?_
            refine WE.dup (n := 100) dX4_fillBalloon_99 rfl rfl ?_
            refine WE.getI (n := 103) dX4_fillBalloon_100 rfl fl_X4_102 ⟨by decide, by decide, rfl⟩ (by first | decide | exact kd_bal (by omega) | exact kd_let (by omega) | assumption) ?_
            refine WE.iload_n (n := 104) dX4_fillBalloon_103 rfl rfl ?_
            refine WE.iadd (n := 105) dX4_fillBalloon_104 rfl ?_
            refine WE.putI (n := 108) dX4_fillBalloon_105 rfl fl_X4_102 ⟨by decide, by decide, rfl, rfl⟩ ⟨by first | rfl | decide, by first | rfl | decide⟩ (by first | decide | exact kd_bal (by omega) | exact kd_let (by omega) | assumption) ?_
            refine WE.aload_n (n := 109) dX4_fillBalloon_108 rfl rfl ?_
            refine WE.getI (n := 112) dX4_fillBalloon_109 rfl fl_X4_102 ⟨by decide, by decide, rfl⟩ (by first | decide | exact kd_bal (by omega) | exact kd_let (by omega) | assumption) ?_
            refine WE.iret (ty := .int) dX4_fillBalloon_112 rfl rfl ⟨by decide, by decide⟩ ?_
            try simp only [g0, g1, g2, g3, g4, g7, s7, s8, s9, s10] at h5 h18 h35 h50 h77
            try simp only [u2_eq, u2_ne _ _ (show ¬ (6 + j = 1 ∧ (1 : Nat) = 8) by omega), u2_ne _ _ (show ¬ (6 + j = 1 ∧ (2 : Nat) = 9) by omega), u2_ne _ _ (show ¬ (6 + j = 1 ∧ (2 : Nat) = 10) by omega), u2_ne _ _ (show ¬ (1 = 6 + j ∧ (9 : Nat) = 2) by omega), u2_ne _ _ (show ¬ (1 = 6 + j ∧ (10 : Nat) = 2) by omega), u2_ne _ _ (show ¬ (6 + j = 6 + j ∧ (4 : Nat) = 3) by omega), u2_ne _ _ (show ¬ (6 + j = 6 + j ∧ (3 : Nat) = 4) by omega), g0, g1, g2, g3, g4, g7, s7, s8, s9, s10]
            exact PT.ok (by unfold S_fills; (first | simp only [bk, lk, hcl, hcl2] | simp only [bk, lk, hcl] | simp only [bk, lk] | skip); repeat (first | rw [if_pos (by assumption)] | rw [if_neg (by assumption)])) ((hR.sca (8, 2) (by decide) (by decide) (by decide) _).bal' (by rw [nbN_up _ _ (by decide)]; exact hC.1) (1, 1) (by decide) (by decide) (by rw [nbN_up _ _ (by decide)]; exact hj) _ (by rw [upN_ne _ _ _ (by omega), h35]; decide)) (fun a k h => by repeat rw [u2_ne _ _ (by omega)])
          · skip
            refine WE.aload_n (n := 81) dX4_fillBalloon_80 rfl rfl ?_
            refine WE.iconst (n := 82) (nI 5) dX4_fillBalloon_81 rfl (by decide) ?_
            refine WE.iload (n := 84) dX4_fillBalloon_82 rfl rfl ?_
            refine WE.V2I (M' := mX4_refuse) (n := 87) dX4_fillBalloon_84 rfl cv_X4_89 (by first | decide | exact kd_bal (by omega) | exact kd_let (by omega) | assumption) ⟨⟨by decide, by decide⟩, by decide, by decide⟩ (Nat.le_of_ble_eq_true rfl) (c_refuse _ _ _ _) ?_
            refine WE.iret (ty := .int) dX4_fillBalloon_87 rfl rfl ⟨by decide, by decide⟩ ?_
            try simp only [g0, g1, g2, g3, g4, g7, s7, s8, s9, s10] at h5 h18 h35 h50 h77
            try simp only [be_rel hR hj]
            try simp only [g0, g1, g2, g3, g4, g7, s7, s8, s9, s10]
            exact PT.ref hR hC (by unfold S_fills; (first | simp only [bk, lk, hcl, hcl2] | simp only [bk, lk, hcl] | simp only [bk, lk] | skip); repeat (first | rw [if_pos (by assumption)] | rw [if_neg (by assumption)]))
        · skip
          refine WE.aload_n (n := 54) dX4_fillBalloon_53 rfl rfl ?_
          refine WE.iconst (n := 55) (nI 4) dX4_fillBalloon_54 rfl (by decide) ?_
          refine WE.aload_n (n := 56) dX4_fillBalloon_55 rfl rfl ?_
          refine WE.getI (n := 59) dX4_fillBalloon_56 rfl fl_X4_34 ⟨by decide, by decide, rfl⟩ (by first | decide | exact kd_bal (by omega) | exact kd_let (by omega) | assumption) ?_
          refine WE.V2I (M' := mX4_refuse) (n := 62) dX4_fillBalloon_59 rfl cv_X4_89 (by first | decide | exact kd_bal (by omega) | exact kd_let (by omega) | assumption) ⟨⟨by decide, by decide⟩, by decide, by decide⟩ (Nat.le_of_ble_eq_true rfl) (c_refuse _ _ _ _) ?_
          refine WE.iret (ty := .int) dX4_fillBalloon_62 rfl rfl ⟨by decide, by decide⟩ ?_
          try simp only [g0, g1, g2, g3, g4, g7, s7, s8, s9, s10] at h5 h18 h35 h50
          try simp only [be_rel hR hj]
          try simp only [g0, g1, g2, g3, g4, g7, s7, s8, s9, s10]
          exact PT.ref hR hC (by unfold S_fills; (first | simp only [bk, lk, hcl, hcl2] | simp only [bk, lk, hcl] | simp only [bk, lk] | skip); repeat (first | rw [if_pos (by assumption)] | rw [if_neg (by assumption)]))
      · skip
        refine WE.aload_n (n := 39) dX4_fillBalloon_38 rfl rfl ?_
        refine WE.iconst (n := 40) (nI 2) dX4_fillBalloon_39 rfl (by decide) ?_
        refine WE.iload_n (n := 41) dX4_fillBalloon_40 rfl rfl ?_
        refine WE.V2I (M' := mX4_refuse) (n := 44) dX4_fillBalloon_41 rfl cv_X4_89 (by first | decide | exact kd_bal (by omega) | exact kd_let (by omega) | assumption) ⟨⟨by decide, by decide⟩, by decide, by decide⟩ (Nat.le_of_ble_eq_true rfl) (c_refuse _ _ _ _) ?_
        refine WE.iret (ty := .int) dX4_fillBalloon_44 rfl rfl ⟨by decide, by decide⟩ ?_
        try simp only [g0, g1, g2, g3, g4, g7, s7, s8, s9, s10] at h5 h18 h35
        try simp only [be_rel hR hj]
        try simp only [g0, g1, g2, g3, g4, g7, s7, s8, s9, s10]
        exact PT.ref hR hC (by unfold S_fills; (first | simp only [bk, lk, hcl, hcl2] | simp only [bk, lk, hcl] | simp only [bk, lk] | skip); repeat (first | rw [if_pos (by assumption)] | rw [if_neg (by assumption)]))
    · skip
      refine WE.bipush (n := 23) ((-102 : Int32)) dX4_fillBalloon_21 rfl (by decide) ?_
      refine WE.iret (ty := .int) dX4_fillBalloon_23 rfl rfl ⟨by decide, by decide⟩ ?_
      try simp only [g0, g1, g2, g3, g4, g7, s7, s8, s9, s10] at h5 h18
      exact PT.no 2 (by unfold S_fills; (first | simp only [bk, lk, hcl, hcl2] | simp only [bk, lk, hcl] | simp only [bk, lk] | skip); repeat (first | rw [if_pos (by assumption)] | rw [if_neg (by assumption)])) (by decide)
  · skip
    have h5 : ¬ isBN N b := by unfold isBN; rw [hC.2.1]; exact h5
    refine WE.bipush (n := 10) ((-101 : Int32)) dX4_fillBalloon_8 rfl (by decide) ?_
    refine WE.iret (ty := .int) dX4_fillBalloon_10 rfl rfl ⟨by decide, by decide⟩ ?_
    try simp only [s4, s5, s7, s8, s9, s10] at h5
    exact PT.no 1 (by unfold S_fills; (first | simp only [bk, lk, hcl, hcl2] | simp only [bk, lk, hcl] | simp only [bk, lk] | skip); repeat (first | rw [if_pos (by assumption)] | rw [if_neg (by assumption)])) (by decide)
set_option maxRecDepth 20000 in
set_option maxHeartbeats 1000000 in
theorem c_layBallast (c : CC) (od : Int64 × UInt64) (N : NA) (hR : RelT c 1 N) (hC : CN N) (b x : Int32) : CM mX4_layBallast [.ref 1, .int b, .int x] (c, od) (PT c od N eA (S_lays N b x)) := by
  refine CM.of [(0, .ref 1), (1, .int b), (2, .int x)] rfl (by decide +kernel) rfl (Nat.le_of_ble_eq_true rfl) ?_
  have s4 : c 1 4 = N 3 := hR.s (4, 3) (by decide)
  have s5 : c 1 5 = N 4 := hR.s (5, 4) (by decide)
  have s6 : c 1 6 = N 0 := hR.s (6, 0) (by decide)
  have s7 : c 1 7 = N 1 := hR.s (7, 1) (by decide)
  have s8 : c 1 8 = N 2 := hR.s (8, 2) (by decide)
  have s9 : c 1 9 = N 5 := hR.s (9, 5) (by decide)
  have s10 : c 1 10 = N 6 := hR.s (10, 6) (by decide)
  refine WE.aload_n (n := 1) dX4_layBallast_0 rfl rfl ?_
  refine WE.iload_n (n := 2) dX4_layBallast_1 rfl rfl ?_
  refine WE.V1I (M' := mX4_hasBalloon) (n := 5) dX4_layBallast_2 rfl cv_X4_95 (by first | decide | exact kd_bal (by omega) | exact kd_let (by omega) | assumption) ⟨⟨by decide, by decide⟩, by decide, by decide⟩ (Nat.le_of_ble_eq_true rfl) (c_hasB _ _ _ (nbN N) (by have := hC.1; omega) ((hR.s (4, 3) (by decide)).trans hC.2.1)) ?_
  refine WE.if_neB (n := 8) (tgt := 11) dX4_layBallast_5 rfl (by decide) (fun h5 => ?_) (fun h5 => ?_)
  · skip
    obtain ⟨j, hj, rfl⟩ := isB_of hC.1 hC.2.1 (by rw [hC.2.1]; exact h5)
    have hj6 : j < 6 := by have := hC.1; omega
    have hcl := nI_clamp (show j < 2 ^ 31 by omega)
    have h5 : isBN N (nI j) := by unfold isBN; rw [hC.2.1]; exact h5
    have g0 : c (6 + j) 0 = N (22 + 11 * j + 0) := hR.b hj (0, 0) (by decide)
    have g1 : c (6 + j) 1 = N (22 + 11 * j + 1) := hR.b hj (1, 1) (by decide)
    have g2 : c (6 + j) 2 = N (22 + 11 * j + 2) := hR.b hj (2, 2) (by decide)
    have g3 : c (6 + j) 3 = N (22 + 11 * j + 3) := hR.b hj (3, 3) (by decide)
    have g4 : c (6 + j) 4 = N (22 + 11 * j + 4) := hR.b hj (4, 4) (by decide)
    have g7 : c (6 + j) 7 = N (22 + 11 * j + 5) := hR.b hj (7, 5) (by decide)
    refine WE.iload_n (n := 12) dX4_layBallast_11 rfl rfl ?_
    refine WE.iconst (n := 13) (nI 1) dX4_layBallast_12 rfl (by decide) ?_
    refine WE.bipush (n := 15) (nI 50) dX4_layBallast_13 rfl (by decide) ?_
    refine WE.N3I (M' := mX5_isBetween) (n := 18) dX4_layBallast_15 rfl cv_X4_80  ⟨⟨by decide, by decide⟩, by decide, by decide⟩ (Nat.le_of_ble_eq_true rfl) (c_isBetween _ _ _ _) ?_
    refine WE.if_neB (n := 21) (tgt := 24) dX4_layBallast_18 rfl (by decide) (fun h18 => ?_) (fun h18 => ?_)
    · skip
      refine WE.aload_n (n := 25) dX4_layBallast_24 rfl rfl ?_
      refine WE.getR (n := 28) dX4_layBallast_25 rfl fl_X4_20 ⟨by decide, by decide⟩ rfl (by first | decide | exact kd_bal (by omega) | exact kd_let (by omega) | assumption) ?_
      refine WE.iload_n (n := 29) dX4_layBallast_28 rfl rfl ?_
      refine WE.aald (n := 30) 12 j dX4_layBallast_29 rfl (by first | decide | assumption) (by decide) rfl (by show _ < 6; omega) rfl ?_
      refine WE.astore_n (n := 31) dX4_layBallast_30 rfl (by decide) ?_
      refine WE.aload_n (n := 32) dX4_layBallast_31 rfl rfl ?_
      refine WE.getI (n := 35) dX4_layBallast_32 rfl fl_X4_99 ⟨by decide, by decide, rfl⟩ (by first | decide | exact kd_bal (by omega) | exact kd_let (by omega) | assumption) ?_
      refine WE.if_eq (n := 38) (tgt := 45) dX4_layBallast_35 rfl (by decide) (fun h35 => ?_) (fun h35 => ?_)
      · skip
        refine WE.bipush (n := 47) (nI 50) dX4_layBallast_45 rfl (by decide) ?_
        refine WE.aload_n (n := 48) dX4_layBallast_47 rfl rfl ?_
        refine WE.getI (n := 51) dX4_layBallast_48 rfl fl_X4_103 ⟨by decide, by decide, rfl⟩ (by first | decide | exact kd_bal (by omega) | exact kd_let (by omega) | assumption) ?_
        refine WE.isub (n := 52) dX4_layBallast_51 rfl ?_
        refine WE.istore (n := 54) dX4_layBallast_52 rfl (by decide) ?_
        refine WE.iload_n (n := 55) dX4_layBallast_54 rfl rfl ?_
        refine WE.iload (n := 57) dX4_layBallast_55 rfl rfl ?_
        refine WE.icmp_le (n := 60) (tgt := 69) dX4_layBallast_57 rfl (by decide) (fun h57 => ?_) (fun h57 => ?_)
        · skip
          refine WE.aload_n (n := 70) dX4_layBallast_69 rfl rfl ?_
          refine WE.dup (n := 71) dX4_layBallast_70 rfl rfl ?_
          refine WE.getI (n := 74) dX4_layBallast_71 rfl fl_X4_103 ⟨by decide, by decide, rfl⟩ (by first | decide | exact kd_bal (by omega) | exact kd_let (by omega) | assumption) ?_
          refine WE.iload_n (n := 75) dX4_layBallast_74 rfl rfl ?_
          refine WE.iadd (n := 76) dX4_layBallast_75 rfl ?_
          refine WE.putI (n := 79) dX4_layBallast_76 rfl fl_X4_103 ⟨by decide, by decide, rfl, rfl⟩ ⟨by first | rfl | decide, by first | rfl | decide⟩ (by first | decide | exact kd_bal (by omega) | exact kd_let (by omega) | assumption) ?_
          refine WE.aload_n (n := 80) dX4_layBallast_79 rfl rfl ?_
          refine WE.dup (n := 81) dX4_layBallast_80 rfl rfl ?_
          refine WE.getI (n := 84) dX4_layBallast_81 rfl fl_X4_55 ⟨by decide, by decide, rfl⟩ (by first | decide | exact kd_bal (by omega) | exact kd_let (by omega) | assumption) ?_
          refine WE.iload_n (n := 85) dX4_layBallast_84 rfl rfl ?_
          refine WE.iadd (n := 86) dX4_layBallast_85 rfl ?_
          refine WE.putI (n := 89) dX4_layBallast_86 rfl fl_X4_55 ⟨by decide, by decide, rfl, rfl⟩ ⟨by first | rfl | decide, by first | rfl | decide⟩ (by first | decide | exact kd_bal (by omega) | exact kd_let (by omega) | assumption) ?_
          refine WE.aload_n (n := 90) dX4_layBallast_89 rfl rfl ?_
          refine WE.getI (n := 93) dX4_layBallast_90 rfl fl_X4_103 ⟨by decide, by decide, rfl⟩ (by first | decide | exact kd_bal (by omega) | exact kd_let (by omega) | assumption) ?_
          refine WE.iret (ty := .int) dX4_layBallast_93 rfl rfl ⟨by decide, by decide⟩ ?_
          try simp only [g0, g1, g2, g3, g4, g7, s7, s8, s9, s10] at h5 h18 h35 h57
          try simp only [u2_eq, u2_ne _ _ (show ¬ (6 + j = 1 ∧ (1 : Nat) = 8) by omega), u2_ne _ _ (show ¬ (6 + j = 1 ∧ (2 : Nat) = 9) by omega), u2_ne _ _ (show ¬ (6 + j = 1 ∧ (2 : Nat) = 10) by omega), u2_ne _ _ (show ¬ (1 = 6 + j ∧ (9 : Nat) = 2) by omega), u2_ne _ _ (show ¬ (1 = 6 + j ∧ (10 : Nat) = 2) by omega), u2_ne _ _ (show ¬ (6 + j = 6 + j ∧ (4 : Nat) = 3) by omega), u2_ne _ _ (show ¬ (6 + j = 6 + j ∧ (3 : Nat) = 4) by omega), g0, g1, g2, g3, g4, g7, s7, s8, s9, s10]
          exact PT.ok (by unfold S_lays; (first | simp only [bk, lk, hcl, hcl2] | simp only [bk, lk, hcl] | simp only [bk, lk] | skip); repeat (first | rw [if_pos (by assumption)] | rw [if_neg (by assumption)])) ((hR.bal' hC.1 (2, 2) (by decide) (by decide) hj _ (by rw [h35]; decide)).sca (9, 5) (by decide) (by decide) (by decide) _) (fun a k h => by repeat rw [u2_ne _ _ (by omega)])
        · skip
          refine WE.aload_n (n := 61) dX4_layBallast_60 rfl rfl ?_
          refine WE.bipush (n := 63) (nI 6) dX4_layBallast_61 rfl (by decide) ?_
          refine WE.iload (n := 65) dX4_layBallast_63 rfl rfl ?_
          refine WE.V2I (M' := mX4_refuse) (n := 68) dX4_layBallast_65 rfl cv_X4_89 (by first | decide | exact kd_bal (by omega) | exact kd_let (by omega) | assumption) ⟨⟨by decide, by decide⟩, by decide, by decide⟩ (Nat.le_of_ble_eq_true rfl) (c_refuse _ _ _ _) ?_
          refine WE.iret (ty := .int) dX4_layBallast_68 rfl rfl ⟨by decide, by decide⟩ ?_
          try simp only [g0, g1, g2, g3, g4, g7, s7, s8, s9, s10] at h5 h18 h35 h57
          try simp only [be_rel hR hj]
          try simp only [g0, g1, g2, g3, g4, g7, s7, s8, s9, s10]
          exact PT.ref hR hC (by unfold S_lays; (first | simp only [bk, lk, hcl, hcl2] | simp only [bk, lk, hcl] | simp only [bk, lk] | skip); repeat (first | rw [if_pos (by assumption)] | rw [if_neg (by assumption)]))
      · skip
        refine WE.aload_n (n := 39) dX4_layBallast_38 rfl rfl ?_
        refine WE.iconst (n := 40) (nI 2) dX4_layBallast_39 rfl (by decide) ?_
        refine WE.iload_n (n := 41) dX4_layBallast_40 rfl rfl ?_
        refine WE.V2I (M' := mX4_refuse) (n := 44) dX4_layBallast_41 rfl cv_X4_89 (by first | decide | exact kd_bal (by omega) | exact kd_let (by omega) | assumption) ⟨⟨by decide, by decide⟩, by decide, by decide⟩ (Nat.le_of_ble_eq_true rfl) (c_refuse _ _ _ _) ?_
        refine WE.iret (ty := .int) dX4_layBallast_44 rfl rfl ⟨by decide, by decide⟩ ?_
        try simp only [g0, g1, g2, g3, g4, g7, s7, s8, s9, s10] at h5 h18 h35
        try simp only [be_rel hR hj]
        try simp only [g0, g1, g2, g3, g4, g7, s7, s8, s9, s10]
        exact PT.ref hR hC (by unfold S_lays; (first | simp only [bk, lk, hcl, hcl2] | simp only [bk, lk, hcl] | simp only [bk, lk] | skip); repeat (first | rw [if_pos (by assumption)] | rw [if_neg (by assumption)]))
    · skip
      refine WE.bipush (n := 23) ((-102 : Int32)) dX4_layBallast_21 rfl (by decide) ?_
      refine WE.iret (ty := .int) dX4_layBallast_23 rfl rfl ⟨by decide, by decide⟩ ?_
      try simp only [g0, g1, g2, g3, g4, g7, s7, s8, s9, s10] at h5 h18
      exact PT.no 2 (by unfold S_lays; (first | simp only [bk, lk, hcl, hcl2] | simp only [bk, lk, hcl] | simp only [bk, lk] | skip); repeat (first | rw [if_pos (by assumption)] | rw [if_neg (by assumption)])) (by decide)
  · skip
    have h5 : ¬ isBN N b := by unfold isBN; rw [hC.2.1]; exact h5
    refine WE.bipush (n := 10) ((-101 : Int32)) dX4_layBallast_8 rfl (by decide) ?_
    refine WE.iret (ty := .int) dX4_layBallast_10 rfl rfl ⟨by decide, by decide⟩ ?_
    try simp only [s4, s5, s7, s8, s9, s10] at h5
    exact PT.no 1 (by unfold S_lays; (first | simp only [bk, lk, hcl, hcl2] | simp only [bk, lk, hcl] | simp only [bk, lk] | skip); repeat (first | rw [if_pos (by assumption)] | rw [if_neg (by assumption)])) (by decide)
set_option maxRecDepth 20000 in
set_option maxHeartbeats 1000000 in
theorem c_letBallastGo (c : CC) (od : Int64 × UInt64) (N : NA) (hR : RelT c 1 N) (hC : CN N) (b x : Int32) : CM mX4_letBallastGo [.ref 1, .int b, .int x] (c, od) (PT c od N eA (S_drops N b x)) := by
  refine CM.of [(0, .ref 1), (1, .int b), (2, .int x)] rfl (by decide +kernel) rfl (Nat.le_of_ble_eq_true rfl) ?_
  have s4 : c 1 4 = N 3 := hR.s (4, 3) (by decide)
  have s5 : c 1 5 = N 4 := hR.s (5, 4) (by decide)
  have s6 : c 1 6 = N 0 := hR.s (6, 0) (by decide)
  have s7 : c 1 7 = N 1 := hR.s (7, 1) (by decide)
  have s8 : c 1 8 = N 2 := hR.s (8, 2) (by decide)
  have s9 : c 1 9 = N 5 := hR.s (9, 5) (by decide)
  have s10 : c 1 10 = N 6 := hR.s (10, 6) (by decide)
  refine WE.aload_n (n := 1) dX4_letBallastGo_0 rfl rfl ?_
  refine WE.iload_n (n := 2) dX4_letBallastGo_1 rfl rfl ?_
  refine WE.V1I (M' := mX4_hasBalloon) (n := 5) dX4_letBallastGo_2 rfl cv_X4_95 (by first | decide | exact kd_bal (by omega) | exact kd_let (by omega) | assumption) ⟨⟨by decide, by decide⟩, by decide, by decide⟩ (Nat.le_of_ble_eq_true rfl) (c_hasB _ _ _ (nbN N) (by have := hC.1; omega) ((hR.s (4, 3) (by decide)).trans hC.2.1)) ?_
  refine WE.if_neB (n := 8) (tgt := 11) dX4_letBallastGo_5 rfl (by decide) (fun h5 => ?_) (fun h5 => ?_)
  · skip
    obtain ⟨j, hj, rfl⟩ := isB_of hC.1 hC.2.1 (by rw [hC.2.1]; exact h5)
    have hj6 : j < 6 := by have := hC.1; omega
    have hcl := nI_clamp (show j < 2 ^ 31 by omega)
    have h5 : isBN N (nI j) := by unfold isBN; rw [hC.2.1]; exact h5
    have g0 : c (6 + j) 0 = N (22 + 11 * j + 0) := hR.b hj (0, 0) (by decide)
    have g1 : c (6 + j) 1 = N (22 + 11 * j + 1) := hR.b hj (1, 1) (by decide)
    have g2 : c (6 + j) 2 = N (22 + 11 * j + 2) := hR.b hj (2, 2) (by decide)
    have g3 : c (6 + j) 3 = N (22 + 11 * j + 3) := hR.b hj (3, 3) (by decide)
    have g4 : c (6 + j) 4 = N (22 + 11 * j + 4) := hR.b hj (4, 4) (by decide)
    have g7 : c (6 + j) 7 = N (22 + 11 * j + 5) := hR.b hj (7, 5) (by decide)
    refine WE.iload_n (n := 12) dX4_letBallastGo_11 rfl rfl ?_
    refine WE.iconst (n := 13) (nI 1) dX4_letBallastGo_12 rfl (by decide) ?_
    refine WE.bipush (n := 15) (nI 50) dX4_letBallastGo_13 rfl (by decide) ?_
    refine WE.N3I (M' := mX5_isBetween) (n := 18) dX4_letBallastGo_15 rfl cv_X4_80  ⟨⟨by decide, by decide⟩, by decide, by decide⟩ (Nat.le_of_ble_eq_true rfl) (c_isBetween _ _ _ _) ?_
    refine WE.if_neB (n := 21) (tgt := 24) dX4_letBallastGo_18 rfl (by decide) (fun h18 => ?_) (fun h18 => ?_)
    · skip
      refine WE.aload_n (n := 25) dX4_letBallastGo_24 rfl rfl ?_
      refine WE.getR (n := 28) dX4_letBallastGo_25 rfl fl_X4_20 ⟨by decide, by decide⟩ rfl (by first | decide | exact kd_bal (by omega) | exact kd_let (by omega) | assumption) ?_
      refine WE.iload_n (n := 29) dX4_letBallastGo_28 rfl rfl ?_
      refine WE.aald (n := 30) 12 j dX4_letBallastGo_29 rfl (by first | decide | assumption) (by decide) rfl (by show _ < 6; omega) rfl ?_
      refine WE.astore_n (n := 31) dX4_letBallastGo_30 rfl (by decide) ?_
      refine WE.aload_n (n := 32) dX4_letBallastGo_31 rfl rfl ?_
      refine WE.getI (n := 35) dX4_letBallastGo_32 rfl fl_X4_99 ⟨by decide, by decide, rfl⟩ (by first | decide | exact kd_bal (by omega) | exact kd_let (by omega) | assumption) ?_
      refine WE.iconst (n := 36) (nI 1) dX4_letBallastGo_35 rfl (by decide) ?_
      refine WE.icmp_eq (n := 39) (tgt := 46) dX4_letBallastGo_36 rfl (by decide) (fun h36 => ?_) (fun h36 => ?_)
      · skip
        refine WE.iload_n (n := 47) dX4_letBallastGo_46 rfl rfl ?_
        refine WE.aload_n (n := 48) dX4_letBallastGo_47 rfl rfl ?_
        refine WE.getI (n := 51) dX4_letBallastGo_48 rfl fl_X4_103 ⟨by decide, by decide, rfl⟩ (by first | decide | exact kd_bal (by omega) | exact kd_let (by omega) | assumption) ?_
        refine WE.icmp_le (n := 54) (tgt := 65) dX4_letBallastGo_51 rfl (by decide) (fun h51 => ?_) (fun h51 => ?_)
        · skip
          refine WE.aload_n (n := 66) dX4_letBallastGo_65 rfl rfl ?_
          refine WE.dup (n := 67) dX4_letBallastGo_66 rfl rfl ?_
          refine WE.getI (n := 70) dX4_letBallastGo_67 rfl fl_X4_103 ⟨by decide, by decide, rfl⟩ (by first | decide | exact kd_bal (by omega) | exact kd_let (by omega) | assumption) ?_
          refine WE.iload_n (n := 71) dX4_letBallastGo_70 rfl rfl ?_
          refine WE.isub (n := 72) dX4_letBallastGo_71 rfl ?_
          refine WE.putI (n := 75) dX4_letBallastGo_72 rfl fl_X4_103 ⟨by decide, by decide, rfl, rfl⟩ ⟨by first | rfl | decide, by first | rfl | decide⟩ (by first | decide | exact kd_bal (by omega) | exact kd_let (by omega) | assumption) ?_
          refine WE.aload_n (n := 76) dX4_letBallastGo_75 rfl rfl ?_
          refine WE.dup (n := 77) dX4_letBallastGo_76 rfl rfl ?_
          refine WE.getI (n := 80) dX4_letBallastGo_77 rfl fl_X4_58 ⟨by decide, by decide, rfl⟩ (by first | decide | exact kd_bal (by omega) | exact kd_let (by omega) | assumption) ?_
          refine WE.iload_n (n := 81) dX4_letBallastGo_80 rfl rfl ?_
          refine WE.iadd (n := 82) dX4_letBallastGo_81 rfl ?_
          refine WE.putI (n := 85) dX4_letBallastGo_82 rfl fl_X4_58 ⟨by decide, by decide, rfl, rfl⟩ ⟨by first | rfl | decide, by first | rfl | decide⟩ (by first | decide | exact kd_bal (by omega) | exact kd_let (by omega) | assumption) ?_
          refine WE.aload_n (n := 86) dX4_letBallastGo_85 rfl rfl ?_
          refine WE.getI (n := 89) dX4_letBallastGo_86 rfl fl_X4_103 ⟨by decide, by decide, rfl⟩ (by first | decide | exact kd_bal (by omega) | exact kd_let (by omega) | assumption) ?_
          refine WE.iret (ty := .int) dX4_letBallastGo_89 rfl rfl ⟨by decide, by decide⟩ ?_
          try simp only [g0, g1, g2, g3, g4, g7, s7, s8, s9, s10] at h5 h18 h36 h51
          try simp only [u2_eq, u2_ne _ _ (show ¬ (6 + j = 1 ∧ (1 : Nat) = 8) by omega), u2_ne _ _ (show ¬ (6 + j = 1 ∧ (2 : Nat) = 9) by omega), u2_ne _ _ (show ¬ (6 + j = 1 ∧ (2 : Nat) = 10) by omega), u2_ne _ _ (show ¬ (1 = 6 + j ∧ (9 : Nat) = 2) by omega), u2_ne _ _ (show ¬ (1 = 6 + j ∧ (10 : Nat) = 2) by omega), u2_ne _ _ (show ¬ (6 + j = 6 + j ∧ (4 : Nat) = 3) by omega), u2_ne _ _ (show ¬ (6 + j = 6 + j ∧ (3 : Nat) = 4) by omega), g0, g1, g2, g3, g4, g7, s7, s8, s9, s10]
          exact PT.ok (by unfold S_drops; (first | simp only [bk, lk, hcl, hcl2] | simp only [bk, lk, hcl] | simp only [bk, lk] | skip); repeat (first | rw [if_pos (by assumption)] | rw [if_neg (by assumption)])) ((hR.bal' hC.1 (2, 2) (by decide) (by decide) hj _ (by rw [h36]; decide)).sca (10, 6) (by decide) (by decide) (by decide) _) (fun a k h => by repeat rw [u2_ne _ _ (by omega)])
        · skip
          refine WE.aload_n (n := 55) dX4_letBallastGo_54 rfl rfl ?_
          refine WE.bipush (n := 57) (nI 7) dX4_letBallastGo_55 rfl (by decide) ?_
          refine WE.aload_n (n := 58) dX4_letBallastGo_57 rfl rfl ?_
          refine WE.getI (n := 61) dX4_letBallastGo_58 rfl fl_X4_103 ⟨by decide, by decide, rfl⟩ (by first | decide | exact kd_bal (by omega) | exact kd_let (by omega) | assumption) ?_
          refine WE.V2I (M' := mX4_refuse) (n := 64) dX4_letBallastGo_61 rfl cv_X4_89 (by first | decide | exact kd_bal (by omega) | exact kd_let (by omega) | assumption) ⟨⟨by decide, by decide⟩, by decide, by decide⟩ (Nat.le_of_ble_eq_true rfl) (c_refuse _ _ _ _) ?_
          refine WE.iret (ty := .int) dX4_letBallastGo_64 rfl rfl ⟨by decide, by decide⟩ ?_
          try simp only [g0, g1, g2, g3, g4, g7, s7, s8, s9, s10] at h5 h18 h36 h51
          try simp only [be_rel hR hj]
          try simp only [g0, g1, g2, g3, g4, g7, s7, s8, s9, s10]
          exact PT.ref hR hC (by unfold S_drops; (first | simp only [bk, lk, hcl, hcl2] | simp only [bk, lk, hcl] | simp only [bk, lk] | skip); repeat (first | rw [if_pos (by assumption)] | rw [if_neg (by assumption)]))
      · skip
        refine WE.aload_n (n := 40) dX4_letBallastGo_39 rfl rfl ?_
        refine WE.iconst (n := 41) (nI 3) dX4_letBallastGo_40 rfl (by decide) ?_
        refine WE.iload_n (n := 42) dX4_letBallastGo_41 rfl rfl ?_
        refine WE.V2I (M' := mX4_refuse) (n := 45) dX4_letBallastGo_42 rfl cv_X4_89 (by first | decide | exact kd_bal (by omega) | exact kd_let (by omega) | assumption) ⟨⟨by decide, by decide⟩, by decide, by decide⟩ (Nat.le_of_ble_eq_true rfl) (c_refuse _ _ _ _) ?_
        refine WE.iret (ty := .int) dX4_letBallastGo_45 rfl rfl ⟨by decide, by decide⟩ ?_
        try simp only [g0, g1, g2, g3, g4, g7, s7, s8, s9, s10] at h5 h18 h36
        try simp only [be_rel hR hj]
        try simp only [g0, g1, g2, g3, g4, g7, s7, s8, s9, s10]
        exact PT.ref hR hC (by unfold S_drops; (first | simp only [bk, lk, hcl, hcl2] | simp only [bk, lk, hcl] | simp only [bk, lk] | skip); repeat (first | rw [if_pos (by assumption)] | rw [if_neg (by assumption)]))
    · skip
      refine WE.bipush (n := 23) ((-102 : Int32)) dX4_letBallastGo_21 rfl (by decide) ?_
      refine WE.iret (ty := .int) dX4_letBallastGo_23 rfl rfl ⟨by decide, by decide⟩ ?_
      try simp only [g0, g1, g2, g3, g4, g7, s7, s8, s9, s10] at h5 h18
      exact PT.no 2 (by unfold S_drops; (first | simp only [bk, lk, hcl, hcl2] | simp only [bk, lk, hcl] | simp only [bk, lk] | skip); repeat (first | rw [if_pos (by assumption)] | rw [if_neg (by assumption)])) (by decide)
  · skip
    have h5 : ¬ isBN N b := by unfold isBN; rw [hC.2.1]; exact h5
    refine WE.bipush (n := 10) ((-101 : Int32)) dX4_letBallastGo_8 rfl (by decide) ?_
    refine WE.iret (ty := .int) dX4_letBallastGo_10 rfl rfl ⟨by decide, by decide⟩ ?_
    try simp only [s4, s5, s7, s8, s9, s10] at h5
    exact PT.no 1 (by unfold S_drops; (first | simp only [bk, lk, hcl, hcl2] | simp only [bk, lk, hcl] | simp only [bk, lk] | skip); repeat (first | rw [if_pos (by assumption)] | rw [if_neg (by assumption)])) (by decide)
theorem le2_c {x : Int32} (h : ∃ k : Nat, k ≤ 2 ∧ x = nI k) : (x < nI 2 → ¬ x = nI 2) ∧ (¬ x < nI 2 → x = nI 2) := by
  obtain ⟨k, hk, rfl⟩ := h
  rcases (show k = 0 ∨ k = 1 ∨ k = 2 by omega) with rfl | rfl | rfl <;> decide
set_option maxRecDepth 20000 in
set_option maxHeartbeats 1000000 in
theorem c_addCourier (c : CC) (od : Int64 × UInt64) (N : NA) (hR : RelT c 1 N) (hC : CN N) (hcr : ∀ j, j < nbN N → ∃ k : Nat, k ≤ 2 ∧ N (22 + 11 * j + 3) = nI k) (b x : Int32) : CM mX4_addCourier [.ref 1, .int b, .int x] (c, od) (PT c od N eA (S_courier N b x)) := by
  refine CM.of [(0, .ref 1), (1, .int b), (2, .int x)] rfl (by decide +kernel) rfl (Nat.le_of_ble_eq_true rfl) ?_
  have s4 : c 1 4 = N 3 := hR.s (4, 3) (by decide)
  have s5 : c 1 5 = N 4 := hR.s (5, 4) (by decide)
  have s6 : c 1 6 = N 0 := hR.s (6, 0) (by decide)
  have s7 : c 1 7 = N 1 := hR.s (7, 1) (by decide)
  have s8 : c 1 8 = N 2 := hR.s (8, 2) (by decide)
  have s9 : c 1 9 = N 5 := hR.s (9, 5) (by decide)
  have s10 : c 1 10 = N 6 := hR.s (10, 6) (by decide)
  refine WE.aload_n (n := 1) dX4_addCourier_0 rfl rfl ?_
  refine WE.iload_n (n := 2) dX4_addCourier_1 rfl rfl ?_
  refine WE.V1I (M' := mX4_hasBalloon) (n := 5) dX4_addCourier_2 rfl cv_X4_95 (by first | decide | exact kd_bal (by omega) | exact kd_let (by omega) | assumption) ⟨⟨by decide, by decide⟩, by decide, by decide⟩ (Nat.le_of_ble_eq_true rfl) (c_hasB _ _ _ (nbN N) (by have := hC.1; omega) ((hR.s (4, 3) (by decide)).trans hC.2.1)) ?_
  refine WE.if_neB (n := 8) (tgt := 11) dX4_addCourier_5 rfl (by decide) (fun h5 => ?_) (fun h5 => ?_)
  · skip
    obtain ⟨j, hj, rfl⟩ := isB_of hC.1 hC.2.1 (by rw [hC.2.1]; exact h5)
    have hj6 : j < 6 := by have := hC.1; omega
    have hcl := nI_clamp (show j < 2 ^ 31 by omega)
    have h5 : isBN N (nI j) := by unfold isBN; rw [hC.2.1]; exact h5
    have g0 : c (6 + j) 0 = N (22 + 11 * j + 0) := hR.b hj (0, 0) (by decide)
    have g1 : c (6 + j) 1 = N (22 + 11 * j + 1) := hR.b hj (1, 1) (by decide)
    have g2 : c (6 + j) 2 = N (22 + 11 * j + 2) := hR.b hj (2, 2) (by decide)
    have g3 : c (6 + j) 3 = N (22 + 11 * j + 3) := hR.b hj (3, 3) (by decide)
    have g4 : c (6 + j) 4 = N (22 + 11 * j + 4) := hR.b hj (4, 4) (by decide)
    have g7 : c (6 + j) 7 = N (22 + 11 * j + 5) := hR.b hj (7, 5) (by decide)
    refine WE.iload_n (n := 12) dX4_addCourier_11 rfl rfl ?_
    refine WE.iconst (n := 13) (nI 5) dX4_addCourier_12 rfl (by decide) ?_
    refine WE.bipush (n := 15) (nI 12) dX4_addCourier_13 rfl (by decide) ?_
    refine WE.N3I (M' := mX5_isBetween) (n := 18) dX4_addCourier_15 rfl cv_X4_80  ⟨⟨by decide, by decide⟩, by decide, by decide⟩ (Nat.le_of_ble_eq_true rfl) (c_isBetween _ _ _ _) ?_
    refine WE.if_neB (n := 21) (tgt := 24) dX4_addCourier_18 rfl (by decide) (fun h18 => ?_) (fun h18 => ?_)
    · skip
      refine WE.aload_n (n := 25) dX4_addCourier_24 rfl rfl ?_
      refine WE.getR (n := 28) dX4_addCourier_25 rfl fl_X4_20 ⟨by decide, by decide⟩ rfl (by first | decide | exact kd_bal (by omega) | exact kd_let (by omega) | assumption) ?_
      refine WE.iload_n (n := 29) dX4_addCourier_28 rfl rfl ?_
      refine WE.aald (n := 30) 12 j dX4_addCourier_29 rfl (by first | decide | assumption) (by decide) rfl (by show _ < 6; omega) rfl ?_
      refine WE.astore_n (n := 31) dX4_addCourier_30 rfl (by decide) ?_
      refine WE.aload_n (n := 32) dX4_addCourier_31 rfl rfl ?_
      refine WE.getI (n := 35) dX4_addCourier_32 rfl fl_X4_99 ⟨by decide, by decide, rfl⟩ (by first | decide | exact kd_bal (by omega) | exact kd_let (by omega) | assumption) ?_
      refine WE.if_eq (n := 38) (tgt := 45) dX4_addCourier_35 rfl (by decide) (fun h35 => ?_) (fun h35 => ?_)
      · skip
        refine WE.aload_n (n := 46) dX4_addCourier_45 rfl rfl ?_
        refine WE.getI (n := 49) dX4_addCourier_46 rfl fl_X4_106 ⟨by decide, by decide, rfl⟩ (by first | decide | exact kd_bal (by omega) | exact kd_let (by omega) | assumption) ?_
        refine WE.iconst (n := 50) (nI 2) dX4_addCourier_49 rfl (by decide) ?_
        refine WE.icmp_lt (n := 53) (tgt := 60) dX4_addCourier_50 rfl (by decide) (fun h50 => ?_) (fun h50 => ?_)
        · skip
          have h50 := (le2_c (hcr j hj)).1 (g3 ▸ h50)
          refine WE.aload_n (n := 61) dX4_addCourier_60 rfl rfl ?_
          refine WE.dup (n := 62) dX4_addCourier_61 rfl rfl ?_
          refine WE.getI (n := 65) dX4_addCourier_62 rfl fl_X4_106 ⟨by decide, by decide, rfl⟩ (by first | decide | exact kd_bal (by omega) | exact kd_let (by omega) | assumption) ?_
          refine WE.iconst (n := 66) (nI 1) dX4_addCourier_65 rfl (by decide) ?_
          refine WE.iadd (n := 67) dX4_addCourier_66 rfl ?_
          refine WE.putI (n := 70) dX4_addCourier_67 rfl fl_X4_106 ⟨by decide, by decide, rfl, rfl⟩ ⟨by first | rfl | decide, by first | rfl | decide⟩ (by first | decide | exact kd_bal (by omega) | exact kd_let (by omega) | assumption) ?_
          refine WE.aload_n (n := 71) dX4_addCourier_70 rfl rfl ?_
          refine WE.dup (n := 72) dX4_addCourier_71 rfl rfl ?_
          refine WE.getI (n := 75) dX4_addCourier_72 rfl fl_X4_109 ⟨by decide, by decide, rfl⟩ (by first | decide | exact kd_bal (by omega) | exact kd_let (by omega) | assumption) ?_
          refine WE.iload_n (n := 76) dX4_addCourier_75 rfl rfl ?_
          refine WE.iadd (n := 77) dX4_addCourier_76 rfl ?_
          refine WE.putI (n := 80) dX4_addCourier_77 rfl fl_X4_109 ⟨by decide, by decide, rfl, rfl⟩ ⟨by first | rfl | decide, by first | rfl | decide⟩ (by first | decide | exact kd_bal (by omega) | exact kd_let (by omega) | assumption) ?_
          refine WE.aload_n (n := 81) dX4_addCourier_80 rfl rfl ?_
          refine WE.getI (n := 84) dX4_addCourier_81 rfl fl_X4_106 ⟨by decide, by decide, rfl⟩ (by first | decide | exact kd_bal (by omega) | exact kd_let (by omega) | assumption) ?_
          refine WE.iret (ty := .int) dX4_addCourier_84 rfl rfl ⟨by decide, by decide⟩ ?_
          try simp only [g0, g1, g2, g3, g4, g7, s7, s8, s9, s10] at h5 h18 h35 h50
          try simp only [u2_eq, u2_ne _ _ (show ¬ (6 + j = 1 ∧ (1 : Nat) = 8) by omega), u2_ne _ _ (show ¬ (6 + j = 1 ∧ (2 : Nat) = 9) by omega), u2_ne _ _ (show ¬ (6 + j = 1 ∧ (2 : Nat) = 10) by omega), u2_ne _ _ (show ¬ (1 = 6 + j ∧ (9 : Nat) = 2) by omega), u2_ne _ _ (show ¬ (1 = 6 + j ∧ (10 : Nat) = 2) by omega), u2_ne _ _ (show ¬ (6 + j = 6 + j ∧ (4 : Nat) = 3) by omega), u2_ne _ _ (show ¬ (6 + j = 6 + j ∧ (3 : Nat) = 4) by omega), g0, g1, g2, g3, g4, g7, s7, s8, s9, s10]
          exact PT.ok (by unfold S_courier; (first | simp only [bk, lk, hcl, hcl2] | simp only [bk, lk, hcl] | simp only [bk, lk] | skip); repeat (first | rw [if_pos (by assumption)] | rw [if_neg (by assumption)])) ((hR.bal' hC.1 (3, 3) (by decide) (by decide) hj _ (by rw [h35]; decide)).bal' (by rw [nbN_up _ _ (by omega)]; exact hC.1) (4, 4) (by decide) (by decide) (by rw [nbN_up _ _ (by omega)]; exact hj) _ (by rw [upN_ne _ _ _ (by omega), h35]; decide)) (fun a k h => by repeat rw [u2_ne _ _ (by omega)])
        · skip
          have h50 := (le2_c (hcr j hj)).2 (g3 ▸ h50)
          refine WE.aload_n (n := 54) dX4_addCourier_53 rfl rfl ?_
          refine WE.iconst (n := 55) (nI 1) dX4_addCourier_54 rfl (by decide) ?_
          refine WE.iconst (n := 56) (nI 2) dX4_addCourier_55 rfl (by decide) ?_
          refine WE.V2I (M' := mX4_refuse) (n := 59) dX4_addCourier_56 rfl cv_X4_89 (by first | decide | exact kd_bal (by omega) | exact kd_let (by omega) | assumption) ⟨⟨by decide, by decide⟩, by decide, by decide⟩ (Nat.le_of_ble_eq_true rfl) (c_refuse _ _ _ _) ?_
          refine WE.iret (ty := .int) dX4_addCourier_59 rfl rfl ⟨by decide, by decide⟩ ?_
          try simp only [g0, g1, g2, g3, g4, g7, s7, s8, s9, s10] at h5 h18 h35 h50
          try simp only [be_rel hR hj]
          try simp only [g0, g1, g2, g3, g4, g7, s7, s8, s9, s10]
          exact PT.ref hR hC (by unfold S_courier; (first | simp only [bk, lk, hcl, hcl2] | simp only [bk, lk, hcl] | simp only [bk, lk] | skip); repeat (first | rw [if_pos (by assumption)] | rw [if_neg (by assumption)]))
      · skip
        refine WE.aload_n (n := 39) dX4_addCourier_38 rfl rfl ?_
        refine WE.iconst (n := 40) (nI 2) dX4_addCourier_39 rfl (by decide) ?_
        refine WE.iload_n (n := 41) dX4_addCourier_40 rfl rfl ?_
        refine WE.V2I (M' := mX4_refuse) (n := 44) dX4_addCourier_41 rfl cv_X4_89 (by first | decide | exact kd_bal (by omega) | exact kd_let (by omega) | assumption) ⟨⟨by decide, by decide⟩, by decide, by decide⟩ (Nat.le_of_ble_eq_true rfl) (c_refuse _ _ _ _) ?_
        refine WE.iret (ty := .int) dX4_addCourier_44 rfl rfl ⟨by decide, by decide⟩ ?_
        try simp only [g0, g1, g2, g3, g4, g7, s7, s8, s9, s10] at h5 h18 h35
        try simp only [be_rel hR hj]
        try simp only [g0, g1, g2, g3, g4, g7, s7, s8, s9, s10]
        exact PT.ref hR hC (by unfold S_courier; (first | simp only [bk, lk, hcl, hcl2] | simp only [bk, lk, hcl] | simp only [bk, lk] | skip); repeat (first | rw [if_pos (by assumption)] | rw [if_neg (by assumption)]))
    · skip
      refine WE.bipush (n := 23) ((-102 : Int32)) dX4_addCourier_21 rfl (by decide) ?_
      refine WE.iret (ty := .int) dX4_addCourier_23 rfl rfl ⟨by decide, by decide⟩ ?_
      try simp only [g0, g1, g2, g3, g4, g7, s7, s8, s9, s10] at h5 h18
      exact PT.no 2 (by unfold S_courier; (first | simp only [bk, lk, hcl, hcl2] | simp only [bk, lk, hcl] | simp only [bk, lk] | skip); repeat (first | rw [if_pos (by assumption)] | rw [if_neg (by assumption)])) (by decide)
  · skip
    have h5 : ¬ isBN N b := by unfold isBN; rw [hC.2.1]; exact h5
    refine WE.bipush (n := 10) ((-101 : Int32)) dX4_addCourier_8 rfl (by decide) ?_
    refine WE.iret (ty := .int) dX4_addCourier_10 rfl rfl ⟨by decide, by decide⟩ ?_
    try simp only [s4, s5, s7, s8, s9, s10] at h5
    exact PT.no 1 (by unfold S_courier; (first | simp only [bk, lk, hcl, hcl2] | simp only [bk, lk, hcl] | simp only [bk, lk] | skip); repeat (first | rw [if_pos (by assumption)] | rw [if_neg (by assumption)])) (by decide)
set_option maxRecDepth 20000 in
set_option maxHeartbeats 1000000 in
theorem c_launchBalloon (c : CC) (od : Int64 × UInt64) (N : NA) (hR : RelT c 1 N) (hC : CN N) (b : Int32) : CM mX4_launchBalloon [.ref 1, .int b] (c, od) (PT c od N eC (S_launches N b)) := by
  refine CM.of [(0, .ref 1), (1, .int b)] rfl (by decide +kernel) rfl (Nat.le_of_ble_eq_true rfl) ?_
  have s4 : c 1 4 = N 3 := hR.s (4, 3) (by decide)
  have s5 : c 1 5 = N 4 := hR.s (5, 4) (by decide)
  have s6 : c 1 6 = N 0 := hR.s (6, 0) (by decide)
  have s7 : c 1 7 = N 1 := hR.s (7, 1) (by decide)
  have s8 : c 1 8 = N 2 := hR.s (8, 2) (by decide)
  have s9 : c 1 9 = N 5 := hR.s (9, 5) (by decide)
  have s10 : c 1 10 = N 6 := hR.s (10, 6) (by decide)
  refine WE.aload_n (n := 1) dX4_launchBalloon_0 rfl rfl ?_
  refine WE.iload_n (n := 2) dX4_launchBalloon_1 rfl rfl ?_
  refine WE.V1I (M' := mX4_hasBalloon) (n := 5) dX4_launchBalloon_2 rfl cv_X4_95 (by first | decide | exact kd_bal (by omega) | exact kd_let (by omega) | assumption) ⟨⟨by decide, by decide⟩, by decide, by decide⟩ (Nat.le_of_ble_eq_true rfl) (c_hasB _ _ _ (nbN N) (by have := hC.1; omega) ((hR.s (4, 3) (by decide)).trans hC.2.1)) ?_
  refine WE.if_neB (n := 8) (tgt := 11) dX4_launchBalloon_5 rfl (by decide) (fun h5 => ?_) (fun h5 => ?_)
  · skip
    obtain ⟨j, hj, rfl⟩ := isB_of hC.1 hC.2.1 (by rw [hC.2.1]; exact h5)
    have hj6 : j < 6 := by have := hC.1; omega
    have hcl := nI_clamp (show j < 2 ^ 31 by omega)
    have h5 : isBN N (nI j) := by unfold isBN; rw [hC.2.1]; exact h5
    have g0 : c (6 + j) 0 = N (22 + 11 * j + 0) := hR.b hj (0, 0) (by decide)
    have g1 : c (6 + j) 1 = N (22 + 11 * j + 1) := hR.b hj (1, 1) (by decide)
    have g2 : c (6 + j) 2 = N (22 + 11 * j + 2) := hR.b hj (2, 2) (by decide)
    have g3 : c (6 + j) 3 = N (22 + 11 * j + 3) := hR.b hj (3, 3) (by decide)
    have g4 : c (6 + j) 4 = N (22 + 11 * j + 4) := hR.b hj (4, 4) (by decide)
    have g7 : c (6 + j) 7 = N (22 + 11 * j + 5) := hR.b hj (7, 5) (by decide)
    refine WE.aload_n (n := 12) dX4_launchBalloon_11 rfl rfl ?_
    refine WE.getR (n := 15) dX4_launchBalloon_12 rfl fl_X4_20 ⟨by decide, by decide⟩ rfl (by first | decide | exact kd_bal (by omega) | exact kd_let (by omega) | assumption) ?_
    refine WE.iload_n (n := 16) dX4_launchBalloon_15 rfl rfl ?_
    refine WE.aald (n := 17) 12 j dX4_launchBalloon_16 rfl (by first | decide | assumption) (by decide) rfl (by show _ < 6; omega) rfl ?_
    refine WE.astore_n (n := 18) dX4_launchBalloon_17 rfl (by decide) ?_
    refine WE.aload_n (n := 19) dX4_launchBalloon_18 rfl rfl ?_
    refine WE.getI (n := 22) dX4_launchBalloon_19 rfl fl_X4_99 ⟨by decide, by decide, rfl⟩ (by first | decide | exact kd_bal (by omega) | exact kd_let (by omega) | assumption) ?_
    refine WE.if_eq (n := 25) (tgt := 32) dX4_launchBalloon_22 rfl (by decide) (fun h22 => ?_) (fun h22 => ?_)
    · skip
      refine WE.aload_n (n := 33) dX4_launchBalloon_32 rfl rfl ?_
      refine WE.V0I (M' := mX0_bears) (n := 36) dX4_launchBalloon_33 rfl cv_X4_143 (by first | decide | exact kd_bal (by omega) | exact kd_let (by omega) | assumption) ⟨⟨by decide, by decide⟩, by decide, by decide⟩ (Nat.le_of_ble_eq_true rfl) (c_bears _ _ _ (kd_bal hj6)) ?_
      refine WE.if_ge (n := 39) (tgt := 51) dX4_launchBalloon_36 rfl (by decide) (fun h36 => ?_) (fun h36 => ?_)
      · skip
        rw [be_rel hR hj] at h36
        have wg5 : u2 c (6 + j) 7 (nI 1) (6 + j) 1 - wgB (u2 c (6 + j) 7 (nI 1)) (6 + j) (nI 0) = c (6 + j) 1 - wgB c (6 + j) (nI 0) := by
          unfold wgB
          simp only [u2_ne c (nI 1) (show ¬ (6 + j = 6 + j ∧ (0 : Nat) = 7) by omega), u2_ne c (nI 1) (show ¬ (6 + j = 6 + j ∧ (1 : Nat) = 7) by omega), u2_ne c (nI 1) (show ¬ (6 + j = 6 + j ∧ (2 : Nat) = 7) by omega), u2_ne c (nI 1) (show ¬ (6 + j = 6 + j ∧ (4 : Nat) = 7) by omega), u2_ne c (nI 1) (show ¬ (6 + j = 6 + j ∧ (6 : Nat) = 7) by omega)]
        have hrel := hR.bal hC.1 (7, 5) (by decide) hj (nI 1) (by rw [upN_eq]; decide)
        rw [show (1 : Nat) + 5 + j = 6 + j by omega] at hrel
        refine WE.aload_n (n := 52) dX4_launchBalloon_51 rfl rfl ?_
        refine WE.iconst (n := 53) (nI 1) dX4_launchBalloon_52 rfl (by decide) ?_
        refine WE.putI (n := 56) dX4_launchBalloon_53 rfl fl_X4_99 ⟨by decide, by decide, rfl, rfl⟩ ⟨by first | rfl | decide, by first | rfl | decide⟩ (by first | decide | exact kd_bal (by omega) | exact kd_let (by omega) | assumption) ?_
        refine WE.aload_n (n := 57) dX4_launchBalloon_56 rfl rfl ?_
        refine WE.V0I (M' := mX0_bears) (n := 60) dX4_launchBalloon_57 rfl cv_X4_143 (by first | decide | exact kd_bal (by omega) | exact kd_let (by omega) | assumption) ⟨⟨by decide, by decide⟩, by decide, by decide⟩ (Nat.le_of_ble_eq_true rfl) (c_bears _ _ _ (kd_bal hj6)) ?_
        refine WE.iret (ty := .int) dX4_launchBalloon_60 rfl rfl ⟨by decide, by decide⟩ ?_
        try simp only [g0, g1, g2, g3, g4, g7, s7, s8, s9, s10] at h5 h22 h36
        simp only [wg5, be_rel hR hj]
        exact PT.ok (by unfold S_launches; (first | simp only [bk, lk, hcl, hcl2] | simp only [bk, lk, hcl] | simp only [bk, lk] | skip); repeat (first | rw [if_pos (by assumption)] | rw [if_neg (by assumption)])) hrel (fun a k h => by repeat rw [u2_ne _ _ (by omega)])
      · skip
        rw [be_rel hR hj] at h36
        simp only [be_rel hR hj]
        refine WE.aload_n (n := 40) dX4_launchBalloon_39 rfl rfl ?_
        refine WE.bipush (n := 42) (nI 9) dX4_launchBalloon_40 rfl (by decide) ?_
        refine WE.aload_n (n := 43) dX4_launchBalloon_42 rfl rfl ?_
        refine WE.V0I (M' := mX0_bears) (n := 46) dX4_launchBalloon_43 rfl cv_X4_143 (by first | decide | exact kd_bal (by omega) | exact kd_let (by omega) | assumption) ⟨⟨by decide, by decide⟩, by decide, by decide⟩ (Nat.le_of_ble_eq_true rfl) (c_bears _ _ _ (kd_bal hj6)) ?_
        refine WE.ineg (n := 47) dX4_launchBalloon_46 rfl ?_
        refine WE.V2I (M' := mX4_refuse) (n := 50) dX4_launchBalloon_47 rfl cv_X4_89 (by first | decide | exact kd_bal (by omega) | exact kd_let (by omega) | assumption) ⟨⟨by decide, by decide⟩, by decide, by decide⟩ (Nat.le_of_ble_eq_true rfl) (c_refuse _ _ _ _) ?_
        refine WE.iret (ty := .int) dX4_launchBalloon_50 rfl rfl ⟨by decide, by decide⟩ ?_
        try simp only [g0, g1, g2, g3, g4, g7, s7, s8, s9, s10] at h5 h22 h36
        try simp only [be_rel hR hj]
        try simp only [g0, g1, g2, g3, g4, g7, s7, s8, s9, s10]
        exact PT.ref hR hC (by unfold S_launches; (first | simp only [bk, lk, hcl, hcl2] | simp only [bk, lk, hcl] | simp only [bk, lk] | skip); repeat (first | rw [if_pos (by assumption)] | rw [if_neg (by assumption)]))
    · skip
      refine WE.aload_n (n := 26) dX4_launchBalloon_25 rfl rfl ?_
      refine WE.iconst (n := 27) (nI 2) dX4_launchBalloon_26 rfl (by decide) ?_
      refine WE.iload_n (n := 28) dX4_launchBalloon_27 rfl rfl ?_
      refine WE.V2I (M' := mX4_refuse) (n := 31) dX4_launchBalloon_28 rfl cv_X4_89 (by first | decide | exact kd_bal (by omega) | exact kd_let (by omega) | assumption) ⟨⟨by decide, by decide⟩, by decide, by decide⟩ (Nat.le_of_ble_eq_true rfl) (c_refuse _ _ _ _) ?_
      refine WE.iret (ty := .int) dX4_launchBalloon_31 rfl rfl ⟨by decide, by decide⟩ ?_
      try simp only [g0, g1, g2, g3, g4, g7, s7, s8, s9, s10] at h5 h22
      try simp only [be_rel hR hj]
      try simp only [g0, g1, g2, g3, g4, g7, s7, s8, s9, s10]
      exact PT.ref hR hC (by unfold S_launches; (first | simp only [bk, lk, hcl, hcl2] | simp only [bk, lk, hcl] | simp only [bk, lk] | skip); repeat (first | rw [if_pos (by assumption)] | rw [if_neg (by assumption)]))
  · skip
    have h5 : ¬ isBN N b := by unfold isBN; rw [hC.2.1]; exact h5
    refine WE.bipush (n := 10) ((-101 : Int32)) dX4_launchBalloon_8 rfl (by decide) ?_
    refine WE.iret (ty := .int) dX4_launchBalloon_10 rfl rfl ⟨by decide, by decide⟩ ?_
    try simp only [s4, s5, s7, s8, s9, s10] at h5
    exact PT.no 1 (by unfold S_launches; (first | simp only [bk, lk, hcl, hcl2] | simp only [bk, lk, hcl] | simp only [bk, lk] | skip); repeat (first | rw [if_pos (by assumption)] | rw [if_neg (by assumption)])) (by decide)
set_option maxRecDepth 20000 in
set_option maxHeartbeats 1000000 in
theorem c_setWind (c : CC) (od : Int64 × UInt64) (N : NA) (hR : RelT c 1 N) (hC : CN N) (b x y : Int32) : CM mX4_setWind [.ref 1, .int b, .int x, .int y] (c, od) (PT c od N eA (S_blows N b x y)) := by
  refine CM.of [(0, .ref 1), (1, .int b), (2, .int x), (3, .int y)] rfl (by decide +kernel) rfl (Nat.le_of_ble_eq_true rfl) ?_
  have s4 : c 1 4 = N 3 := hR.s (4, 3) (by decide)
  have s5 : c 1 5 = N 4 := hR.s (5, 4) (by decide)
  have s6 : c 1 6 = N 0 := hR.s (6, 0) (by decide)
  have s7 : c 1 7 = N 1 := hR.s (7, 1) (by decide)
  have s8 : c 1 8 = N 2 := hR.s (8, 2) (by decide)
  have s9 : c 1 9 = N 5 := hR.s (9, 5) (by decide)
  have s10 : c 1 10 = N 6 := hR.s (10, 6) (by decide)
  refine WE.iload_n (n := 1) dX4_setWind_0 rfl rfl ?_
  refine WE.iconst (n := 2) (nI 0) dX4_setWind_1 rfl (by decide) ?_
  refine WE.iconst (n := 3) (nI 5) dX4_setWind_2 rfl (by decide) ?_
  refine WE.N3I (M' := mX5_isBetween) (n := 6) dX4_setWind_3 rfl cv_X4_80  ⟨⟨by decide, by decide⟩, by decide, by decide⟩ (Nat.le_of_ble_eq_true rfl) (c_isBetween _ _ _ _) ?_
  refine WE.if_neB (n := 9) (tgt := 12) dX4_setWind_6 rfl (by decide) (fun h6 => ?_) (fun h6 => ?_)
  · skip
    obtain ⟨j, hj, rfl⟩ := in_of (m := 5) (by decide) h6
    have hj6 : j < 6 := by omega
    have hcl := nI_clamp (show j < 2 ^ 31 by omega)
    have w1 := (hR.2.1 j hj6).1
    have w2 := (hR.2.1 j hj6).2
    refine WE.iload_n (n := 13) dX4_setWind_12 rfl rfl ?_
    refine WE.bipush (n := 15) ((-3 : Int32)) dX4_setWind_13 rfl (by decide) ?_
    refine WE.iconst (n := 16) (nI 3) dX4_setWind_15 rfl (by decide) ?_
    refine WE.N3I (M' := mX5_isBetween) (n := 19) dX4_setWind_16 rfl cv_X4_80  ⟨⟨by decide, by decide⟩, by decide, by decide⟩ (Nat.le_of_ble_eq_true rfl) (c_isBetween _ _ _ _) ?_
    refine WE.if_eqB (n := 22) (tgt := 32) dX4_setWind_19 rfl (by decide) (fun h19 => ?_) (fun h19 => ?_)
    · skip
      refine WE.bipush (n := 34) ((-102 : Int32)) dX4_setWind_32 rfl (by decide) ?_
      refine WE.iret (ty := .int) dX4_setWind_34 rfl rfl ⟨by decide, by decide⟩ ?_
      try simp only [s4, s5, s7, s8, s9, s10] at h6 h19
      exact PT.no 2 (by unfold S_blows; (first | simp only [bk, lk, hcl, hcl2] | simp only [bk, lk, hcl] | simp only [bk, lk] | skip); repeat (first | rw [if_pos (by assumption)] | rw [if_neg (by assumption)])) (by decide)
    · skip
      refine WE.iload_n (n := 23) dX4_setWind_22 rfl rfl ?_
      refine WE.bipush (n := 25) ((-3 : Int32)) dX4_setWind_23 rfl (by decide) ?_
      refine WE.iconst (n := 26) (nI 3) dX4_setWind_25 rfl (by decide) ?_
      refine WE.N3I (M' := mX5_isBetween) (n := 29) dX4_setWind_26 rfl cv_X4_80  ⟨⟨by decide, by decide⟩, by decide, by decide⟩ (Nat.le_of_ble_eq_true rfl) (c_isBetween _ _ _ _) ?_
      refine WE.if_neB (n := 32) (tgt := 35) dX4_setWind_29 rfl (by decide) (fun h29 => ?_) (fun h29 => ?_)
      · skip
        refine WE.bipush (n := 37) (nI 10) dX4_setWind_35 rfl (by decide) ?_
        refine WE.aload_n (n := 38) dX4_setWind_37 rfl rfl ?_
        refine WE.getR (n := 41) dX4_setWind_38 rfl fl_X4_9 ⟨by decide, by decide⟩ rfl (by first | decide | exact kd_bal (by omega) | exact kd_let (by omega) | assumption) ?_
        refine WE.iload_n (n := 42) dX4_setWind_41 rfl rfl ?_
        refine WE.iald (n := 43) j dX4_setWind_42 rfl (by first | decide | assumption) rfl (by show _ < 6; omega) ?_
        refine WE.imul (n := 44) dX4_setWind_43 rfl ?_
        refine WE.aload_n (n := 45) dX4_setWind_44 rfl rfl ?_
        refine WE.getR (n := 48) dX4_setWind_45 rfl fl_X4_15 ⟨by decide, by decide⟩ rfl (by first | decide | exact kd_bal (by omega) | exact kd_let (by omega) | assumption) ?_
        refine WE.iload_n (n := 49) dX4_setWind_48 rfl rfl ?_
        refine WE.iald (n := 50) j dX4_setWind_49 rfl (by first | decide | assumption) rfl (by show _ < 6; omega) ?_
        refine WE.iadd (n := 51) dX4_setWind_50 rfl ?_
        refine WE.istore (n := 53) dX4_setWind_51 rfl (by decide) ?_
        refine WE.aload_n (n := 54) dX4_setWind_53 rfl rfl ?_
        refine WE.getR (n := 57) dX4_setWind_54 rfl fl_X4_9 ⟨by decide, by decide⟩ rfl (by first | decide | exact kd_bal (by omega) | exact kd_let (by omega) | assumption) ?_
        refine WE.iload_n (n := 58) dX4_setWind_57 rfl rfl ?_
        refine WE.iload_n (n := 59) dX4_setWind_58 rfl rfl ?_
        refine WE.iast (n := 60) j dX4_setWind_59 rfl (by first | decide | assumption) rfl (by show _ < 6; omega) ?_
        refine WE.aload_n (n := 61) dX4_setWind_60 rfl rfl ?_
        refine WE.getR (n := 64) dX4_setWind_61 rfl fl_X4_15 ⟨by decide, by decide⟩ rfl (by first | decide | exact kd_bal (by omega) | exact kd_let (by omega) | assumption) ?_
        refine WE.iload_n (n := 65) dX4_setWind_64 rfl rfl ?_
        refine WE.iload_n (n := 66) dX4_setWind_65 rfl rfl ?_
        refine WE.iast (n := 67) j dX4_setWind_66 rfl (by first | decide | assumption) rfl (by show _ < 6; omega) ?_
        refine WE.iload (n := 69) dX4_setWind_67 rfl rfl ?_
        refine WE.iret (ty := .int) dX4_setWind_69 rfl rfl ⟨by decide, by decide⟩ ?_
        try simp only [s4, s5, s7, s8, s9, s10] at h6 h19 h29
        simp only [w1, w2, u2_ne _ _ (show ¬ ((3 : Nat) = 2 ∧ j = j) by omega)]
        exact PT.ok (by unfold S_blows; simp only [hcl]; repeat (first | rw [if_pos (by assumption)] | rw [if_neg (by assumption)])) (hR.wind hj6 _ _) (fun a k h => by repeat rw [u2_ne _ _ (by omega)])
      · skip
        refine WE.bipush (n := 34) ((-102 : Int32)) dX4_setWind_32 rfl (by decide) ?_
        refine WE.iret (ty := .int) dX4_setWind_34 rfl rfl ⟨by decide, by decide⟩ ?_
        try simp only [s4, s5, s7, s8, s9, s10] at h6 h19 h29
        exact PT.no 2 (by unfold S_blows; (first | simp only [bk, lk, hcl, hcl2] | simp only [bk, lk, hcl] | simp only [bk, lk] | skip); repeat (first | rw [if_pos (by assumption)] | rw [if_neg (by assumption)])) (by decide)
  · skip
    refine WE.bipush (n := 11) ((-101 : Int32)) dX4_setWind_9 rfl (by decide) ?_
    refine WE.iret (ty := .int) dX4_setWind_11 rfl rfl ⟨by decide, by decide⟩ ?_
    try simp only [s4, s5, s7, s8, s9, s10] at h6
    exact PT.no 1 (by unfold S_blows; (first | simp only [bk, lk, hcl, hcl2] | simp only [bk, lk, hcl] | simp only [bk, lk] | skip); repeat (first | rw [if_pos (by assumption)] | rw [if_neg (by assumption)])) (by decide)
theorem lt_c {n m : Nat} (hn : n ≤ m) (hm : m < 2 ^ 30) : (nI n < nI m → ¬ nI n = nI m ∧ n < m) ∧ (¬ nI n < nI m → nI n = nI m) := by
  have e := nI_toInt (show n < 2 ^ 31 by omega)
  have e2 := nI_toInt (show m < 2 ^ 31 by omega)
  refine ⟨fun h => ?_, fun h => ?_⟩
  · have h' : n < m := by rw [Int32.lt_iff_toInt_lt, e, e2] at h; omega
    exact ⟨nI_ne (by omega) (by omega) (by omega), h'⟩
  · rw [Int32.lt_iff_toInt_lt, e, e2] at h
    rw [show n = m by omega]
set_option maxRecDepth 20000 in
set_option maxHeartbeats 1000000 in
theorem c_addBalloon (c : CC) (od : Int64 × UInt64) (N : NA) (hR : RelT c 1 N) (hC : CN N) (hfree : ∀ l, l < nlN N → ¬ (0 < N (88 + 4 * l + 2) ∧ N (88 + 4 * l + 3) = nI (nbN N))) (r : Int32) : CM mX4_addBalloon [.ref 1, .int r] (c, od) (PT c od N eB (S_balloon N r)) := by
  refine CM.of [(0, .ref 1), (1, .int r)] rfl (by decide +kernel) rfl (Nat.le_of_ble_eq_true rfl) ?_
  have s4 : c 1 4 = N 3 := hR.s (4, 3) (by decide)
  have s5 : c 1 5 = N 4 := hR.s (5, 4) (by decide)
  have s6 : c 1 6 = N 0 := hR.s (6, 0) (by decide)
  have s7 : c 1 7 = N 1 := hR.s (7, 1) (by decide)
  have s8 : c 1 8 = N 2 := hR.s (8, 2) (by decide)
  have s9 : c 1 9 = N 5 := hR.s (9, 5) (by decide)
  have s10 : c 1 10 = N 6 := hR.s (10, 6) (by decide)
  refine WE.iload_n (n := 1) dX4_addBalloon_0 rfl rfl ?_
  refine WE.bipush (n := 3) (nI 10) dX4_addBalloon_1 rfl (by decide) ?_
  refine WE.bipush (n := 5) (nI 99) dX4_addBalloon_3 rfl (by decide) ?_
  refine WE.N3I (M' := mX5_isBetween) (n := 8) dX4_addBalloon_5 rfl cv_X4_80  ⟨⟨by decide, by decide⟩, by decide, by decide⟩ (Nat.le_of_ble_eq_true rfl) (c_isBetween _ _ _ _) ?_
  refine WE.if_neB (n := 11) (tgt := 14) dX4_addBalloon_8 rfl (by decide) (fun h8 => ?_) (fun h8 => ?_)
  · skip
    refine WE.aload_n (n := 15) dX4_addBalloon_14 rfl rfl ?_
    refine WE.getI (n := 18) dX4_addBalloon_15 rfl fl_X4_46 ⟨by decide, by decide, rfl⟩ (by first | decide | exact kd_bal (by omega) | exact kd_let (by omega) | assumption) ?_
    refine WE.bipush (n := 20) (nI 6) dX4_addBalloon_18 rfl (by decide) ?_
    refine WE.icmp_lt (n := 23) (tgt := 31) dX4_addBalloon_20 rfl (by decide) (fun h20 => ?_) (fun h20 => ?_)
    · skip
      rw [s4, hC.2.1] at h20
      obtain ⟨h20, hlt⟩ := (lt_c hC.1 (by decide)).1 h20
      have hnew := hR.newB hlt hC.2.1 hfree r
      rw [show (1 : Nat) + 5 + nbN N = 6 + nbN N by omega, ← nI_s1] at hnew
      refine WE.aload_n (n := 32) dX4_addBalloon_31 rfl rfl ?_
      refine WE.getR (n := 35) dX4_addBalloon_32 rfl fl_X4_20 ⟨by decide, by decide⟩ rfl (by first | decide | exact kd_bal (by omega) | exact kd_let (by omega) | assumption) ?_
      refine WE.aload_n (n := 36) dX4_addBalloon_35 rfl rfl ?_
      refine WE.getI (n := 39) dX4_addBalloon_36 rfl fl_X4_46 ⟨by decide, by decide, rfl⟩ (by first | decide | exact kd_bal (by omega) | exact kd_let (by omega) | assumption) ?_
      refine WE.aald (n := 40) 12 (nbN N) dX4_addBalloon_39 rfl (by first | decide | assumption) (by decide) (by rw [s4, hC.2.1]) (by show _ < 6; omega) rfl ?_
      refine WE.iload_n (n := 41) dX4_addBalloon_40 rfl rfl ?_
      refine WE.putI (n := 44) dX4_addBalloon_41 rfl fl_X4_92 ⟨by decide, by decide, rfl, rfl⟩ ⟨by first | rfl | decide, by first | rfl | decide⟩ (by first | decide | exact kd_bal (by omega) | exact kd_let (by omega) | assumption) ?_
      refine WE.aload_n (n := 45) dX4_addBalloon_44 rfl rfl ?_
      refine WE.dup (n := 46) dX4_addBalloon_45 rfl rfl ?_
      refine WE.getI (n := 49) dX4_addBalloon_46 rfl fl_X4_46 ⟨by decide, by decide, rfl⟩ (by first | decide | exact kd_bal (by omega) | exact kd_let (by omega) | assumption) ?_
      refine WE.iconst (n := 50) (nI 1) dX4_addBalloon_49 rfl (by decide) ?_
      refine WE.iadd (n := 51) dX4_addBalloon_50 rfl ?_
      refine WE.putI (n := 54) dX4_addBalloon_51 rfl fl_X4_46 ⟨by decide, by decide, rfl, rfl⟩ ⟨by first | rfl | decide, by first | rfl | decide⟩ (by first | decide | exact kd_bal (by omega) | exact kd_let (by omega) | assumption) ?_
      refine WE.aload_n (n := 55) dX4_addBalloon_54 rfl rfl ?_
      refine WE.getI (n := 58) dX4_addBalloon_55 rfl fl_X4_46 ⟨by decide, by decide, rfl⟩ (by first | decide | exact kd_bal (by omega) | exact kd_let (by omega) | assumption) ?_
      refine WE.iconst (n := 59) (nI 1) dX4_addBalloon_58 rfl (by decide) ?_
      refine WE.isub (n := 60) dX4_addBalloon_59 rfl ?_
      refine WE.iret (ty := .int) dX4_addBalloon_60 rfl rfl ⟨by decide, by decide⟩ ?_
      try simp only [s4, s5, s7, s8, s9, s10, ← hC.2.1] at h8 h20
      try simp only [u2_eq, s4, u2_ne _ _ (show ¬ ((1 : Nat) = 6 + nbN N ∧ (4 : Nat) = 0) by omega), hC.2.1, m1m]
      rw [hC.2.1] at h20
      exact PT.ok (by unfold S_balloon; simp only [hC.2.1, nI_clamp (show nbN N < 2 ^ 31 by omega)]; repeat (first | rw [if_pos (by assumption)] | rw [if_neg (by assumption)])) hnew (fun a k h => by repeat rw [u2_ne _ _ (by omega)])
    · skip
      rw [s4, hC.2.1] at h20
      have h20 := (lt_c hC.1 (by decide)).2 h20
      refine WE.aload_n (n := 24) dX4_addBalloon_23 rfl rfl ?_
      refine WE.iconst (n := 25) (nI 1) dX4_addBalloon_24 rfl (by decide) ?_
      refine WE.bipush (n := 27) (nI 6) dX4_addBalloon_25 rfl (by decide) ?_
      refine WE.V2I (M' := mX4_refuse) (n := 30) dX4_addBalloon_27 rfl cv_X4_89 (by first | decide | exact kd_bal (by omega) | exact kd_let (by omega) | assumption) ⟨⟨by decide, by decide⟩, by decide, by decide⟩ (Nat.le_of_ble_eq_true rfl) (c_refuse _ _ _ _) ?_
      refine WE.iret (ty := .int) dX4_addBalloon_30 rfl rfl ⟨by decide, by decide⟩ ?_
      try simp only [s4, s5, s7, s8, s9, s10, ← hC.2.1] at h8 h20
      exact PT.ref hR hC (by unfold S_balloon; (first | simp only [bk, lk, hcl, hcl2] | simp only [bk, lk, hcl] | simp only [bk, lk] | skip); repeat (first | rw [if_pos (by assumption)] | rw [if_neg (by assumption)]))
  · skip
    refine WE.bipush (n := 13) ((-102 : Int32)) dX4_addBalloon_11 rfl (by decide) ?_
    refine WE.iret (ty := .int) dX4_addBalloon_13 rfl rfl ⟨by decide, by decide⟩ ?_
    try simp only [s4, s5, s7, s8, s9, s10, ← hC.2.1] at h8
    exact PT.no 1 (by unfold S_balloon; (first | simp only [bk, lk, hcl, hcl2] | simp only [bk, lk, hcl] | simp only [bk, lk] | skip); repeat (first | rw [if_pos (by assumption)] | rw [if_neg (by assumption)])) (by decide)
set_option maxRecDepth 20000 in
set_option maxHeartbeats 1000000 in
theorem c_addLetter (c : CC) (od : Int64 × UInt64) (N : NA) (hR : RelT c 1 N) (hC : CN N) (x y : Int32) : CM mX4_addLetter [.ref 1, .int x, .int y] (c, od) (PT c od N eB (S_letter N x y)) := by
  refine CM.of [(0, .ref 1), (1, .int x), (2, .int y)] rfl (by decide +kernel) rfl (Nat.le_of_ble_eq_true rfl) ?_
  have s4 : c 1 4 = N 3 := hR.s (4, 3) (by decide)
  have s5 : c 1 5 = N 4 := hR.s (5, 4) (by decide)
  have s6 : c 1 6 = N 0 := hR.s (6, 0) (by decide)
  have s7 : c 1 7 = N 1 := hR.s (7, 1) (by decide)
  have s8 : c 1 8 = N 2 := hR.s (8, 2) (by decide)
  have s9 : c 1 9 = N 5 := hR.s (9, 5) (by decide)
  have s10 : c 1 10 = N 6 := hR.s (10, 6) (by decide)
  refine WE.iload_n (n := 1) dX4_addLetter_0 rfl rfl ?_
  refine WE.iconst (n := 2) (nI 1) dX4_addLetter_1 rfl (by decide) ?_
  refine WE.bipush (n := 4) (nI 9) dX4_addLetter_2 rfl (by decide) ?_
  refine WE.N3I (M' := mX5_isBetween) (n := 7) dX4_addLetter_4 rfl cv_X4_80  ⟨⟨by decide, by decide⟩, by decide, by decide⟩ (Nat.le_of_ble_eq_true rfl) (c_isBetween _ _ _ _) ?_
  refine WE.if_eqB (n := 10) (tgt := 19) dX4_addLetter_7 rfl (by decide) (fun h7 => ?_) (fun h7 => ?_)
  · skip
    refine WE.bipush (n := 21) ((-102 : Int32)) dX4_addLetter_19 rfl (by decide) ?_
    refine WE.iret (ty := .int) dX4_addLetter_21 rfl rfl ⟨by decide, by decide⟩ ?_
    try simp only [s4, s5, s7, s8, s9, s10, ← hC.2.2.2] at h7
    exact PT.no 1 (by unfold S_letter; (first | simp only [bk, lk, hcl, hcl2] | simp only [bk, lk, hcl] | simp only [bk, lk] | skip); repeat (first | rw [if_pos (by assumption)] | rw [if_neg (by assumption)])) (by decide)
  · skip
    refine WE.iload_n (n := 11) dX4_addLetter_10 rfl rfl ?_
    refine WE.iconst (n := 12) (nI 0) dX4_addLetter_11 rfl (by decide) ?_
    refine WE.iconst (n := 13) (nI 2) dX4_addLetter_12 rfl (by decide) ?_
    refine WE.N3I (M' := mX5_isBetween) (n := 16) dX4_addLetter_13 rfl cv_X4_80  ⟨⟨by decide, by decide⟩, by decide, by decide⟩ (Nat.le_of_ble_eq_true rfl) (c_isBetween _ _ _ _) ?_
    refine WE.if_neB (n := 19) (tgt := 22) dX4_addLetter_16 rfl (by decide) (fun h16 => ?_) (fun h16 => ?_)
    · skip
      refine WE.aload_n (n := 23) dX4_addLetter_22 rfl rfl ?_
      refine WE.getI (n := 26) dX4_addLetter_23 rfl fl_X4_49 ⟨by decide, by decide, rfl⟩ (by first | decide | exact kd_bal (by omega) | exact kd_let (by omega) | assumption) ?_
      refine WE.bipush (n := 28) (nI 24) dX4_addLetter_26 rfl (by decide) ?_
      refine WE.icmp_lt (n := 31) (tgt := 39) dX4_addLetter_28 rfl (by decide) (fun h28 => ?_) (fun h28 => ?_)
      · skip
        rw [s5, hC.2.2.2] at h28
        obtain ⟨h28, hlt⟩ := (lt_c hC.2.2.1 (by decide)).1 h28
        have hnew := hR.newL hC.1 hlt hC.2.2.2 x y
        rw [show (1 : Nat) + 11 + nlN N = 12 + nlN N by omega, ← nI_s1] at hnew
        refine WE.aload_n (n := 40) dX4_addLetter_39 rfl rfl ?_
        refine WE.getR (n := 43) dX4_addLetter_40 rfl fl_X4_26 ⟨by decide, by decide⟩ rfl (by first | decide | exact kd_bal (by omega) | exact kd_let (by omega) | assumption) ?_
        refine WE.aload_n (n := 44) dX4_addLetter_43 rfl rfl ?_
        refine WE.getI (n := 47) dX4_addLetter_44 rfl fl_X4_49 ⟨by decide, by decide, rfl⟩ (by first | decide | exact kd_bal (by omega) | exact kd_let (by omega) | assumption) ?_
        refine WE.aald (n := 48) 13 (nlN N) dX4_addLetter_47 rfl (by first | decide | assumption) (by decide) (by rw [s5, hC.2.2.2]) (by show _ < 24; omega) rfl ?_
        refine WE.astore_n (n := 49) dX4_addLetter_48 rfl (by decide) ?_
        refine WE.aload_n (n := 50) dX4_addLetter_49 rfl rfl ?_
        refine WE.iload_n (n := 51) dX4_addLetter_50 rfl rfl ?_
        refine WE.putI (n := 54) dX4_addLetter_51 rfl fl_X4_112 ⟨by decide, by decide, rfl, rfl⟩ ⟨by first | rfl | decide, by first | rfl | decide⟩ (by first | decide | exact kd_bal (by omega) | exact kd_let (by omega) | assumption) ?_
        refine WE.aload_n (n := 55) dX4_addLetter_54 rfl rfl ?_
        refine WE.iload_n (n := 56) dX4_addLetter_55 rfl rfl ?_
        refine WE.putI (n := 59) dX4_addLetter_56 rfl fl_X4_115 ⟨by decide, by decide, rfl, rfl⟩ ⟨by first | rfl | decide, by first | rfl | decide⟩ (by first | decide | exact kd_bal (by omega) | exact kd_let (by omega) | assumption) ?_
        refine WE.aload_n (n := 60) dX4_addLetter_59 rfl rfl ?_
        refine WE.dup (n := 61) dX4_addLetter_60 rfl rfl ?_
        refine WE.getI (n := 64) dX4_addLetter_61 rfl fl_X4_49 ⟨by decide, by decide, rfl⟩ (by first | decide | exact kd_bal (by omega) | exact kd_let (by omega) | assumption) ?_
        refine WE.iconst (n := 65) (nI 1) dX4_addLetter_64 rfl (by decide) ?_
        refine WE.iadd (n := 66) dX4_addLetter_65 rfl ?_
        refine WE.putI (n := 69) dX4_addLetter_66 rfl fl_X4_49 ⟨by decide, by decide, rfl, rfl⟩ ⟨by first | rfl | decide, by first | rfl | decide⟩ (by first | decide | exact kd_bal (by omega) | exact kd_let (by omega) | assumption) ?_
        refine WE.aload_n (n := 70) dX4_addLetter_69 rfl rfl ?_
        refine WE.getI (n := 73) dX4_addLetter_70 rfl fl_X4_49 ⟨by decide, by decide, rfl⟩ (by first | decide | exact kd_bal (by omega) | exact kd_let (by omega) | assumption) ?_
        refine WE.iconst (n := 74) (nI 1) dX4_addLetter_73 rfl (by decide) ?_
        refine WE.isub (n := 75) dX4_addLetter_74 rfl ?_
        refine WE.iret (ty := .int) dX4_addLetter_75 rfl rfl ⟨by decide, by decide⟩ ?_
        try simp only [s4, s5, s7, s8, s9, s10, ← hC.2.2.2] at h7 h16 h28
        try simp only [u2_eq, s5, u2_ne _ _ (show ¬ ((1 : Nat) = 12 + nlN N ∧ (5 : Nat) = 1) by omega), u2_ne _ _ (show ¬ ((1 : Nat) = 12 + nlN N ∧ (5 : Nat) = 0) by omega), hC.2.2.2]
        rw [hC.2.2.2] at h28
        exact PT.ok (by unfold S_letter; simp only [hC.2.2.2, nI_clamp (show nlN N < 2 ^ 31 by omega)]; repeat (first | rw [if_pos (by assumption)] | rw [if_neg (by assumption)])) hnew (fun a k h => by repeat rw [u2_ne _ _ (by omega)])
      · skip
        rw [s5, hC.2.2.2] at h28
        have h28 := (lt_c hC.2.2.1 (by decide)).2 h28
        refine WE.aload_n (n := 32) dX4_addLetter_31 rfl rfl ?_
        refine WE.iconst (n := 33) (nI 1) dX4_addLetter_32 rfl (by decide) ?_
        refine WE.bipush (n := 35) (nI 24) dX4_addLetter_33 rfl (by decide) ?_
        refine WE.V2I (M' := mX4_refuse) (n := 38) dX4_addLetter_35 rfl cv_X4_89 (by first | decide | exact kd_bal (by omega) | exact kd_let (by omega) | assumption) ⟨⟨by decide, by decide⟩, by decide, by decide⟩ (Nat.le_of_ble_eq_true rfl) (c_refuse _ _ _ _) ?_
        refine WE.iret (ty := .int) dX4_addLetter_38 rfl rfl ⟨by decide, by decide⟩ ?_
        try simp only [s4, s5, s7, s8, s9, s10, ← hC.2.2.2] at h7 h16 h28
        exact PT.ref hR hC (by unfold S_letter; (first | simp only [bk, lk, hcl, hcl2] | simp only [bk, lk, hcl] | simp only [bk, lk] | skip); repeat (first | rw [if_pos (by assumption)] | rw [if_neg (by assumption)]))
    · skip
      refine WE.bipush (n := 21) ((-102 : Int32)) dX4_addLetter_19 rfl (by decide) ?_
      refine WE.iret (ty := .int) dX4_addLetter_21 rfl rfl ⟨by decide, by decide⟩ ?_
      try simp only [s4, s5, s7, s8, s9, s10, ← hC.2.2.2] at h7 h16
      exact PT.no 1 (by unfold S_letter; (first | simp only [bk, lk, hcl, hcl2] | simp only [bk, lk, hcl] | simp only [bk, lk] | skip); repeat (first | rw [if_pos (by assumption)] | rw [if_neg (by assumption)])) (by decide)
/-- a letter's state and its balloon fit -/
def LF (N : NA) (l : Nat) : Prop := N (88 + 4 * l + 2) = 0 ↔ N (88 + 4 * l + 3) = (-1 : Int32)
theorem wg_put {c : CC} {N : NA} {l j : Nat} (h : RelT (putS c l j) 1 (ldN N l (nI j))) (hj : j < nbN N) (hC : CN N) : wgB (putS c l j) (6 + j) (nI 0) = wgN (ldN N l (nI j)) j (nlN N) := by
  have e3 : nbN (ldN N l (nI j)) = nbN N := by unfold nbN; rw [ldN_o _ _ _ (by omega) (by omega)]
  have e4 : nlN (ldN N l (nI j)) = nlN N := by unfold nlN; rw [ldN_o _ _ _ (by omega) (by omega)]
  have := wg_rel h (j := j) (by rw [e3]; exact hj)
  rwa [e4] at this
set_option maxRecDepth 20000 in
set_option maxHeartbeats 1000000 in
theorem c_loadLetter (c : CC) (od : Int64 × UInt64) (N : NA) (hR : RelT c 1 N) (hC : CN N) (hL : ∀ l, l < nlN N → LF N l) (a b : Int32) : CM mX4_loadLetter [.ref 1, .int a, .int b] (c, od) (PT c od N eC (S_loads N a b)) := by
  refine CM.of [(0, .ref 1), (1, .int a), (2, .int b)] rfl (by decide +kernel) rfl (Nat.le_of_ble_eq_true rfl) ?_
  have s4 : c 1 4 = N 3 := hR.s (4, 3) (by decide)
  have s5 : c 1 5 = N 4 := hR.s (5, 4) (by decide)
  have s6 : c 1 6 = N 0 := hR.s (6, 0) (by decide)
  have s7 : c 1 7 = N 1 := hR.s (7, 1) (by decide)
  have s8 : c 1 8 = N 2 := hR.s (8, 2) (by decide)
  have s9 : c 1 9 = N 5 := hR.s (9, 5) (by decide)
  have s10 : c 1 10 = N 6 := hR.s (10, 6) (by decide)
  refine WE.aload_n (n := 1) dX4_loadLetter_0 rfl rfl ?_
  refine WE.iload_n (n := 2) dX4_loadLetter_1 rfl rfl ?_
  refine WE.V1I (M' := mX4_hasLetter) (n := 5) dX4_loadLetter_2 rfl cv_X4_118 (by first | decide | exact kd_bal (by omega) | exact kd_let (by omega) | assumption) ⟨⟨by decide, by decide⟩, by decide, by decide⟩ (Nat.le_of_ble_eq_true rfl) (c_hasL _ _ _ (nlN N) (by have := hC.2.2.1; omega) ((hR.s (5, 4) (by decide)).trans hC.2.2.2)) ?_
  refine WE.if_eqB (n := 8) (tgt := 16) dX4_loadLetter_5 rfl (by decide) (fun h5 => ?_) (fun h5 => ?_)
  · skip
    have h5 : ¬ isLN N a := by unfold isLN; rw [hC.2.2.2]; exact h5
    refine WE.bipush (n := 18) ((-101 : Int32)) dX4_loadLetter_16 rfl (by decide) ?_
    refine WE.iret (ty := .int) dX4_loadLetter_18 rfl rfl ⟨by decide, by decide⟩ ?_
    try simp only [s4, s5, s7, s8, s9, s10] at h5
    exact PT.no 1 (by unfold S_loads; (first | simp only [bk, lk, hcl, hcl2] | simp only [bk, lk, hcl] | simp only [bk, lk] | skip); repeat (first | rw [if_pos (by assumption)] | rw [if_neg (by assumption)])) (by decide)
  · skip
    obtain ⟨l, hl, rfl⟩ := isL_of hC.2.2.1 hC.2.2.2 (by rw [hC.2.2.2]; exact h5)
    have hl24 : l < 24 := by have := hC.2.2.1; omega
    have hcl2 := nI_clamp (show l < 2 ^ 31 by omega)
    have h5 : isLN N (nI l) := by unfold isLN; rw [hC.2.2.2]; exact h5
    have gl := hR.l hl
    refine WE.aload_n (n := 9) dX4_loadLetter_8 rfl rfl ?_
    refine WE.iload_n (n := 10) dX4_loadLetter_9 rfl rfl ?_
    refine WE.V1I (M' := mX4_hasBalloon) (n := 13) dX4_loadLetter_10 rfl cv_X4_95 (by first | decide | exact kd_bal (by omega) | exact kd_let (by omega) | assumption) ⟨⟨by decide, by decide⟩, by decide, by decide⟩ (Nat.le_of_ble_eq_true rfl) (c_hasB _ _ _ (nbN N) (by have := hC.1; omega) ((hR.s (4, 3) (by decide)).trans hC.2.1)) ?_
    refine WE.if_neB (n := 16) (tgt := 19) dX4_loadLetter_13 rfl (by decide) (fun h13 => ?_) (fun h13 => ?_)
    · skip
      obtain ⟨j, hj, rfl⟩ := isB_of hC.1 hC.2.1 (by rw [hC.2.1]; exact h13)
      have hj6 : j < 6 := by have := hC.1; omega
      have hcl := nI_clamp (show j < 2 ^ 31 by omega)
      have h13 : isBN N (nI j) := by unfold isBN; rw [hC.2.1]; exact h13
      have g0 : c (6 + j) 0 = N (22 + 11 * j + 0) := hR.b hj (0, 0) (by decide)
      have g1 : c (6 + j) 1 = N (22 + 11 * j + 1) := hR.b hj (1, 1) (by decide)
      have g2 : c (6 + j) 2 = N (22 + 11 * j + 2) := hR.b hj (2, 2) (by decide)
      have g3 : c (6 + j) 3 = N (22 + 11 * j + 3) := hR.b hj (3, 3) (by decide)
      have g4 : c (6 + j) 4 = N (22 + 11 * j + 4) := hR.b hj (4, 4) (by decide)
      have g7 : c (6 + j) 7 = N (22 + 11 * j + 5) := hR.b hj (7, 5) (by decide)
      refine WE.aload_n (n := 20) dX4_loadLetter_19 rfl rfl ?_
      refine WE.getR (n := 23) dX4_loadLetter_20 rfl fl_X4_26 ⟨by decide, by decide⟩ rfl (by first | decide | exact kd_bal (by omega) | exact kd_let (by omega) | assumption) ?_
      refine WE.iload_n (n := 24) dX4_loadLetter_23 rfl rfl ?_
      refine WE.aald (n := 25) 13 l dX4_loadLetter_24 rfl (by first | decide | assumption) (by decide) rfl (by show _ < 24; omega) rfl ?_
      refine WE.getI (n := 28) dX4_loadLetter_25 rfl fl_X4_121 ⟨by decide, by decide, rfl⟩ (by first | decide | exact kd_bal (by omega) | exact kd_let (by omega) | assumption) ?_
      refine WE.iconst (n := 29) ((-1 : Int32)) dX4_loadLetter_28 rfl (by decide) ?_
      refine WE.icmp_eq (n := 32) (tgt := 40) dX4_loadLetter_29 rfl (by decide) (fun h29 => ?_) (fun h29 => ?_)
      · skip
        rw [gl.2.2] at h29
        have h29 := (hL l hl).mpr h29
        refine WE.aload_n (n := 41) dX4_loadLetter_40 rfl rfl ?_
        refine WE.getR (n := 44) dX4_loadLetter_41 rfl fl_X4_20 ⟨by decide, by decide⟩ rfl (by first | decide | exact kd_bal (by omega) | exact kd_let (by omega) | assumption) ?_
        refine WE.iload_n (n := 45) dX4_loadLetter_44 rfl rfl ?_
        refine WE.aald (n := 46) 12 j dX4_loadLetter_45 rfl (by first | decide | assumption) (by decide) rfl (by show _ < 6; omega) rfl ?_
        refine WE.getI (n := 49) dX4_loadLetter_46 rfl fl_X4_99 ⟨by decide, by decide, rfl⟩ (by first | decide | exact kd_bal (by omega) | exact kd_let (by omega) | assumption) ?_
        refine WE.if_eq (n := 52) (tgt := 59) dX4_loadLetter_49 rfl (by decide) (fun h49 => ?_) (fun h49 => ?_)
        · skip
          rw [g7] at h49
          have hrel := hR.load hC.1 hC.2.2.1 hl hj h29 (by rw [h49]; decide)
          refine WE.aload_n (n := 60) dX4_loadLetter_59 rfl rfl ?_
          refine WE.iload_n (n := 61) dX4_loadLetter_60 rfl rfl ?_
          refine WE.iload_n (n := 62) dX4_loadLetter_61 rfl rfl ?_
          refine WE.V2V (M' := mX4_putInto) (n := 65) dX4_loadLetter_62 rfl cv_X4_124 (by first | decide | exact kd_bal (by omega) | exact kd_let (by omega) | assumption) ⟨⟨by decide, by decide⟩, by decide, by decide⟩ (Nat.le_of_ble_eq_true rfl) (c_putInto _ _ l hl24 j hj6) ?_
          refine WE.aload_n (n := 66) dX4_loadLetter_65 rfl rfl ?_
          refine WE.getR (n := 69) dX4_loadLetter_66 rfl fl_X4_20 ⟨by decide, by decide⟩ rfl (by first | decide | exact kd_bal (by omega) | exact kd_let (by omega) | assumption) ?_
          refine WE.iload_n (n := 70) dX4_loadLetter_69 rfl rfl ?_
          refine WE.aald (n := 71) 12 j dX4_loadLetter_70 rfl (by first | decide | assumption) (by decide) rfl (by show _ < 6; omega) rfl ?_
          refine WE.V0I (M' := mX0_weight) (n := 74) dX4_loadLetter_71 rfl cv_X4_128 (by first | decide | exact kd_bal (by omega) | exact kd_let (by omega) | assumption) ⟨⟨by decide, by decide⟩, by decide, by decide⟩ (Nat.le_of_ble_eq_true rfl) (c_weight _ _ _ (kd_bal hj6)) ?_
          refine WE.iret (ty := .int) dX4_loadLetter_74 rfl rfl ⟨by decide, by decide⟩ ?_
          try simp only [s4, s5, s7, s8, s9, s10] at h5 h13 h29 h49
          simp only [wg_put hrel hj hC]
          exact PT.ok (by unfold S_loads; simp only [bk, lk, hcl, hcl2]; repeat (first | rw [if_pos (by assumption)] | rw [if_neg (by assumption)])) hrel (fun a k h => by unfold putS; repeat rw [u2_ne _ _ (by omega)])
        · skip
          rw [g7] at h49
          refine WE.aload_n (n := 53) dX4_loadLetter_52 rfl rfl ?_
          refine WE.iconst (n := 54) (nI 2) dX4_loadLetter_53 rfl (by decide) ?_
          refine WE.iload_n (n := 55) dX4_loadLetter_54 rfl rfl ?_
          refine WE.V2I (M' := mX4_refuse) (n := 58) dX4_loadLetter_55 rfl cv_X4_89 (by first | decide | exact kd_bal (by omega) | exact kd_let (by omega) | assumption) ⟨⟨by decide, by decide⟩, by decide, by decide⟩ (Nat.le_of_ble_eq_true rfl) (c_refuse _ _ _ _) ?_
          refine WE.iret (ty := .int) dX4_loadLetter_58 rfl rfl ⟨by decide, by decide⟩ ?_
          try simp only [s4, s5, s7, s8, s9, s10] at h5 h13 h29 h49
          exact PT.ref hR hC (by unfold S_loads; (first | simp only [bk, lk, hcl, hcl2] | simp only [bk, lk, hcl] | simp only [bk, lk] | skip); repeat (first | rw [if_pos (by assumption)] | rw [if_neg (by assumption)]))
      · skip
        rw [gl.2.2] at h29
        have h29 : ¬ N (88 + 4 * l + 2) = 0 := fun q => h29 ((hL l hl).mp q)
        refine WE.aload_n (n := 33) dX4_loadLetter_32 rfl rfl ?_
        refine WE.bipush (n := 35) (nI 8) dX4_loadLetter_33 rfl (by decide) ?_
        refine WE.iload_n (n := 36) dX4_loadLetter_35 rfl rfl ?_
        refine WE.V2I (M' := mX4_refuse) (n := 39) dX4_loadLetter_36 rfl cv_X4_89 (by first | decide | exact kd_bal (by omega) | exact kd_let (by omega) | assumption) ⟨⟨by decide, by decide⟩, by decide, by decide⟩ (Nat.le_of_ble_eq_true rfl) (c_refuse _ _ _ _) ?_
        refine WE.iret (ty := .int) dX4_loadLetter_39 rfl rfl ⟨by decide, by decide⟩ ?_
        try simp only [s4, s5, s7, s8, s9, s10] at h5 h13 h29
        exact PT.ref hR hC (by unfold S_loads; (first | simp only [bk, lk, hcl, hcl2] | simp only [bk, lk, hcl] | simp only [bk, lk] | skip); repeat (first | rw [if_pos (by assumption)] | rw [if_neg (by assumption)]))
    · skip
      have h13 : ¬ isBN N b := by unfold isBN; rw [hC.2.1]; exact h13
      refine WE.bipush (n := 18) ((-101 : Int32)) dX4_loadLetter_16 rfl (by decide) ?_
      refine WE.iret (ty := .int) dX4_loadLetter_18 rfl rfl ⟨by decide, by decide⟩ ?_
      try simp only [s4, s5, s7, s8, s9, s10] at h5 h13
      exact PT.no 1 (by unfold S_loads; (first | simp only [bk, lk, hcl, hcl2] | simp only [bk, lk, hcl] | simp only [bk, lk] | skip); repeat (first | rw [if_pos (by assumption)] | rw [if_neg (by assumption)])) (by decide)
