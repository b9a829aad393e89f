def nsE : String := "java/util/NoSuchElementException"
def isE : String := "java/lang/IllegalStateException"
def arE : String := "java/lang/ArithmeticException"
def ex3 (a b d : String) (k : Nat) : String := if k = 1 then a else if k = 2 then b else d
/-- a question to the given class, against the reference's; the balloon ahead alone changes -/
def QX (c : CC) (od : Int64 × UInt64) (ex : Nat → String) (q : QR) : AO → SS → Prop := fun o st => ∃ c', st = (c', od) ∧ (∀ a k, a ≠ 388 → c' a k = c a k) ∧ match q with
  | .inl v => o = .inl (some (.int v))
  | .inr k => o = .inr (ex k)
theorem QX.yes {c c' : CC} {od : Int64 × UInt64} {ex : Nat → String} {q : QR} {v : Int32} (e : q = .inl v) (f : ∀ a k, a ≠ 388 → c' a k = c a k) : QX c od ex q (.inl (some (.int v))) (c', od) := by
  subst e
  exact ⟨_, rfl, f, rfl⟩
theorem QX.no {c c' : CC} {od : Int64 × UInt64} {ex : Nat → String} {q : QR} (k : Nat) (e : q = .inr k) {E : String} (hE : E = ex k) (f : ∀ a k, a ≠ 388 → c' a k = c a k) : QX c od ex q (.inr E) (c', od) := by
  subst e
  subst hE
  exact ⟨_, rfl, f, rfl⟩
theorem same8 {c : CC} : ∀ a k, a ≠ 388 → c a k = c a k := fun _ _ _ => rfl
set_option maxRecDepth 20000 in
set_option maxHeartbeats 1000000 in
theorem c_needB (c : CC) (od : Int64 × UInt64) (N : NA) (hR : RelT c 1 N) (hI : IN N) (b : Int32) (hb : isBN N b) : CM mX5_needBalloon [.ref 0, .int b] (c, od) (RV (c, od)) := by
  refine CM.of [(0, .ref 0), (1, .int b)] rfl (by decide +kernel) rfl (Nat.le_of_ble_eq_true rfl) ?_
  refine WE.aload_n (n := 1) dX5_needBalloon_0 rfl rfl ?_
  refine WE.getR (n := 4) dX5_needBalloon_1 rfl fl_X5_10 ⟨by decide, by decide⟩ rfl (by first | decide | exact kd_bal (by assumption) | exact kd_let (by assumption) | assumption) ?_
  refine WE.iload_n (n := 5) dX5_needBalloon_4 rfl rfl ?_
  refine WE.V1I (M' := mX4_hasBalloon) (n := 8) dX5_needBalloon_5 rfl cv_X5_281 (by first | decide | exact kd_bal (by assumption) | exact kd_let (by assumption) | assumption) ⟨⟨by decide, by decide⟩, by decide, by decide⟩ (Nat.le_of_ble_eq_true rfl) (c_hasB _ _ _ (nbN N) (by have := hI.cn.1; omega) ((hR.s (4, 3) (by decide)).trans hI.cn.2.1)) ?_
  refine WE.if_neB (n := 11) (tgt := 22) dX5_needBalloon_8 rfl (by decide) (fun h8 => ?_) (fun h8 => ?_)
  · skip
    refine WE.vret dX5_needBalloon_22 rfl ⟨by decide, by decide⟩ ?_
    exact RV.mk rfl
  · skip
    exact absurd (by unfold isBN at hb; rw [hI.cn.2.1] at hb; exact hb) h8
set_option maxRecDepth 20000 in
set_option maxHeartbeats 1000000 in
theorem c_needBx (c : CC) (od : Int64 × UInt64) (N : NA) (hR : RelT c 1 N) (hI : IN N) (b : Int32) (hb : ¬ isBN N b) : CM mX5_needBalloon [.ref 0, .int b] (c, od) (RX ioE (c, od)) := by
  refine CM.of [(0, .ref 0), (1, .int b)] rfl (by decide +kernel) rfl (Nat.le_of_ble_eq_true rfl) ?_
  refine WE.aload_n (n := 1) dX5_needBalloon_0 rfl rfl ?_
  refine WE.getR (n := 4) dX5_needBalloon_1 rfl fl_X5_10 ⟨by decide, by decide⟩ rfl (by first | decide | exact kd_bal (by assumption) | exact kd_let (by assumption) | assumption) ?_
  refine WE.iload_n (n := 5) dX5_needBalloon_4 rfl rfl ?_
  refine WE.V1I (M' := mX4_hasBalloon) (n := 8) dX5_needBalloon_5 rfl cv_X5_281 (by first | decide | exact kd_bal (by assumption) | exact kd_let (by assumption) | assumption) ⟨⟨by decide, by decide⟩, by decide, by decide⟩ (Nat.le_of_ble_eq_true rfl) (c_hasB _ _ _ (nbN N) (by have := hI.cn.1; omega) ((hR.s (4, 3) (by decide)).trans hI.cn.2.1)) ?_
  refine WE.if_neB (n := 11) (tgt := 22) dX5_needBalloon_8 rfl (by decide) (fun h8 => ?_) (fun h8 => ?_)
  · skip
    exact absurd (by unfold isBN; rw [hI.cn.2.1]; exact h8) hb
  · skip
    refine WE.throwSW (tx := "there is no such balloon") "java/lang/IndexOutOfBoundsException" dX5_needBalloon_11 dX5_needBalloon_14 dX5_needBalloon_15 dX5_needBalloon_18 dX5_needBalloon_21 xl_X5_115_119 (by decide +kernel) rfl ⟨by decide, by decide⟩ ⟨by decide, by decide⟩ ?_
    exact ⟨rfl, rfl⟩
set_option maxRecDepth 20000 in
set_option maxHeartbeats 1000000 in
theorem c_needA (c : CC) (od : Int64 × UInt64) (N : NA) (hR : RelT c 1 N) (hI : IN N) (j : Nat) (hj : j < nbN N) (h5 : N (22 + 11 * j + 5) = nI 1) : CM mX5_needAloft [.ref 0, .int (nI j)] (c, od) (RV (c, od)) := by
  refine CM.of [(0, .ref 0), (1, .int (nI j))] rfl (by decide +kernel) rfl (Nat.le_of_ble_eq_true rfl) ?_
  have hj6 : j < 6 := by have := hI.cn.1; omega
  have g7 : c (6 + j) 7 = N (22 + 11 * j + 5) := hR.b hj (7, 5) (by decide)
  refine WE.aload_n (n := 1) dX5_needAloft_0 rfl rfl ?_
  refine WE.getR (n := 4) dX5_needAloft_1 rfl fl_X5_10 ⟨by decide, by decide⟩ rfl (by first | decide | exact kd_bal (by omega) | assumption) ?_
  refine WE.getR (n := 7) dX5_needAloft_4 rfl fl_X5_104 ⟨by decide, by decide⟩ rfl (by first | decide | exact kd_bal (by omega) | assumption) ?_
  refine WE.iload_n (n := 8) dX5_needAloft_7 rfl rfl ?_
  refine WE.aald (n := 9) 12 j dX5_needAloft_8 rfl (by first | decide | assumption) (by decide) rfl (by show _ < 6; omega) rfl ?_
  refine WE.getI (n := 12) dX5_needAloft_9 rfl fl_X5_146 ⟨by decide, by decide, rfl⟩ (by first | decide | exact kd_bal (by omega) | assumption) ?_
  refine WE.iconst (n := 13) (nI 1) dX5_needAloft_12 rfl (by decide) ?_
  refine WE.icmp_eq (n := 16) (tgt := 27) dX5_needAloft_13 rfl (by decide) (fun h13 => ?_) (fun h13 => ?_)
  · skip
    refine WE.vret dX5_needAloft_27 rfl ⟨by decide, by decide⟩ ?_
    exact RV.mk rfl
  · skip
    exact absurd (g7.trans h5) h13
set_option maxRecDepth 20000 in
set_option maxHeartbeats 1000000 in
theorem c_needAx (c : CC) (od : Int64 × UInt64) (N : NA) (hR : RelT c 1 N) (hI : IN N) (j : Nat) (hj : j < nbN N) (h5 : ¬ N (22 + 11 * j + 5) = nI 1) : CM mX5_needAloft [.ref 0, .int (nI j)] (c, od) (RX nsE (c, od)) := by
  refine CM.of [(0, .ref 0), (1, .int (nI j))] rfl (by decide +kernel) rfl (Nat.le_of_ble_eq_true rfl) ?_
  have hj6 : j < 6 := by have := hI.cn.1; omega
  have g7 : c (6 + j) 7 = N (22 + 11 * j + 5) := hR.b hj (7, 5) (by decide)
  refine WE.aload_n (n := 1) dX5_needAloft_0 rfl rfl ?_
  refine WE.getR (n := 4) dX5_needAloft_1 rfl fl_X5_10 ⟨by decide, by decide⟩ rfl (by first | decide | exact kd_bal (by omega) | assumption) ?_
  refine WE.getR (n := 7) dX5_needAloft_4 rfl fl_X5_104 ⟨by decide, by decide⟩ rfl (by first | decide | exact kd_bal (by omega) | assumption) ?_
  refine WE.iload_n (n := 8) dX5_needAloft_7 rfl rfl ?_
  refine WE.aald (n := 9) 12 j dX5_needAloft_8 rfl (by first | decide | assumption) (by decide) rfl (by show _ < 6; omega) rfl ?_
  refine WE.getI (n := 12) dX5_needAloft_9 rfl fl_X5_146 ⟨by decide, by decide, rfl⟩ (by first | decide | exact kd_bal (by omega) | assumption) ?_
  refine WE.iconst (n := 13) (nI 1) dX5_needAloft_12 rfl (by decide) ?_
  refine WE.icmp_eq (n := 16) (tgt := 27) dX5_needAloft_13 rfl (by decide) (fun h13 => ?_) (fun h13 => ?_)
  · skip
    exact absurd (g7.symm.trans h13) h5
  · skip
    refine WE.throwSXW (tx := "the balloon is not aloft") "java/util/NoSuchElementException" dX5_needAloft_16 dX5_needAloft_19 dX5_needAloft_20 dX5_needAloft_23 dX5_needAloft_26 xl_X5_131_135 (by decide +kernel) rfl ⟨by decide, by decide⟩ ⟨by decide, by decide⟩ ?_
    exact ⟨rfl, rfl⟩
theorem numB_N {c : CC} {N : NA} (hR : RelT c 1 N) {j : Nat} (hj : j < nbN N) {k : Nat} (hk : k < 12) : numB c (6 + j) k = Q_balN N j (nlN N) k := by
  rcases (show k = 0 ∨ k = 1 ∨ k = 2 ∨ k = 3 ∨ k = 4 ∨ k = 5 ∨ k = 6 ∨ k = 7 ∨ k = 8 ∨ k = 9 ∨ k = 10 ∨ k = 11 by omega) with rfl | rfl | rfl | rfl | rfl | rfl | rfl | rfl | rfl | rfl | rfl | rfl
  · exact hR.b hj (0, 0) (by decide)
  · exact hR.b hj (1, 1) (by decide)
  · exact hR.b hj (2, 2) (by decide)
  · exact hR.b hj (3, 3) (by decide)
  · exact hR.b5 hj
  · exact wg_rel hR hj
  · exact be_rel hR hj
  · exact hR.b hj (7, 5) (by decide)
  · exact hR.b hj (8, 10) (by decide)
  · exact hR.b hj (9, 6) (by decide)
  · exact hR.b hj (10, 7) (by decide)
  · exact hR.b hj (11, 8) (by decide)
set_option maxRecDepth 20000 in
set_option maxHeartbeats 1000000 in
theorem p_balloonOf (c : CC) (od : Int64 × UInt64) (N : NA) (hR : RelT c 1 N) (hI : IN N) (b x : Int32) : CM mX5_balloonOf [.ref 0, .int b, .int x] (c, od) (QX c od (ex3 ioE iaE iaE) (Q_balloonOf N b x)) := by
  refine CM.of [(0, .ref 0), (1, .int b), (2, .int x)] rfl (by decide +kernel) rfl (Nat.le_of_ble_eq_true rfl) ?_
  refine WE.aload_n (n := 1) dX5_balloonOf_0 rfl rfl ?_
  refine WE.iload_n (n := 2) dX5_balloonOf_1 rfl rfl ?_
  have hn6 := hI.cn.1
  have hn24 := hI.cn.2.2.1
  by_cases hb : isBN N b
  · obtain ⟨j, hj, rfl⟩ := hI.isB hb
    have hj6 : j < 6 := by omega
    have hcl := nI_clamp (show j < 2 ^ 31 by omega)
    have g7 : c (6 + j) 7 = N (22 + 11 * j + 5) := hR.b hj (7, 5) (by decide)
    refine WE.V1V (M' := mX5_needBalloon) (n := 5) dX5_balloonOf_2 rfl cv_X5_89 (by first | decide | exact kd_bal (by omega) | assumption) ⟨⟨by decide, by decide⟩, by decide, by decide⟩ (Nat.le_of_ble_eq_true rfl) (c_needB c od N hR hI (nI j) hb) ?_
    refine WE.iload_n (n := 6) dX5_balloonOf_5 rfl rfl ?_
    refine WE.iconst (n := 7) (nI 0) dX5_balloonOf_6 rfl (by decide) ?_
    refine WE.bipush (n := 9) (nI 11) dX5_balloonOf_7 rfl (by decide) ?_
    refine WE.S3I (M' := mX5_isBetween) (n := 12) dX5_balloonOf_9 rfl cv_X5_93  ⟨⟨by decide, by decide⟩, by decide, by decide⟩ (Nat.le_of_ble_eq_true rfl) (c_isBetween _ _ _ _) ?_
    refine WE.if_neB (n := 15) (tgt := 25) dX5_balloonOf_12 rfl (by decide) (fun h12 => ?_) (fun h12 => ?_)
    · skip
      obtain ⟨k, hk, rfl⟩ := in_of (m := 11) (by decide) h12
      have hck := nI_clamp (show k < 2 ^ 31 by omega)
      refine WE.aload_n (n := 26) dX5_balloonOf_25 rfl rfl ?_
      refine WE.getR (n := 29) dX5_balloonOf_26 rfl fl_X5_10 ⟨by decide, by decide⟩ rfl (by first | decide | exact kd_bal (by omega) | assumption) ?_
      refine WE.getR (n := 32) dX5_balloonOf_29 rfl fl_X5_104 ⟨by decide, by decide⟩ rfl (by first | decide | exact kd_bal (by omega) | assumption) ?_
      refine WE.iload_n (n := 33) dX5_balloonOf_32 rfl rfl ?_
      refine WE.aald (n := 34) 12 j dX5_balloonOf_33 rfl (by first | decide | assumption) (by decide) rfl (by show _ < 6; omega) rfl ?_
      refine WE.iload_n (n := 35) dX5_balloonOf_34 rfl rfl ?_
      refine WE.V1I (M' := mX0_numberOf) (n := 38) dX5_balloonOf_35 rfl cv_X5_108 (by first | decide | exact kd_bal (by omega) | assumption) ⟨⟨by decide, by decide⟩, by decide, by decide⟩ (Nat.le_of_ble_eq_true rfl) (c_numberOfB c od (6 + j) (kd_bal hj6) k (by omega)) ?_
      refine WE.iret (ty := .int) dX5_balloonOf_38 rfl rfl ⟨by decide, by decide⟩ ?_
      exact QX.yes (by unfold Q_balloonOf; rw [if_pos hb, if_pos h12, hcl, hck, numB_N hR hj (by omega)]) same8
    · skip
      refine WE.throwS (tx := "what is not from 0 to 11") "java/lang/IllegalArgumentException" dX5_balloonOf_15 dX5_balloonOf_18 dX5_balloonOf_19 dX5_balloonOf_21 dX5_balloonOf_24 xl_X5_97_101 (by decide +kernel) rfl ⟨by decide, by decide⟩ ⟨by decide, by decide⟩ ?_
      exact QX.no 2 (by unfold Q_balloonOf; rw [if_pos hb, if_neg h12]) rfl same8
  · refine WE.V1G (M' := mX5_needBalloon) (n := 5) dX5_balloonOf_2 rfl cv_X5_89 (by decide) ⟨⟨by decide, by decide⟩, by decide, by decide⟩ (Nat.le_of_ble_eq_true rfl) (c_needBx c od N hR hI b hb) (fun v σ' q0 => ?_) (fun E σ' q0 => ?_)
    · exact absurd q0.1 (by intro z; cases z)
    · obtain ⟨q1, rfl⟩ := q0
      cases q1
      exact WX.out rfl ⟨by decide, by decide⟩ (QX.no 1 (by unfold Q_balloonOf; rw [if_neg hb]) rfl same8)
set_option maxRecDepth 20000 in
set_option maxHeartbeats 1000000 in
theorem p_weightAgain (c : CC) (od : Int64 × UInt64) (N : NA) (hR : RelT c 1 N) (hI : IN N) (b : Int32) : CM mX5_weightAgain [.ref 0, .int b] (c, od) (QX c od (ex3 ioE ioE ioE) (Q_weight N b)) := by
  refine CM.of [(0, .ref 0), (1, .int b)] rfl (by decide +kernel) rfl (Nat.le_of_ble_eq_true rfl) ?_
  refine WE.aload_n (n := 1) dX5_weightAgain_0 rfl rfl ?_
  refine WE.iload_n (n := 2) dX5_weightAgain_1 rfl rfl ?_
  have hn6 := hI.cn.1
  have hn24 := hI.cn.2.2.1
  by_cases hb : isBN N b
  · obtain ⟨j, hj, rfl⟩ := hI.isB hb
    have hj6 : j < 6 := by omega
    have hcl := nI_clamp (show j < 2 ^ 31 by omega)
    have g7 : c (6 + j) 7 = N (22 + 11 * j + 5) := hR.b hj (7, 5) (by decide)
    refine WE.V1V (M' := mX5_needBalloon) (n := 5) dX5_weightAgain_2 rfl cv_X5_89 (by first | decide | exact kd_bal (by assumption) | exact kd_let (by assumption) | assumption) ⟨⟨by decide, by decide⟩, by decide, by decide⟩ (Nat.le_of_ble_eq_true rfl) (c_needB c od N hR hI (nI j) hb) ?_
    refine WE.aload_n (n := 6) dX5_weightAgain_5 rfl rfl ?_
    refine WE.getR (n := 9) dX5_weightAgain_6 rfl fl_X5_10 ⟨by decide, by decide⟩ rfl (by first | decide | exact kd_bal (by assumption) | exact kd_let (by assumption) | assumption) ?_
    refine WE.iload_n (n := 10) dX5_weightAgain_9 rfl rfl ?_
    refine WE.V1I (M' := mX4_weightByLetters) (n := 13) dX5_weightAgain_10 rfl cv_X5_125 (by first | decide | exact kd_bal (by assumption) | exact kd_let (by assumption) | assumption) ⟨⟨by decide, by decide⟩, by decide, by decide⟩ (Nat.le_of_ble_eq_true rfl) (c_weightByLetters c od N hR hI j hj) ?_
    refine WE.iret (ty := .int) dX5_weightAgain_13 rfl rfl ⟨by decide, by decide⟩ ?_
    exact QX.yes (by unfold Q_weight; rw [if_pos hb, hcl]) same8
  · refine WE.V1G (M' := mX5_needBalloon) (n := 5) dX5_weightAgain_2 rfl cv_X5_89 (by decide) ⟨⟨by decide, by decide⟩, by decide, by decide⟩ (Nat.le_of_ble_eq_true rfl) (c_needBx c od N hR hI b hb) (fun v σ' q0 => ?_) (fun E σ' q0 => ?_)
    · exact absurd q0.1 (by intro z; cases z)
    · obtain ⟨q1, rfl⟩ := q0
      cases q1
      exact WX.out rfl ⟨by decide, by decide⟩ (QX.no 1 (by unfold Q_weight; rw [if_neg hb]) rfl same8)
set_option maxRecDepth 20000 in
set_option maxHeartbeats 1000000 in
theorem p_word (c : CC) (od : Int64 × UInt64) (N : NA) (hR : RelT c 1 N) (hI : IN N) (b : Int32) : CM mX5_word [.ref 0, .int b] (c, od) (QX c od (ex3 ioE nsE nsE) (Q_word N b)) := by
  refine CM.of [(0, .ref 0), (1, .int b)] rfl (by decide +kernel) rfl (Nat.le_of_ble_eq_true rfl) ?_
  refine WE.aload_n (n := 1) dX5_word_0 rfl rfl ?_
  refine WE.iload_n (n := 2) dX5_word_1 rfl rfl ?_
  have hn6 := hI.cn.1
  have hn24 := hI.cn.2.2.1
  by_cases hb : isBN N b
  · obtain ⟨j, hj, rfl⟩ := hI.isB hb
    have hj6 : j < 6 := by omega
    have hcl := nI_clamp (show j < 2 ^ 31 by omega)
    have g7 : c (6 + j) 7 = N (22 + 11 * j + 5) := hR.b hj (7, 5) (by decide)
    refine WE.V1V (M' := mX5_needBalloon) (n := 5) dX5_word_2 rfl cv_X5_89 (by first | decide | exact kd_bal (by omega) | assumption) ⟨⟨by decide, by decide⟩, by decide, by decide⟩ (Nat.le_of_ble_eq_true rfl) (c_needB c od N hR hI (nI j) hb) ?_
    refine WE.aload_n (n := 6) dX5_word_5 rfl rfl ?_
    refine WE.getR (n := 9) dX5_word_6 rfl fl_X5_10 ⟨by decide, by decide⟩ rfl (by first | decide | exact kd_bal (by omega) | assumption) ?_
    refine WE.getR (n := 12) dX5_word_9 rfl fl_X5_104 ⟨by decide, by decide⟩ rfl (by first | decide | exact kd_bal (by omega) | assumption) ?_
    refine WE.iload_n (n := 13) dX5_word_12 rfl rfl ?_
    refine WE.aald (n := 14) 12 j dX5_word_13 rfl (by first | decide | assumption) (by decide) rfl (by show _ < 6; omega) rfl ?_
    refine WE.V0I (M' := mX0_sendsWord) (n := 17) dX5_word_14 rfl cv_X5_136 (by first | decide | exact kd_bal (by omega) | assumption) ⟨⟨by decide, by decide⟩, by decide, by decide⟩ (Nat.le_of_ble_eq_true rfl) (c_sendsWord c od (6 + j) (kd_bal hj6)) ?_
    refine WE.if_neB (n := 20) (tgt := 30) dX5_word_17 rfl (by decide) (fun h17 => ?_) (fun h17 => ?_)
    · skip
      rw [g7, (hR.b hj (3, 3) (by decide) : c (6 + j) 3 = N (22 + 11 * j + 3))] at h17
      have h17 : hwP N j := h17
      refine WE.aload_n (n := 31) dX5_word_30 rfl rfl ?_
      refine WE.getR (n := 34) dX5_word_31 rfl fl_X5_10 ⟨by decide, by decide⟩ rfl (by first | decide | exact kd_bal (by omega) | assumption) ?_
      refine WE.getR (n := 37) dX5_word_34 rfl fl_X5_104 ⟨by decide, by decide⟩ rfl (by first | decide | exact kd_bal (by omega) | assumption) ?_
      refine WE.iload_n (n := 38) dX5_word_37 rfl rfl ?_
      refine WE.aald (n := 39) 12 j dX5_word_38 rfl (by first | decide | assumption) (by decide) rfl (by show _ < 6; omega) rfl ?_
      refine WE.getI (n := 42) dX5_word_39 rfl fl_X5_142 ⟨by decide, by decide, rfl⟩ (by first | decide | exact kd_bal (by omega) | assumption) ?_
      refine WE.iret (ty := .int) dX5_word_42 rfl rfl ⟨by decide, by decide⟩ ?_
      exact QX.yes (by unfold Q_word; rw [if_pos hb, hcl, if_pos h17]; exact congrArg Sum.inl (hR.word hj h17.1).symm) same8
    · skip
      rw [g7, (hR.b hj (3, 3) (by decide) : c (6 + j) 3 = N (22 + 11 * j + 3))] at h17
      have h17 : ¬ hwP N j := h17
      refine WE.throwSX (tx := "it has not landed or has no courier") "java/util/NoSuchElementException" dX5_word_20 dX5_word_23 dX5_word_24 dX5_word_26 dX5_word_29 xl_X5_131_135 (by decide +kernel) rfl ⟨by decide, by decide⟩ ⟨by decide, by decide⟩ ?_
      exact QX.no 2 (by unfold Q_word; rw [if_pos hb, hcl, if_neg h17]) rfl same8
  · refine WE.V1G (M' := mX5_needBalloon) (n := 5) dX5_word_2 rfl cv_X5_89 (by decide) ⟨⟨by decide, by decide⟩, by decide, by decide⟩ (Nat.le_of_ble_eq_true rfl) (c_needBx c od N hR hI b hb) (fun v σ' q0 => ?_) (fun E σ' q0 => ?_)
    · exact absurd q0.1 (by intro z; cases z)
    · obtain ⟨q1, rfl⟩ := q0
      cases q1
      exact WX.out rfl ⟨by decide, by decide⟩ (QX.no 1 (by unfold Q_word; rw [if_neg hb]) rfl same8)
def sgN (x : Int32) : Int32 := if x = nI 0 then nI 116 else if x = nI 1 then nI 97 else if x = nI 2 then nI 108 else nI 120
def Q_sign (N : NA) (b : Int32) : QR := if isBN N b then .inl (sgN (N (bk b 5))) else .inr 1
set_option maxRecDepth 20000 in
set_option maxHeartbeats 1000000 in
theorem p_sign (c : CC) (od : Int64 × UInt64) (N : NA) (hR : RelT c 1 N) (hI : IN N) (b : Int32) : CM mX5_sign [.ref 0, .int b] (c, od) (QX c od (ex3 ioE ioE ioE) (Q_sign N b)) := by
  refine CM.of [(0, .ref 0), (1, .int b)] rfl (by decide +kernel) rfl (Nat.le_of_ble_eq_true rfl) ?_
  refine WE.aload_n (n := 1) dX5_sign_0 rfl rfl ?_
  refine WE.iload_n (n := 2) dX5_sign_1 rfl rfl ?_
  have hn6 := hI.cn.1
  have hn24 := hI.cn.2.2.1
  by_cases hb : isBN N b
  · obtain ⟨j, hj, rfl⟩ := hI.isB hb
    have hj6 : j < 6 := by omega
    have hcl := nI_clamp (show j < 2 ^ 31 by omega)
    have g7 : c (6 + j) 7 = N (22 + 11 * j + 5) := hR.b hj (7, 5) (by decide)
    refine WE.V1V (M' := mX5_needBalloon) (n := 5) dX5_sign_2 rfl cv_X5_89 (by first | decide | exact kd_bal (by omega) | assumption) ⟨⟨by decide, by decide⟩, by decide, by decide⟩ (Nat.le_of_ble_eq_true rfl) (c_needB c od N hR hI (nI j) hb) ?_
    refine WE.aload_n (n := 6) dX5_sign_5 rfl rfl ?_
    refine WE.getR (n := 9) dX5_sign_6 rfl fl_X5_10 ⟨by decide, by decide⟩ rfl (by first | decide | exact kd_bal (by omega) | assumption) ?_
    refine WE.getR (n := 12) dX5_sign_9 rfl fl_X5_104 ⟨by decide, by decide⟩ rfl (by first | decide | exact kd_bal (by omega) | assumption) ?_
    refine WE.iload_n (n := 13) dX5_sign_12 rfl rfl ?_
    refine WE.aald (n := 14) 12 j dX5_sign_13 rfl (by first | decide | assumption) (by decide) rfl (by show _ < 6; omega) rfl ?_
    refine WE.getI (n := 17) dX5_sign_14 rfl fl_X5_146 ⟨by decide, by decide, rfl⟩ (by first | decide | exact kd_bal (by omega) | assumption) ?_
    obtain ⟨t, ht, et⟩ := (hI.b hj).2.2.2
    rw [g7, et]
    rcases (show t = 0 ∨ t = 1 ∨ t = 2 ∨ t = 3 by omega) with rfl | rfl | rfl | rfl
    · refine WE.tsw (tgt := 44) dX5_sign_17 0 (by decide) (by decide) (by decide) rfl (by decide) ?_
      refine WE.bipush (n := 46) (nI 116) dX5_sign_44 rfl (by decide) ?_
      refine WE.iret (ty := .char) dX5_sign_46 rfl (by first | rfl | exact b2i_nar _ | decide) ⟨by decide, by decide⟩ ?_
      exact QX.yes (by unfold Q_sign bk; rw [if_pos hb, hcl, et]; rfl) same8
    · refine WE.tsw (tgt := 47) dX5_sign_17 1 (by decide) (by decide) (by decide) rfl (by decide) ?_
      refine WE.bipush (n := 49) (nI 97) dX5_sign_47 rfl (by decide) ?_
      refine WE.iret (ty := .char) dX5_sign_49 rfl (by first | rfl | exact b2i_nar _ | decide) ⟨by decide, by decide⟩ ?_
      exact QX.yes (by unfold Q_sign bk; rw [if_pos hb, hcl, et]; rfl) same8
    · refine WE.tsw (tgt := 50) dX5_sign_17 2 (by decide) (by decide) (by decide) rfl (by decide) ?_
      refine WE.bipush (n := 52) (nI 108) dX5_sign_50 rfl (by decide) ?_
      refine WE.iret (ty := .char) dX5_sign_52 rfl (by first | rfl | exact b2i_nar _ | decide) ⟨by decide, by decide⟩ ?_
      exact QX.yes (by unfold Q_sign bk; rw [if_pos hb, hcl, et]; rfl) same8
    · refine WE.tswO (tgt := 53) dX5_sign_17 (Or.inr (by decide)) (by decide) ?_
      refine WE.bipush (n := 55) (nI 120) dX5_sign_53 rfl (by decide) ?_
      refine WE.iret (ty := .char) dX5_sign_55 rfl (by first | rfl | exact b2i_nar _ | decide) ⟨by decide, by decide⟩ ?_
      exact QX.yes (by unfold Q_sign bk; rw [if_pos hb, hcl, et]; rfl) same8
  · refine WE.V1G (M' := mX5_needBalloon) (n := 5) dX5_sign_2 rfl cv_X5_89 (by decide) ⟨⟨by decide, by decide⟩, by decide, by decide⟩ (Nat.le_of_ble_eq_true rfl) (c_needBx c od N hR hI b hb) (fun v σ' q0 => ?_) (fun E σ' q0 => ?_)
    · exact absurd q0.1 (by intro z; cases z)
    · obtain ⟨q1, rfl⟩ := q0
      cases q1
      exact WX.out rfl ⟨by decide, by decide⟩ (QX.no 1 (by unfold Q_sign; rw [if_neg hb]) rfl same8)
set_option maxRecDepth 20000 in
set_option maxHeartbeats 1000000 in
theorem p_letterOf (c : CC) (od : Int64 × UInt64) (N : NA) (hR : RelT c 1 N) (hI : IN N) (b x : Int32) : CM mX5_letterOf [.ref 0, .int b, .int x] (c, od) (QX c od (ex3 ioE iaE iaE) (Q_letterOf N b x)) := by
  refine CM.of [(0, .ref 0), (1, .int b), (2, .int x)] rfl (by decide +kernel) rfl (Nat.le_of_ble_eq_true rfl) ?_
  refine WE.aload_n (n := 1) dX5_letterOf_0 rfl rfl ?_
  refine WE.getR (n := 4) dX5_letterOf_1 rfl fl_X5_10 ⟨by decide, by decide⟩ rfl (by first | decide | exact kd_bal (by assumption) | exact kd_let (by assumption) | assumption) ?_
  refine WE.iload_n (n := 5) dX5_letterOf_4 rfl rfl ?_
  refine WE.V1I (M' := mX4_hasLetter) (n := 8) dX5_letterOf_5 rfl cv_X5_111 (by first | decide | exact kd_bal (by assumption) | exact kd_let (by assumption) | assumption) ⟨⟨by decide, by decide⟩, by decide, by decide⟩ (Nat.le_of_ble_eq_true rfl) (c_hasL _ _ _ (nlN N) (by have := hI.cn.2.2.1; omega) ((hR.s (5, 4) (by decide)).trans hI.cn.2.2.2)) ?_
  refine WE.if_neB (n := 11) (tgt := 21) dX5_letterOf_8 rfl (by decide) (fun h8 => ?_) (fun h8 => ?_)
  · skip
    have hb : isLN N b := by unfold isLN; rw [hI.cn.2.2.2]; exact h8
    obtain ⟨l, hl, rfl⟩ := isL_of hI.cn.2.2.1 hI.cn.2.2.2 hb
    have hn24 := hI.cn.2.2.1
    have hcl := nI_clamp (show l < 2 ^ 31 by omega)
    refine WE.iload_n (n := 22) dX5_letterOf_21 rfl rfl ?_
    refine WE.iconst (n := 23) (nI 0) dX5_letterOf_22 rfl (by decide) ?_
    refine WE.iconst (n := 24) (nI 3) dX5_letterOf_23 rfl (by decide) ?_
    refine WE.S3I (M' := mX5_isBetween) (n := 27) dX5_letterOf_24 rfl cv_X5_93  ⟨⟨by decide, by decide⟩, by decide, by decide⟩ (Nat.le_of_ble_eq_true rfl) (c_isBetween _ _ _ _) ?_
    refine WE.if_neB (n := 30) (tgt := 40) dX5_letterOf_27 rfl (by decide) (fun h27 => ?_) (fun h27 => ?_)
    · skip
      obtain ⟨k, hk, rfl⟩ := in_of (m := 3) (by decide) h27
      have hck := nI_clamp (show k < 2 ^ 31 by omega)
      refine WE.aload_n (n := 41) dX5_letterOf_40 rfl rfl ?_
      refine WE.getR (n := 44) dX5_letterOf_41 rfl fl_X5_10 ⟨by decide, by decide⟩ rfl (by first | decide | exact kd_bal (by assumption) | exact kd_let (by assumption) | assumption) ?_
      refine WE.iload_n (n := 45) dX5_letterOf_44 rfl rfl ?_
      refine WE.iload_n (n := 46) dX5_letterOf_45 rfl rfl ?_
      refine WE.V2I (M' := mX4_letterNumber) (n := 49) dX5_letterOf_46 rfl cv_X5_122 (by first | decide | exact kd_bal (by assumption) | exact kd_let (by assumption) | assumption) ⟨⟨by decide, by decide⟩, by decide, by decide⟩ (Nat.le_of_ble_eq_true rfl) (c_letterNumber c od N hR hI l hl k (by omega)) ?_
      refine WE.iret (ty := .int) dX5_letterOf_49 rfl rfl ⟨by decide, by decide⟩ ?_
      exact QX.yes (by unfold Q_letterOf; rw [if_pos hb, if_pos h27, hcl, hck]) same8
    · skip
      refine WE.throwS (tx := "what is not from 0 to 3") "java/lang/IllegalArgumentException" dX5_letterOf_30 dX5_letterOf_33 dX5_letterOf_34 dX5_letterOf_36 dX5_letterOf_39 xl_X5_97_101 (by decide +kernel) rfl ⟨by decide, by decide⟩ ⟨by decide, by decide⟩ ?_
      exact QX.no 2 (by unfold Q_letterOf; rw [if_pos hb, if_neg h27]) rfl same8
  · skip
    have hb : ¬ isLN N b := by unfold isLN; rw [hI.cn.2.2.2]; exact h8
    refine WE.throwS (tx := "there is no such letter") "java/lang/IndexOutOfBoundsException" dX5_letterOf_11 dX5_letterOf_14 dX5_letterOf_15 dX5_letterOf_17 dX5_letterOf_20 xl_X5_115_119 (by decide +kernel) rfl ⟨by decide, by decide⟩ ⟨by decide, by decide⟩ ?_
    exact QX.no 1 (by unfold Q_letterOf; rw [if_neg hb]) rfl same8
def wtR (N : NA) (x : Int32) : Int32 := if 0 ≤ x then wres ((WL N (nlN N))[x.toNatClampNeg]?) else (-1 : Int32)
theorem wt_1 {N : NA} {x : Int32} {k l : Nat} (hx : x = nI k) (h : (WL N (nlN N))[k]? = some l) (hk : k < 2 ^ 31) : wtR N x = nI l := by
  subst hx
  unfold wtR
  rw [if_pos (nI_pos' hk), nI_clamp hk, h]
  rfl
theorem wt_2 {N : NA} {x : Int32} (h : ∀ k, k < (WL N (nlN N)).length → x ≠ nI k) : wtR N x = (-1 : Int32) := by
  unfold wtR
  split
  · rename_i h0
    obtain ⟨k, hk, rfl⟩ := nI_of (x := x) (by
      rw [Int32.le_iff_toInt_le] at h0
      rw [Int32.lt_iff_toInt_lt]
      omega)
    rw [nI_clamp hk, List.getElem?_eq_none (Nat.not_lt.mp fun q => h k q rfl)]
    rfl
  · rfl
theorem wt_q {N : NA} (hI : IN N) (x : Int32) : (0 ≤ wtR N x → Q_waiting N x = .inl (wtR N x)) ∧ (¬ 0 ≤ wtR N x → Q_waiting N x = .inr 1) := by
  unfold wtR Q_waiting
  split
  · rcases e : (WL N (nlN N))[x.toNatClampNeg]? with _ | l
    · exact ⟨fun h => absurd h (by decide), fun _ => rfl⟩
    · have := (WL_mem (List.mem_of_getElem? e)).1
      have h24 := hI.cn.2.2.1
      exact ⟨fun _ => rfl, fun h => absurd (nI_pos' (show l < 2 ^ 31 by omega)) h⟩
  · exact ⟨fun h => absurd h (by decide), fun _ => rfl⟩
set_option maxRecDepth 20000 in
set_option maxHeartbeats 1000000 in
theorem p_waiting (c : CC) (od : Int64 × UInt64) (N : NA) (hR : RelT c 1 N) (hI : IN N) (x : Int32) : CM mX5_waiting [.ref 0, .int x] (c, od) (QX c od (ex3 nsE nsE nsE) (Q_waiting N x)) := by
  refine CM.of [(0, .ref 0), (1, .int x)] rfl (by decide +kernel) rfl (Nat.le_of_ble_eq_true rfl) ?_
  refine WE.aload_n (n := 1) dX5_waiting_0 rfl rfl ?_
  refine WE.getR (n := 4) dX5_waiting_1 rfl fl_X5_10 ⟨by decide, by decide⟩ rfl (by first | decide | exact kd_bal (by assumption) | exact kd_let (by assumption) | assumption) ?_
  refine WE.iload_n (n := 5) dX5_waiting_4 rfl rfl ?_
  refine WE.V1I (M' := mX4_letterAtPlace) (n := 8) dX5_waiting_5 rfl cv_X5_128 (by first | decide | exact kd_bal (by assumption) | exact kd_let (by assumption) | assumption) ⟨⟨by decide, by decide⟩, by decide, by decide⟩ (Nat.le_of_ble_eq_true rfl) (c_letterAtPlace c od N hR hI x (wtR N x) (fun k l hx h => wt_1 hx h (by have := (List.getElem?_eq_some_iff.mp h).1; have := WL_len N (nlN N); have := hI.cn.2.2.1; omega)) wt_2) ?_
  refine WE.istore_n (n := 9) dX5_waiting_8 rfl (by decide) ?_
  refine WE.iload_n (n := 10) dX5_waiting_9 rfl rfl ?_
  refine WE.if_ge (n := 13) (tgt := 23) dX5_waiting_10 rfl (by decide) (fun h10 => ?_) (fun h10 => ?_)
  · skip
    refine WE.iload_n (n := 24) dX5_waiting_23 rfl rfl ?_
    refine WE.iret (ty := .int) dX5_waiting_24 rfl rfl ⟨by decide, by decide⟩ ?_
    exact QX.yes ((wt_q hI x).1 h10) same8
  · skip
    refine WE.throwSX (tx := "there is no such place") "java/util/NoSuchElementException" dX5_waiting_13 dX5_waiting_16 dX5_waiting_17 dX5_waiting_19 dX5_waiting_22 xl_X5_131_135 (by decide +kernel) rfl ⟨by decide, by decide⟩ ⟨by decide, by decide⟩ ?_
    exact QX.no 1 ((wt_q hI x).2 h10) rfl same8
set_option maxRecDepth 20000 in
set_option maxHeartbeats 1000000 in
theorem p_isWithin (c : CC) (od : Int64 × UInt64) (N : NA) (hR : RelT c 1 N) (hI : IN N) (x y : Int32) : CM mX5_isWithin [.ref 0, .int x, .int y] (c, od) (QX c od (ex3 ioE ioE ioE) (Q_within N x y)) := by
  refine CM.of [(0, .ref 0), (1, .int x), (2, .int y)] rfl (by decide +kernel) rfl (Nat.le_of_ble_eq_true rfl) ?_
  refine WE.iload_n (n := 1) dX5_isWithin_0 rfl rfl ?_
  refine WE.iload_n (n := 2) dX5_isWithin_1 rfl rfl ?_
  refine WE.S2I (M' := mX5_isOnMap) (n := 5) dX5_isWithin_2 rfl cv_X5_149  ⟨⟨by decide, by decide⟩, by decide, by decide⟩ (Nat.le_of_ble_eq_true rfl) (c_isOnMap _ _ _) ?_
  refine WE.if_neB (n := 8) (tgt := 18) dX5_isWithin_5 rfl (by decide) (fun h5 => ?_) (fun h5 => ?_)
  · skip
    refine WE.aload_n (n := 19) dX5_isWithin_18 rfl rfl ?_
    refine WE.getR (n := 22) dX5_isWithin_19 rfl fl_X5_10 ⟨by decide, by decide⟩ rfl (by first | decide | exact kd_bal (by assumption) | exact kd_let (by assumption) | assumption) ?_
    refine WE.iload_n (n := 23) dX5_isWithin_22 rfl rfl ?_
    refine WE.iload_n (n := 24) dX5_isWithin_23 rfl rfl ?_
    refine WE.V2I (M' := mX4_isInRing) (n := 27) dX5_isWithin_24 rfl cv_X5_153 (by first | decide | exact kd_bal (by assumption) | exact kd_let (by assumption) | assumption) ⟨⟨by decide, by decide⟩, by decide, by decide⟩ (Nat.le_of_ble_eq_true rfl) (c_isInRing c od x y) ?_
    refine WE.iret (ty := .boolean) dX5_isWithin_27 rfl (by first | rfl | exact b2i_nar _ | decide) ⟨by decide, by decide⟩ ?_
    exact QX.yes (by unfold Q_within; rw [if_pos h5.1, if_pos h5.2, hR.s (7, 1) (by decide)]) same8
  · skip
    refine WE.throwS (tx := "there is no such place") "java/lang/IndexOutOfBoundsException" dX5_isWithin_8 dX5_isWithin_11 dX5_isWithin_12 dX5_isWithin_14 dX5_isWithin_17 xl_X5_115_119 (by decide +kernel) rfl ⟨by decide, by decide⟩ ⟨by decide, by decide⟩ ?_
    refine QX.no 1 ?_ rfl same8
    unfold Q_within
    split
    · rename_i q1
      split
      · rename_i q2
        exact absurd ⟨q1, q2⟩ h5
      · rfl
    · rfl
theorem isw {c : CC} {N : NA} (hR : RelT c 1 N) (hI : IN N) : c 1 9 = c 1 10 + c 1 11 + c 1 12 + heN N (nbN N) := by
  rw [show c 1 9 = N 5 from hR.s (9, 5) (by decide), show c 1 10 = N 6 from hR.s (10, 6) (by decide), show c 1 11 = N 7 from hR.s (11, 7) (by decide), show c 1 12 = N 8 from hR.s (12, 8) (by decide)]
  exact hI.led
set_option maxRecDepth 20000 in
set_option maxHeartbeats 1000000 in
theorem p_isWell (c : CC) (od : Int64 × UInt64) (N : NA) (hR : RelT c 1 N) (hI : IN N) : CM mX5_isWell [.ref 0] (c, od) (RI (nI 1) (c, od)) := by
  refine CM.of [(0, .ref 0)] rfl (by decide +kernel) rfl (Nat.le_of_ble_eq_true rfl) ?_
  refine WE.aload_n (n := 1) dX5_isWell_0 rfl rfl ?_
  refine WE.getR (n := 4) dX5_isWell_1 rfl fl_X5_10 ⟨by decide, by decide⟩ rfl (by first | decide | exact kd_bal (by assumption) | exact kd_let (by assumption) | assumption) ?_
  refine WE.getI (n := 7) dX5_isWell_4 rfl fl_X5_229 ⟨by decide, by decide, rfl⟩ (by first | decide | exact kd_bal (by assumption) | exact kd_let (by assumption) | assumption) ?_
  refine WE.aload_n (n := 8) dX5_isWell_7 rfl rfl ?_
  refine WE.getR (n := 11) dX5_isWell_8 rfl fl_X5_10 ⟨by decide, by decide⟩ rfl (by first | decide | exact kd_bal (by assumption) | exact kd_let (by assumption) | assumption) ?_
  refine WE.getI (n := 14) dX5_isWell_11 rfl fl_X5_232 ⟨by decide, by decide, rfl⟩ (by first | decide | exact kd_bal (by assumption) | exact kd_let (by assumption) | assumption) ?_
  refine WE.aload_n (n := 15) dX5_isWell_14 rfl rfl ?_
  refine WE.getR (n := 18) dX5_isWell_15 rfl fl_X5_10 ⟨by decide, by decide⟩ rfl (by first | decide | exact kd_bal (by assumption) | exact kd_let (by assumption) | assumption) ?_
  refine WE.getI (n := 21) dX5_isWell_18 rfl fl_X5_235 ⟨by decide, by decide, rfl⟩ (by first | decide | exact kd_bal (by assumption) | exact kd_let (by assumption) | assumption) ?_
  refine WE.iadd (n := 22) dX5_isWell_21 rfl ?_
  refine WE.aload_n (n := 23) dX5_isWell_22 rfl rfl ?_
  refine WE.getR (n := 26) dX5_isWell_23 rfl fl_X5_10 ⟨by decide, by decide⟩ rfl (by first | decide | exact kd_bal (by assumption) | exact kd_let (by assumption) | assumption) ?_
  refine WE.getI (n := 29) dX5_isWell_26 rfl fl_X5_238 ⟨by decide, by decide, rfl⟩ (by first | decide | exact kd_bal (by assumption) | exact kd_let (by assumption) | assumption) ?_
  refine WE.iadd (n := 30) dX5_isWell_29 rfl ?_
  refine WE.aload_n (n := 31) dX5_isWell_30 rfl rfl ?_
  refine WE.getR (n := 34) dX5_isWell_31 rfl fl_X5_10 ⟨by decide, by decide⟩ rfl (by first | decide | exact kd_bal (by assumption) | exact kd_let (by assumption) | assumption) ?_
  refine WE.V0I (M' := mX4_ballastHeld) (n := 37) dX5_isWell_34 rfl cv_X5_241 (by first | decide | exact kd_bal (by assumption) | exact kd_let (by assumption) | assumption) ⟨⟨by decide, by decide⟩, by decide, by decide⟩ (Nat.le_of_ble_eq_true rfl) (c_ballastHeld c od N hR hI.cn) ?_
  refine WE.iadd (n := 38) dX5_isWell_37 rfl ?_
  refine WE.icmp_ne (n := 41) (tgt := 45) dX5_isWell_38 rfl (by decide) (fun h38 => ?_) (fun h38 => ?_)
  · skip
    exact absurd (isw hR hI) h38
  · skip
    refine WE.iconst (n := 42) (nI 1) dX5_isWell_41 rfl (by decide) ?_
    refine WE.goto (tgt := 46) dX5_isWell_42 (by decide) ?_
    refine WE.iret (ty := .boolean) dX5_isWell_46 rfl (by first | rfl | exact b2i_nar _ | decide) ⟨by decide, by decide⟩ ?_
    exact RI.mk rfl rfl
set_option maxRecDepth 20000 in
set_option maxHeartbeats 1000000 in
theorem p_errorPosition (c : CC) (od : Int64 × UInt64) : CM mX5_errorPosition [.ref 0] (c, od) (RI (c 389 7) (c, od)) := by
  refine CM.of [(0, .ref 0)] rfl (by decide +kernel) rfl (Nat.le_of_ble_eq_true rfl) ?_
  refine WE.aload_n (n := 1) dX5_errorPosition_0 rfl rfl ?_
  refine WE.getR (n := 4) dX5_errorPosition_1 rfl fl_X5_36 ⟨by decide, by decide⟩ rfl (by first | decide | exact kd_bal (by assumption) | exact kd_let (by assumption) | assumption) ?_
  refine WE.getI (n := 7) dX5_errorPosition_4 rfl fl_X5_212 ⟨by decide, by decide, rfl⟩ (by first | decide | exact kd_bal (by assumption) | exact kd_let (by assumption) | assumption) ?_
  refine WE.iret (ty := .int) dX5_errorPosition_7 rfl rfl ⟨by decide, by decide⟩ ?_
  exact RI.mk rfl rfl
def Q_why (w : Int32 × Int32) (d : Int32) : QR := if w.1 = 0 then .inr 1 else (if d = 0 then .inl w.1 else .inl w.2)
set_option maxRecDepth 20000 in
set_option maxHeartbeats 1000000 in
theorem p_refusal (c : CC) (od : Int64 × UInt64) (w : Int32 × Int32) (h1 : c 1 14 = w.1) (h2 : c 1 15 = w.2) (d : Int32) : CM mX5_refusal [.ref 0, .int d] (c, od) (QX c od (ex3 nsE nsE nsE) (Q_why w d)) := by
  refine CM.of [(0, .ref 0), (1, .int d)] rfl (by decide +kernel) rfl (Nat.le_of_ble_eq_true rfl) ?_
  refine WE.aload_n (n := 1) dX5_refusal_0 rfl rfl ?_
  refine WE.getR (n := 4) dX5_refusal_1 rfl fl_X5_10 ⟨by decide, by decide⟩ rfl (by first | decide | exact kd_bal (by assumption) | exact kd_let (by assumption) | assumption) ?_
  refine WE.getI (n := 7) dX5_refusal_4 rfl fl_X5_215 ⟨by decide, by decide, rfl⟩ (by first | decide | exact kd_bal (by assumption) | exact kd_let (by assumption) | assumption) ?_
  refine WE.if_ne (n := 10) (tgt := 20) dX5_refusal_7 rfl (by decide) (fun h7 => ?_) (fun h7 => ?_)
  · skip
    rw [h1] at h7
    refine WE.iload_n (n := 21) dX5_refusal_20 rfl rfl ?_
    refine WE.if_eq (n := 24) (tgt := 34) dX5_refusal_21 rfl (by decide) (fun h21 => ?_) (fun h21 => ?_)
    · skip
      refine WE.aload_n (n := 35) dX5_refusal_34 rfl rfl ?_
      refine WE.getR (n := 38) dX5_refusal_35 rfl fl_X5_10 ⟨by decide, by decide⟩ rfl (by first | decide | exact kd_bal (by assumption) | exact kd_let (by assumption) | assumption) ?_
      refine WE.getI (n := 41) dX5_refusal_38 rfl fl_X5_215 ⟨by decide, by decide, rfl⟩ (by first | decide | exact kd_bal (by assumption) | exact kd_let (by assumption) | assumption) ?_
      refine WE.iret (ty := .int) dX5_refusal_41 rfl rfl ⟨by decide, by decide⟩ ?_
      first | exact QX.yes (by unfold Q_why; rw [if_neg h7, if_pos h21, h1]) same8 | exact QX.yes (by unfold Q_why; rw [if_neg h7, if_neg h21, h2]) same8
    · skip
      refine WE.aload_n (n := 25) dX5_refusal_24 rfl rfl ?_
      refine WE.getR (n := 28) dX5_refusal_25 rfl fl_X5_10 ⟨by decide, by decide⟩ rfl (by first | decide | exact kd_bal (by assumption) | exact kd_let (by assumption) | assumption) ?_
      refine WE.getI (n := 31) dX5_refusal_28 rfl fl_X5_220 ⟨by decide, by decide, rfl⟩ (by first | decide | exact kd_bal (by assumption) | exact kd_let (by assumption) | assumption) ?_
      refine WE.goto (tgt := 41) dX5_refusal_31 (by decide) ?_
      refine WE.iret (ty := .int) dX5_refusal_41 rfl rfl ⟨by decide, by decide⟩ ?_
      first | exact QX.yes (by unfold Q_why; rw [if_neg h7, if_pos h21, h1]) same8 | exact QX.yes (by unfold Q_why; rw [if_neg h7, if_neg h21, h2]) same8
  · skip
    rw [h1] at h7
    refine WE.throwSX (tx := "nothing was refused") "java/util/NoSuchElementException" dX5_refusal_10 dX5_refusal_13 dX5_refusal_14 dX5_refusal_16 dX5_refusal_19 xl_X5_131_135 (by decide +kernel) rfl ⟨by decide, by decide⟩ ⟨by decide, by decide⟩ ?_
    exact QX.no 1 (by unfold Q_why; rw [if_pos h7]) rfl same8
def Q_acc (N : NA) (n u : Int32) (x : Int32) : QR := if nI 0 ≤ x ∧ x ≤ nI 20 then .inl (if x = nI 19 then n else if x = nI 20 then u else nuN N x.toNatClampNeg) else .inr 1
set_option maxRecDepth 20000 in
set_option maxHeartbeats 1000000 in
theorem p_account (c : CC) (od : Int64 × UInt64) (N : NA) (hR : RelT c 1 N) (hI : IN N) (x : Int32) : CM mX5_account [.ref 0, .int x] (c, od) (QX c od (ex3 iaE iaE iaE) (Q_acc N (c 389 5) (c 36 2) x)) := by
  refine CM.of [(0, .ref 0), (1, .int x)] rfl (by decide +kernel) rfl (Nat.le_of_ble_eq_true rfl) ?_
  refine WE.iload_n (n := 1) dX5_account_0 rfl rfl ?_
  refine WE.iconst (n := 2) (nI 0) dX5_account_1 rfl (by decide) ?_
  refine WE.bipush (n := 4) (nI 20) dX5_account_2 rfl (by decide) ?_
  refine WE.S3I (M' := mX5_isBetween) (n := 7) dX5_account_4 rfl cv_X5_93  ⟨⟨by decide, by decide⟩, by decide, by decide⟩ (Nat.le_of_ble_eq_true rfl) (c_isBetween _ _ _ _) ?_
  refine WE.if_neB (n := 10) (tgt := 20) dX5_account_7 rfl (by decide) (fun h7 => ?_) (fun h7 => ?_)
  · skip
    obtain ⟨k, hk, rfl⟩ := in_of (m := 20) (by decide) h7
    have hck := nI_clamp (show k < 2 ^ 31 by omega)
    refine WE.iload_n (n := 21) dX5_account_20 rfl rfl ?_
    refine WE.bipush (n := 23) (nI 19) dX5_account_21 rfl (by decide) ?_
    refine WE.icmp_ne (n := 26) (tgt := 34) dX5_account_23 rfl (by decide) (fun h23 => ?_) (fun h23 => ?_)
    · skip
      refine WE.iload_n (n := 35) dX5_account_34 rfl rfl ?_
      refine WE.bipush (n := 37) (nI 20) dX5_account_35 rfl (by decide) ?_
      refine WE.icmp_ne (n := 40) (tgt := 48) dX5_account_37 rfl (by decide) (fun h37 => ?_) (fun h37 => ?_)
      · skip
        have hk19 : k < 19 := by
          by_cases e1 : k = 19
          · exact absurd (by rw [e1]) h23
          · by_cases e2 : k = 20
            · exact absurd (by rw [e2]) h37
            · omega
        refine WE.aload_n (n := 49) dX5_account_48 rfl rfl ?_
        refine WE.getR (n := 52) dX5_account_49 rfl fl_X5_10 ⟨by decide, by decide⟩ rfl (by first | decide | exact kd_bal (by assumption) | exact kd_let (by assumption) | assumption) ?_
        refine WE.iload_n (n := 53) dX5_account_52 rfl rfl ?_
        refine WE.V1I (M' := mX4_numberOf) (n := 56) dX5_account_53 rfl cv_X5_228 (by first | decide | exact kd_bal (by assumption) | exact kd_let (by assumption) | assumption) ⟨⟨by decide, by decide⟩, by decide, by decide⟩ (Nat.le_of_ble_eq_true rfl) (c_numberOf c od N hR hI k hk19) ?_
        refine WE.iret (ty := .int) dX5_account_56 rfl rfl ⟨by decide, by decide⟩ ?_
        exact QX.yes (by unfold Q_acc; rw [if_pos h7, if_neg h23, if_neg h37, hck]) same8
      · skip
        refine WE.aload_n (n := 41) dX5_account_40 rfl rfl ?_
        refine WE.getR (n := 44) dX5_account_41 rfl fl_X5_19 ⟨by decide, by decide⟩ rfl (by first | decide | exact kd_bal (by assumption) | exact kd_let (by assumption) | assumption) ?_
        refine WE.getI (n := 47) dX5_account_44 rfl fl_X5_225 ⟨by decide, by decide, rfl⟩ (by first | decide | exact kd_bal (by assumption) | exact kd_let (by assumption) | assumption) ?_
        refine WE.iret (ty := .int) dX5_account_47 rfl rfl ⟨by decide, by decide⟩ ?_
        exact QX.yes (by unfold Q_acc; rw [if_pos h7, if_neg h23, if_pos (by first | exact h37 | exact Classical.not_not.mp h37)]) same8
    · skip
      refine WE.aload_n (n := 27) dX5_account_26 rfl rfl ?_
      refine WE.getR (n := 30) dX5_account_27 rfl fl_X5_36 ⟨by decide, by decide⟩ rfl (by first | decide | exact kd_bal (by assumption) | exact kd_let (by assumption) | assumption) ?_
      refine WE.getI (n := 33) dX5_account_30 rfl fl_X5_192 ⟨by decide, by decide, rfl⟩ (by first | decide | exact kd_bal (by assumption) | exact kd_let (by assumption) | assumption) ?_
      refine WE.iret (ty := .int) dX5_account_33 rfl rfl ⟨by decide, by decide⟩ ?_
      exact QX.yes (by unfold Q_acc; rw [if_pos h7, if_pos (by first | exact h23 | exact Classical.not_not.mp h23)]) same8
  · skip
    refine WE.throwS (tx := "what is not from 0 to 20") "java/lang/IllegalArgumentException" dX5_account_10 dX5_account_13 dX5_account_14 dX5_account_16 dX5_account_19 xl_X5_97_101 (by decide +kernel) rfl ⟨by decide, by decide⟩ ⟨by decide, by decide⟩ ?_
    exact QX.no 1 (by unfold Q_acc; rw [if_neg h7]) rfl same8
