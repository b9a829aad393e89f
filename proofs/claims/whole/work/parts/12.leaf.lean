def ab (x : Int32) : Int32 := if 0 ≤ x then x else 0 - x
def mx (x y : Int32) : Int32 := if x < y then y else x
def mn (x y : Int32) : Int32 := if y < x then y else x
def far (x y : Int32) : Int32 := mx (ab (x - nI 20)) (ab (y - nI 20))
abbrev NA : Type := Nat → Int32
def upN (N : NA) (k : Nat) (x : Int32) (j : Nat) : Int32 := if j = k then x else N j
theorem upN_eq (N : NA) (k : Nat) (x : Int32) : upN N k x k = x := if_pos rfl
theorem upN_ne (N : NA) (k : Nat) (x : Int32) {j : Nat} (h : j ≠ k) : upN N k x j = N j := if_neg h
def setN (c : CC) (N : NA) : CC := fun i j => if i = 396 then N j else c i j
theorem setN_self (c : CC) : setN c (c 396) = c := by
  funext i j
  unfold setN
  split
  · rename_i h
    rw [h]
  · rfl
theorem u2_now (c : CC) (k : Nat) (x : Int32) : u2 c 396 k x = setN c (upN (c 396) k x) := by
  funext i j
  by_cases h : i = 396
  · subst h
    by_cases h2 : j = k
    · simp [u2, setN, upN, h2]
    · simp [u2, setN, upN, h2]
  · simp [u2, setN, h]
theorem u2_setN (c : CC) (N : NA) (k : Nat) (x : Int32) : u2 (setN c N) 396 k x = setN c (upN N k x) := by
  funext i j
  by_cases h : i = 396
  · subst h
    by_cases h2 : j = k
    · simp [u2, setN, upN, h2]
    · simp [u2, setN, upN, h2]
  · simp [u2, setN, h]
theorem u2_setN_o (c : CC) (N : NA) {a : Nat} (k : Nat) (x : Int32) (ha : a ≠ 396) : u2 (setN c N) a k x = setN (u2 c a k x) N := by
  funext i j
  by_cases h : i = 396
  · subst h
    simp [u2, setN, Ne.symm ha]
  · simp [u2, setN, h]
theorem setN_at (c : CC) (N : NA) : setN c N 396 = N := by
  funext j
  simp [setN]
theorem setN_o (c : CC) (N : NA) {a : Nat} (ha : a ≠ 396) : setN c N a = c a := by
  funext j
  simp [setN, ha]
theorem setN_setN (c : CC) (N N2 : NA) : setN (setN c N) N2 = setN c N2 := by
  funext i j
  by_cases h : i = 396
  · simp [setN, h]
  · simp [setN, h]
theorem u2_o (c : CC) {a i : Nat} (k : Nat) (x : Int32) (h : i ≠ a) : u2 c a k x i = c i := by
  funext j
  simp [u2, h]
theorem ge_t {a b : Nat} (ha : a < 2 ^ 31) (hb : b < 2 ^ 31) (h : nI b ≤ nI a) : b ≤ a := (nI_leI hb ha).mp h
theorem ge_f {a b : Nat} (ha : a < 2 ^ 31) (hb : b < 2 ^ 31) (h : ¬ nI b ≤ nI a) : a < b := Nat.not_le.mp fun q => h ((nI_leI hb ha).mpr q)
theorem nI_inc (i : Nat) : nI i + Int32.ofInt 1 = nI (i + 1) := nI_1 i

set_option maxRecDepth 20000 in
set_option maxHeartbeats 1000000 in
theorem c_isBetween (x a b : Int32) (σ : SS) : CM mX5_isBetween [.int x, .int a, .int b] σ (RI (b2i (a ≤ x ∧ x ≤ b)) σ) := by
  refine CM.of [(0, .int x), (1, .int a), (2, .int b)] rfl (by decide +kernel) rfl (Nat.le_of_ble_eq_true rfl) ?_
  refine WE.iload_n (n := 1) dX5_isBetween_0 rfl rfl ?_
  refine WE.iload_n (n := 2) dX5_isBetween_1 rfl rfl ?_
  refine WE.icmp_lt (n := 5) (tgt := 14) dX5_isBetween_2 rfl (by decide) (fun h2 => ?_) (fun h2 => ?_)
  · skip
    refine WE.iconst (n := 15) (nI 0) dX5_isBetween_14 rfl (by decide) ?_
    refine WE.iret (ty := .boolean) dX5_isBetween_15 rfl (by first | rfl | exact b2i_nar _ | decide) ⟨by decide, by decide⟩ ?_
    first | exact RI.mk (b2i_f (fun q => by simp only [Int32.lt_iff_toInt_lt, Int32.le_iff_toInt_le] at *; omega)).symm rfl | exact RI.mk (b2i_t (by simp only [Int32.lt_iff_toInt_lt, Int32.le_iff_toInt_le] at *; omega)).symm rfl
  · skip
    refine WE.iload_n (n := 6) dX5_isBetween_5 rfl rfl ?_
    refine WE.iload_n (n := 7) dX5_isBetween_6 rfl rfl ?_
    refine WE.icmp_gt (n := 10) (tgt := 14) dX5_isBetween_7 rfl (by decide) (fun h7 => ?_) (fun h7 => ?_)
    · skip
      refine WE.iconst (n := 15) (nI 0) dX5_isBetween_14 rfl (by decide) ?_
      refine WE.iret (ty := .boolean) dX5_isBetween_15 rfl (by first | rfl | exact b2i_nar _ | decide) ⟨by decide, by decide⟩ ?_
      first | exact RI.mk (b2i_f (fun q => by simp only [Int32.lt_iff_toInt_lt, Int32.le_iff_toInt_le] at *; omega)).symm rfl | exact RI.mk (b2i_t (by simp only [Int32.lt_iff_toInt_lt, Int32.le_iff_toInt_le] at *; omega)).symm rfl
    · skip
      refine WE.iconst (n := 11) (nI 1) dX5_isBetween_10 rfl (by decide) ?_
      refine WE.goto (tgt := 15) dX5_isBetween_11 (by decide) ?_
      refine WE.iret (ty := .boolean) dX5_isBetween_15 rfl (by first | rfl | exact b2i_nar _ | decide) ⟨by decide, by decide⟩ ?_
      first | exact RI.mk (b2i_f (fun q => by simp only [Int32.lt_iff_toInt_lt, Int32.le_iff_toInt_le] at *; omega)).symm rfl | exact RI.mk (b2i_t (by simp only [Int32.lt_iff_toInt_lt, Int32.le_iff_toInt_le] at *; omega)).symm rfl
set_option maxRecDepth 20000 in
set_option maxHeartbeats 1000000 in
theorem m_in (x a b : Int32) (σ : SS) : CM mX6_in [.int x, .int a, .int b] σ (RI (b2i (a ≤ x ∧ x ≤ b)) σ) := by
  refine CM.of [(0, .int x), (1, .int a), (2, .int b)] rfl (by decide +kernel) rfl (Nat.le_of_ble_eq_true rfl) ?_
  refine WE.iload_n (n := 1) dX6_in_0 rfl rfl ?_
  refine WE.iload_n (n := 2) dX6_in_1 rfl rfl ?_
  refine WE.icmp_lt (n := 5) (tgt := 14) dX6_in_2 rfl (by decide) (fun h2 => ?_) (fun h2 => ?_)
  · skip
    refine WE.iconst (n := 15) (nI 0) dX6_in_14 rfl (by decide) ?_
    refine WE.iret (ty := .boolean) dX6_in_15 rfl (by first | rfl | exact b2i_nar _ | decide) ⟨by decide, by decide⟩ ?_
    first | exact RI.mk (b2i_f (fun q => by simp only [Int32.lt_iff_toInt_lt, Int32.le_iff_toInt_le] at *; omega)).symm rfl | exact RI.mk (b2i_t (by simp only [Int32.lt_iff_toInt_lt, Int32.le_iff_toInt_le] at *; omega)).symm rfl
  · skip
    refine WE.iload_n (n := 6) dX6_in_5 rfl rfl ?_
    refine WE.iload_n (n := 7) dX6_in_6 rfl rfl ?_
    refine WE.icmp_gt (n := 10) (tgt := 14) dX6_in_7 rfl (by decide) (fun h7 => ?_) (fun h7 => ?_)
    · skip
      refine WE.iconst (n := 15) (nI 0) dX6_in_14 rfl (by decide) ?_
      refine WE.iret (ty := .boolean) dX6_in_15 rfl (by first | rfl | exact b2i_nar _ | decide) ⟨by decide, by decide⟩ ?_
      first | exact RI.mk (b2i_f (fun q => by simp only [Int32.lt_iff_toInt_lt, Int32.le_iff_toInt_le] at *; omega)).symm rfl | exact RI.mk (b2i_t (by simp only [Int32.lt_iff_toInt_lt, Int32.le_iff_toInt_le] at *; omega)).symm rfl
    · skip
      refine WE.iconst (n := 11) (nI 1) dX6_in_10 rfl (by decide) ?_
      refine WE.goto (tgt := 15) dX6_in_11 (by decide) ?_
      refine WE.iret (ty := .boolean) dX6_in_15 rfl (by first | rfl | exact b2i_nar _ | decide) ⟨by decide, by decide⟩ ?_
      first | exact RI.mk (b2i_f (fun q => by simp only [Int32.lt_iff_toInt_lt, Int32.le_iff_toInt_le] at *; omega)).symm rfl | exact RI.mk (b2i_t (by simp only [Int32.lt_iff_toInt_lt, Int32.le_iff_toInt_le] at *; omega)).symm rfl
set_option maxRecDepth 20000 in
set_option maxHeartbeats 1000000 in
theorem m_raises (c : CC) (od : Int64 × UInt64) (b : Int32) : CM mX6_raises [.ref 395, .int b] (c, od) (RI (nI 0) (u2 c 395 16 b, od)) := by
  refine CM.of [(0, .ref 395), (1, .int b)] rfl (by decide +kernel) rfl (Nat.le_of_ble_eq_true rfl) ?_
  refine WE.aload_n (n := 1) dX6_raises_0 rfl rfl ?_
  refine WE.iload_n (n := 2) dX6_raises_1 rfl rfl ?_
  refine WE.putI (n := 5) dX6_raises_2 rfl fl_X6_36 ⟨by decide, by decide, rfl, rfl⟩ ⟨by first | rfl | decide, by first | rfl | decide⟩ (by first | decide | exact kd_bal (by assumption) | exact kd_let (by assumption) | assumption) ?_
  refine WE.iconst (n := 6) (nI 0) dX6_raises_5 rfl (by decide) ?_
  refine WE.iret (ty := .int) dX6_raises_6 rfl rfl ⟨by decide, by decide⟩ ?_
  exact RI.mk rfl rfl
set_option maxRecDepth 20000 in
set_option maxHeartbeats 1000000 in
theorem m_does (c : CC) (od : Int64 × UInt64) (b : Int32) : CM mX6_does [.ref 395, .int b] (c, od) (RI (nI 0) (u2 c 395 15 b, od)) := by
  refine CM.of [(0, .ref 395), (1, .int b)] rfl (by decide +kernel) rfl (Nat.le_of_ble_eq_true rfl) ?_
  refine WE.aload_n (n := 1) dX6_does_0 rfl rfl ?_
  refine WE.iload_n (n := 2) dX6_does_1 rfl rfl ?_
  refine WE.putI (n := 5) dX6_does_2 rfl fl_X6_42 ⟨by decide, by decide, rfl, rfl⟩ ⟨by first | rfl | decide, by first | rfl | decide⟩ (by first | decide | exact kd_bal (by assumption) | exact kd_let (by assumption) | assumption) ?_
  refine WE.iconst (n := 6) (nI 0) dX6_does_5 rfl (by decide) ?_
  refine WE.iret (ty := .int) dX6_does_6 rfl rfl ⟨by decide, by decide⟩ ?_
  exact RI.mk rfl rfl
set_option maxRecDepth 20000 in
set_option maxHeartbeats 1000000 in
theorem m_thrown (c : CC) (od : Int64 × UInt64) : CM mX6_thrown [.ref 395] (c, od) (RI (c 395 16) (c, od)) := by
  refine CM.of [(0, .ref 395)] rfl (by decide +kernel) rfl (Nat.le_of_ble_eq_true rfl) ?_
  refine WE.aload_n (n := 1) dX6_thrown_0 rfl rfl ?_
  refine WE.getI (n := 4) dX6_thrown_1 rfl fl_X6_36 ⟨by decide, by decide, rfl⟩ (by first | decide | exact kd_bal (by assumption) | exact kd_let (by assumption) | assumption) ?_
  refine WE.iret (ty := .int) dX6_thrown_4 rfl rfl ⟨by decide, by decide⟩ ?_
  exact RI.mk rfl rfl
set_option maxRecDepth 20000 in
set_option maxHeartbeats 1000000 in
theorem m_why (c : CC) (od : Int64 × UInt64) (i m : Int32) : CM mX6_why [.ref 395, .int i, .int m] (c, od) (RI i (u2 (u2 c 395 13 i) 395 14 m, od)) := by
  refine CM.of [(0, .ref 395), (1, .int i), (2, .int m)] rfl (by decide +kernel) rfl (Nat.le_of_ble_eq_true rfl) ?_
  refine WE.aload_n (n := 1) dX6_why_0 rfl rfl ?_
  refine WE.iload_n (n := 2) dX6_why_1 rfl rfl ?_
  refine WE.putI (n := 5) dX6_why_2 rfl fl_X6_45 ⟨by decide, by decide, rfl, rfl⟩ ⟨by first | rfl | decide, by first | rfl | decide⟩ (by first | decide | exact kd_bal (by assumption) | exact kd_let (by assumption) | assumption) ?_
  refine WE.aload_n (n := 6) dX6_why_5 rfl rfl ?_
  refine WE.iload_n (n := 7) dX6_why_6 rfl rfl ?_
  refine WE.putI (n := 10) dX6_why_7 rfl fl_X6_48 ⟨by decide, by decide, rfl, rfl⟩ ⟨by first | rfl | decide, by first | rfl | decide⟩ (by first | decide | exact kd_bal (by assumption) | exact kd_let (by assumption) | assumption) ?_
  refine WE.iload_n (n := 11) dX6_why_10 rfl rfl ?_
  refine WE.iret (ty := .int) dX6_why_11 rfl rfl ⟨by decide, by decide⟩ ?_
  exact RI.mk rfl rfl
set_option maxRecDepth 20000 in
set_option maxHeartbeats 1000000 in
theorem m_of (c : CC) (od : Int64 × UInt64) (b w : Nat) (h : 22 + 11 * b + w < 184) : CM mX6_of [.ref 395, .int (nI b), .int (nI w)] (c, od) (RI (c 396 (22 + 11 * b + w)) (c, od)) := by
  refine CM.of [(0, .ref 395), (1, .int (nI b)), (2, .int (nI w))] rfl (by decide +kernel) rfl (Nat.le_of_ble_eq_true rfl) ?_
  refine WE.aload_n (n := 1) dX6_of_0 rfl rfl ?_
  refine WE.getR (n := 4) dX6_of_1 rfl fl_X6_9 ⟨by decide, by decide⟩ rfl (by first | decide | exact kd_bal (by assumption) | exact kd_let (by assumption) | assumption) ?_
  refine WE.bipush (n := 6) (nI 22) dX6_of_4 rfl (by decide) ?_
  refine WE.bipush (n := 8) (nI 11) dX6_of_6 rfl (by decide) ?_
  refine WE.iload_n (n := 9) dX6_of_8 rfl rfl ?_
  refine WE.imul (n := 10) dX6_of_9 rfl ?_
  refine WE.iadd (n := 11) dX6_of_10 rfl ?_
  refine WE.iload_n (n := 12) dX6_of_11 rfl rfl ?_
  refine WE.iadd (n := 13) dX6_of_12 rfl ?_
  refine WE.iald (n := 14) (22 + 11 * b + w) dX6_of_13 rfl (by first | decide | assumption) (by first | rfl | simp only [pk_mul, nI_add]) (by show _ < 184; omega) ?_
  refine WE.iret (ty := .int) dX6_of_14 rfl rfl ⟨by decide, by decide⟩ ?_
  exact RI.mk rfl rfl
set_option maxRecDepth 20000 in
set_option maxHeartbeats 1000000 in
theorem m_sets (c : CC) (od : Int64 × UInt64) (b w : Nat) (x : Int32) (h : 22 + 11 * b + w < 184) : CM mX6_sets [.ref 395, .int (nI b), .int (nI w), .int x] (c, od) (RV (u2 c 396 (22 + 11 * b + w) x, od)) := by
  refine CM.of [(0, .ref 395), (1, .int (nI b)), (2, .int (nI w)), (3, .int x)] rfl (by decide +kernel) rfl (Nat.le_of_ble_eq_true rfl) ?_
  refine WE.aload_n (n := 1) dX6_sets_0 rfl rfl ?_
  refine WE.getR (n := 4) dX6_sets_1 rfl fl_X6_9 ⟨by decide, by decide⟩ rfl (by first | decide | exact kd_bal (by assumption) | exact kd_let (by assumption) | assumption) ?_
  refine WE.bipush (n := 6) (nI 22) dX6_sets_4 rfl (by decide) ?_
  refine WE.bipush (n := 8) (nI 11) dX6_sets_6 rfl (by decide) ?_
  refine WE.iload_n (n := 9) dX6_sets_8 rfl rfl ?_
  refine WE.imul (n := 10) dX6_sets_9 rfl ?_
  refine WE.iadd (n := 11) dX6_sets_10 rfl ?_
  refine WE.iload_n (n := 12) dX6_sets_11 rfl rfl ?_
  refine WE.iadd (n := 13) dX6_sets_12 rfl ?_
  refine WE.iload_n (n := 14) dX6_sets_13 rfl rfl ?_
  refine WE.iast (n := 15) (22 + 11 * b + w) dX6_sets_14 rfl (by first | decide | assumption) (by first | rfl | simp only [pk_mul, nI_add]) (by show _ < 184; omega) ?_
  refine WE.vret dX6_sets_15 rfl ⟨by decide, by decide⟩ ?_
  exact RV.mk rfl
set_option maxRecDepth 20000 in
set_option maxHeartbeats 1000000 in
theorem m_isBalloon (c : CC) (od : Int64 × UInt64) (b : Int32) : CM mX6_isBalloon [.ref 395, .int b] (c, od) (RI (b2i (nI 0 ≤ b ∧ b ≤ c 396 3 - nI 1)) (c, od)) := by
  refine CM.of [(0, .ref 395), (1, .int b)] rfl (by decide +kernel) rfl (Nat.le_of_ble_eq_true rfl) ?_
  refine WE.iload_n (n := 1) dX6_isBalloon_0 rfl rfl ?_
  refine WE.iconst (n := 2) (nI 0) dX6_isBalloon_1 rfl (by decide) ?_
  refine WE.aload_n (n := 3) dX6_isBalloon_2 rfl rfl ?_
  refine WE.getR (n := 6) dX6_isBalloon_3 rfl fl_X6_9 ⟨by decide, by decide⟩ rfl (by first | decide | exact kd_bal (by assumption) | exact kd_let (by assumption) | assumption) ?_
  refine WE.iconst (n := 7) (nI 3) dX6_isBalloon_6 rfl (by decide) ?_
  refine WE.iald (n := 8) 3 dX6_isBalloon_7 rfl (by first | decide | assumption) rfl (by show _ < 184; omega) ?_
  refine WE.iconst (n := 9) (nI 1) dX6_isBalloon_8 rfl (by decide) ?_
  refine WE.isub (n := 10) dX6_isBalloon_9 rfl ?_
  refine WE.S3I (M' := mX6_in) (n := 13) dX6_isBalloon_10 rfl cv_X6_58  ⟨⟨by decide, by decide⟩, by decide, by decide⟩ (Nat.le_of_ble_eq_true rfl) (m_in _ _ _ _) ?_
  refine WE.iret (ty := .boolean) dX6_isBalloon_13 rfl (by first | rfl | exact b2i_nar _ | decide) ⟨by decide, by decide⟩ ?_
  exact RI.mk rfl rfl
set_option maxRecDepth 20000 in
set_option maxHeartbeats 1000000 in
theorem m_isLetter (c : CC) (od : Int64 × UInt64) (b : Int32) : CM mX6_isLetter [.ref 395, .int b] (c, od) (RI (b2i (nI 0 ≤ b ∧ b ≤ c 396 4 - nI 1)) (c, od)) := by
  refine CM.of [(0, .ref 395), (1, .int b)] rfl (by decide +kernel) rfl (Nat.le_of_ble_eq_true rfl) ?_
  refine WE.iload_n (n := 1) dX6_isLetter_0 rfl rfl ?_
  refine WE.iconst (n := 2) (nI 0) dX6_isLetter_1 rfl (by decide) ?_
  refine WE.aload_n (n := 3) dX6_isLetter_2 rfl rfl ?_
  refine WE.getR (n := 6) dX6_isLetter_3 rfl fl_X6_9 ⟨by decide, by decide⟩ rfl (by first | decide | exact kd_bal (by assumption) | exact kd_let (by assumption) | assumption) ?_
  refine WE.iconst (n := 7) (nI 4) dX6_isLetter_6 rfl (by decide) ?_
  refine WE.iald (n := 8) 4 dX6_isLetter_7 rfl (by first | decide | assumption) rfl (by show _ < 184; omega) ?_
  refine WE.iconst (n := 9) (nI 1) dX6_isLetter_8 rfl (by decide) ?_
  refine WE.isub (n := 10) dX6_isLetter_9 rfl ?_
  refine WE.S3I (M' := mX6_in) (n := 13) dX6_isLetter_10 rfl cv_X6_58  ⟨⟨by decide, by decide⟩, by decide, by decide⟩ (Nat.le_of_ble_eq_true rfl) (m_in _ _ _ _) ?_
  refine WE.iret (ty := .boolean) dX6_isLetter_13 rfl (by first | rfl | exact b2i_nar _ | decide) ⟨by decide, by decide⟩ ?_
  exact RI.mk rfl rfl
set_option maxRecDepth 20000 in
set_option maxHeartbeats 1000000 in
theorem m_far (x y : Int32) (σ : SS) : CM mX6_far [.int x, .int y] σ (RI (far x y) σ) := by
  refine CM.of [(0, .int x), (1, .int y)] rfl (by decide +kernel) rfl (Nat.le_of_ble_eq_true rfl) ?_
  refine WE.iload_n (n := 1) dX6_far_0 rfl rfl ?_
  refine WE.bipush (n := 3) (nI 20) dX6_far_1 rfl (by decide) ?_
  refine WE.isub (n := 4) dX6_far_3 rfl ?_
  refine WE.mabs (n := 7) dX6_far_4 rfl ml_X6_62 ⟨by decide, Nat.le_of_ble_eq_true rfl, by decide, by decide⟩ ?_
  refine WE.iload_n (n := 8) dX6_far_7 rfl rfl ?_
  refine WE.bipush (n := 10) (nI 20) dX6_far_8 rfl (by decide) ?_
  refine WE.isub (n := 11) dX6_far_10 rfl ?_
  refine WE.mabs (n := 14) dX6_far_11 rfl ml_X6_62 ⟨by decide, Nat.le_of_ble_eq_true rfl, by decide, by decide⟩ ?_
  refine WE.mmax (n := 17) dX6_far_14 rfl ml_X6_67 ⟨by decide, Nat.le_of_ble_eq_true rfl, by decide, by decide⟩ ?_
  refine WE.iret (ty := .int) dX6_far_17 rfl rfl ⟨by decide, by decide⟩ ?_
  exact RI.mk rfl rfl
set_option maxRecDepth 20000 in
set_option maxHeartbeats 1000000 in
theorem c_distanceFromTown (x y : Int32) (σ : SS) : CM mX5_distanceFromTown [.int x, .int y] σ (RI (far x y) σ) := by
  refine CM.of [(0, .int x), (1, .int y)] rfl (by decide +kernel) rfl (Nat.le_of_ble_eq_true rfl) ?_
  refine WE.iload_n (n := 1) dX5_distanceFromTown_0 rfl rfl ?_
  refine WE.bipush (n := 3) (nI 20) dX5_distanceFromTown_1 rfl (by decide) ?_
  refine WE.isub (n := 4) dX5_distanceFromTown_3 rfl ?_
  refine WE.mabs (n := 7) dX5_distanceFromTown_4 rfl ml_X5_313 ⟨by decide, Nat.le_of_ble_eq_true rfl, by decide, by decide⟩ ?_
  refine WE.iload_n (n := 8) dX5_distanceFromTown_7 rfl rfl ?_
  refine WE.bipush (n := 10) (nI 20) dX5_distanceFromTown_8 rfl (by decide) ?_
  refine WE.isub (n := 11) dX5_distanceFromTown_10 rfl ?_
  refine WE.mabs (n := 14) dX5_distanceFromTown_11 rfl ml_X5_313 ⟨by decide, Nat.le_of_ble_eq_true rfl, by decide, by decide⟩ ?_
  refine WE.mmax (n := 17) dX5_distanceFromTown_14 rfl ml_X5_318 ⟨by decide, Nat.le_of_ble_eq_true rfl, by decide, by decide⟩ ?_
  refine WE.iret (ty := .int) dX5_distanceFromTown_17 rfl rfl ⟨by decide, by decide⟩ ?_
  exact RI.mk rfl rfl
set_option maxRecDepth 20000 in
set_option maxHeartbeats 1000000 in
theorem m_farOf (c : CC) (od : Int64 × UInt64) (b : Nat) (h : b < 6) : CM mX6_farOf [.ref 395, .int (nI b)] (c, od) (RI (far (c 396 (22 + 11 * b + 6)) (c 396 (22 + 11 * b + 7))) (c, od)) := by
  refine CM.of [(0, .ref 395), (1, .int (nI b))] rfl (by decide +kernel) rfl (Nat.le_of_ble_eq_true rfl) ?_
  refine WE.aload_n (n := 1) dX6_farOf_0 rfl rfl ?_
  refine WE.iload_n (n := 2) dX6_farOf_1 rfl rfl ?_
  refine WE.bipush (n := 4) (nI 6) dX6_farOf_2 rfl (by decide) ?_
  refine WE.V2I (M' := mX6_of) (n := 7) dX6_farOf_4 rfl cv_X6_71 (by first | decide | exact kd_bal (by assumption) | exact kd_let (by assumption) | assumption) ⟨⟨by decide, by decide⟩, by decide, by decide⟩ (Nat.le_of_ble_eq_true rfl) (m_of _ _ b 6 (by omega)) ?_
  refine WE.aload_n (n := 8) dX6_farOf_7 rfl rfl ?_
  refine WE.iload_n (n := 9) dX6_farOf_8 rfl rfl ?_
  refine WE.bipush (n := 11) (nI 7) dX6_farOf_9 rfl (by decide) ?_
  refine WE.V2I (M' := mX6_of) (n := 14) dX6_farOf_11 rfl cv_X6_71 (by first | decide | exact kd_bal (by assumption) | exact kd_let (by assumption) | assumption) ⟨⟨by decide, by decide⟩, by decide, by decide⟩ (Nat.le_of_ble_eq_true rfl) (m_of _ _ b 7 (by omega)) ?_
  refine WE.S2I (M' := mX6_far) (n := 17) dX6_farOf_14 rfl cv_X6_74  ⟨⟨by decide, by decide⟩, by decide, by decide⟩ (Nat.le_of_ble_eq_true rfl) (m_far _ _ _) ?_
  refine WE.iret (ty := .int) dX6_farOf_17 rfl rfl ⟨by decide, by decide⟩ ?_
  exact RI.mk rfl rfl
/-- the sheets of the first n letters that balloon b has -/
def shN (N : NA) (b : Int32) : Nat → Int32
  | 0 => nI 0
  | n + 1 => if 0 < N (88 + 4 * n + 2) ∧ N (88 + 4 * n + 3) = b then shN N b n + N (88 + 4 * n) else shN N b n
set_option maxRecDepth 20000 in
set_option maxHeartbeats 1000000 in
theorem m_sheets (c : CC) (od : Int64 × UInt64) (b : Int32) (nl : Nat) (hl : nl ≤ 24) (hc : c 396 4 = nI nl) : CM mX6_sheets [.ref 395, .int b] (c, od) (RI (shN (c 396) b nl) (c, od)) := by
  refine CM.of [(0, .ref 395), (1, .int b)] rfl (by decide +kernel) rfl (Nat.le_of_ble_eq_true rfl) ?_
  refine WE.iconst (n := 1) (nI 0) dX6_sheets_0 rfl (by decide) ?_
  refine WE.istore_n (n := 2) dX6_sheets_1 rfl (by decide) ?_
  refine WE.iconst (n := 3) (nI 0) dX6_sheets_2 rfl (by decide) ?_
  refine WE.istore_n (n := 4) dX6_sheets_3 rfl (by decide) ?_
  suffices H : ∀ n i : Nat, i ≤ nl → nl < i + n → WE mX6_sheets 4 [(0, .ref 395), (1, .int b), (2, .int (shN (c 396) b i)), (3, .int (nI i))] [] (c, od) 0 0 (GQ mX6_sheets (RI (shN (c 396) b nl) (c, od))) from WE.ofA (L' := [(0, .ref 395), (1, .int b), (2, .int (shN (c 396) b 0)), (3, .int (nI 0))]) ⟨rfl, rfl, rfl, rfl, trivial⟩ (H (nl + 1) 0 (Nat.zero_le _) (by omega))
  intro n
  induction n with
  | zero =>
    intro i h1 h2
    exact absurd h2 (by omega)
  | succ n ih =>
    intro i hi hn
    refine WE.iload_n (n := 5) dX6_sheets_4 rfl rfl ?_
    refine WE.aload_n (n := 6) dX6_sheets_5 rfl rfl ?_
    refine WE.getR (n := 9) dX6_sheets_6 rfl fl_X6_9 ⟨by decide, by decide⟩ rfl (by first | decide | exact kd_bal (by assumption) | exact kd_let (by assumption) | assumption) ?_
    refine WE.iconst (n := 10) (nI 4) dX6_sheets_9 rfl (by decide) ?_
    refine WE.iald (n := 11) 4 dX6_sheets_10 rfl (by first | decide | assumption) rfl (by show _ < 184; omega) ?_
    refine WE.icmp_ge (n := 14) (tgt := 67) dX6_sheets_11 rfl (by decide) (fun h11 => ?_) (fun h11 => ?_)
    · skip
      rw [hc] at h11
      have hx : i = nl := by have := ge_t (by omega) (by omega) h11; omega
      subst hx
      refine WE.iload_n (n := 68) dX6_sheets_67 rfl rfl ?_
      refine WE.iret (ty := .int) dX6_sheets_68 rfl rfl ⟨by decide, by decide⟩ ?_
      exact RI.mk rfl rfl
    · skip
      rw [hc] at h11
      have hlt : i < nl := ge_f (by omega) (by omega) h11
      refine WE.aload_n (n := 15) dX6_sheets_14 rfl rfl ?_
      refine WE.getR (n := 18) dX6_sheets_15 rfl fl_X6_9 ⟨by decide, by decide⟩ rfl (by first | decide | exact kd_bal (by assumption) | exact kd_let (by assumption) | assumption) ?_
      refine WE.bipush (n := 20) (nI 88) dX6_sheets_18 rfl (by decide) ?_
      refine WE.iconst (n := 21) (nI 4) dX6_sheets_20 rfl (by decide) ?_
      refine WE.iload_n (n := 22) dX6_sheets_21 rfl rfl ?_
      refine WE.imul (n := 23) dX6_sheets_22 rfl ?_
      refine WE.iadd (n := 24) dX6_sheets_23 rfl ?_
      refine WE.iconst (n := 25) (nI 2) dX6_sheets_24 rfl (by decide) ?_
      refine WE.iadd (n := 26) dX6_sheets_25 rfl ?_
      refine WE.iald (n := 27) (88 + 4 * i + 2) dX6_sheets_26 rfl (by first | decide | assumption) (by first | rfl | simp only [pk_mul, nI_add]) (by show _ < 184; omega) ?_
      refine WE.if_le (n := 30) (tgt := 61) dX6_sheets_27 rfl (by decide) (fun h27 => ?_) (fun h27 => ?_)
      · skip
        refine WE.iincV (n := 64) (nI (i + 1)) dX6_sheets_61 rfl rfl (by decide) (nI_inc i) ?_
        refine WE.goto (tgt := 4) dX6_sheets_64 (by decide) ?_
        refine WE.ofA (L' := [(0, .ref 395), (1, .int b), (2, .int (shN (c 396) b (i + 1))), (3, .int (nI (i + 1)))]) ⟨rfl, rfl, ?_, rfl, trivial⟩ (ih (i + 1) (by omega) (by omega))
        show some (Value.int _) = some (Value.int (shN (c 396) b (i + 1)))
        simp only [shN]
        first | rw [if_pos ⟨by simpa using h27, by simpa using h44⟩] | rw [if_neg (fun q => by first | exact h27 (by simpa using q.1) | exact absurd q.1 (by simpa using h27) | exact h44 (by simpa using q.2) | exact absurd q.2 (by simpa using h44))]
      · skip
        refine WE.aload_n (n := 31) dX6_sheets_30 rfl rfl ?_
        refine WE.getR (n := 34) dX6_sheets_31 rfl fl_X6_9 ⟨by decide, by decide⟩ rfl (by first | decide | exact kd_bal (by assumption) | exact kd_let (by assumption) | assumption) ?_
        refine WE.bipush (n := 36) (nI 88) dX6_sheets_34 rfl (by decide) ?_
        refine WE.iconst (n := 37) (nI 4) dX6_sheets_36 rfl (by decide) ?_
        refine WE.iload_n (n := 38) dX6_sheets_37 rfl rfl ?_
        refine WE.imul (n := 39) dX6_sheets_38 rfl ?_
        refine WE.iadd (n := 40) dX6_sheets_39 rfl ?_
        refine WE.iconst (n := 41) (nI 3) dX6_sheets_40 rfl (by decide) ?_
        refine WE.iadd (n := 42) dX6_sheets_41 rfl ?_
        refine WE.iald (n := 43) (88 + 4 * i + 3) dX6_sheets_42 rfl (by first | decide | assumption) (by first | rfl | simp only [pk_mul, nI_add]) (by show _ < 184; omega) ?_
        refine WE.iload_n (n := 44) dX6_sheets_43 rfl rfl ?_
        refine WE.icmp_ne (n := 47) (tgt := 61) dX6_sheets_44 rfl (by decide) (fun h44 => ?_) (fun h44 => ?_)
        · skip
          refine WE.iincV (n := 64) (nI (i + 1)) dX6_sheets_61 rfl rfl (by decide) (nI_inc i) ?_
          refine WE.goto (tgt := 4) dX6_sheets_64 (by decide) ?_
          refine WE.ofA (L' := [(0, .ref 395), (1, .int b), (2, .int (shN (c 396) b (i + 1))), (3, .int (nI (i + 1)))]) ⟨rfl, rfl, ?_, rfl, trivial⟩ (ih (i + 1) (by omega) (by omega))
          show some (Value.int _) = some (Value.int (shN (c 396) b (i + 1)))
          simp only [shN]
          first | rw [if_pos ⟨by simpa using h27, by simpa using h44⟩] | rw [if_neg (fun q => by first | exact h27 (by simpa using q.1) | exact absurd q.1 (by simpa using h27) | exact h44 (by simpa using q.2) | exact absurd q.2 (by simpa using h44))]
        · skip
          refine WE.iload_n (n := 48) dX6_sheets_47 rfl rfl ?_
          refine WE.aload_n (n := 49) dX6_sheets_48 rfl rfl ?_
          refine WE.getR (n := 52) dX6_sheets_49 rfl fl_X6_9 ⟨by decide, by decide⟩ rfl (by first | decide | exact kd_bal (by assumption) | exact kd_let (by assumption) | assumption) ?_
          refine WE.bipush (n := 54) (nI 88) dX6_sheets_52 rfl (by decide) ?_
          refine WE.iconst (n := 55) (nI 4) dX6_sheets_54 rfl (by decide) ?_
          refine WE.iload_n (n := 56) dX6_sheets_55 rfl rfl ?_
          refine WE.imul (n := 57) dX6_sheets_56 rfl ?_
          refine WE.iadd (n := 58) dX6_sheets_57 rfl ?_
          refine WE.iald (n := 59) (88 + 4 * i) dX6_sheets_58 rfl (by first | decide | assumption) (by first | rfl | simp only [pk_mul, nI_add]) (by show _ < 184; omega) ?_
          refine WE.iadd (n := 60) dX6_sheets_59 rfl ?_
          refine WE.istore_n (n := 61) dX6_sheets_60 rfl (by decide) ?_
          refine WE.iincV (n := 64) (nI (i + 1)) dX6_sheets_61 rfl rfl (by decide) (nI_inc i) ?_
          refine WE.goto (tgt := 4) dX6_sheets_64 (by decide) ?_
          refine WE.ofA (L' := [(0, .ref 395), (1, .int b), (2, .int (shN (c 396) b (i + 1))), (3, .int (nI (i + 1)))]) ⟨rfl, rfl, ?_, rfl, trivial⟩ (ih (i + 1) (by omega) (by omega))
          show some (Value.int _) = some (Value.int (shN (c 396) b (i + 1)))
          simp only [shN]
          first | rw [if_pos ⟨by simpa using h27, by simpa using h44⟩] | rw [if_neg (fun q => by first | exact h27 (by simpa using q.1) | exact absurd q.1 (by simpa using h27) | exact h44 (by simpa using q.2) | exact absurd q.2 (by simpa using h44))]
def wgN (N : NA) (j nl : Nat) : Int32 := (N (22 + 11 * j + 0) + nI 9) / nI 10 + N (22 + 11 * j + 2) + N (22 + 11 * j + 4) + (shN N (nI j) nl + nI 2) / nI 3
def beN (N : NA) (j nl : Nat) : Int32 := N (22 + 11 * j + 1) - wgN N j nl
set_option maxRecDepth 20000 in
set_option maxHeartbeats 1000000 in
theorem m_weight (c : CC) (od : Int64 × UInt64) (b : Nat) (h : b < 6) (nl : Nat) (hl : nl ≤ 24) (hc : c 396 4 = nI nl) : CM mX6_weight [.ref 395, .int (nI b)] (c, od) (RI (wgN (c 396) b nl) (c, od)) := by
  refine CM.of [(0, .ref 395), (1, .int (nI b))] rfl (by decide +kernel) rfl (Nat.le_of_ble_eq_true rfl) ?_
  refine WE.aload_n (n := 1) dX6_weight_0 rfl rfl ?_
  refine WE.iload_n (n := 2) dX6_weight_1 rfl rfl ?_
  refine WE.iconst (n := 3) (nI 0) dX6_weight_2 rfl (by decide) ?_
  refine WE.V2I (M' := mX6_of) (n := 6) dX6_weight_3 rfl cv_X6_71 (by first | decide | exact kd_bal (by assumption) | exact kd_let (by assumption) | assumption) ⟨⟨by decide, by decide⟩, by decide, by decide⟩ (Nat.le_of_ble_eq_true rfl) (m_of _ _ b 0 (by omega)) ?_
  refine WE.bipush (n := 8) (nI 9) dX6_weight_6 rfl (by decide) ?_
  refine WE.iadd (n := 9) dX6_weight_8 rfl ?_
  refine WE.bipush (n := 11) (nI 10) dX6_weight_9 rfl (by decide) ?_
  refine WE.idiv (n := 12) dX6_weight_11 rfl (by decide) ?_
  refine WE.aload_n (n := 13) dX6_weight_12 rfl rfl ?_
  refine WE.iload_n (n := 14) dX6_weight_13 rfl rfl ?_
  refine WE.iconst (n := 15) (nI 2) dX6_weight_14 rfl (by decide) ?_
  refine WE.V2I (M' := mX6_of) (n := 18) dX6_weight_15 rfl cv_X6_71 (by first | decide | exact kd_bal (by assumption) | exact kd_let (by assumption) | assumption) ⟨⟨by decide, by decide⟩, by decide, by decide⟩ (Nat.le_of_ble_eq_true rfl) (m_of _ _ b 2 (by omega)) ?_
  refine WE.iadd (n := 19) dX6_weight_18 rfl ?_
  refine WE.aload_n (n := 20) dX6_weight_19 rfl rfl ?_
  refine WE.iload_n (n := 21) dX6_weight_20 rfl rfl ?_
  refine WE.iconst (n := 22) (nI 4) dX6_weight_21 rfl (by decide) ?_
  refine WE.V2I (M' := mX6_of) (n := 25) dX6_weight_22 rfl cv_X6_71 (by first | decide | exact kd_bal (by assumption) | exact kd_let (by assumption) | assumption) ⟨⟨by decide, by decide⟩, by decide, by decide⟩ (Nat.le_of_ble_eq_true rfl) (m_of _ _ b 4 (by omega)) ?_
  refine WE.iadd (n := 26) dX6_weight_25 rfl ?_
  refine WE.aload_n (n := 27) dX6_weight_26 rfl rfl ?_
  refine WE.iload_n (n := 28) dX6_weight_27 rfl rfl ?_
  refine WE.V1I (M' := mX6_sheets) (n := 31) dX6_weight_28 rfl cv_X6_77 (by first | decide | exact kd_bal (by assumption) | exact kd_let (by assumption) | assumption) ⟨⟨by decide, by decide⟩, by decide, by decide⟩ (Nat.le_of_ble_eq_true rfl) (m_sheets _ _ _ nl hl hc) ?_
  refine WE.iconst (n := 32) (nI 2) dX6_weight_31 rfl (by decide) ?_
  refine WE.iadd (n := 33) dX6_weight_32 rfl ?_
  refine WE.iconst (n := 34) (nI 3) dX6_weight_33 rfl (by decide) ?_
  refine WE.idiv (n := 35) dX6_weight_34 rfl (by decide) ?_
  refine WE.iadd (n := 36) dX6_weight_35 rfl ?_
  refine WE.iret (ty := .int) dX6_weight_36 rfl rfl ⟨by decide, by decide⟩ ?_
  exact RI.mk rfl rfl
set_option maxRecDepth 20000 in
set_option maxHeartbeats 1000000 in
theorem m_bears (c : CC) (od : Int64 × UInt64) (b : Nat) (h : b < 6) (nl : Nat) (hl : nl ≤ 24) (hc : c 396 4 = nI nl) : CM mX6_bears [.ref 395, .int (nI b)] (c, od) (RI (beN (c 396) b nl) (c, od)) := by
  refine CM.of [(0, .ref 395), (1, .int (nI b))] rfl (by decide +kernel) rfl (Nat.le_of_ble_eq_true rfl) ?_
  refine WE.aload_n (n := 1) dX6_bears_0 rfl rfl ?_
  refine WE.iload_n (n := 2) dX6_bears_1 rfl rfl ?_
  refine WE.iconst (n := 3) (nI 1) dX6_bears_2 rfl (by decide) ?_
  refine WE.V2I (M' := mX6_of) (n := 6) dX6_bears_3 rfl cv_X6_71 (by first | decide | exact kd_bal (by assumption) | exact kd_let (by assumption) | assumption) ⟨⟨by decide, by decide⟩, by decide, by decide⟩ (Nat.le_of_ble_eq_true rfl) (m_of _ _ b 1 (by omega)) ?_
  refine WE.aload_n (n := 7) dX6_bears_6 rfl rfl ?_
  refine WE.iload_n (n := 8) dX6_bears_7 rfl rfl ?_
  refine WE.V1I (M' := mX6_weight) (n := 11) dX6_bears_8 rfl cv_X6_80 (by first | decide | exact kd_bal (by assumption) | exact kd_let (by assumption) | assumption) ⟨⟨by decide, by decide⟩, by decide, by decide⟩ (Nat.le_of_ble_eq_true rfl) (m_weight _ _ b h nl hl hc) ?_
  refine WE.isub (n := 12) dX6_bears_11 rfl ?_
  refine WE.iret (ty := .int) dX6_bears_12 rfl rfl ⟨by decide, by decide⟩ ?_
  exact RI.mk rfl rfl
