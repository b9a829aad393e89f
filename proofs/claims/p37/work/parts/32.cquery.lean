/-- what holds of the numbers at every place -/
def lst (x : Int32) : Int32 := if x = nI 2 then nI 2 else if x = nI 3 then nI 3 else nI 1
def LtS (N : NA) (l : Nat) : Prop := (N (88 + 4 * l + 2) = 0 ∧ N (88 + 4 * l + 3) = (-1 : Int32)) ∨ ∃ j, j < nbN N ∧ N (88 + 4 * l + 3) = nI j ∧ N (88 + 4 * l + 2) = lst (N (22 + 11 * j + 5))
def IB (N : NA) (j : Nat) : Prop := (∃ s f : Nat, 10 ≤ s ∧ s ≤ 99 ∧ f ≤ s ∧ N (22 + 11 * j + 0) = nI s ∧ N (22 + 11 * j + 1) = nI f) ∧ (∃ a : Nat, a ≤ 50 ∧ N (22 + 11 * j + 2) = nI a) ∧ (∃ k w : Nat, k ≤ 2 ∧ w ≤ 12 * k ∧ N (22 + 11 * j + 3) = nI k ∧ N (22 + 11 * j + 4) = nI w) ∧ ∃ t : Nat, t ≤ 3 ∧ N (22 + 11 * j + 5) = nI t
def IL (N : NA) (l : Nat) : Prop := (∃ s : Nat, 1 ≤ s ∧ s ≤ 9 ∧ N (88 + 4 * l) = nI s) ∧ (∃ r : Nat, r ≤ 2 ∧ N (88 + 4 * l + 1) = nI r) ∧ LtS N l
def heN (N : NA) : Nat → Int32
  | 0 => nI 0
  | n + 1 => if N (22 + 11 * n + 5) = 0 ∨ N (22 + 11 * n + 5) = nI 1 then heN N n + N (22 + 11 * n + 2) else heN N n
def diN (N : NA) : Nat → Int32
  | 0 => nI 0
  | n + 1 => if N (22 + 11 * n + 5) = nI 2 then diN N n + far (N (22 + 11 * n + 6)) (N (22 + 11 * n + 7)) else diN N n
def IN (N : NA) : Prop := CN N ∧ (∃ r : Nat, 1 ≤ r ∧ r ≤ 15 ∧ N 1 = nI r) ∧ (∃ g : Nat, g ≤ 9999 ∧ N 2 = nI g) ∧ (∀ h, h < 6 → ((-3 : Int32) ≤ N (10 + 2 * h) ∧ N (10 + 2 * h) ≤ nI 3) ∧ ((-3 : Int32) ≤ N (10 + 2 * h + 1) ∧ N (10 + 2 * h + 1) ≤ nI 3)) ∧ (∀ j, j < nbN N → IB N j) ∧ (∀ l, l < nlN N → IL N l) ∧ N 5 = N 6 + N 7 + N 8 + heN N (nbN N)
theorem IN.cn {N : NA} (h : IN N) : CN N := h.1
theorem IN.b {N : NA} (h : IN N) {j : Nat} (hj : j < nbN N) : IB N j := h.2.2.2.2.1 j hj
theorem IN.l {N : NA} (h : IN N) {l : Nat} (hl : l < nlN N) : IL N l := h.2.2.2.2.2.1 l hl
theorem lst_ne (x : Int32) : lst x ≠ 0 ∧ 0 < lst x := by
  unfold lst
  split
  · decide
  · split
    · decide
    · decide
theorem nI_neg1 {j : Nat} (h : j < 2 ^ 31) : ¬ nI j = (-1 : Int32) := fun q => absurd (nI_pos' h) (by rw [q]; decide)
theorem LtS.f {N : NA} {l : Nat} (hC : CN N) (h : LtS N l) : LF N l := by
  rcases h with ⟨h1, h2⟩ | ⟨j, hj, h1, h2⟩
  · exact ⟨fun _ => h2, fun _ => h1⟩
  · have := hC.1
    exact ⟨fun q => absurd (h2.symm.trans q) (lst_ne _).1, fun q => absurd (h1.symm.trans q) (nI_neg1 (by omega))⟩
theorem LtS.on {N : NA} {l j : Nat} (hC : CN N) (hj : j < 6) (h : LtS N l) : (0 < N (88 + 4 * l + 2) ∧ N (88 + 4 * l + 3) = nI j) ↔ N (88 + 4 * l + 3) = nI j := by
  refine ⟨fun q => q.2, fun q => ⟨?_, q⟩⟩
  rcases h with ⟨h1, h2⟩ | ⟨j, hj, h1, h2⟩
  · exact absurd (q.symm.trans h2) (nI_neg1 (by omega))
  · rw [h2]
    exact (lst_ne _).2
set_option maxRecDepth 20000 in
set_option maxHeartbeats 1000000 in
theorem c_letterState (c : CC) (od : Int64 × UInt64) (N : NA) (hR : RelT c 1 N) (hI : IN N) (l : Nat) (hl : l < nlN N) : CM mX4_letterState [.ref 1, .int (nI l)] (c, od) (RI (N (88 + 4 * l + 2)) (c, od)) := by
  refine CM.of [(0, .ref 1), (1, .int (nI l))] rfl (by decide +kernel) rfl (Nat.le_of_ble_eq_true rfl) ?_
  have hC := hI.cn
  have hn6 := hC.1
  have hl24 : l < 24 := by have := hC.2.2.1; omega
  have gl := hR.l hl
  have hS := (hI.l hl).2.2
  refine WE.aload_n (n := 1) dX4_letterState_0 rfl rfl ?_
  refine WE.getR (n := 4) dX4_letterState_1 rfl fl_X4_26 ⟨by decide, by decide⟩ rfl (by first | decide | exact kd_bal (by omega) | exact kd_let (by omega) | assumption) ?_
  refine WE.iload_n (n := 5) dX4_letterState_4 rfl rfl ?_
  refine WE.aald (n := 6) 13 l dX4_letterState_5 rfl (by first | decide | assumption) (by decide) rfl (by show _ < 24; omega) rfl ?_
  refine WE.getI (n := 9) dX4_letterState_6 rfl fl_X4_121 ⟨by decide, by decide, rfl⟩ (by first | decide | exact kd_bal (by omega) | exact kd_let (by omega) | assumption) ?_
  refine WE.istore_n (n := 10) dX4_letterState_9 rfl (by decide) ?_
  refine WE.aload_n (n := 11) dX4_letterState_10 rfl rfl ?_
  refine WE.iload_n (n := 12) dX4_letterState_11 rfl rfl ?_
  refine WE.V1I (M' := mX4_hasBalloon) (n := 15) dX4_letterState_12 rfl cv_X4_95 (by first | decide | exact kd_bal (by omega) | exact kd_let (by omega) | assumption) ⟨⟨by decide, by decide⟩, by decide, by decide⟩ (Nat.le_of_ble_eq_true rfl) (c_hasB _ _ _ (nbN N) (by have := hC.1; omega) ((hR.s (4, 3) (by decide)).trans hC.2.1)) ?_
  refine WE.if_neB (n := 18) (tgt := 20) dX4_letterState_15 rfl (by decide) (fun h15 => ?_) (fun h15 => ?_)
  · skip
    rw [gl.2.2] at h15
    rcases hS with ⟨e1, e2⟩ | ⟨j, hj, e1, e2⟩
    · rw [e2] at h15
      exact absurd h15.1 (by decide)
    · have e7 : c (6 + j) 7 = N (22 + 11 * j + 5) := hR.b hj (7, 5) (by decide)
      obtain ⟨t, ht, et⟩ := (hI.b hj).2.2.2
      rw [et] at e2 e7
      refine WE.aload_n (n := 21) dX4_letterState_20 rfl rfl ?_
      refine WE.getR (n := 24) dX4_letterState_21 rfl fl_X4_20 ⟨by decide, by decide⟩ rfl (by first | decide | exact kd_bal (by omega) | exact kd_let (by omega) | assumption) ?_
      refine WE.iload_n (n := 25) dX4_letterState_24 rfl rfl ?_
      refine WE.aald (n := 26) 12 j dX4_letterState_25 rfl (by first | decide | assumption) (by decide) (by rw [gl.2.2, e1]) (by show _ < 6; omega) rfl ?_
      refine WE.getI (n := 29) dX4_letterState_26 rfl fl_X4_99 ⟨by decide, by decide, rfl⟩ (by first | decide | exact kd_bal (by omega) | exact kd_let (by omega) | assumption) ?_
      rw [e7]
      rcases (show t = 0 ∨ t = 1 ∨ t = 2 ∨ t = 3 by omega) with rfl | rfl | rfl | rfl
      · refine WE.lsw (off := 31) (tgt := 60) dX4_letterState_29 (by decide) (by decide) (by decide) ?_
        refine WE.iconst (n := 61) (nI 1) dX4_letterState_60 rfl (by decide) ?_
        refine WE.iret (ty := .int) dX4_letterState_61 rfl rfl ⟨by decide, by decide⟩ ?_
        exact RI.mk (by rw [e2]; decide) rfl
      · refine WE.lsw (off := 31) (tgt := 60) dX4_letterState_29 (by decide) (by decide) (by decide) ?_
        refine WE.iconst (n := 61) (nI 1) dX4_letterState_60 rfl (by decide) ?_
        refine WE.iret (ty := .int) dX4_letterState_61 rfl rfl ⟨by decide, by decide⟩ ?_
        exact RI.mk (by rw [e2]; decide) rfl
      · refine WE.lsw (off := 27) (tgt := 56) dX4_letterState_29 (by decide) (by decide) (by decide) ?_
        refine WE.iconst (n := 57) (nI 2) dX4_letterState_56 rfl (by decide) ?_
        refine WE.iret (ty := .int) dX4_letterState_57 rfl rfl ⟨by decide, by decide⟩ ?_
        exact RI.mk (by rw [e2]; decide) rfl
      · refine WE.lsw (off := 29) (tgt := 58) dX4_letterState_29 (by decide) (by decide) (by decide) ?_
        refine WE.iconst (n := 59) (nI 3) dX4_letterState_58 rfl (by decide) ?_
        refine WE.iret (ty := .int) dX4_letterState_59 rfl rfl ⟨by decide, by decide⟩ ?_
        exact RI.mk (by rw [e2]; decide) rfl
  · skip
    rw [gl.2.2] at h15
    have e0 : N (88 + 4 * l + 2) = 0 := by
      rcases hS with ⟨e1, e2⟩ | ⟨j, hj, e1, e2⟩
      · exact e1
      · refine absurd ?_ h15
        rw [e1, show nI (nbN N) - nI 1 = nI (nbN N - 1) from pk_sub (by omega)]
        exact ⟨nI_pos' (by omega), nI_le (by omega) (by omega)⟩
    refine WE.iconst (n := 19) (nI 0) dX4_letterState_18 rfl (by decide) ?_
    refine WE.iret (ty := .int) dX4_letterState_19 rfl rfl ⟨by decide, by decide⟩ ?_
    exact RI.mk e0.symm rfl
set_option maxRecDepth 20000 in
set_option maxHeartbeats 1000000 in
theorem c_letterNumber (c : CC) (od : Int64 × UInt64) (N : NA) (hR : RelT c 1 N) (hI : IN N) (l : Nat) (hl : l < nlN N) (k : Nat) (hk : k < 4) : CM mX4_letterNumber [.ref 1, .int (nI l), .int (nI k)] (c, od) (RI (N (88 + 4 * l + k)) (c, od)) := by
  refine CM.of [(0, .ref 1), (1, .int (nI l)), (2, .int (nI k))] rfl (by decide +kernel) rfl (Nat.le_of_ble_eq_true rfl) ?_
  have hl24 : l < 24 := by have := hI.cn.2.2.1; omega
  have gl := hR.l hl
  refine WE.iload_n (n := 1) dX4_letterNumber_0 rfl rfl ?_
  rcases (show k = 0 ∨ k = 1 ∨ k = 2 ∨ k = 3 by omega) with rfl | rfl | rfl | rfl
  · refine WE.tsw (tgt := 28) dX4_letterNumber_1 0 (by decide) (by decide) (by decide) rfl (by decide) ?_
    refine WE.aload_n (n := 29) dX4_letterNumber_28 rfl rfl ?_
    refine WE.getR (n := 32) dX4_letterNumber_29 rfl fl_X4_26 ⟨by decide, by decide⟩ rfl (by first | decide | exact kd_bal (by omega) | exact kd_let (by omega) | assumption) ?_
    refine WE.iload_n (n := 33) dX4_letterNumber_32 rfl rfl ?_
    refine WE.aald (n := 34) 13 l dX4_letterNumber_33 rfl (by first | decide | assumption) (by decide) rfl (by show _ < 24; omega) rfl ?_
    refine WE.getI (n := 37) dX4_letterNumber_34 rfl fl_X4_112 ⟨by decide, by decide, rfl⟩ (by first | decide | exact kd_bal (by omega) | exact kd_let (by omega) | assumption) ?_
    refine WE.iret (ty := .int) dX4_letterNumber_37 rfl rfl ⟨by decide, by decide⟩ ?_
    exact RI.mk gl.1 rfl
  · refine WE.tsw (tgt := 38) dX4_letterNumber_1 1 (by decide) (by decide) (by decide) rfl (by decide) ?_
    refine WE.aload_n (n := 39) dX4_letterNumber_38 rfl rfl ?_
    refine WE.getR (n := 42) dX4_letterNumber_39 rfl fl_X4_26 ⟨by decide, by decide⟩ rfl (by first | decide | exact kd_bal (by omega) | exact kd_let (by omega) | assumption) ?_
    refine WE.iload_n (n := 43) dX4_letterNumber_42 rfl rfl ?_
    refine WE.aald (n := 44) 13 l dX4_letterNumber_43 rfl (by first | decide | assumption) (by decide) rfl (by show _ < 24; omega) rfl ?_
    refine WE.getI (n := 47) dX4_letterNumber_44 rfl fl_X4_115 ⟨by decide, by decide, rfl⟩ (by first | decide | exact kd_bal (by omega) | exact kd_let (by omega) | assumption) ?_
    refine WE.iret (ty := .int) dX4_letterNumber_47 rfl rfl ⟨by decide, by decide⟩ ?_
    exact RI.mk gl.2.1 rfl
  · refine WE.tsw (tgt := 48) dX4_letterNumber_1 2 (by decide) (by decide) (by decide) rfl (by decide) ?_
    refine WE.aload_n (n := 49) dX4_letterNumber_48 rfl rfl ?_
    refine WE.iload_n (n := 50) dX4_letterNumber_49 rfl rfl ?_
    refine WE.V1I (M' := mX4_letterState) (n := 53) dX4_letterNumber_50 rfl cv_X4_159 (by first | decide | exact kd_bal (by omega) | exact kd_let (by omega) | assumption) ⟨⟨by decide, by decide⟩, by decide, by decide⟩ (Nat.le_of_ble_eq_true rfl) (c_letterState c od N hR hI l hl) ?_
    refine WE.iret (ty := .int) dX4_letterNumber_53 rfl rfl ⟨by decide, by decide⟩ ?_
    exact RI.mk rfl rfl
  · refine WE.tswO (tgt := 54) dX4_letterNumber_1 (Or.inr (by decide)) (by decide) ?_
    refine WE.aload_n (n := 55) dX4_letterNumber_54 rfl rfl ?_
    refine WE.getR (n := 58) dX4_letterNumber_55 rfl fl_X4_26 ⟨by decide, by decide⟩ rfl (by first | decide | exact kd_bal (by omega) | exact kd_let (by omega) | assumption) ?_
    refine WE.iload_n (n := 59) dX4_letterNumber_58 rfl rfl ?_
    refine WE.aald (n := 60) 13 l dX4_letterNumber_59 rfl (by first | decide | assumption) (by decide) rfl (by show _ < 24; omega) rfl ?_
    refine WE.getI (n := 63) dX4_letterNumber_60 rfl fl_X4_121 ⟨by decide, by decide, rfl⟩ (by first | decide | exact kd_bal (by omega) | exact kd_let (by omega) | assumption) ?_
    refine WE.iret (ty := .int) dX4_letterNumber_63 rfl rfl ⟨by decide, by decide⟩ ?_
    exact RI.mk gl.2.2 rfl
set_option maxRecDepth 20000 in
set_option maxHeartbeats 1000000 in
theorem c_balloonsIn (c : CC) (od : Int64 × UInt64) (N : NA) (hR : RelT c 1 N) (hC : CN N) (st : Int32) : CM mX4_balloonsIn [.ref 1, .int st] (c, od) (RI (ctL (fun n => N (22 + 11 * n + 5) = st) (nbN N)) (c, od)) := by
  refine CM.of [(0, .ref 1), (1, .int st)] rfl (by decide +kernel) rfl (Nat.le_of_ble_eq_true rfl) ?_
  have hn6 := hC.1
  have hn24 := hC.2.2.1
  have s4 : c 1 4 = nI (nbN N) := (hR.s (4, 3) (by decide)).trans hC.2.1
  have s5 : c 1 5 = nI (nlN N) := (hR.s (5, 4) (by decide)).trans hC.2.2.2
  refine WE.iconst (n := 1) (nI 0) dX4_balloonsIn_0 rfl (by decide) ?_
  refine WE.istore_n (n := 2) dX4_balloonsIn_1 rfl (by decide) ?_
  refine WE.iconst (n := 3) (nI 0) dX4_balloonsIn_2 rfl (by decide) ?_
  refine WE.istore_n (n := 4) dX4_balloonsIn_3 rfl (by decide) ?_
  suffices H : ∀ n i : Nat, i ≤ (nbN N) → (nbN N) < i + n → WE mX4_balloonsIn 4 [(0, .ref 1), (1, .int st), (2, .int (ctL (fun n => N (22 + 11 * n + 5) = st) i)), (3, .int (nI i))] [] (c, od) 0 0 (GQ mX4_balloonsIn (RI (ctL (fun n => N (22 + 11 * n + 5) = st) (nbN N)) (c, od))) from WE.ofA (L' := [(0, .ref 1), (1, .int st), (2, .int (ctL (fun n => N (22 + 11 * n + 5) = st) 0)), (3, .int (nI 0))]) ⟨rfl, rfl, rfl, rfl, trivial⟩ (H ((nbN N) + 1) 0 (Nat.zero_le _) (by omega))
  intro n
  induction n with
  | zero =>
    intro i h1 h2
    exact absurd h2 (by omega)
  | succ n ih =>
    intro i hi hn
    refine WE.iload_n (n := 5) dX4_balloonsIn_4 rfl rfl ?_
    refine WE.aload_n (n := 6) dX4_balloonsIn_5 rfl rfl ?_
    refine WE.getI (n := 9) dX4_balloonsIn_6 rfl fl_X4_46 ⟨by decide, by decide, rfl⟩ (by first | decide | exact kd_bal (by omega) | exact kd_let (by omega) | assumption) ?_
    refine WE.icmp_ge (n := 12) (tgt := 34) dX4_balloonsIn_9 rfl (by decide) (fun h9 => ?_) (fun h9 => ?_)
    · skip
      rw [s4] at h9
      have hx : i = (nbN N) := by have := ge_t (by omega) (by omega) h9; omega
      subst hx
      refine WE.iload_n (n := 35) dX4_balloonsIn_34 rfl rfl ?_
      refine WE.iret (ty := .int) dX4_balloonsIn_35 rfl rfl ⟨by decide, by decide⟩ ?_
      exact RI.mk rfl rfl
    · skip
      rw [s4] at h9
      have hlt : i < (nbN N) := ge_f (by omega) (by omega) h9
      refine WE.aload_n (n := 13) dX4_balloonsIn_12 rfl rfl ?_
      refine WE.getR (n := 16) dX4_balloonsIn_13 rfl fl_X4_20 ⟨by decide, by decide⟩ rfl (by first | decide | exact kd_bal (by omega) | exact kd_let (by omega) | assumption) ?_
      refine WE.iload_n (n := 17) dX4_balloonsIn_16 rfl rfl ?_
      refine WE.aald (n := 18) 12 i dX4_balloonsIn_17 rfl (by first | decide | assumption) (by decide) rfl (by show _ < 6; omega) rfl ?_
      refine WE.getI (n := 21) dX4_balloonsIn_18 rfl fl_X4_99 ⟨by decide, by decide, rfl⟩ (by first | decide | exact kd_bal (by omega) | exact kd_let (by omega) | assumption) ?_
      refine WE.iload_n (n := 22) dX4_balloonsIn_21 rfl rfl ?_
      refine WE.icmp_ne (n := 25) (tgt := 28) dX4_balloonsIn_22 rfl (by decide) (fun h22 => ?_) (fun h22 => ?_)
      · skip
        rw [(hR.b hlt (7, 5) (by decide) : c (6 + i) 7 = N (22 + 11 * i + 5))] at h22
        refine WE.iincV (n := 31) (nI (i + 1)) dX4_balloonsIn_28 rfl rfl (by decide) (nI_inc i) ?_
        refine WE.goto (tgt := 4) dX4_balloonsIn_31 (by decide) ?_
        refine WE.ofA (L' := [(0, .ref 1), (1, .int st), (2, .int (ctL (fun n => N (22 + 11 * n + 5) = st) (i + 1))), (3, .int (nI (i + 1)))]) ⟨rfl, rfl, ?_, rfl, trivial⟩ (ih (i + 1) (by omega) (by omega))
        show some (Value.int _) = some (Value.int (ctL (fun n => N (22 + 11 * n + 5) = st) (i + 1)))
        simp only [ctL, nI_inc1, h22, ↓reduceIte, and_self, and_true, true_and, and_false, false_and, not_true_eq_false, not_false_eq_true]
      · skip
        rw [(hR.b hlt (7, 5) (by decide) : c (6 + i) 7 = N (22 + 11 * i + 5))] at h22
        refine WE.iinc (n := 28) dX4_balloonsIn_25 rfl rfl (by decide) ?_
        refine WE.iincV (n := 31) (nI (i + 1)) dX4_balloonsIn_28 rfl rfl (by decide) (nI_inc i) ?_
        refine WE.goto (tgt := 4) dX4_balloonsIn_31 (by decide) ?_
        refine WE.ofA (L' := [(0, .ref 1), (1, .int st), (2, .int (ctL (fun n => N (22 + 11 * n + 5) = st) (i + 1))), (3, .int (nI (i + 1)))]) ⟨rfl, rfl, ?_, rfl, trivial⟩ (ih (i + 1) (by omega) (by omega))
        show some (Value.int _) = some (Value.int (ctL (fun n => N (22 + 11 * n + 5) = st) (i + 1)))
        simp only [ctL, nI_inc1, h22, ↓reduceIte, and_self, and_true, true_and, and_false, false_and, not_true_eq_false, not_false_eq_true]
set_option maxRecDepth 20000 in
set_option maxHeartbeats 1000000 in
theorem c_lettersIn (c : CC) (od : Int64 × UInt64) (N : NA) (hR : RelT c 1 N) (hI : IN N) (hC : CN N) (st : Int32) : CM mX4_lettersIn [.ref 1, .int st] (c, od) (RI (ctL (fun n => N (88 + 4 * n + 2) = st) (nlN N)) (c, od)) := by
  refine CM.of [(0, .ref 1), (1, .int st)] rfl (by decide +kernel) rfl (Nat.le_of_ble_eq_true rfl) ?_
  have hn6 := hC.1
  have hn24 := hC.2.2.1
  have s4 : c 1 4 = nI (nbN N) := (hR.s (4, 3) (by decide)).trans hC.2.1
  have s5 : c 1 5 = nI (nlN N) := (hR.s (5, 4) (by decide)).trans hC.2.2.2
  refine WE.iconst (n := 1) (nI 0) dX4_lettersIn_0 rfl (by decide) ?_
  refine WE.istore_n (n := 2) dX4_lettersIn_1 rfl (by decide) ?_
  refine WE.iconst (n := 3) (nI 0) dX4_lettersIn_2 rfl (by decide) ?_
  refine WE.istore_n (n := 4) dX4_lettersIn_3 rfl (by decide) ?_
  suffices H : ∀ n i : Nat, i ≤ (nlN N) → (nlN N) < i + n → WE mX4_lettersIn 4 [(0, .ref 1), (1, .int st), (2, .int (ctL (fun n => N (88 + 4 * n + 2) = st) i)), (3, .int (nI i))] [] (c, od) 0 0 (GQ mX4_lettersIn (RI (ctL (fun n => N (88 + 4 * n + 2) = st) (nlN N)) (c, od))) from WE.ofA (L' := [(0, .ref 1), (1, .int st), (2, .int (ctL (fun n => N (88 + 4 * n + 2) = st) 0)), (3, .int (nI 0))]) ⟨rfl, rfl, rfl, rfl, trivial⟩ (H ((nlN N) + 1) 0 (Nat.zero_le _) (by omega))
  intro n
  induction n with
  | zero =>
    intro i h1 h2
    exact absurd h2 (by omega)
  | succ n ih =>
    intro i hi hn
    refine WE.iload_n (n := 5) dX4_lettersIn_4 rfl rfl ?_
    refine WE.aload_n (n := 6) dX4_lettersIn_5 rfl rfl ?_
    refine WE.getI (n := 9) dX4_lettersIn_6 rfl fl_X4_49 ⟨by decide, by decide, rfl⟩ (by first | decide | exact kd_bal (by omega) | exact kd_let (by omega) | assumption) ?_
    refine WE.icmp_ge (n := 12) (tgt := 30) dX4_lettersIn_9 rfl (by decide) (fun h9 => ?_) (fun h9 => ?_)
    · skip
      rw [s5] at h9
      have hx : i = (nlN N) := by have := ge_t (by omega) (by omega) h9; omega
      subst hx
      refine WE.iload_n (n := 31) dX4_lettersIn_30 rfl rfl ?_
      refine WE.iret (ty := .int) dX4_lettersIn_31 rfl rfl ⟨by decide, by decide⟩ ?_
      exact RI.mk rfl rfl
    · skip
      rw [s5] at h9
      have hlt : i < (nlN N) := ge_f (by omega) (by omega) h9
      refine WE.aload_n (n := 13) dX4_lettersIn_12 rfl rfl ?_
      refine WE.iload_n (n := 14) dX4_lettersIn_13 rfl rfl ?_
      refine WE.V1I (M' := mX4_letterState) (n := 17) dX4_lettersIn_14 rfl cv_X4_159 (by first | decide | exact kd_bal (by omega) | exact kd_let (by omega) | assumption) ⟨⟨by decide, by decide⟩, by decide, by decide⟩ (Nat.le_of_ble_eq_true rfl) (c_letterState c od N hR hI i hlt) ?_
      refine WE.iload_n (n := 18) dX4_lettersIn_17 rfl rfl ?_
      refine WE.icmp_ne (n := 21) (tgt := 24) dX4_lettersIn_18 rfl (by decide) (fun h18 => ?_) (fun h18 => ?_)
      · skip
        refine WE.iincV (n := 27) (nI (i + 1)) dX4_lettersIn_24 rfl rfl (by decide) (nI_inc i) ?_
        refine WE.goto (tgt := 4) dX4_lettersIn_27 (by decide) ?_
        refine WE.ofA (L' := [(0, .ref 1), (1, .int st), (2, .int (ctL (fun n => N (88 + 4 * n + 2) = st) (i + 1))), (3, .int (nI (i + 1)))]) ⟨rfl, rfl, ?_, rfl, trivial⟩ (ih (i + 1) (by omega) (by omega))
        show some (Value.int _) = some (Value.int (ctL (fun n => N (88 + 4 * n + 2) = st) (i + 1)))
        simp only [ctL, nI_inc1, h18, ↓reduceIte, and_self, and_true, true_and, and_false, false_and, not_true_eq_false, not_false_eq_true]
      · skip
        refine WE.iinc (n := 24) dX4_lettersIn_21 rfl rfl (by decide) ?_
        refine WE.iincV (n := 27) (nI (i + 1)) dX4_lettersIn_24 rfl rfl (by decide) (nI_inc i) ?_
        refine WE.goto (tgt := 4) dX4_lettersIn_27 (by decide) ?_
        refine WE.ofA (L' := [(0, .ref 1), (1, .int st), (2, .int (ctL (fun n => N (88 + 4 * n + 2) = st) (i + 1))), (3, .int (nI (i + 1)))]) ⟨rfl, rfl, ?_, rfl, trivial⟩ (ih (i + 1) (by omega) (by omega))
        show some (Value.int _) = some (Value.int (ctL (fun n => N (88 + 4 * n + 2) = st) (i + 1)))
        simp only [ctL, nI_inc1, h18, ↓reduceIte, and_self, and_true, true_and, and_false, false_and, not_true_eq_false, not_false_eq_true]
theorem RelT.word {c : CC} {N : NA} (h : RelT c 1 N) {j : Nat} (hj : j < nbN N) (h2 : N (22 + 11 * j + 5) = nI 2) : c (6 + j) 12 = woN N j := by
  have := (h.2.2.1 j hj).2.2 h2
  rwa [show (1 : Nat) + 5 + j = 6 + j by omega] at this
theorem lt_nge {x y : Int32} : (y ≤ x → ¬ x < y) ∧ (¬ y ≤ x → x < y) := by
  refine ⟨fun h => ?_, fun h => ?_⟩
  · rw [Int32.le_iff_toInt_le] at h
    rw [Int32.lt_iff_toInt_lt]
    omega
  · rw [Int32.le_iff_toInt_le] at h
    rw [Int32.lt_iff_toInt_lt]
    omega
set_option maxRecDepth 20000 in
set_option maxHeartbeats 1000000 in
theorem c_wordsTold (c : CC) (od : Int64 × UInt64) (N : NA) (hR : RelT c 1 N) (hC : CN N) : CM mX4_wordsTold [.ref 1] (c, od) (RI (ctL (fun n => hwP N n ∧ woN N n < N 0) (nbN N)) (c, od)) := by
  refine CM.of [(0, .ref 1)] rfl (by decide +kernel) rfl (Nat.le_of_ble_eq_true rfl) ?_
  have hn6 := hC.1
  have hn24 := hC.2.2.1
  have s4 : c 1 4 = nI (nbN N) := (hR.s (4, 3) (by decide)).trans hC.2.1
  have s5 : c 1 5 = nI (nlN N) := (hR.s (5, 4) (by decide)).trans hC.2.2.2
  refine WE.iconst (n := 1) (nI 0) dX4_wordsTold_0 rfl (by decide) ?_
  refine WE.istore_n (n := 2) dX4_wordsTold_1 rfl (by decide) ?_
  refine WE.iconst (n := 3) (nI 0) dX4_wordsTold_2 rfl (by decide) ?_
  refine WE.istore_n (n := 4) dX4_wordsTold_3 rfl (by decide) ?_
  suffices H : ∀ n i : Nat, i ≤ (nbN N) → (nbN N) < i + n → WE mX4_wordsTold 4 [(0, .ref 1), (1, .int (ctL (fun n => hwP N n ∧ woN N n < N 0) i)), (2, .int (nI i))] [] (c, od) 0 0 (GQ mX4_wordsTold (RI (ctL (fun n => hwP N n ∧ woN N n < N 0) (nbN N)) (c, od))) from WE.ofA (L' := [(0, .ref 1), (1, .int (ctL (fun n => hwP N n ∧ woN N n < N 0) 0)), (2, .int (nI 0))]) ⟨rfl, rfl, rfl, trivial⟩ (H ((nbN N) + 1) 0 (Nat.zero_le _) (by omega))
  intro n
  induction n with
  | zero =>
    intro i h1 h2
    exact absurd h2 (by omega)
  | succ n ih =>
    intro i hi hn
    refine WE.iload_n (n := 5) dX4_wordsTold_4 rfl rfl ?_
    refine WE.aload_n (n := 6) dX4_wordsTold_5 rfl rfl ?_
    refine WE.getI (n := 9) dX4_wordsTold_6 rfl fl_X4_46 ⟨by decide, by decide, rfl⟩ (by first | decide | exact kd_bal (by omega) | exact kd_let (by omega) | assumption) ?_
    refine WE.icmp_ge (n := 12) (tgt := 49) dX4_wordsTold_9 rfl (by decide) (fun h9 => ?_) (fun h9 => ?_)
    · skip
      rw [s4] at h9
      have hx : i = (nbN N) := by have := ge_t (by omega) (by omega) h9; omega
      subst hx
      refine WE.iload_n (n := 50) dX4_wordsTold_49 rfl rfl ?_
      refine WE.iret (ty := .int) dX4_wordsTold_50 rfl rfl ⟨by decide, by decide⟩ ?_
      exact RI.mk rfl rfl
    · skip
      rw [s4] at h9
      have hlt : i < (nbN N) := ge_f (by omega) (by omega) h9
      have s6 : c 1 6 = N 0 := hR.s (6, 0) (by decide)
      refine WE.aload_n (n := 13) dX4_wordsTold_12 rfl rfl ?_
      refine WE.getR (n := 16) dX4_wordsTold_13 rfl fl_X4_20 ⟨by decide, by decide⟩ rfl (by first | decide | exact kd_bal (by omega) | exact kd_let (by omega) | assumption) ?_
      refine WE.iload_n (n := 17) dX4_wordsTold_16 rfl rfl ?_
      refine WE.aald (n := 18) 12 i dX4_wordsTold_17 rfl (by first | decide | assumption) (by decide) rfl (by show _ < 6; omega) rfl ?_
      refine WE.V0I (M' := mX0_sendsWord) (n := 21) dX4_wordsTold_18 rfl cv_X4_171 (by first | decide | exact kd_bal (by omega) | exact kd_let (by omega) | assumption) ⟨⟨by decide, by decide⟩, by decide, by decide⟩ (Nat.le_of_ble_eq_true rfl) (c_sendsWord _ _ _ (kd_bal (by omega))) ?_
      refine WE.if_eqB (n := 24) (tgt := 43) dX4_wordsTold_21 rfl (by decide) (fun h21 => ?_) (fun h21 => ?_)
      · skip
        rw [(hR.b hlt (7, 5) (by decide) : c (6 + i) 7 = N (22 + 11 * i + 5)), (hR.b hlt (3, 3) (by decide) : c (6 + i) 3 = N (22 + 11 * i + 3))] at h21
        refine WE.iincV (n := 46) (nI (i + 1)) dX4_wordsTold_43 rfl rfl (by decide) (nI_inc i) ?_
        refine WE.goto (tgt := 4) dX4_wordsTold_46 (by decide) ?_
        refine WE.ofA (L' := [(0, .ref 1), (1, .int (ctL (fun n => hwP N n ∧ woN N n < N 0) (i + 1))), (2, .int (nI (i + 1)))]) ⟨rfl, ?_, rfl, trivial⟩ (ih (i + 1) (by omega) (by omega))
        show some (Value.int _) = some (Value.int (ctL (fun n => hwP N n ∧ woN N n < N 0) (i + 1)))
        simp only [ctL, nI_inc1, h21, hwP, ↓reduceIte, and_self, and_true, true_and, and_false, false_and, not_true_eq_false, not_false_eq_true]
      · skip
        rw [(hR.b hlt (7, 5) (by decide) : c (6 + i) 7 = N (22 + 11 * i + 5)), (hR.b hlt (3, 3) (by decide) : c (6 + i) 3 = N (22 + 11 * i + 3))] at h21
        have h21 : hwP N i := h21
        refine WE.aload_n (n := 25) dX4_wordsTold_24 rfl rfl ?_
        refine WE.getR (n := 28) dX4_wordsTold_25 rfl fl_X4_20 ⟨by decide, by decide⟩ rfl (by first | decide | exact kd_bal (by omega) | exact kd_let (by omega) | assumption) ?_
        refine WE.iload_n (n := 29) dX4_wordsTold_28 rfl rfl ?_
        refine WE.aald (n := 30) 12 i dX4_wordsTold_29 rfl (by first | decide | assumption) (by decide) rfl (by show _ < 6; omega) rfl ?_
        refine WE.getI (n := 33) dX4_wordsTold_30 rfl fl_X4_156 ⟨by decide, by decide, rfl⟩ (by first | decide | exact kd_bal (by omega) | exact kd_let (by omega) | assumption) ?_
        refine WE.aload_n (n := 34) dX4_wordsTold_33 rfl rfl ?_
        refine WE.getI (n := 37) dX4_wordsTold_34 rfl fl_X4_52 ⟨by decide, by decide, rfl⟩ (by first | decide | exact kd_bal (by omega) | exact kd_let (by omega) | assumption) ?_
        refine WE.icmp_ge (n := 40) (tgt := 43) dX4_wordsTold_37 rfl (by decide) (fun h37 => ?_) (fun h37 => ?_)
        · skip
          rw [hR.word hlt h21.1, s6] at h37
          have h37 := lt_nge.1 h37
          refine WE.iincV (n := 46) (nI (i + 1)) dX4_wordsTold_43 rfl rfl (by decide) (nI_inc i) ?_
          refine WE.goto (tgt := 4) dX4_wordsTold_46 (by decide) ?_
          refine WE.ofA (L' := [(0, .ref 1), (1, .int (ctL (fun n => hwP N n ∧ woN N n < N 0) (i + 1))), (2, .int (nI (i + 1)))]) ⟨rfl, ?_, rfl, trivial⟩ (ih (i + 1) (by omega) (by omega))
          show some (Value.int _) = some (Value.int (ctL (fun n => hwP N n ∧ woN N n < N 0) (i + 1)))
          simp only [ctL, nI_inc1, h21, h37, hwP, ↓reduceIte, and_self, and_true, true_and, and_false, false_and, not_true_eq_false, not_false_eq_true]
        · skip
          rw [hR.word hlt h21.1, s6] at h37
          have h37 := lt_nge.2 h37
          refine WE.iinc (n := 43) dX4_wordsTold_40 rfl rfl (by decide) ?_
          refine WE.iincV (n := 46) (nI (i + 1)) dX4_wordsTold_43 rfl rfl (by decide) (nI_inc i) ?_
          refine WE.goto (tgt := 4) dX4_wordsTold_46 (by decide) ?_
          refine WE.ofA (L' := [(0, .ref 1), (1, .int (ctL (fun n => hwP N n ∧ woN N n < N 0) (i + 1))), (2, .int (nI (i + 1)))]) ⟨rfl, ?_, rfl, trivial⟩ (ih (i + 1) (by omega) (by omega))
          show some (Value.int _) = some (Value.int (ctL (fun n => hwP N n ∧ woN N n < N 0) (i + 1)))
          simp only [ctL, nI_inc1, h21, h37, hwP, ↓reduceIte, and_self, and_true, true_and, and_false, false_and, not_true_eq_false, not_false_eq_true]
set_option maxRecDepth 20000 in
set_option maxHeartbeats 1000000 in
theorem c_ballastHeld (c : CC) (od : Int64 × UInt64) (N : NA) (hR : RelT c 1 N) (hC : CN N) : CM mX4_ballastHeld [.ref 1] (c, od) (RI (heN N (nbN N)) (c, od)) := by
  refine CM.of [(0, .ref 1)] rfl (by decide +kernel) rfl (Nat.le_of_ble_eq_true rfl) ?_
  have hn6 := hC.1
  have s4 : c 1 4 = nI (nbN N) := (hR.s (4, 3) (by decide)).trans hC.2.1
  refine WE.iconst (n := 1) (nI 0) dX4_ballastHeld_0 rfl (by decide) ?_
  refine WE.istore_n (n := 2) dX4_ballastHeld_1 rfl (by decide) ?_
  refine WE.iconst (n := 3) (nI 0) dX4_ballastHeld_2 rfl (by decide) ?_
  refine WE.istore_n (n := 4) dX4_ballastHeld_3 rfl (by decide) ?_
  suffices H : ∀ n i : Nat, i ≤ (nbN N) → (nbN N) < i + n → WE mX4_ballastHeld 4 [(0, .ref 1), (1, .int (heN N i)), (2, .int (nI i))] [] (c, od) 0 0 (GQ mX4_ballastHeld (RI (heN N (nbN N)) (c, od))) from WE.ofA (L' := [(0, .ref 1), (1, .int (heN N 0)), (2, .int (nI 0))]) ⟨rfl, rfl, rfl, trivial⟩ (H ((nbN N) + 1) 0 (Nat.zero_le _) (by omega))
  intro n
  induction n with
  | zero =>
    intro i h1 h2
    exact absurd h2 (by omega)
  | succ n ih =>
    intro i hi hn
    refine WE.iload_n (n := 5) dX4_ballastHeld_4 rfl rfl ?_
    refine WE.aload_n (n := 6) dX4_ballastHeld_5 rfl rfl ?_
    refine WE.getI (n := 9) dX4_ballastHeld_6 rfl fl_X4_46 ⟨by decide, by decide, rfl⟩ (by first | decide | exact kd_bal (by omega) | exact kd_let (by omega) | assumption) ?_
    refine WE.icmp_ge (n := 12) (tgt := 55) dX4_ballastHeld_9 rfl (by decide) (fun h9 => ?_) (fun h9 => ?_)
    · skip
      rw [s4] at h9
      have hx : i = (nbN N) := by have := ge_t (by omega) (by omega) h9; omega
      subst hx
      refine WE.iload_n (n := 56) dX4_ballastHeld_55 rfl rfl ?_
      refine WE.iret (ty := .int) dX4_ballastHeld_56 rfl rfl ⟨by decide, by decide⟩ ?_
      exact RI.mk rfl rfl
    · skip
      rw [s4] at h9
      have hlt : i < (nbN N) := ge_f (by omega) (by omega) h9
      refine WE.aload_n (n := 13) dX4_ballastHeld_12 rfl rfl ?_
      refine WE.getR (n := 16) dX4_ballastHeld_13 rfl fl_X4_20 ⟨by decide, by decide⟩ rfl (by first | decide | exact kd_bal (by omega) | exact kd_let (by omega) | assumption) ?_
      refine WE.iload_n (n := 17) dX4_ballastHeld_16 rfl rfl ?_
      refine WE.aald (n := 18) 12 i dX4_ballastHeld_17 rfl (by first | decide | assumption) (by decide) rfl (by show _ < 6; omega) rfl ?_
      refine WE.getI (n := 21) dX4_ballastHeld_18 rfl fl_X4_99 ⟨by decide, by decide, rfl⟩ (by first | decide | exact kd_bal (by omega) | exact kd_let (by omega) | assumption) ?_
      refine WE.if_eq (n := 24) (tgt := 37) dX4_ballastHeld_21 rfl (by decide) (fun h21 => ?_) (fun h21 => ?_)
      · skip
        rw [(hR.b hlt (7, 5) (by decide) : c (6 + i) 7 = N (22 + 11 * i + 5))] at h21
        refine WE.iload_n (n := 38) dX4_ballastHeld_37 rfl rfl ?_
        refine WE.aload_n (n := 39) dX4_ballastHeld_38 rfl rfl ?_
        refine WE.getR (n := 42) dX4_ballastHeld_39 rfl fl_X4_20 ⟨by decide, by decide⟩ rfl (by first | decide | exact kd_bal (by omega) | exact kd_let (by omega) | assumption) ?_
        refine WE.iload_n (n := 43) dX4_ballastHeld_42 rfl rfl ?_
        refine WE.aald (n := 44) 12 i dX4_ballastHeld_43 rfl (by first | decide | assumption) (by decide) rfl (by show _ < 6; omega) rfl ?_
        refine WE.getI (n := 47) dX4_ballastHeld_44 rfl fl_X4_103 ⟨by decide, by decide, rfl⟩ (by first | decide | exact kd_bal (by omega) | exact kd_let (by omega) | assumption) ?_
        refine WE.iadd (n := 48) dX4_ballastHeld_47 rfl ?_
        refine WE.istore_n (n := 49) dX4_ballastHeld_48 rfl (by decide) ?_
        refine WE.iincV (n := 52) (nI (i + 1)) dX4_ballastHeld_49 rfl rfl (by decide) (nI_inc i) ?_
        refine WE.goto (tgt := 4) dX4_ballastHeld_52 (by decide) ?_
        exact WE.ofA (L' := [(0, .ref 1), (1, .int (heN N (i + 1))), (2, .int (nI (i + 1)))]) ⟨rfl, sI (by show _ = ite _ _ _; rw [if_pos (Or.inl h21), (hR.b hlt (2, 2) (by decide) : c (6 + i) 2 = N (22 + 11 * i + 2))]), rfl, trivial⟩ (ih (i + 1) (by omega) (by omega))
      · skip
        rw [(hR.b hlt (7, 5) (by decide) : c (6 + i) 7 = N (22 + 11 * i + 5))] at h21
        refine WE.aload_n (n := 25) dX4_ballastHeld_24 rfl rfl ?_
        refine WE.getR (n := 28) dX4_ballastHeld_25 rfl fl_X4_20 ⟨by decide, by decide⟩ rfl (by first | decide | exact kd_bal (by omega) | exact kd_let (by omega) | assumption) ?_
        refine WE.iload_n (n := 29) dX4_ballastHeld_28 rfl rfl ?_
        refine WE.aald (n := 30) 12 i dX4_ballastHeld_29 rfl (by first | decide | assumption) (by decide) rfl (by show _ < 6; omega) rfl ?_
        refine WE.getI (n := 33) dX4_ballastHeld_30 rfl fl_X4_99 ⟨by decide, by decide, rfl⟩ (by first | decide | exact kd_bal (by omega) | exact kd_let (by omega) | assumption) ?_
        refine WE.iconst (n := 34) (nI 1) dX4_ballastHeld_33 rfl (by decide) ?_
        refine WE.icmp_ne (n := 37) (tgt := 49) dX4_ballastHeld_34 rfl (by decide) (fun h34 => ?_) (fun h34 => ?_)
        · skip
          rw [(hR.b hlt (7, 5) (by decide) : c (6 + i) 7 = N (22 + 11 * i + 5))] at h34
          refine WE.iincV (n := 52) (nI (i + 1)) dX4_ballastHeld_49 rfl rfl (by decide) (nI_inc i) ?_
          refine WE.goto (tgt := 4) dX4_ballastHeld_52 (by decide) ?_
          exact WE.ofA (L' := [(0, .ref 1), (1, .int (heN N (i + 1))), (2, .int (nI (i + 1)))]) ⟨rfl, sI (by show _ = ite _ _ _; first | (rw [if_pos (Or.inr h34), (hR.b hlt (2, 2) (by decide) : c (6 + i) 2 = N (22 + 11 * i + 2))]) | (rw [if_neg (fun q => q.elim h21 h34)])), rfl, trivial⟩ (ih (i + 1) (by omega) (by omega))
        · skip
          rw [(hR.b hlt (7, 5) (by decide) : c (6 + i) 7 = N (22 + 11 * i + 5))] at h34
          refine WE.iload_n (n := 38) dX4_ballastHeld_37 rfl rfl ?_
          refine WE.aload_n (n := 39) dX4_ballastHeld_38 rfl rfl ?_
          refine WE.getR (n := 42) dX4_ballastHeld_39 rfl fl_X4_20 ⟨by decide, by decide⟩ rfl (by first | decide | exact kd_bal (by omega) | exact kd_let (by omega) | assumption) ?_
          refine WE.iload_n (n := 43) dX4_ballastHeld_42 rfl rfl ?_
          refine WE.aald (n := 44) 12 i dX4_ballastHeld_43 rfl (by first | decide | assumption) (by decide) rfl (by show _ < 6; omega) rfl ?_
          refine WE.getI (n := 47) dX4_ballastHeld_44 rfl fl_X4_103 ⟨by decide, by decide, rfl⟩ (by first | decide | exact kd_bal (by omega) | exact kd_let (by omega) | assumption) ?_
          refine WE.iadd (n := 48) dX4_ballastHeld_47 rfl ?_
          refine WE.istore_n (n := 49) dX4_ballastHeld_48 rfl (by decide) ?_
          refine WE.iincV (n := 52) (nI (i + 1)) dX4_ballastHeld_49 rfl rfl (by decide) (nI_inc i) ?_
          refine WE.goto (tgt := 4) dX4_ballastHeld_52 (by decide) ?_
          exact WE.ofA (L' := [(0, .ref 1), (1, .int (heN N (i + 1))), (2, .int (nI (i + 1)))]) ⟨rfl, sI (by show _ = ite _ _ _; first | (rw [if_pos (Or.inr h34), (hR.b hlt (2, 2) (by decide) : c (6 + i) 2 = N (22 + 11 * i + 2))]) | (rw [if_neg (fun q => q.elim h21 h34)])), rfl, trivial⟩ (ih (i + 1) (by omega) (by omega))
set_option maxRecDepth 20000 in
set_option maxHeartbeats 1000000 in
theorem c_distancesOfLanded (c : CC) (od : Int64 × UInt64) (N : NA) (hR : RelT c 1 N) (hC : CN N) : CM mX4_distancesOfLanded [.ref 1] (c, od) (RI (diN N (nbN N)) (c, od)) := by
  refine CM.of [(0, .ref 1)] rfl (by decide +kernel) rfl (Nat.le_of_ble_eq_true rfl) ?_
  have hn6 := hC.1
  have s4 : c 1 4 = nI (nbN N) := (hR.s (4, 3) (by decide)).trans hC.2.1
  refine WE.iconst (n := 1) (nI 0) dX4_distancesOfLanded_0 rfl (by decide) ?_
  refine WE.istore_n (n := 2) dX4_distancesOfLanded_1 rfl (by decide) ?_
  refine WE.iconst (n := 3) (nI 0) dX4_distancesOfLanded_2 rfl (by decide) ?_
  refine WE.istore_n (n := 4) dX4_distancesOfLanded_3 rfl (by decide) ?_
  suffices H : ∀ n i : Nat, i ≤ (nbN N) → (nbN N) < i + n → WE mX4_distancesOfLanded 4 [(0, .ref 1), (1, .int (diN N i)), (2, .int (nI i))] [] (c, od) 0 0 (GQ mX4_distancesOfLanded (RI (diN N (nbN N)) (c, od))) from WE.ofA (L' := [(0, .ref 1), (1, .int (diN N 0)), (2, .int (nI 0))]) ⟨rfl, rfl, rfl, trivial⟩ (H ((nbN N) + 1) 0 (Nat.zero_le _) (by omega))
  intro n
  induction n with
  | zero =>
    intro i h1 h2
    exact absurd h2 (by omega)
  | succ n ih =>
    intro i hi hn
    refine WE.iload_n (n := 5) dX4_distancesOfLanded_4 rfl rfl ?_
    refine WE.aload_n (n := 6) dX4_distancesOfLanded_5 rfl rfl ?_
    refine WE.getI (n := 9) dX4_distancesOfLanded_6 rfl fl_X4_46 ⟨by decide, by decide, rfl⟩ (by first | decide | exact kd_bal (by omega) | exact kd_let (by omega) | assumption) ?_
    refine WE.icmp_ge (n := 12) (tgt := 43) dX4_distancesOfLanded_9 rfl (by decide) (fun h9 => ?_) (fun h9 => ?_)
    · skip
      rw [s4] at h9
      have hx : i = (nbN N) := by have := ge_t (by omega) (by omega) h9; omega
      subst hx
      refine WE.iload_n (n := 44) dX4_distancesOfLanded_43 rfl rfl ?_
      refine WE.iret (ty := .int) dX4_distancesOfLanded_44 rfl rfl ⟨by decide, by decide⟩ ?_
      exact RI.mk rfl rfl
    · skip
      rw [s4] at h9
      have hlt : i < (nbN N) := ge_f (by omega) (by omega) h9
      refine WE.aload_n (n := 13) dX4_distancesOfLanded_12 rfl rfl ?_
      refine WE.getR (n := 16) dX4_distancesOfLanded_13 rfl fl_X4_20 ⟨by decide, by decide⟩ rfl (by first | decide | exact kd_bal (by omega) | exact kd_let (by omega) | assumption) ?_
      refine WE.iload_n (n := 17) dX4_distancesOfLanded_16 rfl rfl ?_
      refine WE.aald (n := 18) 12 i dX4_distancesOfLanded_17 rfl (by first | decide | assumption) (by decide) rfl (by show _ < 6; omega) rfl ?_
      refine WE.getI (n := 21) dX4_distancesOfLanded_18 rfl fl_X4_99 ⟨by decide, by decide, rfl⟩ (by first | decide | exact kd_bal (by omega) | exact kd_let (by omega) | assumption) ?_
      refine WE.iconst (n := 22) (nI 2) dX4_distancesOfLanded_21 rfl (by decide) ?_
      refine WE.icmp_ne (n := 25) (tgt := 37) dX4_distancesOfLanded_22 rfl (by decide) (fun h22 => ?_) (fun h22 => ?_)
      · skip
        rw [(hR.b hlt (7, 5) (by decide) : c (6 + i) 7 = N (22 + 11 * i + 5))] at h22
        refine WE.iincV (n := 40) (nI (i + 1)) dX4_distancesOfLanded_37 rfl rfl (by decide) (nI_inc i) ?_
        refine WE.goto (tgt := 4) dX4_distancesOfLanded_40 (by decide) ?_
        exact WE.ofA (L' := [(0, .ref 1), (1, .int (diN N (i + 1))), (2, .int (nI (i + 1)))]) ⟨rfl, sI (by show _ = ite _ _ _; first | (rw [if_pos h22, (hR.b hlt (9, 6) (by decide) : c (6 + i) 9 = N (22 + 11 * i + 6)), (hR.b hlt (10, 7) (by decide) : c (6 + i) 10 = N (22 + 11 * i + 7))]) | (rw [if_neg h22])), rfl, trivial⟩ (ih (i + 1) (by omega) (by omega))
      · skip
        rw [(hR.b hlt (7, 5) (by decide) : c (6 + i) 7 = N (22 + 11 * i + 5))] at h22
        refine WE.iload_n (n := 26) dX4_distancesOfLanded_25 rfl rfl ?_
        refine WE.aload_n (n := 27) dX4_distancesOfLanded_26 rfl rfl ?_
        refine WE.getR (n := 30) dX4_distancesOfLanded_27 rfl fl_X4_20 ⟨by decide, by decide⟩ rfl (by first | decide | exact kd_bal (by omega) | exact kd_let (by omega) | assumption) ?_
        refine WE.iload_n (n := 31) dX4_distancesOfLanded_30 rfl rfl ?_
        refine WE.aald (n := 32) 12 i dX4_distancesOfLanded_31 rfl (by first | decide | assumption) (by decide) rfl (by show _ < 6; omega) rfl ?_
        refine WE.V0I (M' := mX0_distance) (n := 35) dX4_distancesOfLanded_32 rfl cv_X4_153 (by first | decide | exact kd_bal (by omega) | exact kd_let (by omega) | assumption) ⟨⟨by decide, by decide⟩, by decide, by decide⟩ (Nat.le_of_ble_eq_true rfl) (c_distance _ _ _ (kd_bal (by omega))) ?_
        refine WE.iadd (n := 36) dX4_distancesOfLanded_35 rfl ?_
        refine WE.istore_n (n := 37) dX4_distancesOfLanded_36 rfl (by decide) ?_
        refine WE.iincV (n := 40) (nI (i + 1)) dX4_distancesOfLanded_37 rfl rfl (by decide) (nI_inc i) ?_
        refine WE.goto (tgt := 4) dX4_distancesOfLanded_40 (by decide) ?_
        exact WE.ofA (L' := [(0, .ref 1), (1, .int (diN N (i + 1))), (2, .int (nI (i + 1)))]) ⟨rfl, sI (by show _ = ite _ _ _; first | (rw [if_pos h22, (hR.b hlt (9, 6) (by decide) : c (6 + i) 9 = N (22 + 11 * i + 6)), (hR.b hlt (10, 7) (by decide) : c (6 + i) 10 = N (22 + 11 * i + 7))]) | (rw [if_neg h22])), rfl, trivial⟩ (ih (i + 1) (by omega) (by omega))
def wb0 (N : NA) (j : Nat) : Int32 := (N (22 + 11 * j + 0) + nI 9) / nI 10 + N (22 + 11 * j + 2) + N (22 + 11 * j + 4)
def wbL (N : NA) (j : Nat) : Nat → Int32 × Int32
  | 0 => (wb0 N j, nI 0)
  | n + 1 => if N (88 + 4 * n + 3) = nI j then ((wbL N j n).1 + ((wbL N j n).2 + N (88 + 4 * n)) / nI 3, ((wbL N j n).2 + N (88 + 4 * n)) - ((wbL N j n).2 + N (88 + 4 * n)) / nI 3 * nI 3) else wbL N j n
theorem wbL_s {N : NA} (hI : IN N) {j : Nat} (hj : j < nbN N) : ∀ n, n ≤ nlN N → ∃ S : Nat, S ≤ 9 * n ∧ shN N (nI j) n = nI S ∧ wbL N j n = (wb0 N j + nI (S / 3), nI (S % 3))
  | 0, _ => ⟨0, Nat.le_refl _, rfl, by show (_, _) = (_, _); rw [show wb0 N j + nI (0 / 3) = wb0 N j from Int32.add_zero _]⟩
  | n + 1, hn => by
    obtain ⟨S, hS, e1, e2⟩ := wbL_s hI hj n (by omega)
    have hl := hI.l (l := n) (by omega)
    obtain ⟨s, hs1, hs9, es⟩ := hl.1
    have h24 := hI.cn.2.2.1
    have h6 := hI.cn.1
    have hon := hl.2.2.on hI.cn (j := j) (by omega)
    by_cases h : N (88 + 4 * n + 3) = nI j
    · refine ⟨S + s, by omega, ?_, ?_⟩
      · show ite _ _ _ = _
        rw [if_pos (hon.mpr h), e1, es, nI_add]
      · show ite _ _ _ = _
        rw [if_pos h, e2, es]
        show (wb0 N j + nI (S / 3) + (nI (S % 3) + nI s) / nI 3, (nI (S % 3) + nI s) - (nI (S % 3) + nI s) / nI 3 * nI 3) = _
        rw [nI_add, pk_rem (a := S % 3 + s) (d := 3) (by omega) (by decide) (by decide), pk_div (a := S % 3 + s) (d := 3) (by omega) (by decide) (by decide), Int32.add_assoc, nI_add]
        rw [show S / 3 + (S % 3 + s) / 3 = (S + s) / 3 by omega, show (S % 3 + s) % 3 = (S + s) % 3 by omega]
    · refine ⟨S, by omega, ?_, ?_⟩
      · show ite _ _ _ = _
        rw [if_neg (fun q => h (hon.mp q)), e1]
      · show ite _ _ _ = _
        rw [if_neg h, e2]
theorem wb_end {N : NA} (hI : IN N) {j : Nat} (hj : j < nbN N) : (0 < (wbL N j (nlN N)).2 → (wbL N j (nlN N)).1 + nI 1 = wgN N j (nlN N)) ∧ ((wbL N j (nlN N)).2 ≤ 0 → (wbL N j (nlN N)).1 = wgN N j (nlN N)) := by
  obtain ⟨S, hS, e1, e2⟩ := wbL_s hI hj (nlN N) (Nat.le_refl _)
  have h24 := hI.cn.2.2.1
  have ew : wgN N j (nlN N) = wb0 N j + nI ((S + 2) / 3) := by
    unfold wgN wb0
    rw [e1, nI_add, pk_div (by omega) (by decide) (by decide)]
  rw [ew, e2]
  refine ⟨fun h => ?_, fun h => ?_⟩
  · have h : nI 0 < nI (S % 3) := h
    rw [nI_ltI (by decide) (by omega)] at h
    show wb0 N j + nI (S / 3) + nI 1 = _
    rw [Int32.add_assoc, nI_add, show S / 3 + 1 = (S + 2) / 3 by omega]
  · have h : nI (S % 3) ≤ nI 0 := h
    rw [nI_leI (by omega) (by decide)] at h
    show wb0 N j + nI (S / 3) = _
    rw [show S / 3 = (S + 2) / 3 by omega]
set_option maxRecDepth 20000 in
set_option maxHeartbeats 1000000 in
theorem c_weightByLetters (c : CC) (od : Int64 × UInt64) (N : NA) (hR : RelT c 1 N) (hI : IN N) (j : Nat) (hj : j < nbN N) : CM mX4_weightByLetters [.ref 1, .int (nI j)] (c, od) (RI (wgN N j (nlN N)) (c, od)) := by
  refine CM.of [(0, .ref 1), (1, .int (nI j))] rfl (by decide +kernel) rfl (Nat.le_of_ble_eq_true rfl) ?_
  have hC := hI.cn
  have hn6 := hC.1
  have hn24 := hC.2.2.1
  have hj6 : j < 6 := by omega
  have s5 : c 1 5 = nI (nlN N) := (hR.s (5, 4) (by decide)).trans hC.2.2.2
  have g0 : c (6 + j) 0 = N (22 + 11 * j + 0) := hR.b hj (0, 0) (by decide)
  have g2 : c (6 + j) 2 = N (22 + 11 * j + 2) := hR.b hj (2, 2) (by decide)
  have g4 : c (6 + j) 4 = N (22 + 11 * j + 4) := hR.b hj (4, 4) (by decide)
  refine WE.aload_n (n := 1) dX4_weightByLetters_0 rfl rfl ?_
  refine WE.getR (n := 4) dX4_weightByLetters_1 rfl fl_X4_20 ⟨by decide, by decide⟩ rfl (by first | decide | exact kd_bal (by omega) | exact kd_let (by omega) | assumption) ?_
  refine WE.iload_n (n := 5) dX4_weightByLetters_4 rfl rfl ?_
  refine WE.aald (n := 6) 12 j dX4_weightByLetters_5 rfl (by first | decide | assumption) (by decide) rfl (by show _ < 6; omega) rfl ?_
  refine WE.astore_n (n := 7) dX4_weightByLetters_6 rfl (by decide) ?_
  refine WE.aload_n (n := 8) dX4_weightByLetters_7 rfl rfl ?_
  refine WE.getI (n := 11) dX4_weightByLetters_8 rfl fl_X4_92 ⟨by decide, by decide, rfl⟩ (by first | decide | exact kd_bal (by omega) | exact kd_let (by omega) | assumption) ?_
  refine WE.bipush (n := 13) (nI 9) dX4_weightByLetters_11 rfl (by decide) ?_
  refine WE.iadd (n := 14) dX4_weightByLetters_13 rfl ?_
  refine WE.bipush (n := 16) (nI 10) dX4_weightByLetters_14 rfl (by decide) ?_
  refine WE.idiv (n := 17) dX4_weightByLetters_16 rfl (by decide) ?_
  refine WE.aload_n (n := 18) dX4_weightByLetters_17 rfl rfl ?_
  refine WE.getI (n := 21) dX4_weightByLetters_18 rfl fl_X4_103 ⟨by decide, by decide, rfl⟩ (by first | decide | exact kd_bal (by omega) | exact kd_let (by omega) | assumption) ?_
  refine WE.iadd (n := 22) dX4_weightByLetters_21 rfl ?_
  refine WE.aload_n (n := 23) dX4_weightByLetters_22 rfl rfl ?_
  refine WE.getI (n := 26) dX4_weightByLetters_23 rfl fl_X4_109 ⟨by decide, by decide, rfl⟩ (by first | decide | exact kd_bal (by omega) | exact kd_let (by omega) | assumption) ?_
  refine WE.iadd (n := 27) dX4_weightByLetters_26 rfl ?_
  refine WE.istore_n (n := 28) dX4_weightByLetters_27 rfl (by decide) ?_
  refine WE.iconst (n := 29) (nI 0) dX4_weightByLetters_28 rfl (by decide) ?_
  refine WE.istore (n := 31) dX4_weightByLetters_29 rfl (by decide) ?_
  refine WE.iconst (n := 32) (nI 0) dX4_weightByLetters_31 rfl (by decide) ?_
  refine WE.istore (n := 34) dX4_weightByLetters_32 rfl (by decide) ?_
  suffices H : ∀ n i : Nat, i ≤ (nlN N) → (nlN N) < i + n → WE mX4_weightByLetters 34 [(0, .ref 1), (1, .int (nI j)), (2, .ref (6 + j)), (3, .int (wbL N j i).1), (4, .int (wbL N j i).2), (5, .int (nI i))] [] (c, od) 0 0 (GQ mX4_weightByLetters (RI (wgN N j (nlN N)) (c, od))) from WE.ofA (L' := [(0, .ref 1), (1, .int (nI j)), (2, .ref (6 + j)), (3, .int (wbL N j 0).1), (4, .int (wbL N j 0).2), (5, .int (nI 0))]) ⟨rfl, rfl, rfl, sI (by rw [g0, g2, g4]; rfl), rfl, rfl, trivial⟩ (H ((nlN N) + 1) 0 (Nat.zero_le _) (by omega))
  intro n
  induction n with
  | zero =>
    intro i h1 h2
    exact absurd h2 (by omega)
  | succ n ih =>
    intro i hi hn
    refine WE.iload (n := 36) dX4_weightByLetters_34 rfl rfl ?_
    refine WE.aload_n (n := 37) dX4_weightByLetters_36 rfl rfl ?_
    refine WE.getI (n := 40) dX4_weightByLetters_37 rfl fl_X4_49 ⟨by decide, by decide, rfl⟩ (by first | decide | exact kd_bal (by omega) | exact kd_let (by omega) | assumption) ?_
    refine WE.icmp_ge (n := 43) (tgt := 91) dX4_weightByLetters_40 rfl (by decide) (fun h40 => ?_) (fun h40 => ?_)
    · skip
      rw [s5] at h40
      have hx : i = nlN N := by have := ge_t (by omega) (by omega) h40; omega
      subst hx
      refine WE.iload (n := 93) dX4_weightByLetters_91 rfl rfl ?_
      refine WE.if_le (n := 96) (tgt := 102) dX4_weightByLetters_93 rfl (by decide) (fun h93 => ?_) (fun h93 => ?_)
      · skip
        refine WE.iload_n (n := 103) dX4_weightByLetters_102 rfl rfl ?_
        refine WE.iret (ty := .int) dX4_weightByLetters_103 rfl rfl ⟨by decide, by decide⟩ ?_
        first | exact RI.mk ((wb_end hI hj).1 (Int32.not_le.mp h93)) rfl | exact RI.mk ((wb_end hI hj).2 h93) rfl
      · skip
        refine WE.iload_n (n := 97) dX4_weightByLetters_96 rfl rfl ?_
        refine WE.iconst (n := 98) (nI 1) dX4_weightByLetters_97 rfl (by decide) ?_
        refine WE.iadd (n := 99) dX4_weightByLetters_98 rfl ?_
        refine WE.goto (tgt := 103) dX4_weightByLetters_99 (by decide) ?_
        refine WE.iret (ty := .int) dX4_weightByLetters_103 rfl rfl ⟨by decide, by decide⟩ ?_
        first | exact RI.mk ((wb_end hI hj).1 (Int32.not_le.mp h93)) rfl | exact RI.mk ((wb_end hI hj).2 h93) rfl
    · skip
      rw [s5] at h40
      have hlt : i < nlN N := ge_f (by omega) (by omega) h40
      have gl := hR.l hlt
      refine WE.aload_n (n := 44) dX4_weightByLetters_43 rfl rfl ?_
      refine WE.getR (n := 47) dX4_weightByLetters_44 rfl fl_X4_26 ⟨by decide, by decide⟩ rfl (by first | decide | exact kd_bal (by omega) | exact kd_let (by omega) | assumption) ?_
      refine WE.iload (n := 49) dX4_weightByLetters_47 rfl rfl ?_
      refine WE.aald (n := 50) 13 i dX4_weightByLetters_49 rfl (by first | decide | assumption) (by decide) rfl (by show _ < 24; omega) rfl ?_
      refine WE.getI (n := 53) dX4_weightByLetters_50 rfl fl_X4_121 ⟨by decide, by decide, rfl⟩ (by first | decide | exact kd_bal (by omega) | exact kd_let (by omega) | assumption) ?_
      refine WE.iload_n (n := 54) dX4_weightByLetters_53 rfl rfl ?_
      refine WE.icmp_ne (n := 57) (tgt := 85) dX4_weightByLetters_54 rfl (by decide) (fun h54 => ?_) (fun h54 => ?_)
      · skip
        rw [gl.2.2] at h54
        have wbt : wbL N j (i + 1) = wbL N j i := by show ite _ _ _ = _; rw [if_neg h54]
        refine WE.iincV (n := 88) (nI (i + 1)) dX4_weightByLetters_85 rfl rfl (by decide) (nI_inc i) ?_
        refine WE.goto (tgt := 34) dX4_weightByLetters_88 (by decide) ?_
        first | exact WE.ofA (L' := [(0, .ref 1), (1, .int (nI j)), (2, .ref (6 + j)), (3, .int (wbL N j (i + 1)).1), (4, .int (wbL N j (i + 1)).2), (5, .int (nI (i + 1)))]) ⟨rfl, rfl, rfl, sI (by rw [wbt]), sI (by rw [wbt]), rfl, trivial⟩ (ih (i + 1) (by omega) (by omega))
      · skip
        rw [gl.2.2] at h54
        have wbt : wbL N j (i + 1) = ((wbL N j i).1 + ((wbL N j i).2 + c (12 + i) 0) / nI 3, ((wbL N j i).2 + c (12 + i) 0) - ((wbL N j i).2 + c (12 + i) 0) / nI 3 * nI 3) := by show ite _ _ _ = _; rw [if_pos h54, gl.1]
        refine WE.iload (n := 59) dX4_weightByLetters_57 rfl rfl ?_
        refine WE.aload_n (n := 60) dX4_weightByLetters_59 rfl rfl ?_
        refine WE.getR (n := 63) dX4_weightByLetters_60 rfl fl_X4_26 ⟨by decide, by decide⟩ rfl (by first | decide | exact kd_bal (by omega) | exact kd_let (by omega) | assumption) ?_
        refine WE.iload (n := 65) dX4_weightByLetters_63 rfl rfl ?_
        refine WE.aald (n := 66) 13 i dX4_weightByLetters_65 rfl (by first | decide | assumption) (by decide) rfl (by show _ < 24; omega) rfl ?_
        refine WE.getI (n := 69) dX4_weightByLetters_66 rfl fl_X4_112 ⟨by decide, by decide, rfl⟩ (by first | decide | exact kd_bal (by omega) | exact kd_let (by omega) | assumption) ?_
        refine WE.iadd (n := 70) dX4_weightByLetters_69 rfl ?_
        refine WE.istore (n := 72) dX4_weightByLetters_70 rfl (by decide) ?_
        refine WE.iload_n (n := 73) dX4_weightByLetters_72 rfl rfl ?_
        refine WE.iload (n := 75) dX4_weightByLetters_73 rfl rfl ?_
        refine WE.iconst (n := 76) (nI 3) dX4_weightByLetters_75 rfl (by decide) ?_
        refine WE.idiv (n := 77) dX4_weightByLetters_76 rfl (by decide) ?_
        refine WE.iadd (n := 78) dX4_weightByLetters_77 rfl ?_
        refine WE.istore_n (n := 79) dX4_weightByLetters_78 rfl (by decide) ?_
        refine WE.iload (n := 81) dX4_weightByLetters_79 rfl rfl ?_
        refine WE.iconst (n := 82) (nI 3) dX4_weightByLetters_81 rfl (by decide) ?_
        refine WE.irem (n := 83) dX4_weightByLetters_82 rfl (by decide) ?_
        refine WE.istore (n := 85) dX4_weightByLetters_83 rfl (by decide) ?_
        refine WE.iincV (n := 88) (nI (i + 1)) dX4_weightByLetters_85 rfl rfl (by decide) (nI_inc i) ?_
        refine WE.goto (tgt := 34) dX4_weightByLetters_88 (by decide) ?_
        first | exact WE.ofA (L' := [(0, .ref 1), (1, .int (nI j)), (2, .ref (6 + j)), (3, .int (wbL N j (i + 1)).1), (4, .int (wbL N j (i + 1)).2), (5, .int (nI (i + 1)))]) ⟨rfl, rfl, rfl, sI (by rw [wbt]), sI (by rw [wbt]), rfl, trivial⟩ (ih (i + 1) (by omega) (by omega))
def nuN (N : NA) (k : Nat) : Int32 := match k with
  | 0 => N 0
  | 1 => N 1
  | 2 => N 2
  | 3 => N 3
  | 4 => ctL (fun n => N (22 + 11 * n + 5) = nI 0) (nbN N)
  | 5 => ctL (fun n => N (22 + 11 * n + 5) = nI 1) (nbN N)
  | 6 => ctL (fun n => N (22 + 11 * n + 5) = nI 2) (nbN N)
  | 7 => ctL (fun n => N (22 + 11 * n + 5) = nI 3) (nbN N)
  | 8 => N 4
  | 9 => ctL (fun n => N (88 + 4 * n + 2) = nI 0) (nlN N)
  | 10 => ctL (fun n => N (88 + 4 * n + 2) = nI 1) (nlN N)
  | 11 => ctL (fun n => N (88 + 4 * n + 2) = nI 2) (nlN N)
  | 12 => ctL (fun n => N (88 + 4 * n + 2) = nI 3) (nlN N)
  | 13 => ctL (fun n => hwP N n ∧ woN N n < N 0) (nbN N)
  | 14 => N 5
  | 15 => N 6
  | 16 => N 7
  | 17 => N 8
  | _ => N 9
set_option maxRecDepth 20000 in
set_option maxHeartbeats 1000000 in
theorem c_numberOf (c : CC) (od : Int64 × UInt64) (N : NA) (hR : RelT c 1 N) (hI : IN N) (k : Nat) (hk : k < 19) : CM mX4_numberOf [.ref 1, .int (nI k)] (c, od) (RI (nuN N k) (c, od)) := by
  refine CM.of [(0, .ref 1), (1, .int (nI k))] rfl (by decide +kernel) rfl (Nat.le_of_ble_eq_true rfl) ?_
  refine WE.iload_n (n := 1) dX4_numberOf_0 rfl rfl ?_
  rcases (show k = 0 ∨ k = 1 ∨ k = 2 ∨ k = 3 ∨ k = 4 ∨ k = 5 ∨ k = 6 ∨ k = 7 ∨ k = 8 ∨ k = 9 ∨ k = 10 ∨ k = 11 ∨ k = 12 ∨ k = 13 ∨ k = 14 ∨ k = 15 ∨ k = 16 ∨ k = 17 ∨ k = 18 by omega) with rfl | rfl | rfl | rfl | rfl | rfl | rfl | rfl | rfl | rfl | rfl | rfl | rfl | rfl | rfl | rfl | rfl | rfl | rfl
  · refine WE.tsw (tgt := 88) dX4_numberOf_1 0 (by decide) (by decide) (by decide) rfl (by decide) ?_
    refine WE.aload_n (n := 89) dX4_numberOf_88 rfl rfl ?_
    refine WE.getI (n := 92) dX4_numberOf_89 rfl fl_X4_52 ⟨by decide, by decide, rfl⟩ (by first | decide | exact kd_bal (by assumption) | exact kd_let (by assumption) | assumption) ?_
    refine WE.iret (ty := .int) dX4_numberOf_92 rfl rfl ⟨by decide, by decide⟩ ?_
    exact RI.mk (hR.s (6, 0) (by decide)) rfl
  · refine WE.tsw (tgt := 93) dX4_numberOf_1 1 (by decide) (by decide) (by decide) rfl (by decide) ?_
    refine WE.aload_n (n := 94) dX4_numberOf_93 rfl rfl ?_
    refine WE.getI (n := 97) dX4_numberOf_94 rfl fl_X4_30 ⟨by decide, by decide, rfl⟩ (by first | decide | exact kd_bal (by assumption) | exact kd_let (by assumption) | assumption) ?_
    refine WE.iret (ty := .int) dX4_numberOf_97 rfl rfl ⟨by decide, by decide⟩ ?_
    exact RI.mk (hR.s (7, 1) (by decide)) rfl
  · refine WE.tsw (tgt := 98) dX4_numberOf_1 2 (by decide) (by decide) (by decide) rfl (by decide) ?_
    refine WE.aload_n (n := 99) dX4_numberOf_98 rfl rfl ?_
    refine WE.getI (n := 102) dX4_numberOf_99 rfl fl_X4_34 ⟨by decide, by decide, rfl⟩ (by first | decide | exact kd_bal (by assumption) | exact kd_let (by assumption) | assumption) ?_
    refine WE.iret (ty := .int) dX4_numberOf_102 rfl rfl ⟨by decide, by decide⟩ ?_
    exact RI.mk (hR.s (8, 2) (by decide)) rfl
  · refine WE.tsw (tgt := 103) dX4_numberOf_1 3 (by decide) (by decide) (by decide) rfl (by decide) ?_
    refine WE.aload_n (n := 104) dX4_numberOf_103 rfl rfl ?_
    refine WE.getI (n := 107) dX4_numberOf_104 rfl fl_X4_46 ⟨by decide, by decide, rfl⟩ (by first | decide | exact kd_bal (by assumption) | exact kd_let (by assumption) | assumption) ?_
    refine WE.iret (ty := .int) dX4_numberOf_107 rfl rfl ⟨by decide, by decide⟩ ?_
    exact RI.mk (hR.s (4, 3) (by decide)) rfl
  · refine WE.tsw (tgt := 108) dX4_numberOf_1 4 (by decide) (by decide) (by decide) rfl (by decide) ?_
    refine WE.aload_n (n := 109) dX4_numberOf_108 rfl rfl ?_
    refine WE.iconst (n := 110) (nI 0) dX4_numberOf_109 rfl (by decide) ?_
    refine WE.V1I (M' := mX4_balloonsIn) (n := 113) dX4_numberOf_110 rfl cv_X4_162 (by first | decide | exact kd_bal (by assumption) | exact kd_let (by assumption) | assumption) ⟨⟨by decide, by decide⟩, by decide, by decide⟩ (Nat.le_of_ble_eq_true rfl) (c_balloonsIn c od N hR hI.cn _) ?_
    refine WE.iret (ty := .int) dX4_numberOf_113 rfl rfl ⟨by decide, by decide⟩ ?_
    exact RI.mk rfl rfl
  · refine WE.tsw (tgt := 114) dX4_numberOf_1 5 (by decide) (by decide) (by decide) rfl (by decide) ?_
    refine WE.aload_n (n := 115) dX4_numberOf_114 rfl rfl ?_
    refine WE.iconst (n := 116) (nI 1) dX4_numberOf_115 rfl (by decide) ?_
    refine WE.V1I (M' := mX4_balloonsIn) (n := 119) dX4_numberOf_116 rfl cv_X4_162 (by first | decide | exact kd_bal (by assumption) | exact kd_let (by assumption) | assumption) ⟨⟨by decide, by decide⟩, by decide, by decide⟩ (Nat.le_of_ble_eq_true rfl) (c_balloonsIn c od N hR hI.cn _) ?_
    refine WE.iret (ty := .int) dX4_numberOf_119 rfl rfl ⟨by decide, by decide⟩ ?_
    exact RI.mk rfl rfl
  · refine WE.tsw (tgt := 120) dX4_numberOf_1 6 (by decide) (by decide) (by decide) rfl (by decide) ?_
    refine WE.aload_n (n := 121) dX4_numberOf_120 rfl rfl ?_
    refine WE.iconst (n := 122) (nI 2) dX4_numberOf_121 rfl (by decide) ?_
    refine WE.V1I (M' := mX4_balloonsIn) (n := 125) dX4_numberOf_122 rfl cv_X4_162 (by first | decide | exact kd_bal (by assumption) | exact kd_let (by assumption) | assumption) ⟨⟨by decide, by decide⟩, by decide, by decide⟩ (Nat.le_of_ble_eq_true rfl) (c_balloonsIn c od N hR hI.cn _) ?_
    refine WE.iret (ty := .int) dX4_numberOf_125 rfl rfl ⟨by decide, by decide⟩ ?_
    exact RI.mk rfl rfl
  · refine WE.tsw (tgt := 126) dX4_numberOf_1 7 (by decide) (by decide) (by decide) rfl (by decide) ?_
    refine WE.aload_n (n := 127) dX4_numberOf_126 rfl rfl ?_
    refine WE.iconst (n := 128) (nI 3) dX4_numberOf_127 rfl (by decide) ?_
    refine WE.V1I (M' := mX4_balloonsIn) (n := 131) dX4_numberOf_128 rfl cv_X4_162 (by first | decide | exact kd_bal (by assumption) | exact kd_let (by assumption) | assumption) ⟨⟨by decide, by decide⟩, by decide, by decide⟩ (Nat.le_of_ble_eq_true rfl) (c_balloonsIn c od N hR hI.cn _) ?_
    refine WE.iret (ty := .int) dX4_numberOf_131 rfl rfl ⟨by decide, by decide⟩ ?_
    exact RI.mk rfl rfl
  · refine WE.tsw (tgt := 132) dX4_numberOf_1 8 (by decide) (by decide) (by decide) rfl (by decide) ?_
    refine WE.aload_n (n := 133) dX4_numberOf_132 rfl rfl ?_
    refine WE.getI (n := 136) dX4_numberOf_133 rfl fl_X4_49 ⟨by decide, by decide, rfl⟩ (by first | decide | exact kd_bal (by assumption) | exact kd_let (by assumption) | assumption) ?_
    refine WE.iret (ty := .int) dX4_numberOf_136 rfl rfl ⟨by decide, by decide⟩ ?_
    exact RI.mk (hR.s (5, 4) (by decide)) rfl
  · refine WE.tsw (tgt := 137) dX4_numberOf_1 9 (by decide) (by decide) (by decide) rfl (by decide) ?_
    refine WE.aload_n (n := 138) dX4_numberOf_137 rfl rfl ?_
    refine WE.iconst (n := 139) (nI 0) dX4_numberOf_138 rfl (by decide) ?_
    refine WE.V1I (M' := mX4_lettersIn) (n := 142) dX4_numberOf_139 rfl cv_X4_165 (by first | decide | exact kd_bal (by assumption) | exact kd_let (by assumption) | assumption) ⟨⟨by decide, by decide⟩, by decide, by decide⟩ (Nat.le_of_ble_eq_true rfl) (c_lettersIn c od N hR hI hI.cn _) ?_
    refine WE.iret (ty := .int) dX4_numberOf_142 rfl rfl ⟨by decide, by decide⟩ ?_
    exact RI.mk rfl rfl
  · refine WE.tsw (tgt := 143) dX4_numberOf_1 10 (by decide) (by decide) (by decide) rfl (by decide) ?_
    refine WE.aload_n (n := 144) dX4_numberOf_143 rfl rfl ?_
    refine WE.iconst (n := 145) (nI 1) dX4_numberOf_144 rfl (by decide) ?_
    refine WE.V1I (M' := mX4_lettersIn) (n := 148) dX4_numberOf_145 rfl cv_X4_165 (by first | decide | exact kd_bal (by assumption) | exact kd_let (by assumption) | assumption) ⟨⟨by decide, by decide⟩, by decide, by decide⟩ (Nat.le_of_ble_eq_true rfl) (c_lettersIn c od N hR hI hI.cn _) ?_
    refine WE.iret (ty := .int) dX4_numberOf_148 rfl rfl ⟨by decide, by decide⟩ ?_
    exact RI.mk rfl rfl
  · refine WE.tsw (tgt := 149) dX4_numberOf_1 11 (by decide) (by decide) (by decide) rfl (by decide) ?_
    refine WE.aload_n (n := 150) dX4_numberOf_149 rfl rfl ?_
    refine WE.iconst (n := 151) (nI 2) dX4_numberOf_150 rfl (by decide) ?_
    refine WE.V1I (M' := mX4_lettersIn) (n := 154) dX4_numberOf_151 rfl cv_X4_165 (by first | decide | exact kd_bal (by assumption) | exact kd_let (by assumption) | assumption) ⟨⟨by decide, by decide⟩, by decide, by decide⟩ (Nat.le_of_ble_eq_true rfl) (c_lettersIn c od N hR hI hI.cn _) ?_
    refine WE.iret (ty := .int) dX4_numberOf_154 rfl rfl ⟨by decide, by decide⟩ ?_
    exact RI.mk rfl rfl
  · refine WE.tsw (tgt := 155) dX4_numberOf_1 12 (by decide) (by decide) (by decide) rfl (by decide) ?_
    refine WE.aload_n (n := 156) dX4_numberOf_155 rfl rfl ?_
    refine WE.iconst (n := 157) (nI 3) dX4_numberOf_156 rfl (by decide) ?_
    refine WE.V1I (M' := mX4_lettersIn) (n := 160) dX4_numberOf_157 rfl cv_X4_165 (by first | decide | exact kd_bal (by assumption) | exact kd_let (by assumption) | assumption) ⟨⟨by decide, by decide⟩, by decide, by decide⟩ (Nat.le_of_ble_eq_true rfl) (c_lettersIn c od N hR hI hI.cn _) ?_
    refine WE.iret (ty := .int) dX4_numberOf_160 rfl rfl ⟨by decide, by decide⟩ ?_
    exact RI.mk rfl rfl
  · refine WE.tsw (tgt := 161) dX4_numberOf_1 13 (by decide) (by decide) (by decide) rfl (by decide) ?_
    refine WE.aload_n (n := 162) dX4_numberOf_161 rfl rfl ?_
    refine WE.V0I (M' := mX4_wordsTold) (n := 165) dX4_numberOf_162 rfl cv_X4_168 (by first | decide | exact kd_bal (by assumption) | exact kd_let (by assumption) | assumption) ⟨⟨by decide, by decide⟩, by decide, by decide⟩ (Nat.le_of_ble_eq_true rfl) (c_wordsTold c od N hR hI.cn) ?_
    refine WE.iret (ty := .int) dX4_numberOf_165 rfl rfl ⟨by decide, by decide⟩ ?_
    exact RI.mk rfl rfl
  · refine WE.tsw (tgt := 166) dX4_numberOf_1 14 (by decide) (by decide) (by decide) rfl (by decide) ?_
    refine WE.aload_n (n := 167) dX4_numberOf_166 rfl rfl ?_
    refine WE.getI (n := 170) dX4_numberOf_167 rfl fl_X4_55 ⟨by decide, by decide, rfl⟩ (by first | decide | exact kd_bal (by assumption) | exact kd_let (by assumption) | assumption) ?_
    refine WE.iret (ty := .int) dX4_numberOf_170 rfl rfl ⟨by decide, by decide⟩ ?_
    exact RI.mk (hR.s (9, 5) (by decide)) rfl
  · refine WE.tsw (tgt := 171) dX4_numberOf_1 15 (by decide) (by decide) (by decide) rfl (by decide) ?_
    refine WE.aload_n (n := 172) dX4_numberOf_171 rfl rfl ?_
    refine WE.getI (n := 175) dX4_numberOf_172 rfl fl_X4_58 ⟨by decide, by decide, rfl⟩ (by first | decide | exact kd_bal (by assumption) | exact kd_let (by assumption) | assumption) ?_
    refine WE.iret (ty := .int) dX4_numberOf_175 rfl rfl ⟨by decide, by decide⟩ ?_
    exact RI.mk (hR.s (10, 6) (by decide)) rfl
  · refine WE.tsw (tgt := 176) dX4_numberOf_1 16 (by decide) (by decide) (by decide) rfl (by decide) ?_
    refine WE.aload_n (n := 177) dX4_numberOf_176 rfl rfl ?_
    refine WE.getI (n := 180) dX4_numberOf_177 rfl fl_X4_61 ⟨by decide, by decide, rfl⟩ (by first | decide | exact kd_bal (by assumption) | exact kd_let (by assumption) | assumption) ?_
    refine WE.iret (ty := .int) dX4_numberOf_180 rfl rfl ⟨by decide, by decide⟩ ?_
    exact RI.mk (hR.s (11, 7) (by decide)) rfl
  · refine WE.tsw (tgt := 181) dX4_numberOf_1 17 (by decide) (by decide) (by decide) rfl (by decide) ?_
    refine WE.aload_n (n := 182) dX4_numberOf_181 rfl rfl ?_
    refine WE.getI (n := 185) dX4_numberOf_182 rfl fl_X4_64 ⟨by decide, by decide, rfl⟩ (by first | decide | exact kd_bal (by assumption) | exact kd_let (by assumption) | assumption) ?_
    refine WE.iret (ty := .int) dX4_numberOf_185 rfl rfl ⟨by decide, by decide⟩ ?_
    exact RI.mk (hR.s (12, 8) (by decide)) rfl
  · refine WE.tswO (tgt := 186) dX4_numberOf_1 (Or.inr (by decide)) (by decide) ?_
    refine WE.aload_n (n := 187) dX4_numberOf_186 rfl rfl ?_
    refine WE.getI (n := 190) dX4_numberOf_187 rfl fl_X4_67 ⟨by decide, by decide, rfl⟩ (by first | decide | exact kd_bal (by assumption) | exact kd_let (by assumption) | assumption) ?_
    refine WE.iret (ty := .int) dX4_numberOf_190 rfl rfl ⟨by decide, by decide⟩ ?_
    exact RI.mk (hR.s (13, 9) (by decide)) rfl
set_option maxRecDepth 20000 in
set_option maxHeartbeats 1000000 in
theorem c_lap_loop {G : GT} (c : CC) (od : Int64 × UInt64) (N : NA) (hR : RelT c 1 N) (hI : IN N) (x : Int32) (q r : Nat) (hq : ∀ k, k < q → x ≠ nI k)
    (kr : ∀ i : Nat, i < nlN N → (N (88 + 4 * i + 2) = 0 ∧ N (88 + 4 * i + 1) = nI r) → x = nI (q + (FL N r i).length) → WE mX4_letterAtPlace 35 [(4, .int (nI i))] [] (c, od) 0 0 G)
    (ke : (∀ k, k < q + (FL N r (nlN N)).length → x ≠ nI k) → WE mX4_letterAtPlace 47 [(0, .ref 1), (1, .int x), (2, .int (nI (q + (FL N r (nlN N)).length))), (3, .int (nI r)), (4, .int (nI (nlN N)))] [] (c, od) 0 0 G) :
    WE mX4_letterAtPlace 11 [(0, .ref 1), (1, .int x), (2, .int (nI q)), (3, .int (nI r)), (4, .int (nI 0))] [] (c, od) 0 0 G := by
  have hn24 := hI.cn.2.2.1
  have s5 : c 1 5 = nI (nlN N) := (hR.s (5, 4) (by decide)).trans hI.cn.2.2.2
  suffices H : ∀ n i : Nat, i ≤ (nlN N) → (nlN N) < i + n → (∀ k, k < q + (FL N r i).length → x ≠ nI k) → WE mX4_letterAtPlace 11 [(0, .ref 1), (1, .int x), (2, .int (nI (q + (FL N r i).length))), (3, .int (nI r)), (4, .int (nI i))] [] (c, od) 0 0 G from WE.ofA (L' := [(0, .ref 1), (1, .int x), (2, .int (nI (q + (FL N r 0).length))), (3, .int (nI r)), (4, .int (nI 0))]) ⟨rfl, rfl, rfl, rfl, rfl, trivial⟩ (H ((nlN N) + 1) 0 (Nat.zero_le _) (by omega) hq)
  intro n
  induction n with
  | zero =>
    intro i h1 h2
    exact absurd h2 (by omega)
  | succ n ih =>
    intro i hi hn hQ
    refine WE.iload (n := 13) dX4_letterAtPlace_11 rfl rfl ?_
    refine WE.aload_n (n := 14) dX4_letterAtPlace_13 rfl rfl ?_
    refine WE.getI (n := 17) dX4_letterAtPlace_14 rfl fl_X4_49 ⟨by decide, by decide, rfl⟩ (by first | decide | exact kd_bal (by assumption) | exact kd_let (by assumption) | assumption) ?_
    refine WE.icmp_ge (n := 20) (tgt := 47) dX4_letterAtPlace_17 rfl (by decide) (fun h17 => ?_) (fun h17 => ?_)
    · skip
      rw [s5] at h17
      have hx : i = nlN N := by have := ge_t (by omega) (by omega) h17; omega
      subst hx
      exact ke hQ
    · skip
      rw [s5] at h17
      have hlt : i < nlN N := ge_f (by omega) (by omega) h17
      have gl := hR.l hlt
      have hlf := ((hI.l hlt).2.2.f hI.cn)
      have hFL := FL_len N r i
      refine WE.aload_n (n := 21) dX4_letterAtPlace_20 rfl rfl ?_
      refine WE.iload (n := 23) dX4_letterAtPlace_21 rfl rfl ?_
      refine WE.iload_n (n := 24) dX4_letterAtPlace_23 rfl rfl ?_
      refine WE.V2I (M' := mX4_isWaiting) (n := 27) dX4_letterAtPlace_24 rfl cv_X4_132 (by first | decide | exact kd_bal (by assumption) | exact kd_let (by assumption) | assumption) ⟨⟨by decide, by decide⟩, by decide, by decide⟩ (Nat.le_of_ble_eq_true rfl) (c_isWaiting c od i (by omega) (nI r)) ?_
      refine WE.if_eqB (n := 30) (tgt := 41) dX4_letterAtPlace_27 rfl (by decide) (fun h27 => ?_) (fun h27 => ?_)
      · skip
        have hm : ¬ (N (88 + 4 * i + 2) = 0 ∧ N (88 + 4 * i + 1) = nI r) := fun z => h27 ⟨gl.2.2.trans (hlf.mp z.1), gl.2.1.trans z.2⟩
        refine WE.iincV (n := 44) (nI (i + 1)) dX4_letterAtPlace_41 rfl rfl (by decide) (nI_inc i) ?_
        refine WE.goto (tgt := 11) dX4_letterAtPlace_44 (by decide) ?_
        exact WE.ofA (L' := [(0, .ref 1), (1, .int x), (2, .int (nI (q + (FL N r (i + 1)).length))), (3, .int (nI r)), (4, .int (nI (i + 1)))]) ⟨rfl, rfl, sI (by rw [FL_f hm]), rfl, rfl, trivial⟩ (ih (i + 1) (by omega) (by omega) (by rw [FL_f hm]; exact hQ))
      · skip
        have hm : N (88 + 4 * i + 2) = 0 ∧ N (88 + 4 * i + 1) = nI r := ⟨hlf.mpr (gl.2.2.symm.trans h27.1), gl.2.1.symm.trans h27.2⟩
        refine WE.iload_n (n := 31) dX4_letterAtPlace_30 rfl rfl ?_
        refine WE.iload_n (n := 32) dX4_letterAtPlace_31 rfl rfl ?_
        refine WE.icmp_ne (n := 35) (tgt := 38) dX4_letterAtPlace_32 rfl (by decide) (fun h32 => ?_) (fun h32 => ?_)
        · skip
          refine WE.iincV (n := 41) (nI (q + (FL N r i).length + 1)) dX4_letterAtPlace_38 rfl rfl (by decide) (nI_inc _) ?_
          refine WE.iincV (n := 44) (nI (i + 1)) dX4_letterAtPlace_41 rfl rfl (by decide) (nI_inc i) ?_
          refine WE.goto (tgt := 11) dX4_letterAtPlace_44 (by decide) ?_
          exact WE.ofA (L' := [(0, .ref 1), (1, .int x), (2, .int (nI (q + (FL N r (i + 1)).length))), (3, .int (nI r)), (4, .int (nI (i + 1)))]) ⟨rfl, rfl, sI (by rw [FL_t hm, List.length_append]; rfl), rfl, rfl, trivial⟩ (ih (i + 1) (by omega) (by omega) (fun k hk => by
            rw [FL_t hm, List.length_append, List.length_singleton] at hk
            by_cases e : k = q + (FL N r i).length
            · rw [e]
              exact fun z => h32 z.symm
            · exact hQ k (by omega)))
        · skip
          exact WE.ofA (L' := [(4, .int (nI i))]) ⟨rfl, trivial⟩ (kr i hlt hm (by first | exact h32.symm | exact (Classical.not_not.mp h32).symm))
set_option maxRecDepth 20000 in
set_option maxHeartbeats 1000000 in
theorem c_letterAtPlace (c : CC) (od : Int64 × UInt64) (N : NA) (hR : RelT c 1 N) (hI : IN N) (x R : Int32) (h1 : ∀ k l : Nat, x = nI k → (WL N (nlN N))[k]? = some l → R = nI l) (h2 : (∀ k, k < (WL N (nlN N)).length → x ≠ nI k) → R = (-1 : Int32)) : CM mX4_letterAtPlace [.ref 1, .int x] (c, od) (RI R (c, od)) := by
  refine CM.of [(0, .ref 1), (1, .int x)] rfl (by decide +kernel) rfl (Nat.le_of_ble_eq_true rfl) ?_
  refine WE.iconst (n := 1) (nI 0) dX4_letterAtPlace_0 rfl (by decide) ?_
  refine WE.istore_n (n := 2) dX4_letterAtPlace_1 rfl (by decide) ?_
  refine WE.iconst (n := 3) (nI 2) dX4_letterAtPlace_2 rfl (by decide) ?_
  refine WE.istore_n (n := 4) dX4_letterAtPlace_3 rfl (by decide) ?_
  refine WE.iload_n (n := 5) dX4_letterAtPlace_4 rfl rfl ?_
  refine WE.if_lt (n := 8) (tgt := 53) dX4_letterAtPlace_5 rfl (by decide) (fun h => absurd h (by decide)) (fun _ => ?_)
  refine WE.iconst (n := 9) (nI 0) dX4_letterAtPlace_8 rfl (by decide) ?_
  refine WE.istore (n := 11) dX4_letterAtPlace_9 rfl (by decide) ?_
  refine WE.ofA (L' := [(0, .ref 1), (1, .int x), (2, .int (nI (0))), (3, .int (nI 2)), (4, .int (nI 0))]) ⟨rfl, rfl, rfl, rfl, rfl, trivial⟩ (c_lap_loop c od N hR hI x (0) 2 (fun k hk => absurd hk (Nat.not_lt_zero k)) (fun i hi hm hlen => ?_) (fun hq2 => ?_))
  · skip
    refine WE.iload (n := 37) dX4_letterAtPlace_35 rfl rfl ?_
    refine WE.iret (ty := .int) dX4_letterAtPlace_37 rfl rfl ⟨by decide, by decide⟩ ?_
    refine RI.mk ?_ rfl
    have e := FL_at (N := N) (r := 2) ([]) ((FL N 1 (nlN N)) ++ (FL N 0 (nlN N))) hi hm
    rw [show ([]).length + (FL N 2 i).length = 0 + (FL N 2 i).length by simp [Nat.add_assoc]] at e
    refine (h1 _ i hlen ?_).symm
    rw [show WL N (nlN N) = [] ++ (FL N 2 (nlN N) ++ ((FL N 1 (nlN N)) ++ (FL N 0 (nlN N)))) by simp [WL]]
    exact e
  refine WE.iincV (n := 50) (nI 1) dX4_letterAtPlace_47 rfl rfl (by decide) (by decide) ?_
  refine WE.goto (tgt := 4) dX4_letterAtPlace_50 (by decide) ?_
  refine WE.iload_n (n := 5) dX4_letterAtPlace_4 rfl rfl ?_
  refine WE.if_lt (n := 8) (tgt := 53) dX4_letterAtPlace_5 rfl (by decide) (fun h => absurd h (by decide)) (fun _ => ?_)
  refine WE.iconst (n := 9) (nI 0) dX4_letterAtPlace_8 rfl (by decide) ?_
  refine WE.istore (n := 11) dX4_letterAtPlace_9 rfl (by decide) ?_
  refine WE.ofA (L' := [(0, .ref 1), (1, .int x), (2, .int (nI (0 + (FL N 2 (nlN N)).length))), (3, .int (nI 1)), (4, .int (nI 0))]) ⟨rfl, rfl, rfl, rfl, rfl, trivial⟩ (c_lap_loop c od N hR hI x (0 + (FL N 2 (nlN N)).length) 1 hq2 (fun i hi hm hlen => ?_) (fun hq1 => ?_))
  · skip
    refine WE.iload (n := 37) dX4_letterAtPlace_35 rfl rfl ?_
    refine WE.iret (ty := .int) dX4_letterAtPlace_37 rfl rfl ⟨by decide, by decide⟩ ?_
    refine RI.mk ?_ rfl
    have e := FL_at (N := N) (r := 1) ((FL N 2 (nlN N))) ((FL N 0 (nlN N))) hi hm
    rw [show ((FL N 2 (nlN N))).length + (FL N 1 i).length = 0 + (FL N 2 (nlN N)).length + (FL N 1 i).length by simp [Nat.add_assoc]] at e
    refine (h1 _ i hlen ?_).symm
    rw [show WL N (nlN N) = (FL N 2 (nlN N)) ++ (FL N 1 (nlN N) ++ ((FL N 0 (nlN N)))) by simp [WL]]
    exact e
  refine WE.iincV (n := 50) (nI 0) dX4_letterAtPlace_47 rfl rfl (by decide) (by decide) ?_
  refine WE.goto (tgt := 4) dX4_letterAtPlace_50 (by decide) ?_
  refine WE.iload_n (n := 5) dX4_letterAtPlace_4 rfl rfl ?_
  refine WE.if_lt (n := 8) (tgt := 53) dX4_letterAtPlace_5 rfl (by decide) (fun h => absurd h (by decide)) (fun _ => ?_)
  refine WE.iconst (n := 9) (nI 0) dX4_letterAtPlace_8 rfl (by decide) ?_
  refine WE.istore (n := 11) dX4_letterAtPlace_9 rfl (by decide) ?_
  refine WE.ofA (L' := [(0, .ref 1), (1, .int x), (2, .int (nI (0 + (FL N 2 (nlN N)).length + (FL N 1 (nlN N)).length))), (3, .int (nI 0)), (4, .int (nI 0))]) ⟨rfl, rfl, rfl, rfl, rfl, trivial⟩ (c_lap_loop c od N hR hI x (0 + (FL N 2 (nlN N)).length + (FL N 1 (nlN N)).length) 0 hq1 (fun i hi hm hlen => ?_) (fun hq0 => ?_))
  · skip
    refine WE.iload (n := 37) dX4_letterAtPlace_35 rfl rfl ?_
    refine WE.iret (ty := .int) dX4_letterAtPlace_37 rfl rfl ⟨by decide, by decide⟩ ?_
    refine RI.mk ?_ rfl
    have e := FL_at (N := N) (r := 0) (((FL N 2 (nlN N)) ++ (FL N 1 (nlN N)))) ([]) hi hm
    rw [show (((FL N 2 (nlN N)) ++ (FL N 1 (nlN N)))).length + (FL N 0 i).length = 0 + (FL N 2 (nlN N)).length + (FL N 1 (nlN N)).length + (FL N 0 i).length by simp [Nat.add_assoc]] at e
    refine (h1 _ i hlen ?_).symm
    rw [show WL N (nlN N) = ((FL N 2 (nlN N)) ++ (FL N 1 (nlN N))) ++ (FL N 0 (nlN N) ++ ([])) by simp [WL]]
    exact e
  refine WE.iincV (n := 50) ((-1 : Int32)) dX4_letterAtPlace_47 rfl rfl (by decide) (by decide) ?_
  refine WE.goto (tgt := 4) dX4_letterAtPlace_50 (by decide) ?_
  refine WE.iload_n (n := 5) dX4_letterAtPlace_4 rfl rfl ?_
  refine WE.if_lt (n := 8) (tgt := 53) dX4_letterAtPlace_5 rfl (by decide) (fun _ => ?_) (fun h => absurd (by decide) h)
  refine WE.iconst (n := 54) (-1 : Int32) dX4_letterAtPlace_53 rfl (by decide) ?_
  refine WE.iret (ty := .int) dX4_letterAtPlace_54 rfl rfl ⟨by decide, by decide⟩ ?_
  refine RI.mk (h2 (fun k hk => hq0 k ?_)).symm rfl
  simp only [WL, List.length_append] at hk
  omega
