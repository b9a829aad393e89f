theorem m1p (x : Int32) : x + Int32.ofInt 1 = x + nI 1 := rfl
def wgB (c : CC) (o : Nat) (s : Int32) : Int32 := (c o 0 + nI 9) / nI 10 + c o 2 + c o 4 + (c o 6 + s + nI 2) / nI 3
set_option maxRecDepth 20000 in
set_option maxHeartbeats 1000000 in
theorem c_weightWith (c : CC) (od : Int64 × UInt64) (o : Nat) (ho : KD o = 0 ∧ o < NN) (s : Int32) : CM mX0_weightWith [.ref o, .int s] (c, od) (RI (wgB c o s) (c, od)) := by
  refine CM.of [(0, .ref o), (1, .int s)] rfl (by decide +kernel) rfl (Nat.le_of_ble_eq_true rfl) ?_
  refine WE.aload_n (n := 1) dX0_weightWith_0 rfl rfl ?_
  refine WE.getI (n := 4) dX0_weightWith_1 rfl fl_X0_18 ⟨by decide, by decide, rfl⟩ (by first | decide | exact kd_bal (by assumption) | exact kd_let (by assumption) | assumption) ?_
  refine WE.bipush (n := 6) (nI 9) dX0_weightWith_4 rfl (by decide) ?_
  refine WE.iadd (n := 7) dX0_weightWith_6 rfl ?_
  refine WE.bipush (n := 9) (nI 10) dX0_weightWith_7 rfl (by decide) ?_
  refine WE.idiv (n := 10) dX0_weightWith_9 rfl (by decide) ?_
  refine WE.aload_n (n := 11) dX0_weightWith_10 rfl rfl ?_
  refine WE.getI (n := 14) dX0_weightWith_11 rfl fl_X0_24 ⟨by decide, by decide, rfl⟩ (by first | decide | exact kd_bal (by assumption) | exact kd_let (by assumption) | assumption) ?_
  refine WE.iadd (n := 15) dX0_weightWith_14 rfl ?_
  refine WE.aload_n (n := 16) dX0_weightWith_15 rfl rfl ?_
  refine WE.getI (n := 19) dX0_weightWith_16 rfl fl_X0_30 ⟨by decide, by decide, rfl⟩ (by first | decide | exact kd_bal (by assumption) | exact kd_let (by assumption) | assumption) ?_
  refine WE.iadd (n := 20) dX0_weightWith_19 rfl ?_
  refine WE.aload_n (n := 21) dX0_weightWith_20 rfl rfl ?_
  refine WE.getI (n := 24) dX0_weightWith_21 rfl fl_X0_36 ⟨by decide, by decide, rfl⟩ (by first | decide | exact kd_bal (by assumption) | exact kd_let (by assumption) | assumption) ?_
  refine WE.iload_n (n := 25) dX0_weightWith_24 rfl rfl ?_
  refine WE.iadd (n := 26) dX0_weightWith_25 rfl ?_
  refine WE.iconst (n := 27) (nI 2) dX0_weightWith_26 rfl (by decide) ?_
  refine WE.iadd (n := 28) dX0_weightWith_27 rfl ?_
  refine WE.iconst (n := 29) (nI 3) dX0_weightWith_28 rfl (by decide) ?_
  refine WE.idiv (n := 30) dX0_weightWith_29 rfl (by decide) ?_
  refine WE.iadd (n := 31) dX0_weightWith_30 rfl ?_
  refine WE.iret (ty := .int) dX0_weightWith_31 rfl rfl ⟨by decide, by decide⟩ ?_
  exact RI.mk rfl rfl
set_option maxRecDepth 20000 in
set_option maxHeartbeats 1000000 in
theorem c_weight (c : CC) (od : Int64 × UInt64) (o : Nat) (ho : KD o = 0 ∧ o < NN) : CM mX0_weight [.ref o] (c, od) (RI (wgB c o (nI 0)) (c, od)) := by
  refine CM.of [(0, .ref o)] rfl (by decide +kernel) rfl (Nat.le_of_ble_eq_true rfl) ?_
  refine WE.aload_n (n := 1) dX0_weight_0 rfl rfl ?_
  refine WE.iconst (n := 2) (nI 0) dX0_weight_1 rfl (by decide) ?_
  refine WE.V1I (M' := mX0_weightWith) (n := 5) dX0_weight_2 rfl cv_X0_51 (by first | decide | exact kd_bal (by assumption) | exact kd_let (by assumption) | assumption) ⟨⟨by decide, by decide⟩, by decide, by decide⟩ (Nat.le_of_ble_eq_true rfl) (c_weightWith _ _ o ho _) ?_
  refine WE.iret (ty := .int) dX0_weight_5 rfl rfl ⟨by decide, by decide⟩ ?_
  exact RI.mk rfl rfl
set_option maxRecDepth 20000 in
set_option maxHeartbeats 1000000 in
theorem c_bears (c : CC) (od : Int64 × UInt64) (o : Nat) (ho : KD o = 0 ∧ o < NN) : CM mX0_bears [.ref o] (c, od) (RI (c o 1 - wgB c o (nI 0)) (c, od)) := by
  refine CM.of [(0, .ref o)] rfl (by decide +kernel) rfl (Nat.le_of_ble_eq_true rfl) ?_
  refine WE.aload_n (n := 1) dX0_bears_0 rfl rfl ?_
  refine WE.getI (n := 4) dX0_bears_1 rfl fl_X0_21 ⟨by decide, by decide, rfl⟩ (by first | decide | exact kd_bal (by assumption) | exact kd_let (by assumption) | assumption) ?_
  refine WE.aload_n (n := 5) dX0_bears_4 rfl rfl ?_
  refine WE.iconst (n := 6) (nI 0) dX0_bears_5 rfl (by decide) ?_
  refine WE.V1I (M' := mX0_weightWith) (n := 9) dX0_bears_6 rfl cv_X0_51 (by first | decide | exact kd_bal (by assumption) | exact kd_let (by assumption) | assumption) ⟨⟨by decide, by decide⟩, by decide, by decide⟩ (Nat.le_of_ble_eq_true rfl) (c_weightWith _ _ o ho _) ?_
  refine WE.isub (n := 10) dX0_bears_9 rfl ?_
  refine WE.iret (ty := .int) dX0_bears_10 rfl rfl ⟨by decide, by decide⟩ ?_
  exact RI.mk rfl rfl
set_option maxRecDepth 20000 in
set_option maxHeartbeats 1000000 in
theorem c_distance (c : CC) (od : Int64 × UInt64) (o : Nat) (ho : KD o = 0 ∧ o < NN) : CM mX0_distance [.ref o] (c, od) (RI (far (c o 9) (c o 10)) (c, od)) := by
  refine CM.of [(0, .ref o)] rfl (by decide +kernel) rfl (Nat.le_of_ble_eq_true rfl) ?_
  refine WE.aload_n (n := 1) dX0_distance_0 rfl rfl ?_
  refine WE.getI (n := 4) dX0_distance_1 rfl fl_X0_9 ⟨by decide, by decide, rfl⟩ (by first | decide | exact kd_bal (by assumption) | exact kd_let (by assumption) | assumption) ?_
  refine WE.aload_n (n := 5) dX0_distance_4 rfl rfl ?_
  refine WE.getI (n := 8) dX0_distance_5 rfl fl_X0_15 ⟨by decide, by decide, rfl⟩ (by first | decide | exact kd_bal (by assumption) | exact kd_let (by assumption) | assumption) ?_
  refine WE.N2I (M' := mX5_distanceFromTown) (n := 11) dX0_distance_8 rfl cv_X0_55  ⟨⟨by decide, by decide⟩, by decide, by decide⟩ (Nat.le_of_ble_eq_true rfl) (c_distanceFromTown _ _ _) ?_
  refine WE.iret (ty := .int) dX0_distance_11 rfl rfl ⟨by decide, by decide⟩ ?_
  exact RI.mk rfl rfl
set_option maxRecDepth 20000 in
set_option maxHeartbeats 1000000 in
theorem c_sendsWord (c : CC) (od : Int64 × UInt64) (o : Nat) (ho : KD o = 0 ∧ o < NN) : CM mX0_sendsWord [.ref o] (c, od) (RI (b2i (c o 7 = nI 2 ∧ 0 < c o 3)) (c, od)) := by
  refine CM.of [(0, .ref o)] rfl (by decide +kernel) rfl (Nat.le_of_ble_eq_true rfl) ?_
  refine WE.aload_n (n := 1) dX0_sendsWord_0 rfl rfl ?_
  refine WE.getI (n := 4) dX0_sendsWord_1 rfl fl_X0_39 ⟨by decide, by decide, rfl⟩ (by first | decide | exact kd_bal (by assumption) | exact kd_let (by assumption) | assumption) ?_
  refine WE.iconst (n := 5) (nI 2) dX0_sendsWord_4 rfl (by decide) ?_
  refine WE.icmp_ne (n := 8) (tgt := 19) dX0_sendsWord_5 rfl (by decide) (fun h5 => ?_) (fun h5 => ?_)
  · skip
    refine WE.iconst (n := 20) (nI 0) dX0_sendsWord_19 rfl (by decide) ?_
    refine WE.iret (ty := .boolean) dX0_sendsWord_20 rfl (by first | rfl | exact b2i_nar _ | decide) ⟨by decide, by decide⟩ ?_
    first | exact RI.mk (b2i_t ⟨h5, lt_of0 h12⟩).symm rfl | exact RI.mk (b2i_t ⟨Classical.not_not.mp h5, lt_of0 h12⟩).symm rfl | exact RI.mk (b2i_f (fun q => by first | exact h5 q.1 | exact le_of0 h12 q.2)).symm rfl
  · skip
    refine WE.aload_n (n := 9) dX0_sendsWord_8 rfl rfl ?_
    refine WE.getI (n := 12) dX0_sendsWord_9 rfl fl_X0_27 ⟨by decide, by decide, rfl⟩ (by first | decide | exact kd_bal (by assumption) | exact kd_let (by assumption) | assumption) ?_
    refine WE.if_le (n := 15) (tgt := 19) dX0_sendsWord_12 rfl (by decide) (fun h12 => ?_) (fun h12 => ?_)
    · skip
      refine WE.iconst (n := 20) (nI 0) dX0_sendsWord_19 rfl (by decide) ?_
      refine WE.iret (ty := .boolean) dX0_sendsWord_20 rfl (by first | rfl | exact b2i_nar _ | decide) ⟨by decide, by decide⟩ ?_
      first | exact RI.mk (b2i_t ⟨h5, lt_of0 h12⟩).symm rfl | exact RI.mk (b2i_t ⟨Classical.not_not.mp h5, lt_of0 h12⟩).symm rfl | exact RI.mk (b2i_f (fun q => by first | exact h5 q.1 | exact le_of0 h12 q.2)).symm rfl
    · skip
      refine WE.iconst (n := 16) (nI 1) dX0_sendsWord_15 rfl (by decide) ?_
      refine WE.goto (tgt := 20) dX0_sendsWord_16 (by decide) ?_
      refine WE.iret (ty := .boolean) dX0_sendsWord_20 rfl (by first | rfl | exact b2i_nar _ | decide) ⟨by decide, by decide⟩ ?_
      first | exact RI.mk (b2i_t ⟨h5, lt_of0 h12⟩).symm rfl | exact RI.mk (b2i_t ⟨Classical.not_not.mp h5, lt_of0 h12⟩).symm rfl | exact RI.mk (b2i_f (fun q => by first | exact h5 q.1 | exact le_of0 h12 q.2)).symm rfl
def numB (c : CC) (o k : Nat) : Int32 := match k with
  | 0 => c o 0
  | 1 => c o 1
  | 2 => c o 2
  | 3 => c o 3
  | 4 => c o 5
  | 5 => wgB c o (nI 0)
  | 6 => c o 1 - wgB c o (nI 0)
  | 7 => c o 7
  | 8 => c o 8
  | 9 => c o 9
  | 10 => c o 10
  | _ => c o 11
set_option maxRecDepth 20000 in
set_option maxHeartbeats 1000000 in
theorem c_numberOfB (c : CC) (od : Int64 × UInt64) (o : Nat) (ho : KD o = 0 ∧ o < NN) (k : Nat) (hk : k < 12) : CM mX0_numberOf [.ref o, .int (nI k)] (c, od) (RI (numB c o k) (c, od)) := by
  refine CM.of [(0, .ref o), (1, .int (nI k))] rfl (by decide +kernel) rfl (Nat.le_of_ble_eq_true rfl) ?_
  refine WE.iload_n (n := 1) dX0_numberOf_0 rfl rfl ?_
  rcases (show k = 0 ∨ k = 1 ∨ k = 2 ∨ k = 3 ∨ k = 4 ∨ k = 5 ∨ k = 6 ∨ k = 7 ∨ k = 8 ∨ k = 9 ∨ k = 10 ∨ k = 11 by omega) with rfl | rfl | rfl | rfl | rfl | rfl | rfl | rfl | rfl | rfl | rfl | rfl
  · refine WE.tsw (tgt := 60) dX0_numberOf_1 0 (by decide) (by decide) (by decide) rfl (by decide) ?_
    refine WE.aload_n (n := 61) dX0_numberOf_60 rfl rfl ?_
    refine WE.getI (n := 64) dX0_numberOf_61 rfl fl_X0_18 ⟨by decide, by decide, rfl⟩ (by first | decide | exact kd_bal (by assumption) | exact kd_let (by assumption) | assumption) ?_
    refine WE.iret (ty := .int) dX0_numberOf_64 rfl rfl ⟨by decide, by decide⟩ ?_
    exact RI.mk rfl rfl
  · refine WE.tsw (tgt := 65) dX0_numberOf_1 1 (by decide) (by decide) (by decide) rfl (by decide) ?_
    refine WE.aload_n (n := 66) dX0_numberOf_65 rfl rfl ?_
    refine WE.getI (n := 69) dX0_numberOf_66 rfl fl_X0_21 ⟨by decide, by decide, rfl⟩ (by first | decide | exact kd_bal (by assumption) | exact kd_let (by assumption) | assumption) ?_
    refine WE.iret (ty := .int) dX0_numberOf_69 rfl rfl ⟨by decide, by decide⟩ ?_
    exact RI.mk rfl rfl
  · refine WE.tsw (tgt := 70) dX0_numberOf_1 2 (by decide) (by decide) (by decide) rfl (by decide) ?_
    refine WE.aload_n (n := 71) dX0_numberOf_70 rfl rfl ?_
    refine WE.getI (n := 74) dX0_numberOf_71 rfl fl_X0_24 ⟨by decide, by decide, rfl⟩ (by first | decide | exact kd_bal (by assumption) | exact kd_let (by assumption) | assumption) ?_
    refine WE.iret (ty := .int) dX0_numberOf_74 rfl rfl ⟨by decide, by decide⟩ ?_
    exact RI.mk rfl rfl
  · refine WE.tsw (tgt := 75) dX0_numberOf_1 3 (by decide) (by decide) (by decide) rfl (by decide) ?_
    refine WE.aload_n (n := 76) dX0_numberOf_75 rfl rfl ?_
    refine WE.getI (n := 79) dX0_numberOf_76 rfl fl_X0_27 ⟨by decide, by decide, rfl⟩ (by first | decide | exact kd_bal (by assumption) | exact kd_let (by assumption) | assumption) ?_
    refine WE.iret (ty := .int) dX0_numberOf_79 rfl rfl ⟨by decide, by decide⟩ ?_
    exact RI.mk rfl rfl
  · refine WE.tsw (tgt := 80) dX0_numberOf_1 4 (by decide) (by decide) (by decide) rfl (by decide) ?_
    refine WE.aload_n (n := 81) dX0_numberOf_80 rfl rfl ?_
    refine WE.getI (n := 84) dX0_numberOf_81 rfl fl_X0_33 ⟨by decide, by decide, rfl⟩ (by first | decide | exact kd_bal (by assumption) | exact kd_let (by assumption) | assumption) ?_
    refine WE.iret (ty := .int) dX0_numberOf_84 rfl rfl ⟨by decide, by decide⟩ ?_
    exact RI.mk rfl rfl
  · refine WE.tsw (tgt := 85) dX0_numberOf_1 5 (by decide) (by decide) (by decide) rfl (by decide) ?_
    refine WE.aload_n (n := 86) dX0_numberOf_85 rfl rfl ?_
    refine WE.V0I (M' := mX0_weight) (n := 89) dX0_numberOf_86 rfl cv_X0_59 (by first | decide | exact kd_bal (by assumption) | exact kd_let (by assumption) | assumption) ⟨⟨by decide, by decide⟩, by decide, by decide⟩ (Nat.le_of_ble_eq_true rfl) (c_weight _ _ o ho) ?_
    refine WE.iret (ty := .int) dX0_numberOf_89 rfl rfl ⟨by decide, by decide⟩ ?_
    exact RI.mk rfl rfl
  · refine WE.tsw (tgt := 90) dX0_numberOf_1 6 (by decide) (by decide) (by decide) rfl (by decide) ?_
    refine WE.aload_n (n := 91) dX0_numberOf_90 rfl rfl ?_
    refine WE.V0I (M' := mX0_bears) (n := 94) dX0_numberOf_91 rfl cv_X0_63 (by first | decide | exact kd_bal (by assumption) | exact kd_let (by assumption) | assumption) ⟨⟨by decide, by decide⟩, by decide, by decide⟩ (Nat.le_of_ble_eq_true rfl) (c_bears _ _ o ho) ?_
    refine WE.iret (ty := .int) dX0_numberOf_94 rfl rfl ⟨by decide, by decide⟩ ?_
    exact RI.mk rfl rfl
  · refine WE.tsw (tgt := 95) dX0_numberOf_1 7 (by decide) (by decide) (by decide) rfl (by decide) ?_
    refine WE.aload_n (n := 96) dX0_numberOf_95 rfl rfl ?_
    refine WE.getI (n := 99) dX0_numberOf_96 rfl fl_X0_39 ⟨by decide, by decide, rfl⟩ (by first | decide | exact kd_bal (by assumption) | exact kd_let (by assumption) | assumption) ?_
    refine WE.iret (ty := .int) dX0_numberOf_99 rfl rfl ⟨by decide, by decide⟩ ?_
    exact RI.mk rfl rfl
  · refine WE.tsw (tgt := 100) dX0_numberOf_1 8 (by decide) (by decide) (by decide) rfl (by decide) ?_
    refine WE.aload_n (n := 101) dX0_numberOf_100 rfl rfl ?_
    refine WE.getI (n := 104) dX0_numberOf_101 rfl fl_X0_42 ⟨by decide, by decide, rfl⟩ (by first | decide | exact kd_bal (by assumption) | exact kd_let (by assumption) | assumption) ?_
    refine WE.iret (ty := .int) dX0_numberOf_104 rfl rfl ⟨by decide, by decide⟩ ?_
    exact RI.mk rfl rfl
  · refine WE.tsw (tgt := 105) dX0_numberOf_1 9 (by decide) (by decide) (by decide) rfl (by decide) ?_
    refine WE.aload_n (n := 106) dX0_numberOf_105 rfl rfl ?_
    refine WE.getI (n := 109) dX0_numberOf_106 rfl fl_X0_9 ⟨by decide, by decide, rfl⟩ (by first | decide | exact kd_bal (by assumption) | exact kd_let (by assumption) | assumption) ?_
    refine WE.iret (ty := .int) dX0_numberOf_109 rfl rfl ⟨by decide, by decide⟩ ?_
    exact RI.mk rfl rfl
  · refine WE.tsw (tgt := 110) dX0_numberOf_1 10 (by decide) (by decide) (by decide) rfl (by decide) ?_
    refine WE.aload_n (n := 111) dX0_numberOf_110 rfl rfl ?_
    refine WE.getI (n := 114) dX0_numberOf_111 rfl fl_X0_15 ⟨by decide, by decide, rfl⟩ (by first | decide | exact kd_bal (by assumption) | exact kd_let (by assumption) | assumption) ?_
    refine WE.iret (ty := .int) dX0_numberOf_114 rfl rfl ⟨by decide, by decide⟩ ?_
    exact RI.mk rfl rfl
  · refine WE.tswO (tgt := 115) dX0_numberOf_1 (Or.inr (by decide)) (by decide) ?_
    refine WE.aload_n (n := 116) dX0_numberOf_115 rfl rfl ?_
    refine WE.getI (n := 119) dX0_numberOf_116 rfl fl_X0_45 ⟨by decide, by decide, rfl⟩ (by first | decide | exact kd_bal (by assumption) | exact kd_let (by assumption) | assumption) ?_
    refine WE.iret (ty := .int) dX0_numberOf_119 rfl rfl ⟨by decide, by decide⟩ ?_
    exact RI.mk rfl rfl
set_option maxRecDepth 20000 in
set_option maxHeartbeats 1000000 in
theorem c_end (c : CC) (od : Int64 × UInt64) (o : Nat) (ho : KD o = 0 ∧ o < NN) (x : Int32) : CM mX0_end [.ref o, .int x] (c, od) (RV (u2 (u2 c o 7 x) o 8 (nI 0), od)) := by
  refine CM.of [(0, .ref o), (1, .int x)] rfl (by decide +kernel) rfl (Nat.le_of_ble_eq_true rfl) ?_
  refine WE.aload_n (n := 1) dX0_end_0 rfl rfl ?_
  refine WE.iload_n (n := 2) dX0_end_1 rfl rfl ?_
  refine WE.putI (n := 5) dX0_end_2 rfl fl_X0_39 ⟨by decide, by decide, rfl, rfl⟩ ⟨by first | rfl | decide, by first | rfl | decide⟩ (by first | decide | exact kd_bal (by assumption) | exact kd_let (by assumption) | assumption) ?_
  refine WE.aload_n (n := 6) dX0_end_5 rfl rfl ?_
  refine WE.iconst (n := 7) (nI 0) dX0_end_6 rfl (by decide) ?_
  refine WE.putI (n := 10) dX0_end_7 rfl fl_X0_42 ⟨by decide, by decide, rfl, rfl⟩ ⟨by first | rfl | decide, by first | rfl | decide⟩ (by first | decide | exact kd_bal (by assumption) | exact kd_let (by assumption) | assumption) ?_
  refine WE.vret dX0_end_10 rfl ⟨by decide, by decide⟩ ?_
  exact RV.mk rfl
/-- cell t of c' as cell s of c, in its first n slots, all else as it was -/
def CPC (c c' : CC) (t s n : Nat) : Prop := (∀ k, k < n → c' t k = c s k) ∧ ∀ a k, ¬ (a = t ∧ k < n) → c' a k = c a k
set_option maxRecDepth 20000 in
set_option maxHeartbeats 1000000 in
theorem c_copyB (c : CC) (od : Int64 × UInt64) (o : Nat) (ho : KD o = 0 ∧ o < NN) (s : Nat) (hs : KD s = 0 ∧ s < NN) (hne : s ≠ o) : CM mX0_copyFrom [.ref o, .ref s] (c, od) (PV fun σ => ∃ c', σ = (c', od) ∧ CPC c c' o s 13) := by
  refine CM.of [(0, .ref o), (1, .ref s)] rfl (by decide +kernel) rfl (Nat.le_of_ble_eq_true rfl) ?_
  refine WE.aload_n (n := 1) dX0_copyFrom_0 rfl rfl ?_
  refine WE.aload_n (n := 2) dX0_copyFrom_1 rfl rfl ?_
  refine WE.getI (n := 5) dX0_copyFrom_2 rfl fl_X0_18 ⟨by decide, by decide, rfl⟩ (by first | decide | exact kd_bal (by assumption) | exact kd_let (by assumption) | assumption) ?_
  refine WE.putI (n := 8) dX0_copyFrom_5 rfl fl_X0_18 ⟨by decide, by decide, rfl, rfl⟩ ⟨by first | rfl | decide, by first | rfl | decide⟩ (by first | decide | exact kd_bal (by assumption) | exact kd_let (by assumption) | assumption) ?_
  refine WE.aload_n (n := 9) dX0_copyFrom_8 rfl rfl ?_
  refine WE.aload_n (n := 10) dX0_copyFrom_9 rfl rfl ?_
  refine WE.getI (n := 13) dX0_copyFrom_10 rfl fl_X0_21 ⟨by decide, by decide, rfl⟩ (by first | decide | exact kd_bal (by assumption) | exact kd_let (by assumption) | assumption) ?_
  refine WE.putI (n := 16) dX0_copyFrom_13 rfl fl_X0_21 ⟨by decide, by decide, rfl, rfl⟩ ⟨by first | rfl | decide, by first | rfl | decide⟩ (by first | decide | exact kd_bal (by assumption) | exact kd_let (by assumption) | assumption) ?_
  refine WE.aload_n (n := 17) dX0_copyFrom_16 rfl rfl ?_
  refine WE.aload_n (n := 18) dX0_copyFrom_17 rfl rfl ?_
  refine WE.getI (n := 21) dX0_copyFrom_18 rfl fl_X0_24 ⟨by decide, by decide, rfl⟩ (by first | decide | exact kd_bal (by assumption) | exact kd_let (by assumption) | assumption) ?_
  refine WE.putI (n := 24) dX0_copyFrom_21 rfl fl_X0_24 ⟨by decide, by decide, rfl, rfl⟩ ⟨by first | rfl | decide, by first | rfl | decide⟩ (by first | decide | exact kd_bal (by assumption) | exact kd_let (by assumption) | assumption) ?_
  refine WE.aload_n (n := 25) dX0_copyFrom_24 rfl rfl ?_
  refine WE.aload_n (n := 26) dX0_copyFrom_25 rfl rfl ?_
  refine WE.getI (n := 29) dX0_copyFrom_26 rfl fl_X0_27 ⟨by decide, by decide, rfl⟩ (by first | decide | exact kd_bal (by assumption) | exact kd_let (by assumption) | assumption) ?_
  refine WE.putI (n := 32) dX0_copyFrom_29 rfl fl_X0_27 ⟨by decide, by decide, rfl, rfl⟩ ⟨by first | rfl | decide, by first | rfl | decide⟩ (by first | decide | exact kd_bal (by assumption) | exact kd_let (by assumption) | assumption) ?_
  refine WE.aload_n (n := 33) dX0_copyFrom_32 rfl rfl ?_
  refine WE.aload_n (n := 34) dX0_copyFrom_33 rfl rfl ?_
  refine WE.getI (n := 37) dX0_copyFrom_34 rfl fl_X0_30 ⟨by decide, by decide, rfl⟩ (by first | decide | exact kd_bal (by assumption) | exact kd_let (by assumption) | assumption) ?_
  refine WE.putI (n := 40) dX0_copyFrom_37 rfl fl_X0_30 ⟨by decide, by decide, rfl, rfl⟩ ⟨by first | rfl | decide, by first | rfl | decide⟩ (by first | decide | exact kd_bal (by assumption) | exact kd_let (by assumption) | assumption) ?_
  refine WE.aload_n (n := 41) dX0_copyFrom_40 rfl rfl ?_
  refine WE.aload_n (n := 42) dX0_copyFrom_41 rfl rfl ?_
  refine WE.getI (n := 45) dX0_copyFrom_42 rfl fl_X0_33 ⟨by decide, by decide, rfl⟩ (by first | decide | exact kd_bal (by assumption) | exact kd_let (by assumption) | assumption) ?_
  refine WE.putI (n := 48) dX0_copyFrom_45 rfl fl_X0_33 ⟨by decide, by decide, rfl, rfl⟩ ⟨by first | rfl | decide, by first | rfl | decide⟩ (by first | decide | exact kd_bal (by assumption) | exact kd_let (by assumption) | assumption) ?_
  refine WE.aload_n (n := 49) dX0_copyFrom_48 rfl rfl ?_
  refine WE.aload_n (n := 50) dX0_copyFrom_49 rfl rfl ?_
  refine WE.getI (n := 53) dX0_copyFrom_50 rfl fl_X0_36 ⟨by decide, by decide, rfl⟩ (by first | decide | exact kd_bal (by assumption) | exact kd_let (by assumption) | assumption) ?_
  refine WE.putI (n := 56) dX0_copyFrom_53 rfl fl_X0_36 ⟨by decide, by decide, rfl, rfl⟩ ⟨by first | rfl | decide, by first | rfl | decide⟩ (by first | decide | exact kd_bal (by assumption) | exact kd_let (by assumption) | assumption) ?_
  refine WE.aload_n (n := 57) dX0_copyFrom_56 rfl rfl ?_
  refine WE.aload_n (n := 58) dX0_copyFrom_57 rfl rfl ?_
  refine WE.getI (n := 61) dX0_copyFrom_58 rfl fl_X0_39 ⟨by decide, by decide, rfl⟩ (by first | decide | exact kd_bal (by assumption) | exact kd_let (by assumption) | assumption) ?_
  refine WE.putI (n := 64) dX0_copyFrom_61 rfl fl_X0_39 ⟨by decide, by decide, rfl, rfl⟩ ⟨by first | rfl | decide, by first | rfl | decide⟩ (by first | decide | exact kd_bal (by assumption) | exact kd_let (by assumption) | assumption) ?_
  refine WE.aload_n (n := 65) dX0_copyFrom_64 rfl rfl ?_
  refine WE.aload_n (n := 66) dX0_copyFrom_65 rfl rfl ?_
  refine WE.getI (n := 69) dX0_copyFrom_66 rfl fl_X0_42 ⟨by decide, by decide, rfl⟩ (by first | decide | exact kd_bal (by assumption) | exact kd_let (by assumption) | assumption) ?_
  refine WE.putI (n := 72) dX0_copyFrom_69 rfl fl_X0_42 ⟨by decide, by decide, rfl, rfl⟩ ⟨by first | rfl | decide, by first | rfl | decide⟩ (by first | decide | exact kd_bal (by assumption) | exact kd_let (by assumption) | assumption) ?_
  refine WE.aload_n (n := 73) dX0_copyFrom_72 rfl rfl ?_
  refine WE.aload_n (n := 74) dX0_copyFrom_73 rfl rfl ?_
  refine WE.getI (n := 77) dX0_copyFrom_74 rfl fl_X0_9 ⟨by decide, by decide, rfl⟩ (by first | decide | exact kd_bal (by assumption) | exact kd_let (by assumption) | assumption) ?_
  refine WE.putI (n := 80) dX0_copyFrom_77 rfl fl_X0_9 ⟨by decide, by decide, rfl, rfl⟩ ⟨by first | rfl | decide, by first | rfl | decide⟩ (by first | decide | exact kd_bal (by assumption) | exact kd_let (by assumption) | assumption) ?_
  refine WE.aload_n (n := 81) dX0_copyFrom_80 rfl rfl ?_
  refine WE.aload_n (n := 82) dX0_copyFrom_81 rfl rfl ?_
  refine WE.getI (n := 85) dX0_copyFrom_82 rfl fl_X0_15 ⟨by decide, by decide, rfl⟩ (by first | decide | exact kd_bal (by assumption) | exact kd_let (by assumption) | assumption) ?_
  refine WE.putI (n := 88) dX0_copyFrom_85 rfl fl_X0_15 ⟨by decide, by decide, rfl, rfl⟩ ⟨by first | rfl | decide, by first | rfl | decide⟩ (by first | decide | exact kd_bal (by assumption) | exact kd_let (by assumption) | assumption) ?_
  refine WE.aload_n (n := 89) dX0_copyFrom_88 rfl rfl ?_
  refine WE.aload_n (n := 90) dX0_copyFrom_89 rfl rfl ?_
  refine WE.getI (n := 93) dX0_copyFrom_90 rfl fl_X0_45 ⟨by decide, by decide, rfl⟩ (by first | decide | exact kd_bal (by assumption) | exact kd_let (by assumption) | assumption) ?_
  refine WE.putI (n := 96) dX0_copyFrom_93 rfl fl_X0_45 ⟨by decide, by decide, rfl, rfl⟩ ⟨by first | rfl | decide, by first | rfl | decide⟩ (by first | decide | exact kd_bal (by assumption) | exact kd_let (by assumption) | assumption) ?_
  refine WE.aload_n (n := 97) dX0_copyFrom_96 rfl rfl ?_
  refine WE.aload_n (n := 98) dX0_copyFrom_97 rfl rfl ?_
  refine WE.getI (n := 101) dX0_copyFrom_98 rfl fl_X0_48 ⟨by decide, by decide, rfl⟩ (by first | decide | exact kd_bal (by assumption) | exact kd_let (by assumption) | assumption) ?_
  refine WE.putI (n := 104) dX0_copyFrom_101 rfl fl_X0_48 ⟨by decide, by decide, rfl, rfl⟩ ⟨by first | rfl | decide, by first | rfl | decide⟩ (by first | decide | exact kd_bal (by assumption) | exact kd_let (by assumption) | assumption) ?_
  refine WE.vret dX0_copyFrom_104 rfl ⟨by decide, by decide⟩ ?_
  refine PV.mk ⟨_, rfl, fun k hk => ?_, fun a k h => ?_⟩
  · rcases (show k = 0 ∨ k = 1 ∨ k = 2 ∨ k = 3 ∨ k = 4 ∨ k = 5 ∨ k = 6 ∨ k = 7 ∨ k = 8 ∨ k = 9 ∨ k = 10 ∨ k = 11 ∨ k = 12 by omega) with rfl | rfl | rfl | rfl | rfl | rfl | rfl | rfl | rfl | rfl | rfl | rfl | rfl <;> simp [u2, hne]
  · have h2 : a = o → 13 ≤ k := fun q => by by_cases h3 : k < 13; exact absurd ⟨q, h3⟩ h; omega
    simp only [u2]
    repeat rw [if_neg (by omega)]
set_option maxRecDepth 20000 in
set_option maxHeartbeats 1000000 in
theorem c_copyL (c : CC) (od : Int64 × UInt64) (o : Nat) (ho : KD o = 2 ∧ o < NN) (s : Nat) (hs : KD s = 2 ∧ s < NN) (hne : s ≠ o) : CM mX2_copyFrom [.ref o, .ref s] (c, od) (PV fun σ => ∃ c', σ = (c', od) ∧ CPC c c' o s 3) := by
  refine CM.of [(0, .ref o), (1, .ref s)] rfl (by decide +kernel) rfl (Nat.le_of_ble_eq_true rfl) ?_
  refine WE.aload_n (n := 1) dX2_copyFrom_0 rfl rfl ?_
  refine WE.aload_n (n := 2) dX2_copyFrom_1 rfl rfl ?_
  refine WE.getI (n := 5) dX2_copyFrom_2 rfl fl_X2_15 ⟨by decide, by decide, rfl⟩ (by first | decide | exact kd_bal (by assumption) | exact kd_let (by assumption) | assumption) ?_
  refine WE.putI (n := 8) dX2_copyFrom_5 rfl fl_X2_15 ⟨by decide, by decide, rfl, rfl⟩ ⟨by first | rfl | decide, by first | rfl | decide⟩ (by first | decide | exact kd_bal (by assumption) | exact kd_let (by assumption) | assumption) ?_
  refine WE.aload_n (n := 9) dX2_copyFrom_8 rfl rfl ?_
  refine WE.aload_n (n := 10) dX2_copyFrom_9 rfl rfl ?_
  refine WE.getI (n := 13) dX2_copyFrom_10 rfl fl_X2_18 ⟨by decide, by decide, rfl⟩ (by first | decide | exact kd_bal (by assumption) | exact kd_let (by assumption) | assumption) ?_
  refine WE.putI (n := 16) dX2_copyFrom_13 rfl fl_X2_18 ⟨by decide, by decide, rfl, rfl⟩ ⟨by first | rfl | decide, by first | rfl | decide⟩ (by first | decide | exact kd_bal (by assumption) | exact kd_let (by assumption) | assumption) ?_
  refine WE.aload_n (n := 17) dX2_copyFrom_16 rfl rfl ?_
  refine WE.aload_n (n := 18) dX2_copyFrom_17 rfl rfl ?_
  refine WE.getI (n := 21) dX2_copyFrom_18 rfl fl_X2_9 ⟨by decide, by decide, rfl⟩ (by first | decide | exact kd_bal (by assumption) | exact kd_let (by assumption) | assumption) ?_
  refine WE.putI (n := 24) dX2_copyFrom_21 rfl fl_X2_9 ⟨by decide, by decide, rfl, rfl⟩ ⟨by first | rfl | decide, by first | rfl | decide⟩ (by first | decide | exact kd_bal (by assumption) | exact kd_let (by assumption) | assumption) ?_
  refine WE.vret dX2_copyFrom_24 rfl ⟨by decide, by decide⟩ ?_
  refine PV.mk ⟨_, rfl, fun k hk => ?_, fun a k h => ?_⟩
  · rcases (show k = 0 ∨ k = 1 ∨ k = 2 by omega) with rfl | rfl | rfl <;> simp [u2, hne]
  · have h2 : a = o → 3 ≤ k := fun q => by by_cases h3 : k < 3; exact absurd ⟨q, h3⟩ h; omega
    simp only [u2]
    repeat rw [if_neg (by omega)]
set_option maxRecDepth 20000 in
set_option maxHeartbeats 1000000 in
theorem c_isOnMap (x y : Int32) (σ : SS) : CM mX5_isOnMap [.int x, .int y] σ (RI (b2i ((nI 0 ≤ x ∧ x ≤ nI 39) ∧ (nI 0 ≤ y ∧ y ≤ nI 39))) σ) := by
  refine CM.of [(0, .int x), (1, .int y)] rfl (by decide +kernel) rfl (Nat.le_of_ble_eq_true rfl) ?_
  refine WE.iload_n (n := 1) dX5_isOnMap_0 rfl rfl ?_
  refine WE.iconst (n := 2) (nI 0) dX5_isOnMap_1 rfl (by decide) ?_
  refine WE.bipush (n := 4) (nI 39) dX5_isOnMap_2 rfl (by decide) ?_
  refine WE.S3I (M' := mX5_isBetween) (n := 7) dX5_isOnMap_4 rfl cv_X5_93  ⟨⟨by decide, by decide⟩, by decide, by decide⟩ (Nat.le_of_ble_eq_true rfl) (c_isBetween _ _ _ _) ?_
  refine WE.if_eqB (n := 10) (tgt := 24) dX5_isOnMap_7 rfl (by decide) (fun h7 => ?_) (fun h7 => ?_)
  · skip
    refine WE.iconst (n := 25) (nI 0) dX5_isOnMap_24 rfl (by decide) ?_
    refine WE.iret (ty := .boolean) dX5_isOnMap_25 rfl (by first | rfl | exact b2i_nar _ | decide) ⟨by decide, by decide⟩ ?_
    first | exact RI.mk (b2i_t ⟨h7, ⟩).symm rfl | exact RI.mk (b2i_t ⟨h7, h17⟩).symm rfl | exact RI.mk (b2i_f (fun q => by first | exact h7 q.1 | exact h17 q.2)).symm rfl
  · skip
    refine WE.iload_n (n := 11) dX5_isOnMap_10 rfl rfl ?_
    refine WE.iconst (n := 12) (nI 0) dX5_isOnMap_11 rfl (by decide) ?_
    refine WE.bipush (n := 14) (nI 39) dX5_isOnMap_12 rfl (by decide) ?_
    refine WE.S3I (M' := mX5_isBetween) (n := 17) dX5_isOnMap_14 rfl cv_X5_93  ⟨⟨by decide, by decide⟩, by decide, by decide⟩ (Nat.le_of_ble_eq_true rfl) (c_isBetween _ _ _ _) ?_
    refine WE.if_eqB (n := 20) (tgt := 24) dX5_isOnMap_17 rfl (by decide) (fun h17 => ?_) (fun h17 => ?_)
    · skip
      refine WE.iconst (n := 25) (nI 0) dX5_isOnMap_24 rfl (by decide) ?_
      refine WE.iret (ty := .boolean) dX5_isOnMap_25 rfl (by first | rfl | exact b2i_nar _ | decide) ⟨by decide, by decide⟩ ?_
      first | exact RI.mk (b2i_t ⟨h7, h17, ⟩).symm rfl | exact RI.mk (b2i_t ⟨h7, h17⟩).symm rfl | exact RI.mk (b2i_f (fun q => by first | exact h7 q.1 | exact h17 q.2)).symm rfl
    · skip
      refine WE.iconst (n := 21) (nI 1) dX5_isOnMap_20 rfl (by decide) ?_
      refine WE.goto (tgt := 25) dX5_isOnMap_21 (by decide) ?_
      refine WE.iret (ty := .boolean) dX5_isOnMap_25 rfl (by first | rfl | exact b2i_nar _ | decide) ⟨by decide, by decide⟩ ?_
      first | exact RI.mk (b2i_t ⟨h7, h17, ⟩).symm rfl | exact RI.mk (b2i_t ⟨h7, h17⟩).symm rfl | exact RI.mk (b2i_f (fun q => by first | exact h7 q.1 | exact h17 q.2)).symm rfl
set_option maxRecDepth 20000 in
set_option maxHeartbeats 1000000 in
theorem c_refuse (c : CC) (od : Int64 × UInt64) (r x : Int32) : CM mX4_refuse [.ref 1, .int r, .int x] (c, od) (RI (-103 : Int32) (u2 (u2 c 1 14 r) 1 15 x, od)) := by
  refine CM.of [(0, .ref 1), (1, .int r), (2, .int x)] rfl (by decide +kernel) rfl (Nat.le_of_ble_eq_true rfl) ?_
  refine WE.aload_n (n := 1) dX4_refuse_0 rfl rfl ?_
  refine WE.iload_n (n := 2) dX4_refuse_1 rfl rfl ?_
  refine WE.putI (n := 5) dX4_refuse_2 rfl fl_X4_70 ⟨by decide, by decide, rfl, rfl⟩ ⟨by first | rfl | decide, by first | rfl | decide⟩ (by first | decide | exact kd_bal (by assumption) | exact kd_let (by assumption) | assumption) ?_
  refine WE.aload_n (n := 6) dX4_refuse_5 rfl rfl ?_
  refine WE.iload_n (n := 7) dX4_refuse_6 rfl rfl ?_
  refine WE.putI (n := 10) dX4_refuse_7 rfl fl_X4_73 ⟨by decide, by decide, rfl, rfl⟩ ⟨by first | rfl | decide, by first | rfl | decide⟩ (by first | decide | exact kd_bal (by assumption) | exact kd_let (by assumption) | assumption) ?_
  refine WE.bipush (n := 12) ((-103 : Int32)) dX4_refuse_10 rfl (by decide) ?_
  refine WE.iret (ty := .int) dX4_refuse_12 rfl rfl ⟨by decide, by decide⟩ ?_
  exact RI.mk rfl rfl
theorem has_t {b : Int32} {m : Nat} (hm : m ≤ 24) (h0 : 0 ≤ b) (h : b < nI m) : nI 0 ≤ b ∧ b ≤ nI m - nI 1 := by
  refine ⟨h0, ?_⟩
  have e : (nI m).toInt = m := nI_toInt (by omega)
  rw [Int32.lt_iff_toInt_lt, e] at h
  have h0 : (0 : Int32) ≤ b := h0
  rw [Int32.le_iff_toInt_le] at h0
  have h0 : 0 ≤ b.toInt := h0
  have e2 : nI m - nI 1 = nI (m - 1) := pk_sub (by omega)
  rw [e2, Int32.le_iff_toInt_le, nI_toInt (by omega)]
  omega
theorem has_f {b : Int32} {m : Nat} (hm : m ≤ 24) (h : nI m ≤ b) : ¬ (nI 0 ≤ b ∧ b ≤ nI m - nI 1) := by
  intro q
  obtain ⟨q0, q⟩ := q
  have e : (nI m).toInt = m := nI_toInt (by omega)
  rw [Int32.le_iff_toInt_le, e] at h
  rw [Int32.le_iff_toInt_le] at q
  by_cases hm0 : m = 0
  · subst hm0
    have e2 : (nI 0 - nI 1).toInt = -1 := by decide
    rw [e2] at q
    omega
  · have e2 : nI m - nI 1 = nI (m - 1) := pk_sub (by omega)
    rw [e2, nI_toInt (by omega)] at q
    omega
set_option maxRecDepth 20000 in
set_option maxHeartbeats 1000000 in
theorem c_hasB (c : CC) (od : Int64 × UInt64) (b : Int32) (m : Nat) (hm : m ≤ 24) (h : c 1 4 = nI m) : CM mX4_hasBalloon [.ref 1, .int b] (c, od) (RI (b2i (nI 0 ≤ b ∧ b ≤ nI m - nI 1)) (c, od)) := by
  refine CM.of [(0, .ref 1), (1, .int b)] rfl (by decide +kernel) rfl (Nat.le_of_ble_eq_true rfl) ?_
  refine WE.iload_n (n := 1) dX4_hasBalloon_0 rfl rfl ?_
  refine WE.if_lt (n := 4) (tgt := 16) dX4_hasBalloon_1 rfl (by decide) (fun h1 => ?_) (fun h1 => ?_)
  · skip
    refine WE.iconst (n := 17) (nI 0) dX4_hasBalloon_16 rfl (by decide) ?_
    refine WE.iret (ty := .boolean) dX4_hasBalloon_17 rfl (by first | rfl | exact b2i_nar _ | decide) ⟨by decide, by decide⟩ ?_
    first | exact RI.mk (b2i_t (by have h9 := h9; rw [h] at h9; exact has_t hm (by simpa using h1) (by simpa using h9))).symm rfl | exact RI.mk (b2i_f (by first | (intro q; exact absurd q.1 (Int32.not_le.mpr h1)) | (have h9 := h9; rw [h] at h9; exact has_f hm h9))).symm rfl
  · skip
    refine WE.iload_n (n := 5) dX4_hasBalloon_4 rfl rfl ?_
    refine WE.aload_n (n := 6) dX4_hasBalloon_5 rfl rfl ?_
    refine WE.getI (n := 9) dX4_hasBalloon_6 rfl fl_X4_46 ⟨by decide, by decide, rfl⟩ (by first | decide | exact kd_bal (by assumption) | exact kd_let (by assumption) | assumption) ?_
    refine WE.icmp_ge (n := 12) (tgt := 16) dX4_hasBalloon_9 rfl (by decide) (fun h9 => ?_) (fun h9 => ?_)
    · skip
      refine WE.iconst (n := 17) (nI 0) dX4_hasBalloon_16 rfl (by decide) ?_
      refine WE.iret (ty := .boolean) dX4_hasBalloon_17 rfl (by first | rfl | exact b2i_nar _ | decide) ⟨by decide, by decide⟩ ?_
      first | exact RI.mk (b2i_t (by have h9 := h9; rw [h] at h9; exact has_t hm (by simpa using h1) (by simpa using h9))).symm rfl | exact RI.mk (b2i_f (by first | (intro q; exact absurd q.1 (Int32.not_le.mpr h1)) | (have h9 := h9; rw [h] at h9; exact has_f hm h9))).symm rfl
    · skip
      refine WE.iconst (n := 13) (nI 1) dX4_hasBalloon_12 rfl (by decide) ?_
      refine WE.goto (tgt := 17) dX4_hasBalloon_13 (by decide) ?_
      refine WE.iret (ty := .boolean) dX4_hasBalloon_17 rfl (by first | rfl | exact b2i_nar _ | decide) ⟨by decide, by decide⟩ ?_
      first | exact RI.mk (b2i_t (by have h9 := h9; rw [h] at h9; exact has_t hm (by simpa using h1) (by simpa using h9))).symm rfl | exact RI.mk (b2i_f (by first | (intro q; exact absurd q.1 (Int32.not_le.mpr h1)) | (have h9 := h9; rw [h] at h9; exact has_f hm h9))).symm rfl
set_option maxRecDepth 20000 in
set_option maxHeartbeats 1000000 in
theorem c_hasL (c : CC) (od : Int64 × UInt64) (b : Int32) (m : Nat) (hm : m ≤ 24) (h : c 1 5 = nI m) : CM mX4_hasLetter [.ref 1, .int b] (c, od) (RI (b2i (nI 0 ≤ b ∧ b ≤ nI m - nI 1)) (c, od)) := by
  refine CM.of [(0, .ref 1), (1, .int b)] rfl (by decide +kernel) rfl (Nat.le_of_ble_eq_true rfl) ?_
  refine WE.iload_n (n := 1) dX4_hasLetter_0 rfl rfl ?_
  refine WE.if_lt (n := 4) (tgt := 16) dX4_hasLetter_1 rfl (by decide) (fun h1 => ?_) (fun h1 => ?_)
  · skip
    refine WE.iconst (n := 17) (nI 0) dX4_hasLetter_16 rfl (by decide) ?_
    refine WE.iret (ty := .boolean) dX4_hasLetter_17 rfl (by first | rfl | exact b2i_nar _ | decide) ⟨by decide, by decide⟩ ?_
    first | exact RI.mk (b2i_t (by have h9 := h9; rw [h] at h9; exact has_t hm (by simpa using h1) (by simpa using h9))).symm rfl | exact RI.mk (b2i_f (by first | (intro q; exact absurd q.1 (Int32.not_le.mpr h1)) | (have h9 := h9; rw [h] at h9; exact has_f hm h9))).symm rfl
  · skip
    refine WE.iload_n (n := 5) dX4_hasLetter_4 rfl rfl ?_
    refine WE.aload_n (n := 6) dX4_hasLetter_5 rfl rfl ?_
    refine WE.getI (n := 9) dX4_hasLetter_6 rfl fl_X4_49 ⟨by decide, by decide, rfl⟩ (by first | decide | exact kd_bal (by assumption) | exact kd_let (by assumption) | assumption) ?_
    refine WE.icmp_ge (n := 12) (tgt := 16) dX4_hasLetter_9 rfl (by decide) (fun h9 => ?_) (fun h9 => ?_)
    · skip
      refine WE.iconst (n := 17) (nI 0) dX4_hasLetter_16 rfl (by decide) ?_
      refine WE.iret (ty := .boolean) dX4_hasLetter_17 rfl (by first | rfl | exact b2i_nar _ | decide) ⟨by decide, by decide⟩ ?_
      first | exact RI.mk (b2i_t (by have h9 := h9; rw [h] at h9; exact has_t hm (by simpa using h1) (by simpa using h9))).symm rfl | exact RI.mk (b2i_f (by first | (intro q; exact absurd q.1 (Int32.not_le.mpr h1)) | (have h9 := h9; rw [h] at h9; exact has_f hm h9))).symm rfl
    · skip
      refine WE.iconst (n := 13) (nI 1) dX4_hasLetter_12 rfl (by decide) ?_
      refine WE.goto (tgt := 17) dX4_hasLetter_13 (by decide) ?_
      refine WE.iret (ty := .boolean) dX4_hasLetter_17 rfl (by first | rfl | exact b2i_nar _ | decide) ⟨by decide, by decide⟩ ?_
      first | exact RI.mk (b2i_t (by have h9 := h9; rw [h] at h9; exact has_t hm (by simpa using h1) (by simpa using h9))).symm rfl | exact RI.mk (b2i_f (by first | (intro q; exact absurd q.1 (Int32.not_le.mpr h1)) | (have h9 := h9; rw [h] at h9; exact has_f hm h9))).symm rfl
set_option maxRecDepth 20000 in
set_option maxHeartbeats 1000000 in
theorem c_isInRing (c : CC) (od : Int64 × UInt64) (x y : Int32) : CM mX4_isInRing [.ref 1, .int x, .int y] (c, od) (RI (b2i (¬ c 1 7 < far x y)) (c, od)) := by
  refine CM.of [(0, .ref 1), (1, .int x), (2, .int y)] rfl (by decide +kernel) rfl (Nat.le_of_ble_eq_true rfl) ?_
  refine WE.iload_n (n := 1) dX4_isInRing_0 rfl rfl ?_
  refine WE.iload_n (n := 2) dX4_isInRing_1 rfl rfl ?_
  refine WE.N2I (M' := mX5_distanceFromTown) (n := 5) dX4_isInRing_2 rfl cv_X4_76  ⟨⟨by decide, by decide⟩, by decide, by decide⟩ (Nat.le_of_ble_eq_true rfl) (c_distanceFromTown _ _ _) ?_
  refine WE.aload_n (n := 6) dX4_isInRing_5 rfl rfl ?_
  refine WE.getI (n := 9) dX4_isInRing_6 rfl fl_X4_30 ⟨by decide, by decide, rfl⟩ (by first | decide | exact kd_bal (by assumption) | exact kd_let (by assumption) | assumption) ?_
  refine WE.icmp_gt (n := 12) (tgt := 16) dX4_isInRing_9 rfl (by decide) (fun h9 => ?_) (fun h9 => ?_)
  · skip
    refine WE.iconst (n := 17) (nI 0) dX4_isInRing_16 rfl (by decide) ?_
    refine WE.iret (ty := .boolean) dX4_isInRing_17 rfl (by first | rfl | exact b2i_nar _ | decide) ⟨by decide, by decide⟩ ?_
    first | exact RI.mk (b2i_t (Int32.not_lt.mpr h9)).symm rfl | exact RI.mk (b2i_t h9).symm rfl | exact RI.mk (b2i_f (fun q => q h9)).symm rfl | exact RI.mk (b2i_f (fun q => q (Int32.not_le.mp h9))).symm rfl
  · skip
    refine WE.iconst (n := 13) (nI 1) dX4_isInRing_12 rfl (by decide) ?_
    refine WE.goto (tgt := 17) dX4_isInRing_13 (by decide) ?_
    refine WE.iret (ty := .boolean) dX4_isInRing_17 rfl (by first | rfl | exact b2i_nar _ | decide) ⟨by decide, by decide⟩ ?_
    first | exact RI.mk (b2i_t (Int32.not_lt.mpr h9)).symm rfl | exact RI.mk (b2i_t h9).symm rfl | exact RI.mk (b2i_f (fun q => q h9)).symm rfl | exact RI.mk (b2i_f (fun q => q (Int32.not_le.mp h9))).symm rfl
set_option maxRecDepth 20000 in
set_option maxHeartbeats 1000000 in
theorem c_isWaiting (c : CC) (od : Int64 × UInt64) (l : Nat) (hl : l < 24) (r : Int32) : CM mX4_isWaiting [.ref 1, .int (nI l), .int r] (c, od) (RI (b2i (c (12 + l) 2 = (-1 : Int32) ∧ c (12 + l) 1 = r)) (c, od)) := by
  refine CM.of [(0, .ref 1), (1, .int (nI l)), (2, .int r)] rfl (by decide +kernel) rfl (Nat.le_of_ble_eq_true rfl) ?_
  refine WE.aload_n (n := 1) dX4_isWaiting_0 rfl rfl ?_
  refine WE.getR (n := 4) dX4_isWaiting_1 rfl fl_X4_26 ⟨by decide, by decide⟩ rfl (by first | decide | exact kd_bal (by assumption) | exact kd_let (by assumption) | exact kd_let' (by assumption) | assumption) ?_
  refine WE.iload_n (n := 5) dX4_isWaiting_4 rfl rfl ?_
  refine WE.aald (n := 6) 13 l dX4_isWaiting_5 rfl (by first | decide | assumption) (by decide) rfl (by show _ < 24; omega) rfl ?_
  refine WE.getI (n := 9) dX4_isWaiting_6 rfl fl_X4_121 ⟨by decide, by decide, rfl⟩ (by first | decide | exact kd_bal (by assumption) | exact kd_let (by assumption) | exact kd_let' (by assumption) | assumption) ?_
  refine WE.iconst (n := 10) ((-1 : Int32)) dX4_isWaiting_9 rfl (by decide) ?_
  refine WE.icmp_ne (n := 13) (tgt := 30) dX4_isWaiting_10 rfl (by decide) (fun h10 => ?_) (fun h10 => ?_)
  · skip
    refine WE.iconst (n := 31) (nI 0) dX4_isWaiting_30 rfl (by decide) ?_
    refine WE.iret (ty := .boolean) dX4_isWaiting_31 rfl (by first | rfl | exact b2i_nar _ | decide) ⟨by decide, by decide⟩ ?_
    first | exact RI.mk (b2i_t ⟨h10, ⟩).symm rfl | exact RI.mk (b2i_t (by simpa using And.intro h10 h23)).symm rfl | exact RI.mk (b2i_f (fun q => by first | exact h10 q.1 | exact h23 q.2)).symm rfl
  · skip
    refine WE.aload_n (n := 14) dX4_isWaiting_13 rfl rfl ?_
    refine WE.getR (n := 17) dX4_isWaiting_14 rfl fl_X4_26 ⟨by decide, by decide⟩ rfl (by first | decide | exact kd_bal (by assumption) | exact kd_let (by assumption) | exact kd_let' (by assumption) | assumption) ?_
    refine WE.iload_n (n := 18) dX4_isWaiting_17 rfl rfl ?_
    refine WE.aald (n := 19) 13 l dX4_isWaiting_18 rfl (by first | decide | assumption) (by decide) rfl (by show _ < 24; omega) rfl ?_
    refine WE.getI (n := 22) dX4_isWaiting_19 rfl fl_X4_115 ⟨by decide, by decide, rfl⟩ (by first | decide | exact kd_bal (by assumption) | exact kd_let (by assumption) | exact kd_let' (by assumption) | assumption) ?_
    refine WE.iload_n (n := 23) dX4_isWaiting_22 rfl rfl ?_
    refine WE.icmp_ne (n := 26) (tgt := 30) dX4_isWaiting_23 rfl (by decide) (fun h23 => ?_) (fun h23 => ?_)
    · skip
      refine WE.iconst (n := 31) (nI 0) dX4_isWaiting_30 rfl (by decide) ?_
      refine WE.iret (ty := .boolean) dX4_isWaiting_31 rfl (by first | rfl | exact b2i_nar _ | decide) ⟨by decide, by decide⟩ ?_
      first | exact RI.mk (b2i_t ⟨h10, h23, ⟩).symm rfl | exact RI.mk (b2i_t (by simpa using And.intro h10 h23)).symm rfl | exact RI.mk (b2i_f (fun q => by first | exact h10 q.1 | exact h23 q.2)).symm rfl
    · skip
      refine WE.iconst (n := 27) (nI 1) dX4_isWaiting_26 rfl (by decide) ?_
      refine WE.goto (tgt := 31) dX4_isWaiting_27 (by decide) ?_
      refine WE.iret (ty := .boolean) dX4_isWaiting_31 rfl (by first | rfl | exact b2i_nar _ | decide) ⟨by decide, by decide⟩ ?_
      first | exact RI.mk (b2i_t ⟨h10, h23, ⟩).symm rfl | exact RI.mk (b2i_t (by simpa using And.intro h10 h23)).symm rfl | exact RI.mk (b2i_f (fun q => by first | exact h10 q.1 | exact h23 q.2)).symm rfl
def putS (c : CC) (l j : Nat) : CC := u2 (u2 (u2 c (12 + l) 2 (nI j)) (6 + j) 5 (c (6 + j) 5 + nI 1)) (6 + j) 6 (c (6 + j) 6 + c (12 + l) 0)
set_option maxRecDepth 20000 in
set_option maxHeartbeats 1000000 in
theorem c_putInto (c : CC) (od : Int64 × UInt64) (l : Nat) (hl : l < 24) (j : Nat) (hj : j < 6) : CM mX4_putInto [.ref 1, .int (nI l), .int (nI j)] (c, od) (RV (putS c l j, od)) := by
  refine CM.of [(0, .ref 1), (1, .int (nI l)), (2, .int (nI j))] rfl (by decide +kernel) rfl (Nat.le_of_ble_eq_true rfl) ?_
  refine WE.aload_n (n := 1) dX4_putInto_0 rfl rfl ?_
  refine WE.getR (n := 4) dX4_putInto_1 rfl fl_X4_26 ⟨by decide, by decide⟩ rfl (by first | decide | exact kd_bal (by assumption) | exact kd_let (by assumption) | assumption) ?_
  refine WE.iload_n (n := 5) dX4_putInto_4 rfl rfl ?_
  refine WE.aald (n := 6) 13 l dX4_putInto_5 rfl (by first | decide | assumption) (by decide) rfl (by show _ < 24; omega) rfl ?_
  refine WE.iload_n (n := 7) dX4_putInto_6 rfl rfl ?_
  refine WE.putI (n := 10) dX4_putInto_7 rfl fl_X4_121 ⟨by decide, by decide, rfl, rfl⟩ ⟨by first | rfl | decide, by first | rfl | decide⟩ (by first | decide | exact kd_bal (by assumption) | exact kd_let (by assumption) | assumption) ?_
  refine WE.aload_n (n := 11) dX4_putInto_10 rfl rfl ?_
  refine WE.getR (n := 14) dX4_putInto_11 rfl fl_X4_20 ⟨by decide, by decide⟩ rfl (by first | decide | exact kd_bal (by assumption) | exact kd_let (by assumption) | assumption) ?_
  refine WE.iload_n (n := 15) dX4_putInto_14 rfl rfl ?_
  refine WE.aald (n := 16) 12 j dX4_putInto_15 rfl (by first | decide | assumption) (by decide) rfl (by show _ < 6; omega) rfl ?_
  refine WE.dup (n := 17) dX4_putInto_16 rfl rfl ?_
  refine WE.getI (n := 20) dX4_putInto_17 rfl fl_X4_140 ⟨by decide, by decide, rfl⟩ (by first | decide | exact kd_bal (by assumption) | exact kd_let (by assumption) | assumption) ?_
  refine WE.iconst (n := 21) (nI 1) dX4_putInto_20 rfl (by decide) ?_
  refine WE.iadd (n := 22) dX4_putInto_21 rfl ?_
  refine WE.putI (n := 25) dX4_putInto_22 rfl fl_X4_140 ⟨by decide, by decide, rfl, rfl⟩ ⟨by first | rfl | decide, by first | rfl | decide⟩ (by first | decide | exact kd_bal (by assumption) | exact kd_let (by assumption) | assumption) ?_
  refine WE.aload_n (n := 26) dX4_putInto_25 rfl rfl ?_
  refine WE.getR (n := 29) dX4_putInto_26 rfl fl_X4_20 ⟨by decide, by decide⟩ rfl (by first | decide | exact kd_bal (by assumption) | exact kd_let (by assumption) | assumption) ?_
  refine WE.iload_n (n := 30) dX4_putInto_29 rfl rfl ?_
  refine WE.aald (n := 31) 12 j dX4_putInto_30 rfl (by first | decide | assumption) (by decide) rfl (by show _ < 6; omega) rfl ?_
  refine WE.dup (n := 32) dX4_putInto_31 rfl rfl ?_
  refine WE.getI (n := 35) dX4_putInto_32 rfl fl_X4_142 ⟨by decide, by decide, rfl⟩ (by first | decide | exact kd_bal (by assumption) | exact kd_let (by assumption) | assumption) ?_
  refine WE.aload_n (n := 36) dX4_putInto_35 rfl rfl ?_
  refine WE.getR (n := 39) dX4_putInto_36 rfl fl_X4_26 ⟨by decide, by decide⟩ rfl (by first | decide | exact kd_bal (by assumption) | exact kd_let (by assumption) | assumption) ?_
  refine WE.iload_n (n := 40) dX4_putInto_39 rfl rfl ?_
  refine WE.aald (n := 41) 13 l dX4_putInto_40 rfl (by first | decide | assumption) (by decide) rfl (by show _ < 24; omega) rfl ?_
  refine WE.getI (n := 44) dX4_putInto_41 rfl fl_X4_112 ⟨by decide, by decide, rfl⟩ (by first | decide | exact kd_bal (by assumption) | exact kd_let (by assumption) | assumption) ?_
  refine WE.iadd (n := 45) dX4_putInto_44 rfl ?_
  refine WE.putI (n := 48) dX4_putInto_45 rfl fl_X4_142 ⟨by decide, by decide, rfl, rfl⟩ ⟨by first | rfl | decide, by first | rfl | decide⟩ (by first | decide | exact kd_bal (by assumption) | exact kd_let (by assumption) | assumption) ?_
  refine WE.vret dX4_putInto_48 rfl ⟨by decide, by decide⟩ ?_
  refine RV.mk ?_
  unfold putS
  simp only [u2_ne, u2_eq, show ¬ (6 + j = 12 + l) by omega, show ¬ (12 + l = 6 + j) by omega, false_and, not_false_eq_true, u2, ↓reduceIte, and_true, and_false, show ¬ (5 : Nat) = 6 by decide, show ¬ (6 : Nat) = 5 by decide, show ¬ (0 : Nat) = 2 by decide, show ¬ (0 : Nat) = 6 by decide, show ¬ (0 : Nat) = 5 by decide, and_self]
