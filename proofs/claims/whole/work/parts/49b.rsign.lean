set_option maxRecDepth 20000 in
set_option maxHeartbeats 1000000 in
theorem r_sign (c : CC) (od : Int64 × UInt64) (A : AS) (H : Pre c A) (b : Int32) : CM mX6_sign [.ref 395, .int b] (c, od) (RCP c od (stepQ A (Q_sign A.1 b))) := by
  refine CM.of [(0, .ref 395), (1, .int b)] rfl (by decide +kernel) rfl (Nat.le_of_ble_eq_true rfl) ?_
  refine WE.aload_n (n := 1) dX6_sign_0 rfl rfl ?_
  refine WE.iconst (n := 2) (nI 0) dX6_sign_1 rfl (by decide) ?_
  refine WE.putI (n := 5) dX6_sign_2 rfl fl_X6_36 ⟨by decide, by decide, rfl, rfl⟩ ⟨by first | rfl | decide, by first | rfl | decide⟩ (by first | decide | exact kd_bal (by assumption) | exact kd_let (by assumption) | assumption) ?_
  refine WE.aload_n (n := 6) dX6_sign_5 rfl rfl ?_
  refine WE.iload_n (n := 7) dX6_sign_6 rfl rfl ?_
  refine WE.V1I (M' := mX6_isBalloon) (n := 10) dX6_sign_7 rfl cv_X6_106 (by first | decide | exact kd_bal (by assumption) | exact kd_let (by assumption) | assumption) ⟨⟨by decide, by decide⟩, by decide, by decide⟩ (Nat.le_of_ble_eq_true rfl) (m_isBalloon _ _ _) ?_
  refine WE.if_eqB (n := 13) (tgt := 27) dX6_sign_10 rfl (by decide) (fun h10 => ?_) (fun h10 => ?_)
  · skip
    refine WE.aload_n (n := 28) dX6_sign_27 rfl rfl ?_
    refine WE.iconst (n := 29) (nI 1) dX6_sign_28 rfl (by decide) ?_
    refine WE.V1I (M' := mX6_raises) (n := 32) dX6_sign_29 rfl cv_X6_55 (by first | decide | exact kd_bal (by assumption) | exact kd_let (by assumption) | assumption) ⟨⟨by decide, by decide⟩, by decide, by decide⟩ (Nat.le_of_ble_eq_true rfl) (m_raises _ _ _) ?_
    refine WE.i2c (n := 33) dX6_sign_32 rfl ?_
    refine WE.iret (ty := .char) dX6_sign_33 rfl (by first | rfl | exact b2i_nar _ | decide) ⟨by decide, by decide⟩ ?_
    have hb : ¬ isBN A.1 b := by
      unfold isBN
      rw [← H.2.1]
      intro q
      rw [u2_ne _ _ (by decide)] at h10
      exact h10 q
    have e0 : Q_sign A.1 b = .inr 1 := by
      unfold Q_sign
      rw [if_neg hb]
    rw [e0]
    exact ⟨_, rfl, _, rfl, by rw [u2_u2]; exact q_u2 H.1 1 (fun q => absurd q (by decide))⟩
  · skip
    rw [u2_ne _ _ (by decide)] at h10
    have hb : isBN A.1 b := by
      unfold isBN
      rw [← H.2.1]
      exact h10
    obtain ⟨j, hj, rfl⟩ := H.2.2.1.isB hb
    have hj6 : j < 6 := by
      have := H.nb
      omega
    have hcl := nI_clamp (show j < 2 ^ 31 by omega)
    obtain ⟨t, ht, et⟩ := (H.2.2.1.b hj).2.2.2
    have e0 : Q_sign A.1 (nI j) = .inl (chJ t) := by
      unfold Q_sign bk
      rw [if_pos hb, hcl, et]
      rcases (show t = 0 ∨ t = 1 ∨ t = 2 ∨ t = 3 by omega) with rfl | rfl | rfl | rfl <;> rfl
    have e1 : u2 c 395 16 (nI 0) 396 (22 + 11 * j + 5) = nI t := by rw [u2_ne _ _ (by omega), H.2.1, et]
    rw [e0]
    have K : WE mX6_sign 24 [(0, .ref 395), (1, .int (nI j))] [.int (chJ t)] (u2 c 395 16 (nI 0), od) 0 0 (GQ mX6_sign (RCP c od (stepQ A (.inl (chJ t))))) := by
      refine WE.goto (tgt := 33) dX6_sign_24 (by decide) ?_
      refine WE.iret (ty := .char) dX6_sign_33 rfl (by rcases (show t = 0 ∨ t = 1 ∨ t = 2 ∨ t = 3 by omega) with rfl | rfl | rfl | rfl <;> rfl) ⟨by decide, by decide⟩ ?_
      exact ⟨_, rfl, _, rfl, q_u2 H.1 0 (fun _ => rfl)⟩
    intro l D aC z p e s m args below meth cd Hh locs ls C hP hS hl
    obtain ⟨hz1, hz0, sa, va, hR, hVS⟩ := C.2.2.2.2.2.2.2.2.2.1.2.2
    refine va_ldcS C.2.1 C.2.2.1 C.2.2.2.2.2.1 hR dX6_sign_13 ?_
    refine lv_aload_n C.2.1 C.2.2.1 dX6_sign_15 rfl (lk_has (v := .ref 395) hl rfl) ?_
    refine lv_iload_n C.2.1 C.2.2.1 dX6_sign_16 rfl (lk_has (v := .int (nI j)) hl rfl) ?_
    refine lv_iconst (v := nI 5) C.2.1 C.2.2.1 dX6_sign_17 (by decide) ?_
    refine W.rawV (M' := mX6_of) [.int (nI j), .int (nI 5)] dX6_sign_18 cv_X6_71 rfl (by decide) ⟨⟨by decide, by decide⟩, by decide, by decide⟩ (m_of _ _ j 5 (by omega)) (rest := [.ref sa]) (Nat.le_of_ble_eq_true rfl) C hP hS hl.1 (fun H1 locs1 hP1 hS1 => ?_)
    rw [e1]
    refine j_call (r := some (.int (chJ t))) (rest := []) (va_runV (As := [.int (nI t)]) (rest := []) (nL := mtL mX6_sign) (n := 1) (own := "SiegePostModel") (C := "java/lang/String") (b := sa) (cc := mtC mX6_sign) (Ts := WG) ⟨C.2.1, C.2.2.1, C.2.2.2.1, C.2.2.2.2.2.1, C.2.2.2.2.2.2.1⟩ (jj_at l sa va H1.size (AA z s.heap.size) t (by omega)) ⟨j_cb (M' := mJ_at) (np := 1) C.2.2.2.2.2.2.1 g_1287 g_75 g_1290 rfl ⟨by decide +kernel, by decide +kernel, by decide +kernel⟩ ⟨by decide, by decide⟩, C.2.2.2.2.2.2.1 _ g_1288, C.2.2.2.2.2.2.1 _ g_1289⟩ ⟨JS.blind, vk_recv hVS (by decide : 0 < 1) hS1, fun U hU hW => ⟨rfl, by rw [hU], by rw [hU]; exact va_Z.moved hW.alike (hz1.kept hS1.2.1), by rw [hU]; exact va_Zq.moved hW.alike (hz0.kept hS1.2.1), by rw [hU]; exact vk_S.moved hW.alike (hVS.kept hS1.2.1)⟩⟩ rfl rfl hl.1 rfl (Nat.le_of_ble_eq_true rfl) dX6_sign_21 ⟨by decide, by decide⟩) ?_
    exact K l D aC z p e s m args below meth cd H1 locs1 ls C hP1 hS1 hl
