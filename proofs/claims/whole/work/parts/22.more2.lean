set_option maxRecDepth 20000 in
set_option maxHeartbeats 1000000 in
theorem m_loadAll (c : CC) (od : Int64 × UInt64) (b : Int32) (nb : Nat) (hnb : nb ≤ 6) (hc3 : c 396 3 = nI nb) (nl : Nat) (hnl : nl ≤ 24) (hc4 : c 396 4 = nI nl) (h3 : ∀ x, x < nl → c 396 (88 + 4 * x + 2) = 0 → c 396 (88 + 4 * x + 3) = (-1 : Int32)) (u : Nat) (hu : u ≤ 8) (hcu : c 395 4 = nI u) : CM mX6_loadAll [.ref 395, .int b] (c, od) (RI (mG c (S_loadAll (c 396) b) 2).1 ((mG c (S_loadAll (c 396) b) 2).2, od)) := by
  refine CM.of [(0, .ref 395), (1, .int b)] rfl (by decide +kernel) rfl (Nat.le_of_ble_eq_true rfl) ?_
  have tru : triesS c 395 4 = nI u := by rw [tr_395 _ (by decide)]; exact hcu
  have hnlN : nlN (c 396) = nl := by unfold nlN; rw [hc4]; exact nI_clamp (by omega)
  refine WE.aload_n (n := 1) dX6_loadAll_0 rfl rfl ?_
  refine WE.V0V (M' := mX6_tries) (n := 4) dX6_loadAll_1 rfl cv_X6_83 (by first | decide | exact kd_bal (by assumption) | exact kd_let (by assumption) | assumption) ⟨⟨by decide, by decide⟩, by decide, by decide⟩ (Nat.le_of_ble_eq_true rfl) (show CM mX6_tries [.ref 395] (c, od) (RV (triesS c, od)) from m_tries c od) ?_
  refine WE.aload_n (n := 5) dX6_loadAll_4 rfl rfl ?_
  refine WE.iload_n (n := 6) dX6_loadAll_5 rfl rfl ?_
  refine WE.V1I (M' := mX6_isBalloon) (n := 9) dX6_loadAll_6 rfl cv_X6_106 (by first | decide | exact kd_bal (by assumption) | exact kd_let (by assumption) | assumption) ⟨⟨by decide, by decide⟩, by decide, by decide⟩ (Nat.le_of_ble_eq_true rfl) (by have q := m_isBalloon (triesS c) od b; rw [tr_396] at q; exact q) ?_
  refine WE.if_neB (n := 12) (tgt := 18) dX6_loadAll_9 rfl (by decide) (fun h9 => ?_) (fun h9 => ?_)
  · skip
    obtain ⟨j, hj, rfl⟩ := isB_of hnb hc3 h9
    have hcl : (nI j).toNatClampNeg = j := nI_clamp (by omega)
    refine WE.aload_n (n := 19) dX6_loadAll_18 rfl rfl ?_
    refine WE.iload_n (n := 20) dX6_loadAll_19 rfl rfl ?_
    refine WE.iconst (n := 21) (nI 5) dX6_loadAll_20 rfl (by decide) ?_
    refine WE.V2I (M' := mX6_of) (n := 24) dX6_loadAll_21 rfl cv_X6_71 (by first | decide | exact kd_bal (by assumption) | exact kd_let (by assumption) | assumption) ⟨⟨by decide, by decide⟩, by decide, by decide⟩ (Nat.le_of_ble_eq_true rfl) (m_of _ _ j 5 (by omega)) ?_
    refine WE.if_eq (n := 27) (tgt := 39) dX6_loadAll_24 rfl (by decide) (fun h24 => ?_) (fun h24 => ?_)
    · skip
      refine WE.iconst (n := 40) (nI 0) dX6_loadAll_39 rfl (by decide) ?_
      refine WE.istore_n (n := 41) dX6_loadAll_40 rfl (by decide) ?_
      refine WE.iconst (n := 42) (nI 0) dX6_loadAll_41 rfl (by decide) ?_
      refine WE.istore_n (n := 43) dX6_loadAll_42 rfl (by decide) ?_
      refine WE.aload_n (n := 44) dX6_loadAll_43 rfl rfl ?_
      refine WE.iconst (n := 45) (nI 0) dX6_loadAll_44 rfl (by decide) ?_
      refine WE.V1I (M' := mX6_waits) (n := 48) dX6_loadAll_45 rfl cv_X6_122 (by first | decide | exact kd_bal (by assumption) | exact kd_let (by assumption) | assumption) ⟨⟨by decide, by decide⟩, by decide, by decide⟩ (Nat.le_of_ble_eq_true rfl) (m_waits (triesS c) od nl hnl (by rw [tr_396]; exact hc4) 0 (by decide)) ?_
      refine WE.istore (n := 50) dX6_loadAll_48 rfl (by decide) ?_
      (try simp only [tr_396] at *)
      refine WE.ofS (σ' := (setN (triesS c) (c 396), od)) (by rw [show c 396 = triesS c 396 from (tr_396 c).symm, setN_self]) (WE.ofA (L' := [(0, .ref 395), (1, .int (nI j)), (2, .int (nI 0)), (3, .int (nI 0)), (4, .int (wres (WL (c 396) nl).head?))]) ⟨rfl, rfl, rfl, rfl, (by
        show some (Value.int _) = some (Value.int _)
        simp [tr_396, List.head?_eq_getElem?]), trivial⟩ (m_loadAll_loop (triesS c) od j (by omega) nl hnl (WL (c 396) nl) (c 396) 0 0 [] rfl rfl (by have := WL_len (c 396) nl; omega) hc4 h3 ?_))
      refine WE.aload_n (n := 132) dX6_loadAll_131 rfl rfl ?_
      refine WE.iload_n (n := 133) dX6_loadAll_132 rfl rfl ?_
      refine WE.V1I (M' := mX6_keeps) (n := 136) dX6_loadAll_133 rfl cv_X6_51 (by first | decide | exact kd_bal (by assumption) | exact kd_let (by assumption) | assumption) ⟨⟨by decide, by decide⟩, by decide, by decide⟩ (Nat.le_of_ble_eq_true rfl) (m_keeps _ _ _ u hu (by rw [setN_5]; exact tru)) ?_
      refine WE.iret (ty := .int) dX6_loadAll_136 rfl rfl ⟨by decide, by decide⟩ ?_
      simp only [S_loadAll, h9, h24, isBN, bk, hcl, hnlN, mG, and_self, ↓reduceIte, Nat.zero_add]
      exact RI.mk rfl rfl
    · skip
      refine WE.aload_n (n := 28) dX6_loadAll_27 rfl rfl ?_
      refine WE.aload_n (n := 29) dX6_loadAll_28 rfl rfl ?_
      refine WE.iconst (n := 30) (nI 2) dX6_loadAll_29 rfl (by decide) ?_
      refine WE.iload_n (n := 31) dX6_loadAll_30 rfl rfl ?_
      refine WE.V2I (M' := mX6_why) (n := 34) dX6_loadAll_31 rfl cv_X6_99 (by first | decide | exact kd_bal (by assumption) | exact kd_let (by assumption) | assumption) ⟨⟨by decide, by decide⟩, by decide, by decide⟩ (Nat.le_of_ble_eq_true rfl) (m_why _ _ _ _) ?_
      refine WE.iconst (n := 35) (nI 2) dX6_loadAll_34 rfl (by decide) ?_
      refine WE.V2I (M' := mX6_outcome) (n := 38) dX6_loadAll_35 rfl cv_X6_93 (by first | decide | exact kd_bal (by assumption) | exact kd_let (by assumption) | assumption) ⟨⟨by decide, by decide⟩, by decide, by decide⟩ (Nat.le_of_ble_eq_true rfl) (m_outcome _ _ _ _ u hu (by rw [u2_ne _ _ (by decide), u2_ne _ _ (by decide)]; exact tru)) ?_
      refine WE.iret (ty := .int) dX6_loadAll_38 rfl rfl ⟨by decide, by decide⟩ ?_
      (try simp only [tr_396] at *)
      simp (disch := omega) only [S_loadAll, h9, h24, hcl, tru, mG, tr_396, u2_now, u2_setN5, setN_setN, setN_at, setN_5, u2_56, upN_eq, upN_ne, bk, isBN, ↓reduceIte, and_self, and_true, true_and, not_true_eq_false, not_false_eq_true]
      exact RI.mk rfl rfl
  · skip
    refine WE.aload_n (n := 13) dX6_loadAll_12 rfl rfl ?_
    refine WE.iconst (n := 14) (nI 1) dX6_loadAll_13 rfl (by decide) ?_
    refine WE.V1I (M' := mX6_raises) (n := 17) dX6_loadAll_14 rfl cv_X6_55 (by first | decide | exact kd_bal (by assumption) | exact kd_let (by assumption) | assumption) ⟨⟨by decide, by decide⟩, by decide, by decide⟩ (Nat.le_of_ble_eq_true rfl) (m_raises _ _ _) ?_
    refine WE.iret (ty := .int) dX6_loadAll_17 rfl rfl ⟨by decide, by decide⟩ ?_
    (try simp only [tr_396] at *)
    simp (disch := omega) only [S_loadAll, h9, tru, mG, tr_396, u2_now, u2_setN5, setN_setN, setN_at, setN_5, u2_56, upN_eq, upN_ne, bk, isBN, ↓reduceIte, and_self, and_true, true_and, not_true_eq_false, not_false_eq_true]
    exact RI.mk rfl rfl
set_option maxRecDepth 20000 in
set_option maxHeartbeats 1000000 in
theorem m_balloon (c : CC) (od : Int64 × UInt64) (s : Int32) (nb : Nat) (hnb : nb ≤ 6) (hc3 : c 396 3 = nI nb) (u : Nat) (hu : u ≤ 8) (hcu : c 395 4 = nI u) : CM mX6_balloon [.ref 395, .int s] (c, od) (RI (mG c (S_balloon (c 396) s) 2).1 ((mG c (S_balloon (c 396) s) 2).2, od)) := by
  refine CM.of [(0, .ref 395), (1, .int s)] rfl (by decide +kernel) rfl (Nat.le_of_ble_eq_true rfl) ?_
  have tru : triesS c 395 4 = nI u := by rw [tr_395 _ (by decide)]; exact hcu
  have hcn : (c 396 3).toNatClampNeg = nb := by rw [hc3]; exact nI_clamp (by omega)
  refine WE.aload_n (n := 1) dX6_balloon_0 rfl rfl ?_
  refine WE.V0V (M' := mX6_tries) (n := 4) dX6_balloon_1 rfl cv_X6_83 (by first | decide | exact kd_bal (by assumption) | exact kd_let (by assumption) | assumption) ⟨⟨by decide, by decide⟩, by decide, by decide⟩ (Nat.le_of_ble_eq_true rfl) (show CM mX6_tries [.ref 395] (c, od) (RV (triesS c, od)) from m_tries c od) ?_
  refine WE.iload_n (n := 5) dX6_balloon_4 rfl rfl ?_
  refine WE.bipush (n := 7) (nI 10) dX6_balloon_5 rfl (by decide) ?_
  refine WE.bipush (n := 9) (nI 99) dX6_balloon_7 rfl (by decide) ?_
  refine WE.S3I (M' := mX6_in) (n := 12) dX6_balloon_9 rfl cv_X6_58  ⟨⟨by decide, by decide⟩, by decide, by decide⟩ (Nat.le_of_ble_eq_true rfl) (m_in _ _ _ _) ?_
  refine WE.if_neB (n := 15) (tgt := 21) dX6_balloon_12 rfl (by decide) (fun h12 => ?_) (fun h12 => ?_)
  · skip
    refine WE.aload_n (n := 22) dX6_balloon_21 rfl rfl ?_
    refine WE.getR (n := 25) dX6_balloon_22 rfl fl_X6_9 ⟨by decide, by decide⟩ rfl (by first | decide | exact kd_bal (by assumption) | exact kd_let (by assumption) | assumption) ?_
    refine WE.iconst (n := 26) (nI 3) dX6_balloon_25 rfl (by decide) ?_
    refine WE.iald (n := 27) 3 dX6_balloon_26 rfl (by first | decide | assumption) rfl (by show _ < 184; omega) ?_
    refine WE.bipush (n := 29) (nI 6) dX6_balloon_27 rfl (by decide) ?_
    refine WE.icmp_ne (n := 32) (tgt := 45) dX6_balloon_29 rfl (by decide) (fun h29 => ?_) (fun h29 => ?_)
    · skip
      rw [tr_396] at h29
      have hn : nb < 6 := by
        have : nb ≠ 6 := fun q => h29 (by rw [hc3, q])
        omega
      refine WE.aload_n (n := 46) dX6_balloon_45 rfl rfl ?_
      refine WE.getR (n := 49) dX6_balloon_46 rfl fl_X6_9 ⟨by decide, by decide⟩ rfl (by first | decide | exact kd_bal (by assumption) | exact kd_let (by assumption) | assumption) ?_
      refine WE.iconst (n := 50) (nI 3) dX6_balloon_49 rfl (by decide) ?_
      refine WE.dup2 (n := 51) dX6_balloon_50 rfl rfl rfl ?_
      refine WE.iald (n := 52) 3 dX6_balloon_51 rfl (by first | decide | assumption) rfl (by show _ < 184; omega) ?_
      refine WE.dup_x2 (n := 53) dX6_balloon_52 rfl rfl rfl rfl ?_
      refine WE.iconst (n := 54) (nI 1) dX6_balloon_53 rfl (by decide) ?_
      refine WE.iadd (n := 55) dX6_balloon_54 rfl ?_
      refine WE.iast (n := 56) 3 dX6_balloon_55 rfl (by first | decide | assumption) rfl (by show _ < 184; omega) ?_
      refine WE.ofS (σ' := (setN (triesS c) (upN (c 396) 3 (c 396 3 + nI 1)), od)) (by simp only [u2_now, tr_396]) ?_
      rw [tr_396, hc3]
      refine WE.istore_n (n := 57) dX6_balloon_56 rfl (by decide) ?_
      refine WE.iconst (n := 58) (nI 0) dX6_balloon_57 rfl (by decide) ?_
      refine WE.istore_n (n := 59) dX6_balloon_58 rfl (by decide) ?_
      suffices H : ∀ n i : Nat, i ≤ 11 → 11 < i + n → WE mX6_balloon 59 [(0, .ref 395), (1, .int s), (2, .int (nI nb)), (3, .int (nI i))] [] (setN (triesS c) (zeN (upN (c 396) 3 (c 396 3 + nI 1)) nb i), od) 0 0 (GQ mX6_balloon (RI (mG c (S_balloon (c 396) s) 2).1 ((mG c (S_balloon (c 396) s) 2).2, od))) from WE.ofS (σ' := (setN (triesS c) (zeN (upN (c 396) 3 (c 396 3 + nI 1)) nb 0), od)) (by rw [zeN_0, hc3]) (WE.ofA (L' := [(0, .ref 395), (1, .int s), (2, .int (nI nb)), (3, .int (nI 0))]) ⟨rfl, rfl, rfl, rfl, trivial⟩ (H (11 + 1) 0 (Nat.zero_le _) (by omega)))
      intro n
      induction n with
      | zero =>
        intro i h1 h2
        exact absurd h2 (by omega)
      | succ n ih =>
        intro i hi hn
        refine WE.iload_n (n := 60) dX6_balloon_59 rfl rfl ?_
        refine WE.bipush (n := 62) (nI 11) dX6_balloon_60 rfl (by decide) ?_
        refine WE.icmp_ge (n := 65) (tgt := 78) dX6_balloon_62 rfl (by decide) (fun h62 => ?_) (fun h62 => ?_)
        · skip
          have hx : i = 11 := by have := ge_t (by omega) (by omega) h62; omega
          subst hx
          refine WE.aload_n (n := 79) dX6_balloon_78 rfl rfl ?_
          refine WE.iload_n (n := 80) dX6_balloon_79 rfl rfl ?_
          refine WE.iconst (n := 81) (nI 0) dX6_balloon_80 rfl (by decide) ?_
          refine WE.iload_n (n := 82) dX6_balloon_81 rfl rfl ?_
          refine WE.V3V (M' := mX6_sets) (n := 85) dX6_balloon_82 rfl cv_X6_102 (by first | decide | exact kd_bal (by assumption) | exact kd_let (by assumption) | assumption) ⟨⟨by decide, by decide⟩, by decide, by decide⟩ (Nat.le_of_ble_eq_true rfl) (m_sets _ _ nb 0 _ (by omega)) ?_
          refine WE.aload_n (n := 86) dX6_balloon_85 rfl rfl ?_
          refine WE.iload_n (n := 87) dX6_balloon_86 rfl rfl ?_
          refine WE.bipush (n := 89) (nI 6) dX6_balloon_87 rfl (by decide) ?_
          refine WE.bipush (n := 91) (nI 20) dX6_balloon_89 rfl (by decide) ?_
          refine WE.V3V (M' := mX6_sets) (n := 94) dX6_balloon_91 rfl cv_X6_102 (by first | decide | exact kd_bal (by assumption) | exact kd_let (by assumption) | assumption) ⟨⟨by decide, by decide⟩, by decide, by decide⟩ (Nat.le_of_ble_eq_true rfl) (m_sets _ _ nb 6 _ (by omega)) ?_
          refine WE.aload_n (n := 95) dX6_balloon_94 rfl rfl ?_
          refine WE.iload_n (n := 96) dX6_balloon_95 rfl rfl ?_
          refine WE.bipush (n := 98) (nI 7) dX6_balloon_96 rfl (by decide) ?_
          refine WE.bipush (n := 100) (nI 20) dX6_balloon_98 rfl (by decide) ?_
          refine WE.V3V (M' := mX6_sets) (n := 103) dX6_balloon_100 rfl cv_X6_102 (by first | decide | exact kd_bal (by assumption) | exact kd_let (by assumption) | assumption) ⟨⟨by decide, by decide⟩, by decide, by decide⟩ (Nat.le_of_ble_eq_true rfl) (m_sets _ _ nb 7 _ (by omega)) ?_
          refine WE.aload_n (n := 104) dX6_balloon_103 rfl rfl ?_
          refine WE.iload_n (n := 105) dX6_balloon_104 rfl rfl ?_
          refine WE.V1I (M' := mX6_keeps) (n := 108) dX6_balloon_105 rfl cv_X6_51 (by first | decide | exact kd_bal (by assumption) | exact kd_let (by assumption) | assumption) ⟨⟨by decide, by decide⟩, by decide, by decide⟩ (Nat.le_of_ble_eq_true rfl) (m_keeps _ _ _ u hu (by simp only [u2_now, setN_5]; exact tru)) ?_
          refine WE.iret (ty := .int) dX6_balloon_108 rfl rfl ⟨by decide, by decide⟩ ?_
          have e6 : ¬ c 396 3 = nI 6 := h29
          simp only [S_balloon, h12, e6, baN, hcn, mG, u2_setN, and_self, ↓reduceIte]
          exact RI.mk hc3.symm rfl
        · skip
          have hlt : i < 11 := ge_f (by omega) (by omega) h62
          refine WE.aload_n (n := 66) dX6_balloon_65 rfl rfl ?_
          refine WE.iload_n (n := 67) dX6_balloon_66 rfl rfl ?_
          refine WE.iload_n (n := 68) dX6_balloon_67 rfl rfl ?_
          refine WE.iconst (n := 69) (nI 0) dX6_balloon_68 rfl (by decide) ?_
          refine WE.V3V (M' := mX6_sets) (n := 72) dX6_balloon_69 rfl cv_X6_102 (by first | decide | exact kd_bal (by assumption) | exact kd_let (by assumption) | assumption) ⟨⟨by decide, by decide⟩, by decide, by decide⟩ (Nat.le_of_ble_eq_true rfl) (m_sets _ _ nb i _ (by omega)) ?_
          refine WE.iincV (n := 75) (nI (i + 1)) dX6_balloon_72 rfl rfl (by decide) (nI_inc i) ?_
          refine WE.goto (tgt := 59) dX6_balloon_75 (by decide) ?_
          refine WE.ofS (σ' := (setN (triesS c) (zeN (upN (c 396) 3 (c 396 3 + nI 1)) nb (i + 1)), od)) (by rw [u2_setN, upN_ze]) (WE.ofA (L' := [(0, .ref 395), (1, .int s), (2, .int (nI nb)), (3, .int (nI (i + 1)))]) ⟨rfl, rfl, rfl, rfl, trivial⟩ (ih (i + 1) (by omega) (by omega)))
    · skip
      rw [tr_396] at h29
      refine WE.aload_n (n := 33) dX6_balloon_32 rfl rfl ?_
      refine WE.aload_n (n := 34) dX6_balloon_33 rfl rfl ?_
      refine WE.iconst (n := 35) (nI 1) dX6_balloon_34 rfl (by decide) ?_
      refine WE.bipush (n := 37) (nI 6) dX6_balloon_35 rfl (by decide) ?_
      refine WE.V2I (M' := mX6_why) (n := 40) dX6_balloon_37 rfl cv_X6_99 (by first | decide | exact kd_bal (by assumption) | exact kd_let (by assumption) | assumption) ⟨⟨by decide, by decide⟩, by decide, by decide⟩ (Nat.le_of_ble_eq_true rfl) (m_why _ _ _ _) ?_
      refine WE.iconst (n := 41) (nI 2) dX6_balloon_40 rfl (by decide) ?_
      refine WE.V2I (M' := mX6_outcome) (n := 44) dX6_balloon_41 rfl cv_X6_93 (by first | decide | exact kd_bal (by assumption) | exact kd_let (by assumption) | assumption) ⟨⟨by decide, by decide⟩, by decide, by decide⟩ (Nat.le_of_ble_eq_true rfl) (m_outcome _ _ _ _ u hu (by rw [u2_ne _ _ (by decide), u2_ne _ _ (by decide)]; exact tru)) ?_
      refine WE.iret (ty := .int) dX6_balloon_44 rfl rfl ⟨by decide, by decide⟩ ?_
      (try simp only [tr_396] at *)
      simp (disch := omega) only [S_balloon, h12, h29, tru, mG, tr_396, u2_now, u2_setN5, setN_setN, setN_at, setN_5, u2_56, upN_eq, upN_ne, bk, isBN, ↓reduceIte, and_self, and_true, true_and, not_true_eq_false, not_false_eq_true]
      exact RI.mk rfl rfl
  · skip
    refine WE.aload_n (n := 16) dX6_balloon_15 rfl rfl ?_
    refine WE.iconst (n := 17) (nI 1) dX6_balloon_16 rfl (by decide) ?_
    refine WE.V1I (M' := mX6_raises) (n := 20) dX6_balloon_17 rfl cv_X6_55 (by first | decide | exact kd_bal (by assumption) | exact kd_let (by assumption) | assumption) ⟨⟨by decide, by decide⟩, by decide, by decide⟩ (Nat.le_of_ble_eq_true rfl) (m_raises _ _ _) ?_
    refine WE.iret (ty := .int) dX6_balloon_20 rfl rfl ⟨by decide, by decide⟩ ?_
    (try simp only [tr_396] at *)
    simp (disch := omega) only [S_balloon, h12, tru, mG, tr_396, u2_now, u2_setN5, setN_setN, setN_at, setN_5, u2_56, upN_eq, upN_ne, bk, isBN, ↓reduceIte, and_self, and_true, true_and, not_true_eq_false, not_false_eq_true]
    exact RI.mk rfl rfl
def Q_append (c : CC) (x : Int32) : Int32 × CC := if c 395 8 = nI 60 then (nI 0, u2 c 395 16 (nI 1)) else (c 395 8 + nI 1, u2 (u2 (u2 c 395 16 (nI 0)) 395 8 (c 395 8 + nI 1)) 401 (c 395 8).toNatClampNeg x)
set_option maxRecDepth 20000 in
set_option maxHeartbeats 1000000 in
theorem m_append (c : CC) (od : Int64 × UInt64) (x : Int32) (hx : vp_nar .char x = x) (tl : Nat) (htl : tl ≤ 60) (hct : c 395 8 = nI tl) : CM mX6_append [.ref 395, .int x] (c, od) (RI (Q_append c x).1 ((Q_append c x).2, od)) := by
  refine CM.of [(0, .ref 395), (1, .int x)] rfl (by decide +kernel) rfl (Nat.le_of_ble_eq_true rfl) ?_
  refine WE.aload_n (n := 1) dX6_append_0 rfl rfl ?_
  refine WE.iconst (n := 2) (nI 0) dX6_append_1 rfl (by decide) ?_
  refine WE.putI (n := 5) dX6_append_2 rfl fl_X6_36 ⟨by decide, by decide, rfl, rfl⟩ ⟨by first | rfl | decide, by first | rfl | decide⟩ (by first | decide | exact kd_bal (by assumption) | exact kd_let (by assumption) | assumption) ?_
  refine WE.aload_n (n := 6) dX6_append_5 rfl rfl ?_
  refine WE.getI (n := 9) dX6_append_6 rfl fl_X6_178 ⟨by decide, by decide, rfl⟩ (by first | decide | exact kd_bal (by assumption) | exact kd_let (by assumption) | assumption) ?_
  refine WE.bipush (n := 11) (nI 60) dX6_append_9 rfl (by decide) ?_
  refine WE.icmp_ne (n := 14) (tgt := 20) dX6_append_11 rfl (by decide) (fun h11 => ?_) (fun h11 => ?_)
  · skip
    rw [u2_ne _ _ (by decide)] at h11
    have hn : tl < 60 := by
      have : tl ≠ 60 := fun q => h11 (by rw [hct, q])
      omega
    have hcl : (nI tl).toNatClampNeg = tl := nI_clamp (by omega)
    refine WE.aload_n (n := 21) dX6_append_20 rfl rfl ?_
    refine WE.getR (n := 24) dX6_append_21 rfl fl_X6_25 ⟨by decide, by decide⟩ rfl (by first | decide | exact kd_bal (by assumption) | exact kd_let (by assumption) | assumption) ?_
    refine WE.aload_n (n := 25) dX6_append_24 rfl rfl ?_
    refine WE.dup (n := 26) dX6_append_25 rfl rfl ?_
    refine WE.getI (n := 29) dX6_append_26 rfl fl_X6_178 ⟨by decide, by decide, rfl⟩ (by first | decide | exact kd_bal (by assumption) | exact kd_let (by assumption) | assumption) ?_
    refine WE.dup_x1 (n := 30) dX6_append_29 rfl rfl rfl ?_
    refine WE.iconst (n := 31) (nI 1) dX6_append_30 rfl (by decide) ?_
    refine WE.iadd (n := 32) dX6_append_31 rfl ?_
    refine WE.putI (n := 35) dX6_append_32 rfl fl_X6_178 ⟨by decide, by decide, rfl, rfl⟩ ⟨by first | rfl | decide, by first | rfl | decide⟩ (by first | decide | exact kd_bal (by assumption) | exact kd_let (by assumption) | assumption) ?_
    refine WE.iload_n (n := 36) dX6_append_35 rfl rfl ?_
    refine WE.cast (n := 37) tl dX6_append_36 rfl (by first | decide | assumption) (by rw [u2_ne _ _ (by decide)]; exact hct) (by show _ < 60; omega) hx ?_
    refine WE.aload_n (n := 38) dX6_append_37 rfl rfl ?_
    refine WE.getI (n := 41) dX6_append_38 rfl fl_X6_178 ⟨by decide, by decide, rfl⟩ (by first | decide | exact kd_bal (by assumption) | exact kd_let (by assumption) | assumption) ?_
    refine WE.iret (ty := .int) dX6_append_41 rfl rfl ⟨by decide, by decide⟩ ?_
    simp only [Q_append, h11, ↓reduceIte]
    exact RI.mk (by simp [u2]) (by rw [hct, hcl, u2_ne _ _ (by decide), hct])
  · skip
    rw [u2_ne _ _ (by decide)] at h11
    refine WE.aload_n (n := 15) dX6_append_14 rfl rfl ?_
    refine WE.iconst (n := 16) (nI 1) dX6_append_15 rfl (by decide) ?_
    refine WE.V1I (M' := mX6_raises) (n := 19) dX6_append_16 rfl cv_X6_55 (by first | decide | exact kd_bal (by assumption) | exact kd_let (by assumption) | assumption) ⟨⟨by decide, by decide⟩, by decide, by decide⟩ (Nat.le_of_ble_eq_true rfl) (m_raises _ _ _) ?_
    refine WE.iret (ty := .int) dX6_append_19 rfl rfl ⟨by decide, by decide⟩ ?_
    simp only [Q_append, h11, ↓reduceIte]
    exact RI.mk rfl (by rw [u2_u2])
theorem u8_dec {u : Nat} (h : 0 < u) : nI u - nI 1 = nI (u - 1) := pk_sub h
def S_undo (c : CC) : Int32 × CC := if c 395 4 = 0 then (nI 0, u2 c 395 16 (nI 1)) else (c 395 4 - nI 1, setN (u2 (u2 c 395 16 (nI 0)) 395 4 (c 395 4 - nI 1)) (cpN 184 (fun k => c 399 (184 * (c 395 4 - nI 1).toNatClampNeg + k)) (c 396)))
set_option maxRecDepth 20000 in
set_option maxHeartbeats 1000000 in
theorem m_undo_loop {G : GT} (c : CC) (od : Int64 × UInt64) (u : Nat) (hu8 : u < 8) (hcu : c 395 4 = nI u) (k : WE mX6_undo 64 [(0, .ref 395)] [] (setR c 396 (cpN 184 (fun k => c 399 (184 * u + k)) (c 396)), od) 0 0 G) : WE mX6_undo 30 [(0, .ref 395), (1, .int (nI 0))] [] (c, od) 0 0 G := by
  suffices H : ∀ n i : Nat, i ≤ 184 → 184 < i + n → WE mX6_undo 30 [(0, .ref 395), (1, .int (nI i))] [] (setR c 396 (cpN i (fun k => c 399 (184 * u + k)) (c 396)), od) 0 0 G from WE.ofS (σ' := (setR c 396 (cpN 0 (fun k => c 399 (184 * u + k)) (c 396)), od)) (by rw [setR_cp0]) (WE.ofA (L' := [(0, .ref 395), (1, .int (nI 0))]) ⟨rfl, rfl, trivial⟩ (H (184 + 1) 0 (Nat.zero_le _) (by omega)))
  intro n
  induction n with
  | zero =>
    intro i h1 h2
    exact absurd h2 (by omega)
  | succ n ih =>
    intro i hi hn
    refine WE.iload_n (n := 31) dX6_undo_30 rfl rfl ?_
    refine WE.sipush (n := 34) (nI 184) dX6_undo_31 rfl (by decide) ?_
    refine WE.icmp_ge (n := 37) (tgt := 64) dX6_undo_34 rfl (by decide) (fun h34 => ?_) (fun h34 => ?_)
    · skip
      have hx : i = 184 := by have := ge_t (by omega) (by omega) h34; omega
      subst hx
      exact WE.ofL (fun q h => List.mem_singleton.mp h ▸ (by simp)) k
    · skip
      have hlt : i < 184 := ge_f (by omega) (by omega) h34
      refine WE.aload_n (n := 38) dX6_undo_37 rfl rfl ?_
      refine WE.getR (n := 41) dX6_undo_38 rfl fl_X6_9 ⟨by decide, by decide⟩ rfl (by first | decide | exact kd_bal (by assumption) | exact kd_let (by assumption) | assumption) ?_
      refine WE.iload_n (n := 42) dX6_undo_41 rfl rfl ?_
      refine WE.aload_n (n := 43) dX6_undo_42 rfl rfl ?_
      refine WE.getR (n := 46) dX6_undo_43 rfl fl_X6_19 ⟨by decide, by decide⟩ rfl (by first | decide | exact kd_bal (by assumption) | exact kd_let (by assumption) | assumption) ?_
      refine WE.sipush (n := 49) (nI 184) dX6_undo_46 rfl (by decide) ?_
      refine WE.aload_n (n := 50) dX6_undo_49 rfl rfl ?_
      refine WE.getI (n := 53) dX6_undo_50 rfl fl_X6_39 ⟨by decide, by decide, rfl⟩ (by first | decide | exact kd_bal (by assumption) | exact kd_let (by assumption) | assumption) ?_
      refine WE.imul (n := 54) dX6_undo_53 rfl ?_
      refine WE.iload_n (n := 55) dX6_undo_54 rfl rfl ?_
      refine WE.iadd (n := 56) dX6_undo_55 rfl ?_
      refine WE.iald (n := 57) (184 * u + i) dX6_undo_56 rfl (by first | decide | assumption) (by rw [setR_o _ _ (by decide), hcu]; simp only [pk_mul, nI_add]) (by show _ < 1472; omega) ?_
      refine WE.iast (n := 58) (i) dX6_undo_57 rfl (by first | decide | assumption) (by first | rfl | simp only [pk_mul, nI_add]) (by show _ < 184; omega) ?_
      refine WE.iincV (n := 61) (nI (i + 1)) dX6_undo_58 rfl rfl (by decide) (nI_inc i) ?_
      refine WE.goto (tgt := 30) dX6_undo_61 (by decide) ?_
      refine WE.ofS (σ' := (setR c 396 (cpN (i + 1) (fun k => c 399 (184 * u + k)) (c 396)), od)) ?_ (WE.ofA (L' := [(0, .ref 395), (1, .int (nI (i + 1)))]) ⟨rfl, rfl, trivial⟩ (ih (i + 1) (by omega) (by omega)))
      rw [setR_o _ _ (by decide), u2_setR, ← upN_cp]
set_option maxRecDepth 20000 in
set_option maxHeartbeats 1000000 in
theorem m_undo (c : CC) (od : Int64 × UInt64) (u : Nat) (hu : u ≤ 8) (hcu : c 395 4 = nI u) : CM mX6_undo [.ref 395] (c, od) (RI (S_undo c).1 ((S_undo c).2, od)) := by
  refine CM.of [(0, .ref 395)] rfl (by decide +kernel) rfl (Nat.le_of_ble_eq_true rfl) ?_
  refine WE.aload_n (n := 1) dX6_undo_0 rfl rfl ?_
  refine WE.iconst (n := 2) (nI 0) dX6_undo_1 rfl (by decide) ?_
  refine WE.putI (n := 5) dX6_undo_2 rfl fl_X6_36 ⟨by decide, by decide, rfl, rfl⟩ ⟨by first | rfl | decide, by first | rfl | decide⟩ (by first | decide | exact kd_bal (by assumption) | exact kd_let (by assumption) | assumption) ?_
  refine WE.aload_n (n := 6) dX6_undo_5 rfl rfl ?_
  refine WE.getI (n := 9) dX6_undo_6 rfl fl_X6_39 ⟨by decide, by decide, rfl⟩ (by first | decide | exact kd_bal (by assumption) | exact kd_let (by assumption) | assumption) ?_
  refine WE.if_ne (n := 12) (tgt := 18) dX6_undo_9 rfl (by decide) (fun h9 => ?_) (fun h9 => ?_)
  · skip
    rw [u2_ne _ _ (by decide)] at h9
    have hu0 : 0 < u := by
      have : u ≠ 0 := fun q => h9 (by rw [hcu, q]; rfl)
      omega
    refine WE.aload_n (n := 19) dX6_undo_18 rfl rfl ?_
    refine WE.dup (n := 20) dX6_undo_19 rfl rfl ?_
    refine WE.getI (n := 23) dX6_undo_20 rfl fl_X6_39 ⟨by decide, by decide, rfl⟩ (by first | decide | exact kd_bal (by assumption) | exact kd_let (by assumption) | assumption) ?_
    refine WE.iconst (n := 24) (nI 1) dX6_undo_23 rfl (by decide) ?_
    refine WE.isub (n := 25) dX6_undo_24 rfl ?_
    refine WE.putI (n := 28) dX6_undo_25 rfl fl_X6_39 ⟨by decide, by decide, rfl, rfl⟩ ⟨by first | rfl | decide, by first | rfl | decide⟩ (by first | decide | exact kd_bal (by assumption) | exact kd_let (by assumption) | assumption) ?_
    refine WE.iconst (n := 29) (nI 0) dX6_undo_28 rfl (by decide) ?_
    refine WE.istore_n (n := 30) dX6_undo_29 rfl (by decide) ?_
    refine WE.ofA (L' := [(0, .ref 395), (1, .int (nI 0))]) ⟨rfl, rfl, trivial⟩ (m_undo_loop _ od (u - 1) (by omega) (by rw [u2_eq, u2_ne _ _ (by decide), hcu, u8_dec hu0]) ?_)
    refine WE.aload_n (n := 65) dX6_undo_64 rfl rfl ?_
    refine WE.getI (n := 68) dX6_undo_65 rfl fl_X6_39 ⟨by decide, by decide, rfl⟩ (by first | decide | exact kd_bal (by assumption) | exact kd_let (by assumption) | assumption) ?_
    refine WE.iret (ty := .int) dX6_undo_68 rfl rfl ⟨by decide, by decide⟩ ?_
    refine RI.mk ?_ ?_
    · simp only [S_undo, h9, ↓reduceIte]
      rw [setR_o _ _ (by decide), u2_eq, u2_ne _ _ (by decide)]
    · simp only [S_undo, h9, ↓reduceIte]
      rw [hcu, u8_dec hu0, nI_clamp (by omega), setR_396, u2_ne _ _ (by decide), hcu, u8_dec hu0, u2_o _ _ _ (by decide), u2_o _ _ _ (by decide), u2_o _ _ _ (by decide), u2_o _ _ _ (by decide)]
  · skip
    rw [u2_ne _ _ (by decide)] at h9
    refine WE.aload_n (n := 13) dX6_undo_12 rfl rfl ?_
    refine WE.iconst (n := 14) (nI 1) dX6_undo_13 rfl (by decide) ?_
    refine WE.V1I (M' := mX6_raises) (n := 17) dX6_undo_14 rfl cv_X6_55 (by first | decide | exact kd_bal (by assumption) | exact kd_let (by assumption) | assumption) ⟨⟨by decide, by decide⟩, by decide, by decide⟩ (Nat.le_of_ble_eq_true rfl) (m_raises _ _ _) ?_
    refine WE.iret (ty := .int) dX6_undo_17 rfl rfl ⟨by decide, by decide⟩ ?_
    simp only [S_undo, h9, ↓reduceIte]
    exact RI.mk rfl (by rw [u2_u2])
theorem dnL_hi (N : NA) (st b : Int32) {k nl : Nat} (hn : nl ≤ 24) (h : 184 ≤ k) : ∀ n, n ≤ nl → dnL N st b n k = N k
  | 0, _ => rfl
  | n + 1, hl => by
    unfold dnL
    split
    · split
      · rw [upN_ne _ _ _ (by omega)]
        exact dnL_hi N st b hn h n (by omega)
      · exact dnL_hi N st b hn h n (by omega)
    · exact dnL_hi N st b hn h n (by omega)
theorem flN_hi (N : NA) {j nl k : Nat} (hj : j < 6) (hn : nl ≤ 24) (h : 184 ≤ k) : flN N j nl k = N k := by
  have hd : ∀ (M : NA) (st : Int32), dnN M j st nl k = M k := by
    intro M st
    unfold dnN
    rw [dnL_hi _ _ _ hn h nl (Nat.le_refl _)]
    split
    · rw [upN_ne _ _ _ (by omega), upN_ne _ _ _ (by omega), upN_ne _ _ _ (by omega), upN_ne _ _ _ (by omega)]
    · rw [upN_ne _ _ _ (by omega), upN_ne _ _ _ (by omega), upN_ne _ _ _ (by omega), upN_ne _ _ _ (by omega)]
  have h1 : fl1 N j k = N k := by
    unfold fl1
    rw [upN_ne _ _ _ (by omega), upN_ne _ _ _ (by omega), upN_ne _ _ _ (by omega)]
  have h2 : ∀ M : NA, fl2 M j nl k = M k := by
    intro M
    unfold fl2
    rw [upN_ne _ _ _ (by omega), upN_ne _ _ _ (by omega), upN_ne _ _ _ (by omega)]
  unfold flN
  split
  · split
    · split
      · rw [h2, h1]
      · rw [hd, h2, h1]
    · rw [hd, h2, h1]
  · rw [hd, h1]
theorem foN_hi {j nl k : Nat} (hj : j < 6) (hn : nl ≤ 24) (h : 184 ≤ k) : ∀ (f : Nat) (N : NA) (t : Nat), (foN j nl f N t).1 k = N k
  | 0, N, t => rfl
  | f + 1, N, t => by
    unfold foN
    split
    · rw [foN_hi hj hn h f, flN_hi N hj hn h]
    · rfl
theorem backS_eq {c : CC} {N : NA} (h : ∀ k, 184 ≤ k → N k = c 396 k) : backS c N = thinkS c := by
  unfold backS
  rw [show cpN 184 (c 396) N = thinkS c 396 from ?_, setN_self]
  rw [th_396]
  funext k
  unfold cpN
  split
  · rfl
  · exact h k (by omega)
/-- the first n amounts tried: the best, and how far it lands -/
def bdL (N : NA) (j nl f : Nat) : Nat → Int32 × Int32
  | 0 => ((-1 : Int32), (-1 : Int32))
  | n + 1 => if (foN j nl f (upN N (22 + 11 * j + 2) (N (22 + 11 * j + 2) - nI n)) 0).1 (22 + 11 * j + 5) = nI 2 then
      (if far ((foN j nl f (upN N (22 + 11 * j + 2) (N (22 + 11 * j + 2) - nI n)) 0).1 (22 + 11 * j + 6)) ((foN j nl f (upN N (22 + 11 * j + 2) (N (22 + 11 * j + 2) - nI n)) 0).1 (22 + 11 * j + 7)) ≤ (bdL N j nl f n).2 then bdL N j nl f n
       else (nI n, far ((foN j nl f (upN N (22 + 11 * j + 2) (N (22 + 11 * j + 2) - nI n)) 0).1 (22 + 11 * j + 6)) ((foN j nl f (upN N (22 + 11 * j + 2) (N (22 + 11 * j + 2) - nI n)) 0).1 (22 + 11 * j + 7))))
    else bdL N j nl f n
def Q_bestDrop (N : NA) (b : Int32) (f : Nat) : QR := if isBN N b then (if N (bk b 5) = nI 1 then (if 0 ≤ (bdL N b.toNatClampNeg (nlN N) f ((N (bk b 2)).toNatClampNeg + 1)).1 then .inl (bdL N b.toNatClampNeg (nlN N) f ((N (bk b 2)).toNatClampNeg + 1)).1 else .inr 3) else .inr 2) else .inr 1
def mB (c : CC) (q : QR) : Int32 × CC := match q with
  | .inl v => (v, thinkS (u2 c 395 16 (nI 0)))
  | .inr 3 => (nI 0, u2 (thinkS (u2 c 395 16 (nI 0))) 395 16 (nI 2))
  | .inr k => (nI 0, u2 c 395 16 (nI k))
theorem back_cp (c : CC) (M : NA) (h : ∀ k, 184 ≤ k → M k = c 396 k) : setR (setN (thinkS c) M) 396 (cpN 184 (setN (thinkS c) M 398) (setN (thinkS c) M 396)) = thinkS c := by
  rw [backS_of, backS_eq h]
set_option maxRecDepth 20000 in
set_option maxHeartbeats 1000000 in
theorem m_bestDrop_loop {G : GT} (c : CC) (od : Int64 × UInt64) (j : Nat) (hj : j < 6) (nl : Nat) (hnl : nl ≤ 24) (hc4 : c 396 4 = nI nl) (f S : Nat) (hSb : S ≤ 50) (hS : c 396 (22 + 11 * j + 2) = nI S) (hf : ∀ i, i ≤ S → ¬ (foN j nl f (upN (c 396) (22 + 11 * j + 2) (c 396 (22 + 11 * j + 2) - nI i)) 0).1 (22 + 11 * j + 5) = nI 1) (k : WE mX6_bestDrop 125 [(0, .ref 395), (2, .int (bdL (c 396) j nl f (S + 1)).1)] [] (thinkS c, od) 0 0 G) : WE mX6_bestDrop 46 [(0, .ref 395), (1, .int (nI j)), (2, .int (bdL (c 396) j nl f 0).1), (3, .int (bdL (c 396) j nl f 0).2), (4, .int (nI 0))] [] (thinkS c, od) 0 0 G := by
  have hth : thinkS c 398 (22 + 11 * j + 2) = c 396 (22 + 11 * j + 2) := by rw [th_398, cpN_lt _ _ (by omega)]
  suffices H : ∀ n i : Nat, i ≤ (S + 1) → (S + 1) < i + n → WE mX6_bestDrop 46 [(0, .ref 395), (1, .int (nI j)), (2, .int (bdL (c 396) j nl f i).1), (3, .int (bdL (c 396) j nl f i).2), (4, .int (nI i))] [] (thinkS c, od) 0 0 G from WE.ofA (L' := [(0, .ref 395), (1, .int (nI j)), (2, .int (bdL (c 396) j nl f 0).1), (3, .int (bdL (c 396) j nl f 0).2), (4, .int (nI 0))]) ⟨rfl, rfl, rfl, rfl, rfl, trivial⟩ (H ((S + 1) + 1) 0 (Nat.zero_le _) (by omega))
  intro n
  induction n with
  | zero =>
    intro i h1 h2
    exact absurd h2 (by omega)
  | succ n ih =>
    intro i hi hn
    refine WE.iload (n := 48) dX6_bestDrop_46 rfl rfl ?_
    refine WE.aload_n (n := 49) dX6_bestDrop_48 rfl rfl ?_
    refine WE.getR (n := 52) dX6_bestDrop_49 rfl fl_X6_16 ⟨by decide, by decide⟩ rfl (by first | decide | exact kd_bal (by assumption) | exact kd_let (by assumption) | assumption) ?_
    refine WE.bipush (n := 54) (nI 22) dX6_bestDrop_52 rfl (by decide) ?_
    refine WE.bipush (n := 56) (nI 11) dX6_bestDrop_54 rfl (by decide) ?_
    refine WE.iload_n (n := 57) dX6_bestDrop_56 rfl rfl ?_
    refine WE.imul (n := 58) dX6_bestDrop_57 rfl ?_
    refine WE.iadd (n := 59) dX6_bestDrop_58 rfl ?_
    refine WE.iconst (n := 60) (nI 2) dX6_bestDrop_59 rfl (by decide) ?_
    refine WE.iadd (n := 61) dX6_bestDrop_60 rfl ?_
    refine WE.iald (n := 62) (22 + 11 * j + 2) dX6_bestDrop_61 rfl (by first | decide | assumption) (by first | rfl | simp only [pk_mul, nI_add]) (by show _ < 184; omega) ?_
    refine WE.icmp_gt (n := 65) (tgt := 125) dX6_bestDrop_62 rfl (by decide) (fun h62 => ?_) (fun h62 => ?_)
    · skip
      have h62 : nI S < nI i := by rw [← hS, ← hth]; exact h62
      rw [nI_ltI (by omega) (by omega)] at h62
      have hx : i = S + 1 := by omega
      subst hx
      exact WE.ofL (fun q h => by simp at h; rcases h with rfl | rfl <;> simp) k
    · skip
      have h62 : ¬ nI S < nI i := by rw [← hS, ← hth]; exact h62
      rw [nI_ltI (by omega) (by omega)] at h62
      have hiS : i ≤ S := by omega
      refine WE.aload_n (n := 66) dX6_bestDrop_65 rfl rfl ?_
      refine WE.iload_n (n := 67) dX6_bestDrop_66 rfl rfl ?_
      refine WE.iconst (n := 68) (nI 2) dX6_bestDrop_67 rfl (by decide) ?_
      refine WE.aload_n (n := 69) dX6_bestDrop_68 rfl rfl ?_
      refine WE.iload_n (n := 70) dX6_bestDrop_69 rfl rfl ?_
      refine WE.iconst (n := 71) (nI 2) dX6_bestDrop_70 rfl (by decide) ?_
      refine WE.V2I (M' := mX6_of) (n := 74) dX6_bestDrop_71 rfl cv_X6_71 (by first | decide | exact kd_bal (by assumption) | exact kd_let (by assumption) | assumption) ⟨⟨by decide, by decide⟩, by decide, by decide⟩ (Nat.le_of_ble_eq_true rfl) (m_of _ _ j 2 (by omega)) ?_
      refine WE.iload (n := 76) dX6_bestDrop_74 rfl rfl ?_
      refine WE.isub (n := 77) dX6_bestDrop_76 rfl ?_
      refine WE.V3V (M' := mX6_sets) (n := 80) dX6_bestDrop_77 rfl cv_X6_102 (by first | decide | exact kd_bal (by assumption) | exact kd_let (by assumption) | assumption) ⟨⟨by decide, by decide⟩, by decide, by decide⟩ (Nat.le_of_ble_eq_true rfl) (m_sets _ _ j 2 _ (by omega)) ?_
      refine WE.ofS (σ' := (setN (thinkS c) (upN (c 396) (22 + 11 * j + 2) (c 396 (22 + 11 * j + 2) - nI i)), od)) (by rw [u2_now, th_396]) ?_
      refine WE.aload_n (n := 81) dX6_bestDrop_80 rfl rfl ?_
      refine WE.iload_n (n := 82) dX6_bestDrop_81 rfl rfl ?_
      refine WE.V1I (M' := mX6_fliesOut) (n := 85) dX6_bestDrop_82 rfl cv_X6_172 (by first | decide | exact kd_bal (by assumption) | exact kd_let (by assumption) | assumption) ⟨⟨by decide, by decide⟩, by decide, by decide⟩ (Nat.le_of_ble_eq_true rfl) (by have q := m_fliesOut (setN (thinkS c) (upN (c 396) (22 + 11 * j + 2) (c 396 (22 + 11 * j + 2) - nI i))) od j hj nl hnl (by rw [setN_at, upN_ne _ _ _ (by omega)]; exact hc4) f (by rw [setN_at]; exact hf i hiS); rw [setN_at, setN_setN] at q; exact q) ?_
      refine WE.istore (n := 87) dX6_bestDrop_85 rfl (by decide) ?_
      refine WE.aload_n (n := 88) dX6_bestDrop_87 rfl rfl ?_
      refine WE.iload_n (n := 89) dX6_bestDrop_88 rfl rfl ?_
      refine WE.iconst (n := 90) (nI 5) dX6_bestDrop_89 rfl (by decide) ?_
      refine WE.V2I (M' := mX6_of) (n := 93) dX6_bestDrop_90 rfl cv_X6_71 (by first | decide | exact kd_bal (by assumption) | exact kd_let (by assumption) | assumption) ⟨⟨by decide, by decide⟩, by decide, by decide⟩ (Nat.le_of_ble_eq_true rfl) (m_of _ _ j 5 (by omega)) ?_
      refine WE.iconst (n := 94) (nI 2) dX6_bestDrop_93 rfl (by decide) ?_
      refine WE.icmp_ne (n := 97) (tgt := 115) dX6_bestDrop_94 rfl (by decide) (fun h94 => ?_) (fun h94 => ?_)
      · skip
        simp only [setN_at] at h94
        refine WE.aload_n (n := 116) dX6_bestDrop_115 rfl rfl ?_
        refine WE.V0V (M' := mX6_thinksNoMore) (n := 119) dX6_bestDrop_116 rfl cv_X6_175 (by first | decide | exact kd_bal (by assumption) | exact kd_let (by assumption) | assumption) ⟨⟨by decide, by decide⟩, by decide, by decide⟩ (Nat.le_of_ble_eq_true rfl) (m_thinksNoMore _ _) ?_
        refine WE.iincV (n := 122) (nI (i + 1)) dX6_bestDrop_119 rfl rfl (by decide) (nI_inc i) ?_
        refine WE.goto (tgt := 46) dX6_bestDrop_122 (by decide) ?_
        refine WE.ofS (σ' := (thinkS c, od)) (congrArg (fun z => (z, od)) (back_cp c (foN j nl f (upN (c 396) (22 + 11 * j + 2) (c 396 (22 + 11 * j + 2) - nI i)) 0).1 (fun k hk => by rw [foN_hi hj hnl hk, upN_ne _ _ _ (by omega)]))) (WE.ofA (L' := [(0, .ref 395), (1, .int (nI j)), (2, .int (bdL (c 396) j nl f (i + 1)).1), (3, .int (bdL (c 396) j nl f (i + 1)).2), (4, .int (nI (i + 1)))]) ⟨rfl, rfl, (by simp only [lkL, stL, Nat.beq, bdL, h94, ↓reduceIte, cond_false, cond_true]; rfl), (by simp only [lkL, stL, Nat.beq, bdL, h94, ↓reduceIte, cond_false, cond_true]; rfl), rfl, trivial⟩ (ih (i + 1) (by omega) (by omega)))
      · skip
        simp only [setN_at] at h94
        refine WE.aload_n (n := 98) dX6_bestDrop_97 rfl rfl ?_
        refine WE.iload_n (n := 99) dX6_bestDrop_98 rfl rfl ?_
        refine WE.V1I (M' := mX6_farOf) (n := 102) dX6_bestDrop_99 rfl cv_X6_134 (by first | decide | exact kd_bal (by assumption) | exact kd_let (by assumption) | assumption) ⟨⟨by decide, by decide⟩, by decide, by decide⟩ (Nat.le_of_ble_eq_true rfl) (m_farOf _ _ j hj) ?_
        refine WE.iload_n (n := 103) dX6_bestDrop_102 rfl rfl ?_
        refine WE.icmp_le (n := 106) (tgt := 115) dX6_bestDrop_103 rfl (by decide) (fun h103 => ?_) (fun h103 => ?_)
        · skip
          simp only [setN_at] at h103
          refine WE.aload_n (n := 116) dX6_bestDrop_115 rfl rfl ?_
          refine WE.V0V (M' := mX6_thinksNoMore) (n := 119) dX6_bestDrop_116 rfl cv_X6_175 (by first | decide | exact kd_bal (by assumption) | exact kd_let (by assumption) | assumption) ⟨⟨by decide, by decide⟩, by decide, by decide⟩ (Nat.le_of_ble_eq_true rfl) (m_thinksNoMore _ _) ?_
          refine WE.iincV (n := 122) (nI (i + 1)) dX6_bestDrop_119 rfl rfl (by decide) (nI_inc i) ?_
          refine WE.goto (tgt := 46) dX6_bestDrop_122 (by decide) ?_
          refine WE.ofS (σ' := (thinkS c, od)) (congrArg (fun z => (z, od)) (back_cp c (foN j nl f (upN (c 396) (22 + 11 * j + 2) (c 396 (22 + 11 * j + 2) - nI i)) 0).1 (fun k hk => by rw [foN_hi hj hnl hk, upN_ne _ _ _ (by omega)]))) (WE.ofA (L' := [(0, .ref 395), (1, .int (nI j)), (2, .int (bdL (c 396) j nl f (i + 1)).1), (3, .int (bdL (c 396) j nl f (i + 1)).2), (4, .int (nI (i + 1)))]) ⟨rfl, rfl, (by simp only [lkL, stL, Nat.beq, bdL, h94, h103, ↓reduceIte, cond_false, cond_true]; rfl), (by simp only [lkL, stL, Nat.beq, bdL, h94, h103, ↓reduceIte, cond_false, cond_true]; rfl), rfl, trivial⟩ (ih (i + 1) (by omega) (by omega)))
        · skip
          simp only [setN_at] at h103
          refine WE.aload_n (n := 107) dX6_bestDrop_106 rfl rfl ?_
          refine WE.iload_n (n := 108) dX6_bestDrop_107 rfl rfl ?_
          refine WE.V1I (M' := mX6_farOf) (n := 111) dX6_bestDrop_108 rfl cv_X6_134 (by first | decide | exact kd_bal (by assumption) | exact kd_let (by assumption) | assumption) ⟨⟨by decide, by decide⟩, by decide, by decide⟩ (Nat.le_of_ble_eq_true rfl) (m_farOf _ _ j hj) ?_
          refine WE.istore_n (n := 112) dX6_bestDrop_111 rfl (by decide) ?_
          refine WE.iload (n := 114) dX6_bestDrop_112 rfl rfl ?_
          refine WE.istore_n (n := 115) dX6_bestDrop_114 rfl (by decide) ?_
          refine WE.aload_n (n := 116) dX6_bestDrop_115 rfl rfl ?_
          refine WE.V0V (M' := mX6_thinksNoMore) (n := 119) dX6_bestDrop_116 rfl cv_X6_175 (by first | decide | exact kd_bal (by assumption) | exact kd_let (by assumption) | assumption) ⟨⟨by decide, by decide⟩, by decide, by decide⟩ (Nat.le_of_ble_eq_true rfl) (m_thinksNoMore _ _) ?_
          refine WE.iincV (n := 122) (nI (i + 1)) dX6_bestDrop_119 rfl rfl (by decide) (nI_inc i) ?_
          refine WE.goto (tgt := 46) dX6_bestDrop_122 (by decide) ?_
          refine WE.ofS (σ' := (thinkS c, od)) (congrArg (fun z => (z, od)) (back_cp c (foN j nl f (upN (c 396) (22 + 11 * j + 2) (c 396 (22 + 11 * j + 2) - nI i)) 0).1 (fun k hk => by rw [foN_hi hj hnl hk, upN_ne _ _ _ (by omega)]))) (WE.ofA (L' := [(0, .ref 395), (1, .int (nI j)), (2, .int (bdL (c 396) j nl f (i + 1)).1), (3, .int (bdL (c 396) j nl f (i + 1)).2), (4, .int (nI (i + 1)))]) ⟨rfl, rfl, (by simp only [lkL, stL, Nat.beq, bdL, h94, h103, ↓reduceIte, cond_false, cond_true]; rfl), (by simp only [lkL, stL, Nat.beq, bdL, h94, h103, ↓reduceIte, cond_false, cond_true]; rfl), rfl, trivial⟩ (ih (i + 1) (by omega) (by omega)))
theorem bd_fin {c : CC} {b : Int32} {j nl f S : Nat} (h10 : isBN (c 396) (nI j)) (h26 : c 396 (22 + 11 * j + 5) = nI 1) (hb : b = nI j) (hj : j < 6) (hnlN : nlN (c 396) = nl) (hS : c 396 (22 + 11 * j + 2) = nI S) (hSb : S ≤ 50) :
    (0 ≤ (bdL (c 396) j nl f (S + 1)).1 → mB c (Q_bestDrop (c 396) b f) = ((bdL (c 396) j nl f (S + 1)).1, thinkS (u2 c 395 16 (nI 0)))) ∧ (¬ 0 ≤ (bdL (c 396) j nl f (S + 1)).1 → mB c (Q_bestDrop (c 396) b f) = (nI 0, u2 (thinkS (u2 c 395 16 (nI 0))) 395 16 (nI 2))) := by
  subst hb
  have hcl : (nI j).toNatClampNeg = j := nI_clamp (by omega)
  have hcS : (nI S).toNatClampNeg = S := nI_clamp (by omega)
  refine ⟨fun h => ?_, fun h => ?_⟩
  · simp only [Q_bestDrop, h10, isBN, bk, hcl, hnlN, h26, hS, hcS, h, and_self, ↓reduceIte, mB]
  · simp only [Q_bestDrop, h10, isBN, bk, hcl, hnlN, h26, hS, hcS, h, and_self, ↓reduceIte, mB]
set_option maxRecDepth 20000 in
set_option maxHeartbeats 1000000 in
theorem m_bestDrop (c : CC) (od : Int64 × UInt64) (b : Int32) (nb : Nat) (hnb : nb ≤ 6) (hc3 : c 396 3 = nI nb) (nl : Nat) (hnl : nl ≤ 24) (hc4 : c 396 4 = nI nl) (f : Nat) (Sf : Nat → Nat) (hS : ∀ j, j < nb → c 396 (22 + 11 * j + 2) = nI (Sf j) ∧ Sf j ≤ 50) (hf : ∀ j i, j < nb → i ≤ Sf j → c 396 (22 + 11 * j + 5) = nI 1 → ¬ (foN j nl f (upN (c 396) (22 + 11 * j + 2) (c 396 (22 + 11 * j + 2) - nI i)) 0).1 (22 + 11 * j + 5) = nI 1) : CM mX6_bestDrop [.ref 395, .int b] (c, od) (RI (mB c (Q_bestDrop (c 396) b f)).1 ((mB c (Q_bestDrop (c 396) b f)).2, od)) := by
  refine CM.of [(0, .ref 395), (1, .int b)] rfl (by decide +kernel) rfl (Nat.le_of_ble_eq_true rfl) ?_
  have hnlN : nlN (c 396) = nl := by unfold nlN; rw [hc4]; exact nI_clamp (by omega)
  refine WE.aload_n (n := 1) dX6_bestDrop_0 rfl rfl ?_
  refine WE.iconst (n := 2) (nI 0) dX6_bestDrop_1 rfl (by decide) ?_
  refine WE.putI (n := 5) dX6_bestDrop_2 rfl fl_X6_36 ⟨by decide, by decide, rfl, rfl⟩ ⟨by first | rfl | decide, by first | rfl | decide⟩ (by first | decide | exact kd_bal (by assumption) | exact kd_let (by assumption) | assumption) ?_
  refine WE.aload_n (n := 6) dX6_bestDrop_5 rfl rfl ?_
  refine WE.iload_n (n := 7) dX6_bestDrop_6 rfl rfl ?_
  refine WE.V1I (M' := mX6_isBalloon) (n := 10) dX6_bestDrop_7 rfl cv_X6_106 (by first | decide | exact kd_bal (by assumption) | exact kd_let (by assumption) | assumption) ⟨⟨by decide, by decide⟩, by decide, by decide⟩ (Nat.le_of_ble_eq_true rfl) (by have q := m_isBalloon (u2 c 395 16 (nI 0)) od b; rw [u2_56] at q; exact q) ?_
  refine WE.if_neB (n := 13) (tgt := 19) dX6_bestDrop_10 rfl (by decide) (fun h10 => ?_) (fun h10 => ?_)
  · skip
    obtain ⟨j, hj, rfl⟩ := isB_of hnb hc3 h10
    have hcl : (nI j).toNatClampNeg = j := nI_clamp (by omega)
    refine WE.aload_n (n := 20) dX6_bestDrop_19 rfl rfl ?_
    refine WE.iload_n (n := 21) dX6_bestDrop_20 rfl rfl ?_
    refine WE.iconst (n := 22) (nI 5) dX6_bestDrop_21 rfl (by decide) ?_
    refine WE.V2I (M' := mX6_of) (n := 25) dX6_bestDrop_22 rfl cv_X6_71 (by first | decide | exact kd_bal (by assumption) | exact kd_let (by assumption) | assumption) ⟨⟨by decide, by decide⟩, by decide, by decide⟩ (Nat.le_of_ble_eq_true rfl) (m_of _ _ j 5 (by omega)) ?_
    refine WE.iconst (n := 26) (nI 1) dX6_bestDrop_25 rfl (by decide) ?_
    refine WE.icmp_eq (n := 29) (tgt := 35) dX6_bestDrop_26 rfl (by decide) (fun h26 => ?_) (fun h26 => ?_)
    · skip
      rw [u2_56] at h26
      obtain ⟨hSj, hSb⟩ := hS j hj
      refine WE.iconst (n := 36) ((-1 : Int32)) dX6_bestDrop_35 rfl (by decide) ?_
      refine WE.istore_n (n := 37) dX6_bestDrop_36 rfl (by decide) ?_
      refine WE.iconst (n := 38) ((-1 : Int32)) dX6_bestDrop_37 rfl (by decide) ?_
      refine WE.istore_n (n := 39) dX6_bestDrop_38 rfl (by decide) ?_
      refine WE.aload_n (n := 40) dX6_bestDrop_39 rfl rfl ?_
      refine WE.V0V (M' := mX6_thinks) (n := 43) dX6_bestDrop_40 rfl cv_X6_169 (by first | decide | exact kd_bal (by assumption) | exact kd_let (by assumption) | assumption) ⟨⟨by decide, by decide⟩, by decide, by decide⟩ (Nat.le_of_ble_eq_true rfl) (show CM mX6_thinks [.ref 395] ((u2 c 395 16 (nI 0)), od) (RV (thinkS (u2 c 395 16 (nI 0)), od)) from m_thinks (u2 c 395 16 (nI 0)) od) ?_
      refine WE.iconst (n := 44) (nI 0) dX6_bestDrop_43 rfl (by decide) ?_
      refine WE.istore (n := 46) dX6_bestDrop_44 rfl (by decide) ?_
      refine WE.ofA (L' := [(0, .ref 395), (1, .int (nI j)), (2, .int (bdL ((u2 c 395 16 (nI 0)) 396) j nl f 0).1), (3, .int (bdL ((u2 c 395 16 (nI 0)) 396) j nl f 0).2), (4, .int (nI 0))]) ⟨rfl, rfl, rfl, rfl, rfl, trivial⟩ (m_bestDrop_loop (u2 c 395 16 (nI 0)) od j (by omega) nl hnl (by rw [u2_56]; exact hc4) f (Sf j) hSb (by rw [u2_56]; exact hSj) (by rw [u2_56]; exact fun i hi => hf j i hj hi h26) ?_)
      refine WE.iload_n (n := 126) dX6_bestDrop_125 rfl rfl ?_
      refine WE.if_ge (n := 129) (tgt := 137) dX6_bestDrop_126 rfl (by decide) (fun h126 => ?_) (fun h126 => ?_)
      · skip
        refine WE.iload_n (n := 138) dX6_bestDrop_137 rfl rfl ?_
        refine WE.iret (ty := .int) dX6_bestDrop_138 rfl rfl ⟨by decide, by decide⟩ ?_
        first | (have e := (bd_fin (c := c) (f := f) h10 h26 rfl (by omega) hnlN hSj hSb).1 (by simpa only [u2_56] using h126); rw [e]; exact RI.mk (by rw [u2_56]) rfl) | (have e := (bd_fin (c := c) (f := f) h10 h26 rfl (by omega) hnlN hSj hSb).2 (by simpa only [u2_56] using h126); rw [e]; exact RI.mk rfl rfl)
      · skip
        refine WE.aload_n (n := 130) dX6_bestDrop_129 rfl rfl ?_
        refine WE.iconst (n := 131) (nI 2) dX6_bestDrop_130 rfl (by decide) ?_
        refine WE.V1I (M' := mX6_raises) (n := 134) dX6_bestDrop_131 rfl cv_X6_55 (by first | decide | exact kd_bal (by assumption) | exact kd_let (by assumption) | assumption) ⟨⟨by decide, by decide⟩, by decide, by decide⟩ (Nat.le_of_ble_eq_true rfl) (m_raises _ _ _) ?_
        refine WE.goto (tgt := 138) dX6_bestDrop_134 (by decide) ?_
        refine WE.iret (ty := .int) dX6_bestDrop_138 rfl rfl ⟨by decide, by decide⟩ ?_
        first | (have e := (bd_fin (c := c) (f := f) h10 h26 rfl (by omega) hnlN hSj hSb).1 (by simpa only [u2_56] using h126); rw [e]; exact RI.mk (by rw [u2_56]) rfl) | (have e := (bd_fin (c := c) (f := f) h10 h26 rfl (by omega) hnlN hSj hSb).2 (by simpa only [u2_56] using h126); rw [e]; exact RI.mk rfl rfl)
    · skip
      rw [u2_56] at h26
      refine WE.aload_n (n := 30) dX6_bestDrop_29 rfl rfl ?_
      refine WE.iconst (n := 31) (nI 2) dX6_bestDrop_30 rfl (by decide) ?_
      refine WE.V1I (M' := mX6_raises) (n := 34) dX6_bestDrop_31 rfl cv_X6_55 (by first | decide | exact kd_bal (by assumption) | exact kd_let (by assumption) | assumption) ⟨⟨by decide, by decide⟩, by decide, by decide⟩ (Nat.le_of_ble_eq_true rfl) (m_raises _ _ _) ?_
      refine WE.iret (ty := .int) dX6_bestDrop_34 rfl rfl ⟨by decide, by decide⟩ ?_
      (try simp only [u2_56] at *)
      simp only [Q_bestDrop, h10, h26, bk, isBN, mB, u2_u2, u2_56, hcl, hnlN, and_self, ↓reduceIte]
      exact RI.mk rfl rfl
  · skip
    refine WE.aload_n (n := 14) dX6_bestDrop_13 rfl rfl ?_
    refine WE.iconst (n := 15) (nI 1) dX6_bestDrop_14 rfl (by decide) ?_
    refine WE.V1I (M' := mX6_raises) (n := 18) dX6_bestDrop_15 rfl cv_X6_55 (by first | decide | exact kd_bal (by assumption) | exact kd_let (by assumption) | assumption) ⟨⟨by decide, by decide⟩, by decide, by decide⟩ (Nat.le_of_ble_eq_true rfl) (m_raises _ _ _) ?_
    refine WE.iret (ty := .int) dX6_bestDrop_18 rfl rfl ⟨by decide, by decide⟩ ?_
    (try simp only [u2_56] at *)
    simp only [Q_bestDrop, h10, bk, isBN, mB, u2_u2, u2_56, hnlN, and_self, ↓reduceIte]
    exact RI.mk rfl rfl
