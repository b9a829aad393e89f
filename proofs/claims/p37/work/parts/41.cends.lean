/-- the numbers of a balloon in flight -/
def FB (N : NA) (j nl f : Nat) : Prop := ∃ s a w S : Nat, 10 ≤ s ∧ s ≤ 99 ∧ a ≤ 50 ∧ w ≤ 24 ∧ S ≤ 216 ∧ f ≤ 99 ∧ N (22 + 11 * j + 0) = nI s ∧ N (22 + 11 * j + 1) = nI f ∧ N (22 + 11 * j + 2) = nI a ∧ N (22 + 11 * j + 4) = nI w ∧ shN N (nI j) nl = nI S
theorem FB.fl {N : NA} {j nl f : Nat} (h : FB N j nl f) (hj : j < 6) : FB (flN N j nl) j nl (f - (f + 19) / 20) := by
  obtain ⟨s, a, w, S, h1, h2, h3, h4, h5, h6, e0, e1, e2, e4, e6⟩ := h
  have hM := fl_R N hj nl
  refine ⟨s, a, w, S, h1, h2, h3, h4, h5, by omega, ?_, ?_, ?_, ?_, ?_⟩
  · rw [hM.own 0 (by decide) (by decide)]
    exact e0
  · rw [hM.gas]
    unfold lkN
    rw [e1, nI_add, pk_div (by omega) (by decide) (by decide), pk_sub (by omega)]
  · rw [hM.own 2 (by decide) (by decide)]
    exact e2
  · rw [hM.own 4 (by decide) (by decide)]
    exact e4
  · rw [hM.sh]
    exact e6
/-- without gas it comes down -/
theorem FB.down {N : NA} {j nl : Nat} (h : FB N j nl 0) (hj : j < 6) : ¬ flN N j nl (22 + 11 * j + 5) = nI 1 := by
  obtain ⟨s, a, w, S, h1, h2, h3, h4, h5, h6, e0, e1, e2, e4, e6⟩ := h
  have hbe : ¬ 0 ≤ beN (fl1 N j) j nl := by
    have g1 : fl1 N j (22 + 11 * j + 1) = nI 0 := by
      unfold fl1
      rw [upN_ne _ _ _ (by omega), upN_ne _ _ _ (by omega), upN_eq]
      unfold lkN
      rw [e1]
      decide
    have gw : wgN (fl1 N j) j nl = nI ((s + 9) / 10 + a + w + (S + 2) / 3) := by
      unfold wgN
      rw [fl1_o N j (by omega) (by omega) (by omega), fl1_o N j (by omega) (by omega) (by omega), fl1_o N j (by omega) (by omega) (by omega), shN_congr (N := N) _ _ (fun k q1 q2 => fl1_o N j (by omega) (by omega) (by omega)), e0, e2, e4, e6, nI_add, nI_add, pk_div (by omega) (by decide) (by decide), pk_div (by omega) (by decide) (by decide), nI_add, nI_add, nI_add]
    unfold beN
    rw [g1, gw, be_ge (by decide) (by omega)]
    omega
  unfold flN
  rw [if_neg hbe, dnN_5 _ hj]
  split <;> decide
theorem fo_end {j nl : Nat} (hj : j < 6) : ∀ (F : Nat) (N : NA) (h f : Nat), FB N j nl f → f < F → ¬ (foN j nl F N h).1 (22 + 11 * j + 5) = nI 1 := by
  intro F
  induction F with
  | zero =>
    intro N h f _ hf
    omega
  | succ F ih =>
    intro N h f hB hf
    unfold foN
    split
    · by_cases e : f = 0
      · subst e
        have hd := hB.down hj
        cases F with
        | zero => exact hd
        | succ F =>
          unfold foN
          rw [if_neg hd]
          exact hd
      · exact ih _ _ _ (hB.fl hj) (by omega)
    · rename_i q
      exact q
theorem IN.fb {N : NA} (h : IN N) {j : Nat} (hj : j < nbN N) {i : Nat} (hi : ∃ a : Nat, i ≤ a ∧ N (22 + 11 * j + 2) = nI a ∧ a ≤ 50) : ∃ f, f ≤ 99 ∧ FB (upN N (22 + 11 * j + 2) (N (22 + 11 * j + 2) - nI i)) j (nlN N) f := by
  obtain ⟨a, hia, ea, ha⟩ := hi
  obtain ⟨S, hS, e⟩ := sh_le h (nI j) (nlN N) (Nat.le_refl _)
  have h24 := h.cn.2.2.1
  obtain ⟨⟨s, f, hs1, hs2, hf, es, ef⟩, _, ⟨k, w, hk, hw, ek, ew⟩, hst⟩ := h.b hj
  refine ⟨f, by omega, s, a - i, w, S, hs1, hs2, by omega, by omega, by omega, by omega, ?_, ?_, ?_, ?_, ?_⟩
  · rw [upN_ne _ _ _ (by omega)]
    exact es
  · rw [upN_ne _ _ _ (by omega)]
    exact ef
  · rw [upN_eq, ea, pk_sub hia]
  · rw [upN_ne _ _ _ (by omega)]
    exact ew
  · rw [shN_congr (N := N) _ _ (fun k q1 q2 => upN_ne _ _ _ (by have := h.cn.1; omega))]
    exact e
theorem upN_self (N : NA) (k : Nat) : upN N k (N k) = N := by
  funext q
  by_cases e : q = k
  · rw [e, upN_eq]
  · rw [upN_ne _ _ _ e]
theorem up_0 (N : NA) (k : Nat) : upN N k (N k - nI 0) = N := by
  rw [show N k - nI 0 = N k from Int32.sub_zero _]
  exact upN_self N k
/-- no flight is as long as 1000 hours -/
theorem IN.ends {N : NA} (h : IN N) {j : Nat} (hj : j < nbN N) {i : Nat} (hi : ∃ a : Nat, i ≤ a ∧ N (22 + 11 * j + 2) = nI a ∧ a ≤ 50) (t : Nat) : ¬ (foN j (nlN N) 1000 (upN N (22 + 11 * j + 2) (N (22 + 11 * j + 2) - nI i)) t).1 (22 + 11 * j + 5) = nI 1 := by
  obtain ⟨f, hf, hB⟩ := h.fb hj hi
  exact fo_end (by have := h.cn.1; omega) 1000 _ t f hB (by omega)
theorem IN.ends0 {N : NA} (h : IN N) {j : Nat} (hj : j < nbN N) (t : Nat) : ¬ (foN j (nlN N) 1000 N t).1 (22 + 11 * j + 5) = nI 1 := by
  obtain ⟨a, ha, ea⟩ := (h.b hj).2.1
  have := h.ends hj (i := 0) ⟨a, Nat.zero_le _, ea, ha⟩ t
  rwa [up_0] at this
theorem fo_flew {j nl : Nat} (hj : j < 6) : ∀ (F : Nat) (N : NA) (h : Nat), ∃ m : Nat, (foN j nl F N h).2 = h + m ∧ (foN j nl F N h).1 (22 + 11 * j + 8) = N (22 + 11 * j + 8) + nI m := by
  intro F
  induction F with
  | zero =>
    intro N h
    exact ⟨0, rfl, (Int32.add_zero _).symm⟩
  | succ F ih =>
    intro N h
    unfold foN
    split
    · obtain ⟨m, e1, e2⟩ := ih (flN N j nl) (h + 1)
      refine ⟨m + 1, by rw [e1]; omega, ?_⟩
      rw [e2, (fl_R N hj nl).flew, Int32.add_assoc, nI_add, Nat.add_comm 1 m]
    · exact ⟨0, rfl, (Int32.add_zero _).symm⟩
theorem add_sub_l (x y : Int32) : x + y - x = y := by rw [Int32.add_comm]; exact Int32.add_sub_cancel y x
set_option maxRecDepth 20000 in
set_option maxHeartbeats 1000000 in
theorem p_endsIn (c : CC) (od : Int64 × UInt64) (N : NA) (hR : RelT c 1 N) (hI : IN N) (b : Int32) : CM mX5_endsIn [.ref 0, .int b] (c, od) (QX c od (ex3 ioE nsE nsE) (Q_endsIn N b 1000)) := by
  refine CM.of [(0, .ref 0), (1, .int b)] rfl (by decide +kernel) rfl (Nat.le_of_ble_eq_true rfl) ?_
  refine WE.aload_n (n := 1) dX5_endsIn_0 rfl rfl ?_
  refine WE.iload_n (n := 2) dX5_endsIn_1 rfl rfl ?_
  have hn6 := hI.cn.1
  have hn24 := hI.cn.2.2.1
  by_cases hb : isBN N b
  · obtain ⟨j, hj, rfl⟩ := hI.isB hb
    have hj6 : j < 6 := by omega
    have hcl := nI_clamp (show j < 2 ^ 31 by omega)
    have g7 : c (6 + j) 7 = N (22 + 11 * j + 5) := hR.b hj (7, 5) (by decide)
    refine WE.V1V (M' := mX5_needBalloon) (n := 5) dX5_endsIn_2 rfl cv_X5_89 (by first | decide | exact kd_bal (by omega) | assumption) ⟨⟨by decide, by decide⟩, by decide, by decide⟩ (Nat.le_of_ble_eq_true rfl) (c_needB c od N hR hI (nI j) hb) ?_
    refine WE.aload_n (n := 6) dX5_endsIn_5 rfl rfl ?_
    refine WE.iload_n (n := 7) dX5_endsIn_6 rfl rfl ?_
    by_cases h5 : N (22 + 11 * j + 5) = nI 1
    · skip
      refine WE.V1V (M' := mX5_needAloft) (n := 10) dX5_endsIn_7 rfl cv_X5_156 (by first | decide | exact kd_bal (by omega) | assumption) ⟨⟨by decide, by decide⟩, by decide, by decide⟩ (Nat.le_of_ble_eq_true rfl) (c_needA c od N hR hI j hj h5) ?_
      refine WE.aload_n (n := 11) dX5_endsIn_10 rfl rfl ?_
      refine WE.getR (n := 14) dX5_endsIn_11 rfl fl_X5_10 ⟨by decide, by decide⟩ rfl (by first | decide | exact kd_bal (by omega) | assumption) ?_
      refine WE.iload_n (n := 15) dX5_endsIn_14 rfl rfl ?_
      refine WE.iconst (n := 16) (nI 0) dX5_endsIn_15 rfl (by decide) ?_
      refine WE.aload_n (n := 17) dX5_endsIn_16 rfl rfl ?_
      refine WE.getR (n := 20) dX5_endsIn_17 rfl fl_X5_29 ⟨by decide, by decide⟩ rfl (by first | decide | exact kd_bal (by omega) | assumption) ?_
      refine WE.V3PV (M' := mX4_foretell) (n := 23) dX5_endsIn_20 rfl cv_X5_159 (by first | decide | exact kd_bal (by omega) | assumption) ⟨⟨by decide, by decide⟩, by decide, by decide⟩ (Nat.le_of_ble_eq_true rfl) (c_foretell c od N hR hI.cn j hj (nI 0)) (fun σ20 q20 => ?_)
      obtain ⟨c1, rfl, f1, F1⟩ := q20
      rw [up_0] at F1
      refine WE.aload_n (n := 24) dX5_endsIn_23 rfl rfl ?_
      refine WE.getR (n := 27) dX5_endsIn_24 rfl fl_X5_29 ⟨by decide, by decide⟩ rfl (by first | decide | exact kd_bal (by omega) | assumption) ?_
      refine WE.getI (n := 30) dX5_endsIn_27 rfl fl_X5_163 ⟨by decide, by decide, rfl⟩ (by first | decide | exact kd_bal (by omega) | assumption) ?_
      refine WE.aload_n (n := 31) dX5_endsIn_30 rfl rfl ?_
      refine WE.getR (n := 34) dX5_endsIn_31 rfl fl_X5_10 ⟨by decide, by decide⟩ rfl (by first | decide | exact kd_bal (by omega) | assumption) ?_
      refine WE.getR (n := 37) dX5_endsIn_34 rfl fl_X5_104 ⟨by decide, by decide⟩ rfl (by first | decide | exact kd_bal (by omega) | assumption) ?_
      refine WE.iload_n (n := 38) dX5_endsIn_37 rfl rfl ?_
      refine WE.aald (n := 39) 12 j dX5_endsIn_38 rfl (by first | decide | assumption) (by decide) rfl (by show _ < 6; omega) rfl ?_
      refine WE.getI (n := 42) dX5_endsIn_39 rfl fl_X5_163 ⟨by decide, by decide, rfl⟩ (by first | decide | exact kd_bal (by omega) | assumption) ?_
      refine WE.isub (n := 43) dX5_endsIn_42 rfl ?_
      refine WE.iret (ty := .int) dX5_endsIn_43 rfl rfl ⟨by decide, by decide⟩ ?_
      obtain ⟨m, e1, e2⟩ := fo_flew (nl := nlN N) hj6 1000 N 0
      refine QX.yes ?_ f1
      unfold Q_endsIn bk
      rw [if_pos hb, hcl, if_pos h5]
      have x1 : c1 388 11 = (foN j (nlN N) 1000 N 0).1 (22 + 11 * j + 8) := F1.1 (11, 8) (by decide)
      have x2 : c1 (6 + j) 11 = N (22 + 11 * j + 8) := (f1 _ _ (by omega)).trans (hR.b hj (11, 8) (by decide))
      rw [x1, x2, e2, e1, add_sub_l, Nat.zero_add]
    · refine WE.V1G (M' := mX5_needAloft) (n := 10) dX5_endsIn_7 rfl cv_X5_156 (by decide) ⟨⟨by decide, by decide⟩, by decide, by decide⟩ (Nat.le_of_ble_eq_true rfl) (c_needAx c od N hR hI j hj h5) (fun v σ' q0 => ?_) (fun E σ' q0 => ?_)
      · exact absurd q0.1 (by intro z; cases z)
      · obtain ⟨q1, rfl⟩ := q0
        cases q1
        exact WX.out rfl ⟨by decide, by decide⟩ (QX.no 2 (by unfold Q_endsIn bk; rw [if_pos hb, hcl, if_neg h5]) rfl same8)
  · refine WE.V1G (M' := mX5_needBalloon) (n := 5) dX5_endsIn_2 rfl cv_X5_89 (by decide) ⟨⟨by decide, by decide⟩, by decide, by decide⟩ (Nat.le_of_ble_eq_true rfl) (c_needBx c od N hR hI b hb) (fun v σ' q0 => ?_) (fun E σ' q0 => ?_)
    · exact absurd q0.1 (by intro z; cases z)
    · obtain ⟨q1, rfl⟩ := q0
      cases q1
      exact WX.out rfl ⟨by decide, by decide⟩ (QX.no 1 (by unfold Q_endsIn; rw [if_neg hb]) rfl same8)
set_option maxRecDepth 20000 in
set_option maxHeartbeats 1000000 in
theorem p_ends (c : CC) (od : Int64 × UInt64) (N : NA) (hR : RelT c 1 N) (hI : IN N) (b x : Int32) : CM mX5_ends [.ref 0, .int b, .int x] (c, od) (QX c od (ex3 ioE iaE nsE) (Q_ends N b x 1000)) := by
  refine CM.of [(0, .ref 0), (1, .int b), (2, .int x)] rfl (by decide +kernel) rfl (Nat.le_of_ble_eq_true rfl) ?_
  refine WE.aload_n (n := 1) dX5_ends_0 rfl rfl ?_
  refine WE.iload_n (n := 2) dX5_ends_1 rfl rfl ?_
  have hn6 := hI.cn.1
  have hn24 := hI.cn.2.2.1
  by_cases hb : isBN N b
  · obtain ⟨j, hj, rfl⟩ := hI.isB hb
    have hj6 : j < 6 := by omega
    have hcl := nI_clamp (show j < 2 ^ 31 by omega)
    have g7 : c (6 + j) 7 = N (22 + 11 * j + 5) := hR.b hj (7, 5) (by decide)
    refine WE.V1V (M' := mX5_needBalloon) (n := 5) dX5_ends_2 rfl cv_X5_89 (by first | decide | exact kd_bal (by omega) | assumption) ⟨⟨by decide, by decide⟩, by decide, by decide⟩ (Nat.le_of_ble_eq_true rfl) (c_needB c od N hR hI (nI j) hb) ?_
    refine WE.iload_n (n := 6) dX5_ends_5 rfl rfl ?_
    refine WE.iconst (n := 7) (nI 0) dX5_ends_6 rfl (by decide) ?_
    refine WE.iconst (n := 8) (nI 2) dX5_ends_7 rfl (by decide) ?_
    refine WE.S3I (M' := mX5_isBetween) (n := 11) dX5_ends_8 rfl cv_X5_93  ⟨⟨by decide, by decide⟩, by decide, by decide⟩ (Nat.le_of_ble_eq_true rfl) (c_isBetween _ _ _ _) ?_
    refine WE.if_neB (n := 14) (tgt := 24) dX5_ends_11 rfl (by decide) (fun h11 => ?_) (fun h11 => ?_)
    · skip
      obtain ⟨k, hk, rfl⟩ := in_of (m := 2) (by decide) h11
      refine WE.aload_n (n := 25) dX5_ends_24 rfl rfl ?_
      refine WE.iload_n (n := 26) dX5_ends_25 rfl rfl ?_
      by_cases h5 : N (22 + 11 * j + 5) = nI 1
      · skip
        refine WE.V1V (M' := mX5_needAloft) (n := 29) dX5_ends_26 rfl cv_X5_156 (by first | decide | exact kd_bal (by omega) | assumption) ⟨⟨by decide, by decide⟩, by decide, by decide⟩ (Nat.le_of_ble_eq_true rfl) (c_needA c od N hR hI j hj h5) ?_
        refine WE.aload_n (n := 30) dX5_ends_29 rfl rfl ?_
        refine WE.getR (n := 33) dX5_ends_30 rfl fl_X5_10 ⟨by decide, by decide⟩ rfl (by first | decide | exact kd_bal (by omega) | assumption) ?_
        refine WE.iload_n (n := 34) dX5_ends_33 rfl rfl ?_
        refine WE.iconst (n := 35) (nI 0) dX5_ends_34 rfl (by decide) ?_
        refine WE.aload_n (n := 36) dX5_ends_35 rfl rfl ?_
        refine WE.getR (n := 39) dX5_ends_36 rfl fl_X5_29 ⟨by decide, by decide⟩ rfl (by first | decide | exact kd_bal (by omega) | assumption) ?_
        refine WE.V3PV (M' := mX4_foretell) (n := 42) dX5_ends_39 rfl cv_X5_159 (by first | decide | exact kd_bal (by omega) | assumption) ⟨⟨by decide, by decide⟩, by decide, by decide⟩ (Nat.le_of_ble_eq_true rfl) (c_foretell c od N hR hI.cn j hj (nI 0)) (fun σ39 q39 => ?_)
        obtain ⟨c1, rfl, f1, F1⟩ := q39
        rw [up_0] at F1
        refine WE.iload_n (n := 43) dX5_ends_42 rfl rfl ?_
        have hbk : (if nI k = 0 then (.inl ((foN j (nlN N) 1000 N 0).1 (22 + 11 * j + 6)) : QR) else if nI k = nI 1 then .inl ((foN j (nlN N) 1000 N 0).1 (22 + 11 * j + 7)) else .inl ((foN j (nlN N) 1000 N 0).1 (22 + 11 * j + 5))) = Q_ends N (nI j) (nI k) 1000 := by
          unfold Q_ends bk
          rw [if_pos hb, if_pos h11, hcl, if_pos h5]
        rcases (show k = 0 ∨ k = 1 ∨ k = 2 by omega) with rfl | rfl | rfl
        · refine WE.lsw (off := 25) (tgt := 68) dX5_ends_43 (by decide) (by decide) (by decide) ?_
          refine WE.aload_n (n := 69) dX5_ends_68 rfl rfl ?_
          refine WE.getR (n := 72) dX5_ends_69 rfl fl_X5_29 ⟨by decide, by decide⟩ rfl (by first | decide | exact kd_bal (by assumption) | exact kd_let (by assumption) | assumption) ?_
          refine WE.getI (n := 75) dX5_ends_72 rfl fl_X5_168 ⟨by decide, by decide, rfl⟩ (by first | decide | exact kd_bal (by assumption) | exact kd_let (by assumption) | assumption) ?_
          refine WE.iret (ty := .int) dX5_ends_75 rfl rfl ⟨by decide, by decide⟩ ?_
          refine QX.yes ?_ f1
          rw [← hbk]
          rw [if_pos (show nI 0 = 0 from rfl)]
          exact congrArg Sum.inl (F1.1 (9, 6) (by decide)).symm
        · refine WE.lsw (off := 33) (tgt := 76) dX5_ends_43 (by decide) (by decide) (by decide) ?_
          refine WE.aload_n (n := 77) dX5_ends_76 rfl rfl ?_
          refine WE.getR (n := 80) dX5_ends_77 rfl fl_X5_29 ⟨by decide, by decide⟩ rfl (by first | decide | exact kd_bal (by assumption) | exact kd_let (by assumption) | assumption) ?_
          refine WE.getI (n := 83) dX5_ends_80 rfl fl_X5_171 ⟨by decide, by decide, rfl⟩ (by first | decide | exact kd_bal (by assumption) | exact kd_let (by assumption) | assumption) ?_
          refine WE.iret (ty := .int) dX5_ends_83 rfl rfl ⟨by decide, by decide⟩ ?_
          refine QX.yes ?_ f1
          rw [← hbk]
          rw [if_neg (by decide), if_pos rfl]
          exact congrArg Sum.inl (F1.1 (10, 7) (by decide)).symm
        · refine WE.lsw (off := 41) (tgt := 84) dX5_ends_43 (by decide) (by decide) (by decide) ?_
          refine WE.aload_n (n := 85) dX5_ends_84 rfl rfl ?_
          refine WE.getR (n := 88) dX5_ends_85 rfl fl_X5_29 ⟨by decide, by decide⟩ rfl (by first | decide | exact kd_bal (by assumption) | exact kd_let (by assumption) | assumption) ?_
          refine WE.getI (n := 91) dX5_ends_88 rfl fl_X5_146 ⟨by decide, by decide, rfl⟩ (by first | decide | exact kd_bal (by assumption) | exact kd_let (by assumption) | assumption) ?_
          refine WE.iret (ty := .int) dX5_ends_91 rfl rfl ⟨by decide, by decide⟩ ?_
          refine QX.yes ?_ f1
          rw [← hbk]
          rw [if_neg (by decide), if_neg (by decide)]
          exact congrArg Sum.inl (F1.1 (7, 5) (by decide)).symm
      · refine WE.V1G (M' := mX5_needAloft) (n := 29) dX5_ends_26 rfl cv_X5_156 (by decide) ⟨⟨by decide, by decide⟩, by decide, by decide⟩ (Nat.le_of_ble_eq_true rfl) (c_needAx c od N hR hI j hj h5) (fun v σ' q0 => ?_) (fun E σ' q0 => ?_)
        · exact absurd q0.1 (by intro z; cases z)
        · obtain ⟨q1, rfl⟩ := q0
          cases q1
          exact WX.out rfl ⟨by decide, by decide⟩ (QX.no 3 (by unfold Q_ends bk; rw [if_pos hb, if_pos h11, hcl, if_neg h5]) rfl same8)
    · skip
      refine WE.throwS (tx := "what is not from 0 to 2") "java/lang/IllegalArgumentException" dX5_ends_14 dX5_ends_17 dX5_ends_18 dX5_ends_20 dX5_ends_23 xl_X5_97_101 (by decide +kernel) rfl ⟨by decide, by decide⟩ ⟨by decide, by decide⟩ ?_
      exact QX.no 2 (by unfold Q_ends; rw [if_pos hb, if_neg h11]) rfl same8
  · refine WE.V1G (M' := mX5_needBalloon) (n := 5) dX5_ends_2 rfl cv_X5_89 (by decide) ⟨⟨by decide, by decide⟩, by decide, by decide⟩ (Nat.le_of_ble_eq_true rfl) (c_needBx c od N hR hI b hb) (fun v σ' q0 => ?_) (fun E σ' q0 => ?_)
    · exact absurd q0.1 (by intro z; cases z)
    · obtain ⟨q1, rfl⟩ := q0
      cases q1
      exact WX.out rfl ⟨by decide, by decide⟩ (QX.no 1 (by unfold Q_ends; rw [if_neg hb]) rfl same8)
theorem bd_t {N : NA} {j nl f n : Nat} (h2 : (foN j nl f (upN N (22 + 11 * j + 2) (N (22 + 11 * j + 2) - nI n)) 0).1 (22 + 11 * j + 5) = nI 2) (hd : ¬ far ((foN j nl f (upN N (22 + 11 * j + 2) (N (22 + 11 * j + 2) - nI n)) 0).1 (22 + 11 * j + 6)) ((foN j nl f (upN N (22 + 11 * j + 2) (N (22 + 11 * j + 2) - nI n)) 0).1 (22 + 11 * j + 7)) ≤ (bdL N j nl f n).2) : bdL N j nl f (n + 1) = (nI n, far ((foN j nl f (upN N (22 + 11 * j + 2) (N (22 + 11 * j + 2) - nI n)) 0).1 (22 + 11 * j + 6)) ((foN j nl f (upN N (22 + 11 * j + 2) (N (22 + 11 * j + 2) - nI n)) 0).1 (22 + 11 * j + 7))) := by
  show ite _ _ _ = _
  rw [if_pos h2, if_neg hd]
theorem bd_f {N : NA} {j nl f n : Nat} (h2 : ¬ ((foN j nl f (upN N (22 + 11 * j + 2) (N (22 + 11 * j + 2) - nI n)) 0).1 (22 + 11 * j + 5) = nI 2 ∧ ¬ far ((foN j nl f (upN N (22 + 11 * j + 2) (N (22 + 11 * j + 2) - nI n)) 0).1 (22 + 11 * j + 6)) ((foN j nl f (upN N (22 + 11 * j + 2) (N (22 + 11 * j + 2) - nI n)) 0).1 (22 + 11 * j + 7)) ≤ (bdL N j nl f n).2)) : bdL N j nl f (n + 1) = bdL N j nl f n := by
  show ite _ _ _ = _
  split
  · rename_i q
    split
    · rfl
    · rename_i q2
      exact absurd ⟨q, q2⟩ h2
  · rfl
set_option maxRecDepth 20000 in
set_option maxHeartbeats 1000000 in
theorem c_bd_loop {G : GT} (c : CC) (od : Int64 × UInt64) (N : NA) (hR : RelT c 1 N) (hI : IN N) (j : Nat) (hj : j < nbN N) (hj6 : j < 6) (S : Nat) (hS50 : S ≤ 50) (hS : N (22 + 11 * j + 2) = nI S) (k : ∀ c' : CC, (∀ a k, a ≠ 388 → c' a k = c a k) → WE mX5_bestDrop 87 [(2, .int (bdL N j (nlN N) 1000 (S + 1)).1)] [] (c', od) 2 12 G) : ∀ (n i : Nat) (c' : CC), i ≤ S + 1 → S + 1 < i + n → (∀ a k, a ≠ 388 → c' a k = c a k) → WE mX5_bestDrop 17 [(0, .ref 0), (1, .int (nI j)), (2, .int (bdL N j (nlN N) 1000 i).1), (3, .int (bdL N j (nlN N) 1000 i).2), (4, .int (nI i))] [] (c', od) 2 12 G := by
  intro n
  induction n with
  | zero =>
    intro i c' h1 h2
    exact absurd h2 (by omega)
  | succ n ih =>
    intro i c' hi hn hfr
    have hRi : RelT c' 1 N := hR.frame hI.cn.1 hI.cn.2.2.1 (fun a h1 h2 k h3 => hfr a k (by omega))
    refine WE.iload (n := 19) dX5_bestDrop_17 rfl rfl ?_
    refine WE.aload_n (n := 20) dX5_bestDrop_19 rfl rfl ?_
    refine WE.getR (n := 23) dX5_bestDrop_20 rfl fl_X5_10 ⟨by decide, by decide⟩ rfl (by first | decide | exact kd_bal (by omega) | assumption) ?_
    refine WE.getR (n := 26) dX5_bestDrop_23 rfl fl_X5_104 ⟨by decide, by decide⟩ rfl (by first | decide | exact kd_bal (by omega) | assumption) ?_
    refine WE.iload_n (n := 27) dX5_bestDrop_26 rfl rfl ?_
    refine WE.aald (n := 28) 12 j dX5_bestDrop_27 rfl (by first | decide | assumption) (by decide) rfl (by show _ < 6; omega) rfl ?_
    refine WE.getI (n := 31) dX5_bestDrop_28 rfl fl_X5_174 ⟨by decide, by decide, rfl⟩ (by first | decide | exact kd_bal (by omega) | assumption) ?_
    refine WE.icmp_gt (n := 34) (tgt := 87) dX5_bestDrop_31 rfl (by decide) (fun h31 => ?_) (fun h31 => ?_)
    · skip
      rw [(hRi.b hj (2, 2) (by decide) : c' (6 + j) 2 = N (22 + 11 * j + 2)), hS] at h31
      have hge : S < i := by
        have h31 : nI S < nI i := h31
        rw [nI_ltI (by omega) (by omega)] at h31
        exact h31
      obtain rfl : i = S + 1 := by omega
      exact WE.ofA (L' := [(2, .int (bdL N j (nlN N) 1000 (S + 1)).1)]) ⟨rfl, trivial⟩ (k _ hfr)
    · skip
      rw [(hRi.b hj (2, 2) (by decide) : c' (6 + j) 2 = N (22 + 11 * j + 2)), hS] at h31
      have hlt : i ≤ S := by
        have h31 : ¬ nI S < nI i := h31
        rw [nI_ltI (by omega) (by omega)] at h31
        omega
      refine WE.aload_n (n := 35) dX5_bestDrop_34 rfl rfl ?_
      refine WE.getR (n := 38) dX5_bestDrop_35 rfl fl_X5_10 ⟨by decide, by decide⟩ rfl (by first | decide | exact kd_bal (by omega) | assumption) ?_
      refine WE.iload_n (n := 39) dX5_bestDrop_38 rfl rfl ?_
      refine WE.iload (n := 41) dX5_bestDrop_39 rfl rfl ?_
      refine WE.aload_n (n := 42) dX5_bestDrop_41 rfl rfl ?_
      refine WE.getR (n := 45) dX5_bestDrop_42 rfl fl_X5_29 ⟨by decide, by decide⟩ rfl (by first | decide | exact kd_bal (by omega) | assumption) ?_
      refine WE.V3PV (M' := mX4_foretell) (n := 48) dX5_bestDrop_45 rfl cv_X5_159 (by first | decide | exact kd_bal (by omega) | assumption) ⟨⟨by decide, by decide⟩, by decide, by decide⟩ (Nat.le_of_ble_eq_true rfl) (c_foretell c' od N hRi hI.cn j hj (nI i)) (fun σ45 q45 => ?_)
      obtain ⟨c1, rfl, f1, F1⟩ := q45
      have hfr : ∀ a k, a ≠ 388 → c1 a k = c a k := fun a k ha => (f1 a k ha).trans (hfr a k ha)
      have e5 : c1 388 7 = (foN j (nlN N) 1000 (upN N (22 + 11 * j + 2) (N (22 + 11 * j + 2) - nI i)) 0).1 (22 + 11 * j + 5) := F1.1 (7, 5) (by decide)
      have e6 : c1 388 9 = (foN j (nlN N) 1000 (upN N (22 + 11 * j + 2) (N (22 + 11 * j + 2) - nI i)) 0).1 (22 + 11 * j + 6) := F1.1 (9, 6) (by decide)
      have e7 : c1 388 10 = (foN j (nlN N) 1000 (upN N (22 + 11 * j + 2) (N (22 + 11 * j + 2) - nI i)) 0).1 (22 + 11 * j + 7) := F1.1 (10, 7) (by decide)
      refine WE.aload_n (n := 49) dX5_bestDrop_48 rfl rfl ?_
      refine WE.getR (n := 52) dX5_bestDrop_49 rfl fl_X5_29 ⟨by decide, by decide⟩ rfl (by first | decide | exact kd_bal (by omega) | assumption) ?_
      refine WE.getI (n := 55) dX5_bestDrop_52 rfl fl_X5_146 ⟨by decide, by decide, rfl⟩ (by first | decide | exact kd_bal (by omega) | assumption) ?_
      refine WE.iconst (n := 56) (nI 2) dX5_bestDrop_55 rfl (by decide) ?_
      refine WE.icmp_ne (n := 59) (tgt := 81) dX5_bestDrop_56 rfl (by decide) (fun h56 => ?_) (fun h56 => ?_)
      · skip
        rw [e5] at h56
        refine WE.iincV (n := 84) (nI (i + 1)) dX5_bestDrop_81 rfl rfl (by decide) (nI_inc i) ?_
        refine WE.goto (tgt := 17) dX5_bestDrop_84 (by decide) ?_
        exact WE.ofA (L' := [(0, .ref 0), (1, .int (nI j)), (2, .int (bdL N j (nlN N) 1000 (i + 1)).1), (3, .int (bdL N j (nlN N) 1000 (i + 1)).2), (4, .int (nI (i + 1)))]) ⟨rfl, rfl, sI (by rw [bd_f (fun z => h56 z.1)]), sI (by rw [bd_f (fun z => h56 z.1)]), rfl, trivial⟩ (ih (i + 1) _ (by omega) (by omega) hfr)
      · skip
        rw [e5] at h56
        refine WE.aload_n (n := 60) dX5_bestDrop_59 rfl rfl ?_
        refine WE.getR (n := 63) dX5_bestDrop_60 rfl fl_X5_29 ⟨by decide, by decide⟩ rfl (by first | decide | exact kd_bal (by omega) | assumption) ?_
        refine WE.V0I (M' := mX0_distance) (n := 66) dX5_bestDrop_63 rfl cv_X5_177 (by first | decide | exact kd_bal (by omega) | assumption) ⟨⟨by decide, by decide⟩, by decide, by decide⟩ (Nat.le_of_ble_eq_true rfl) (c_distance _ _ 388 (by decide)) ?_
        refine WE.iload_n (n := 67) dX5_bestDrop_66 rfl rfl ?_
        refine WE.icmp_le (n := 70) (tgt := 81) dX5_bestDrop_67 rfl (by decide) (fun h67 => ?_) (fun h67 => ?_)
        · skip
          rw [e6, e7] at h67
          refine WE.iincV (n := 84) (nI (i + 1)) dX5_bestDrop_81 rfl rfl (by decide) (nI_inc i) ?_
          refine WE.goto (tgt := 17) dX5_bestDrop_84 (by decide) ?_
          exact WE.ofA (L' := [(0, .ref 0), (1, .int (nI j)), (2, .int (bdL N j (nlN N) 1000 (i + 1)).1), (3, .int (bdL N j (nlN N) 1000 (i + 1)).2), (4, .int (nI (i + 1)))]) ⟨rfl, rfl, sI (by rw [bd_f (fun z => z.2 h67)]), sI (by rw [bd_f (fun z => z.2 h67)]), rfl, trivial⟩ (ih (i + 1) _ (by omega) (by omega) hfr)
        · skip
          rw [e6, e7] at h67
          refine WE.iload (n := 72) dX5_bestDrop_70 rfl rfl ?_
          refine WE.istore_n (n := 73) dX5_bestDrop_72 rfl (by decide) ?_
          refine WE.aload_n (n := 74) dX5_bestDrop_73 rfl rfl ?_
          refine WE.getR (n := 77) dX5_bestDrop_74 rfl fl_X5_29 ⟨by decide, by decide⟩ rfl (by first | decide | exact kd_bal (by omega) | assumption) ?_
          refine WE.V0I (M' := mX0_distance) (n := 80) dX5_bestDrop_77 rfl cv_X5_177 (by first | decide | exact kd_bal (by omega) | assumption) ⟨⟨by decide, by decide⟩, by decide, by decide⟩ (Nat.le_of_ble_eq_true rfl) (c_distance _ _ 388 (by decide)) ?_
          refine WE.istore_n (n := 81) dX5_bestDrop_80 rfl (by decide) ?_
          refine WE.iincV (n := 84) (nI (i + 1)) dX5_bestDrop_81 rfl rfl (by decide) (nI_inc i) ?_
          refine WE.goto (tgt := 17) dX5_bestDrop_84 (by decide) ?_
          have h56 : (foN j (nlN N) 1000 (upN N (22 + 11 * j + 2) (N (22 + 11 * j + 2) - nI i)) 0).1 (22 + 11 * j + 5) = nI 2 := by first | exact Classical.not_not.mp h56 | exact h56
          exact WE.ofA (L' := [(0, .ref 0), (1, .int (nI j)), (2, .int (bdL N j (nlN N) 1000 (i + 1)).1), (3, .int (bdL N j (nlN N) 1000 (i + 1)).2), (4, .int (nI (i + 1)))]) ⟨rfl, rfl, sI (by rw [bd_t h56 h67]), sI (by rw [bd_t h56 h67, e6, e7]), rfl, trivial⟩ (ih (i + 1) _ (by omega) (by omega) hfr)
set_option maxRecDepth 20000 in
set_option maxHeartbeats 1000000 in
theorem p_bestDrop (c : CC) (od : Int64 × UInt64) (N : NA) (hR : RelT c 1 N) (hI : IN N) (b : Int32) : CM mX5_bestDrop [.ref 0, .int b] (c, od) (QX c od (ex3 ioE nsE nsE) (Q_bestDrop N b 1000)) := by
  refine CM.of [(0, .ref 0), (1, .int b)] rfl (by decide +kernel) rfl (Nat.le_of_ble_eq_true rfl) ?_
  refine WE.aload_n (n := 1) dX5_bestDrop_0 rfl rfl ?_
  refine WE.iload_n (n := 2) dX5_bestDrop_1 rfl rfl ?_
  have hn6 := hI.cn.1
  have hn24 := hI.cn.2.2.1
  by_cases hb : isBN N b
  · obtain ⟨j, hj, rfl⟩ := hI.isB hb
    have hj6 : j < 6 := by omega
    have hcl := nI_clamp (show j < 2 ^ 31 by omega)
    have g7 : c (6 + j) 7 = N (22 + 11 * j + 5) := hR.b hj (7, 5) (by decide)
    refine WE.V1V (M' := mX5_needBalloon) (n := 5) dX5_bestDrop_2 rfl cv_X5_89 (by first | decide | exact kd_bal (by omega) | assumption) ⟨⟨by decide, by decide⟩, by decide, by decide⟩ (Nat.le_of_ble_eq_true rfl) (c_needB c od N hR hI (nI j) hb) ?_
    refine WE.aload_n (n := 6) dX5_bestDrop_5 rfl rfl ?_
    refine WE.iload_n (n := 7) dX5_bestDrop_6 rfl rfl ?_
    by_cases h5 : N (22 + 11 * j + 5) = nI 1
    · skip
      refine WE.V1V (M' := mX5_needAloft) (n := 10) dX5_bestDrop_7 rfl cv_X5_156 (by first | decide | exact kd_bal (by omega) | assumption) ⟨⟨by decide, by decide⟩, by decide, by decide⟩ (Nat.le_of_ble_eq_true rfl) (c_needA c od N hR hI j hj h5) ?_
      refine WE.iconst (n := 11) ((-1 : Int32)) dX5_bestDrop_10 rfl (by decide) ?_
      refine WE.istore_n (n := 12) dX5_bestDrop_11 rfl (by decide) ?_
      refine WE.iconst (n := 13) ((-1 : Int32)) dX5_bestDrop_12 rfl (by decide) ?_
      refine WE.istore_n (n := 14) dX5_bestDrop_13 rfl (by decide) ?_
      refine WE.iconst (n := 15) (nI 0) dX5_bestDrop_14 rfl (by decide) ?_
      refine WE.istore (n := 17) dX5_bestDrop_15 rfl (by decide) ?_
      obtain ⟨S, hS50, hS⟩ := (hI.b hj).2.1
      refine WE.ofA (L' := [(0, .ref 0), (1, .int (nI j)), (2, .int (bdL N j (nlN N) 1000 0).1), (3, .int (bdL N j (nlN N) 1000 0).2), (4, .int (nI 0))]) ⟨rfl, rfl, rfl, rfl, rfl, trivial⟩ (c_bd_loop c od N hR hI j hj hj6 S hS50 hS (fun c1 hfr => ?_) (S + 2) 0 c (Nat.zero_le _) (by omega) same8)
      refine WE.iload_n (n := 88) dX5_bestDrop_87 rfl rfl ?_
      refine WE.if_ge (n := 91) (tgt := 101) dX5_bestDrop_88 rfl (by decide) (fun h88 => ?_) (fun h88 => ?_)
      · skip
        refine WE.iload_n (n := 102) dX5_bestDrop_101 rfl rfl ?_
        refine WE.iret (ty := .int) dX5_bestDrop_102 rfl rfl ⟨by decide, by decide⟩ ?_
        exact QX.yes (by unfold Q_bestDrop bk; rw [if_pos hb, hcl, if_pos h5, hS, nI_clamp (show S < 2 ^ 31 by omega), if_pos h88]) hfr
      · skip
        refine WE.throwSX (tx := "it would be lost with any ballast let go") "java/util/NoSuchElementException" dX5_bestDrop_91 dX5_bestDrop_94 dX5_bestDrop_95 dX5_bestDrop_97 dX5_bestDrop_100 xl_X5_131_135 (by decide +kernel) rfl ⟨by decide, by decide⟩ ⟨by decide, by decide⟩ ?_
        exact QX.no 3 (by unfold Q_bestDrop bk; rw [if_pos hb, hcl, if_pos h5, hS, nI_clamp (show S < 2 ^ 31 by omega), if_neg h88]) rfl hfr
    · refine WE.V1G (M' := mX5_needAloft) (n := 10) dX5_bestDrop_7 rfl cv_X5_156 (by decide) ⟨⟨by decide, by decide⟩, by decide, by decide⟩ (Nat.le_of_ble_eq_true rfl) (c_needAx c od N hR hI j hj h5) (fun v σ' q0 => ?_) (fun E σ' q0 => ?_)
      · exact absurd q0.1 (by intro z; cases z)
      · obtain ⟨q1, rfl⟩ := q0
        cases q1
        exact WX.out rfl ⟨by decide, by decide⟩ (QX.no 2 (by unfold Q_bestDrop bk; rw [if_pos hb, hcl, if_neg h5]) rfl same8)
  · refine WE.V1G (M' := mX5_needBalloon) (n := 5) dX5_bestDrop_2 rfl cv_X5_89 (by decide) ⟨⟨by decide, by decide⟩, by decide, by decide⟩ (Nat.le_of_ble_eq_true rfl) (c_needBx c od N hR hI b hb) (fun v σ' q0 => ?_) (fun E σ' q0 => ?_)
    · exact absurd q0.1 (by intro z; cases z)
    · obtain ⟨q1, rfl⟩ := q0
      cases q1
      exact WX.out rfl ⟨by decide, by decide⟩ (QX.no 1 (by unfold Q_bestDrop; rw [if_neg hb]) rfl same8)
