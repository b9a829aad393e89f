theorem ssub (x y : Int32) : x - (x - y) = y := by
  have h : x - y + y = x := Int32.sub_add_cancel x y
  have h2 : y + (x - y) - (x - y) = y := Int32.add_sub_cancel y (x - y)
  rw [Int32.add_comm, h] at h2
  exact h2
def FX (c c' : CC) : Prop := ∀ a k, ¬ (1 ≤ a ∧ a ≤ 35) ∨ (a = 1 ∧ 14 ≤ k) → c' a k = c a k
theorem CN.of {N M : NA} (h : CN N) (h3 : M 3 = N 3) (h4 : M 4 = N 4) : CN M ∧ nbN M = nbN N ∧ nlN M = nlN N := by
  have e3 : nbN M = nbN N := congrArg Int32.toNatClampNeg h3
  have e4 : nlN M = nlN N := congrArg Int32.toNatClampNeg h4
  refine ⟨?_, e3, e4⟩
  unfold CN
  rw [e3, e4, h3, h4]
  exact h
theorem RelT.fly {c c' : CC} {N M : NA} {j : Nat} (h : RelT c 1 N) (hC : CN N) (hj : j < nbN N) (hM : FlR N M j (nlN N)) (hF : RelF c' (6 + j) M j (nlN N)) (hfr : ∀ a k, a ≠ 6 + j → ¬ (a = 1 ∧ (k = 11 ∨ k = 12 ∨ k = 13)) → c' a k = c a k) (h5 : c' (6 + j) 5 = c (6 + j) 5) (l7 : c' 1 11 = M 7) (l8 : c' 1 12 = M 8) (l9 : c' 1 13 = M 9) (hw : M (22 + 11 * j + 5) = nI 2 → c' (6 + j) 12 = woN M j) : RelT c' 1 M := by
  obtain ⟨hC2, e3, e4⟩ := hC.of (hM.rest 3 (by decide) (by decide) (by decide) (by decide)) (hM.rest 4 (by decide) (by decide) (by decide) (by decide))
  have hn := hC.1
  have hn2 := hC.2.2.1
  obtain ⟨g1, g2, g3, g4, g5, g6⟩ := h
  refine ⟨fun p hp => ?_, fun k hk => ?_, fun i hi => ?_, fun i hi hi6 => ?_, fun l hl => ?_, fun l hl hl2 => ?_⟩
  · by_cases q7 : p.1 = 11
    · rw [q7, (sP_inj p hp (11, 7) (by decide)).mp q7]
      exact l7
    · by_cases q8 : p.1 = 12
      · rw [q8, (sP_inj p hp (12, 8) (by decide)).mp q8]
        exact l8
      · by_cases q9 : p.1 = 13
        · rw [q9, (sP_inj p hp (13, 9) (by decide)).mp q9]
          exact l9
        · have := sP_lt p hp
          rw [hfr _ _ (by omega) (by omega), hM.rest _ (by omega) (fun x => q7 ((sP_inj p hp (11, 7) (by decide)).mpr x)) (fun x => q8 ((sP_inj p hp (12, 8) (by decide)).mpr x)) (fun x => q9 ((sP_inj p hp (13, 9) (by decide)).mpr x))]
          exact g1 p hp
  · rw [hfr _ _ (by omega) (by omega), hfr _ _ (by omega) (by omega), hM.rest _ (by omega) (by omega) (by omega) (by omega), hM.rest _ (by omega) (by omega) (by omega) (by omega)]
    exact g2 k hk
  · rw [e3] at hi
    rw [e4]
    by_cases e : i = j
    · subst e
      have g := g3 i hi
      rw [show (1 : Nat) + 5 + i = 6 + i by omega] at g ⊢
      refine ⟨hF, ?_, hw⟩
      rw [h5, hM.lc]
      exact g.2.1
    · have g := g3 i hi
      have hc : ∀ k, c' (1 + 5 + i) k = c (1 + 5 + i) k := fun k => hfr _ _ (by omega) (by omega)
      refine ⟨⟨fun p hp => ?_, ?_⟩, ?_, fun x => ?_⟩
      · have hp2 := bP_lt p hp
        rw [hc, hM.rows i e _ hp2.2.1 (by omega)]
        exact g.1.1 p hp
      · rw [hc, hM.sh]
        exact g.1.2
      · rw [hc, hM.lc]
        exact g.2.1
      · rw [hM.rows i e _ (by decide) (by omega)] at x
        rw [hc, woN_congr (fun w hw => hM.rows i e w hw (by omega))]
        exact g.2.2 x
  · rw [e3] at hi
    exact (g4 i hi hi6).congr (fun k hk => hfr _ _ (by omega) (by omega))
  · rw [e4] at hl
    have g := g5 l hl
    have hc : ∀ k, c' (1 + 11 + l) k = c (1 + 11 + l) k := fun k => hfr _ _ (by omega) (by omega)
    exact ⟨by rw [hc]; exact g.1.trans (hM.lets l 0 (by decide) (by decide)).symm, by rw [hc, hM.lets l 1 (by decide) (by decide)]; exact g.2.1, by rw [hc, hM.lets l 3 (by decide) (by decide)]; exact g.2.2⟩
  · rw [e4] at hl
    rw [hfr _ _ (by omega) (by omega)]
    exact g6 l hl hl2
theorem RelT.F {c : CC} {N : NA} (h : RelT c 1 N) {j : Nat} (hj : j < nbN N) : RelF c (6 + j) N j (nlN N) := by
  have := (h.2.2.1 j hj).1
  rwa [show (1 : Nat) + 5 + j = 6 + j by omega] at this
theorem RelT.W {c : CC} {N : NA} (h : RelT c 1 N) : WR c N := ⟨h.1 (7, 1) (by decide), fun k hk => h.2.1 k hk⟩
theorem st_ne : ¬ (nI 2 = nI 3) ∧ ¬ (nI 3 = nI 2) ∧ ¬ (nI 1 = nI 2) ∧ ¬ (nI 1 = nI 3) := by decide
set_option maxRecDepth 20000 in
set_option maxHeartbeats 1000000 in
theorem c_letFly (c : CC) (od : Int64 × UInt64) (N : NA) (hR : RelT c 1 N) (hC : CN N) (j : Nat) (hj : j < nbN N) (ha : N (22 + 11 * j + 5) = nI 1) : CM mX4_letFly [.ref 1, .ref (6 + j)] (c, od) (PV fun σ => ∃ c', σ = (c', od) ∧ RelT c' 1 (flN N j (nlN N)) ∧ FX c c') := by
  refine CM.of [(0, .ref 1), (1, .ref (6 + j))] rfl (by decide +kernel) rfl (Nat.le_of_ble_eq_true rfl) ?_
  have hj6 : j < 6 := by have := hC.1; omega
  have hM := fl_R N hj6 (nlN N)
  refine WE.aload_n (n := 1) dX4_letFly_0 rfl rfl ?_
  refine WE.getI (n := 4) dX4_letFly_1 rfl fl_X4_102 ⟨by decide, by decide, rfl⟩ (by first | decide | exact kd_bal (by omega) | assumption) ?_
  refine WE.istore_n (n := 5) dX4_letFly_4 rfl (by decide) ?_
  refine WE.aload_n (n := 6) dX4_letFly_5 rfl rfl ?_
  refine WE.aload_n (n := 7) dX4_letFly_6 rfl rfl ?_
  refine WE.V1PV (M' := mX0_flyAnHour) (n := 10) dX4_letFly_7 rfl cv_X4_149 (by first | decide | exact kd_bal (by omega) | assumption) ⟨⟨by decide, by decide⟩, by decide, by decide⟩ (Nat.le_of_ble_eq_true rfl) (c_flyAnHour c od (6 + j) (kd_bal hj6) N j (nlN N) hj6 (hR.F hj) hR.W) (fun σ7 q7 => ?_)
  obtain ⟨c1, rfl, f1, F1⟩ := q7
  have e9 : c1 1 13 + (c (6 + j) 1 - c1 (6 + j) 1) = (flN N j (nlN N)) 9 := by rw [f1 _ _ (by omega), F1.1 (1, 1) (by decide), show (flN N j (nlN N)) (22 + 11 * j + 1) = _ from hM.gas, show (flN N j (nlN N)) 9 = _ from hM.leak, hR.b hj (1, 1) (by decide), hR.s (13, 9) (by decide), ssub]
  have o1 : (1 : Nat) ≠ 6 + j := by omega
  have s7 : c1 1 11 = N 7 := (f1 _ _ (by omega)).trans (hR.s (11, 7) (by decide))
  have s8 : c1 1 12 = N 8 := (f1 _ _ (by omega)).trans (hR.s (12, 8) (by decide))
  have b2 : c1 (6 + j) 2 = N (22 + 11 * j + 2) := (f1 _ _ (by omega)).trans (hR.b hj (2, 2) (by decide))
  refine WE.aload_n (n := 11) dX4_letFly_10 rfl rfl ?_
  refine WE.dup (n := 12) dX4_letFly_11 rfl rfl ?_
  refine WE.getI (n := 15) dX4_letFly_12 rfl fl_X4_67 ⟨by decide, by decide, rfl⟩ (by first | decide | exact kd_bal (by omega) | assumption) ?_
  refine WE.iload_n (n := 16) dX4_letFly_15 rfl rfl ?_
  refine WE.aload_n (n := 17) dX4_letFly_16 rfl rfl ?_
  refine WE.getI (n := 20) dX4_letFly_17 rfl fl_X4_102 ⟨by decide, by decide, rfl⟩ (by first | decide | exact kd_bal (by omega) | assumption) ?_
  refine WE.isub (n := 21) dX4_letFly_20 rfl ?_
  refine WE.iadd (n := 22) dX4_letFly_21 rfl ?_
  refine WE.putI (n := 25) dX4_letFly_22 rfl fl_X4_67 ⟨by decide, by decide, rfl, rfl⟩ ⟨by first | rfl | decide, by first | rfl | decide⟩ (by first | decide | exact kd_bal (by omega) | assumption) ?_
  refine WE.aload_n (n := 26) dX4_letFly_25 rfl rfl ?_
  refine WE.getI (n := 29) dX4_letFly_26 rfl fl_X4_99 ⟨by decide, by decide, rfl⟩ (by first | decide | exact kd_bal (by omega) | assumption) ?_
  refine WE.iconst (n := 30) (nI 3) dX4_letFly_29 rfl (by decide) ?_
  refine WE.icmp_ne (n := 33) (tgt := 46) dX4_letFly_30 rfl (by decide) (fun h30 => ?_) (fun h30 => ?_)
  · skip
    rw [u2_ne _ _ (by omega), F1.1 (7, 5) (by decide)] at h30
    refine WE.aload_n (n := 47) dX4_letFly_46 rfl rfl ?_
    refine WE.getI (n := 50) dX4_letFly_47 rfl fl_X4_99 ⟨by decide, by decide, rfl⟩ (by first | decide | exact kd_bal (by omega) | assumption) ?_
    refine WE.iconst (n := 51) (nI 2) dX4_letFly_50 rfl (by decide) ?_
    refine WE.icmp_ne (n := 54) (tgt := 84) dX4_letFly_51 rfl (by decide) (fun h51 => ?_) (fun h51 => ?_)
    · skip
      (repeat rw [u2_ne _ _ (by omega)] at h51)
      rw [F1.1 (7, 5) (by decide)] at h51
      refine WE.vret dX4_letFly_84 rfl ⟨by decide, by decide⟩ ?_
      rcases hM.st with ⟨q5, q7, q8, q⟩ | ⟨q5, q⟩ | ⟨q5, q⟩
      · refine PV.mk ⟨_, rfl, hR.fly hC hj hM ?_ ?_ ?_ ?_ ?_ ?_ ?_, ?_⟩
        · exact F1.congr (fun k hk => by repeat rw [u2_ne _ _ (by omega)]) (fun _ _ => rfl) (fun _ _ _ => rfl)
        · exact fun a k h1 h2 => by (repeat rw [u2_ne _ _ (by omega)]); exact f1 _ _ (by omega)
        · (repeat rw [u2_ne _ _ (by omega)])
          exact f1 _ _ (by omega)
        · rw [u2_ne _ _ (by omega), s7, q7]
        · rw [u2_ne _ _ (by omega), s8, q8]
        · rw [u2_eq, e9]
        · exact fun x => absurd x h51
        · exact fun a k h => by (repeat rw [u2_ne _ _ (by omega)]); exact f1 _ _ (by omega)
      · exact absurd q5 h51
      · exact absurd q5 h30
    · skip
      (repeat rw [u2_ne _ _ (by omega)] at h51)
      rw [F1.1 (7, 5) (by decide)] at h51
      refine WE.aload_n (n := 55) dX4_letFly_54 rfl rfl ?_
      refine WE.dup (n := 56) dX4_letFly_55 rfl rfl ?_
      refine WE.getI (n := 59) dX4_letFly_56 rfl fl_X4_61 ⟨by decide, by decide, rfl⟩ (by first | decide | exact kd_bal (by omega) | assumption) ?_
      refine WE.aload_n (n := 60) dX4_letFly_59 rfl rfl ?_
      refine WE.getI (n := 63) dX4_letFly_60 rfl fl_X4_103 ⟨by decide, by decide, rfl⟩ (by first | decide | exact kd_bal (by omega) | assumption) ?_
      refine WE.iadd (n := 64) dX4_letFly_63 rfl ?_
      refine WE.putI (n := 67) dX4_letFly_64 rfl fl_X4_61 ⟨by decide, by decide, rfl, rfl⟩ ⟨by first | rfl | decide, by first | rfl | decide⟩ (by first | decide | exact kd_bal (by omega) | assumption) ?_
      refine WE.aload_n (n := 68) dX4_letFly_67 rfl rfl ?_
      refine WE.aload_n (n := 69) dX4_letFly_68 rfl rfl ?_
      refine WE.getI (n := 72) dX4_letFly_69 rfl fl_X4_52 ⟨by decide, by decide, rfl⟩ (by first | decide | exact kd_bal (by omega) | assumption) ?_
      refine WE.aload_n (n := 73) dX4_letFly_72 rfl rfl ?_
      refine WE.V0I (M' := mX0_distance) (n := 76) dX4_letFly_73 rfl cv_X4_153 (by first | decide | exact kd_bal (by omega) | assumption) ⟨⟨by decide, by decide⟩, by decide, by decide⟩ (Nat.le_of_ble_eq_true rfl) (c_distance _ _ _ (kd_bal hj6)) ?_
      refine WE.iconst (n := 77) (nI 4) dX4_letFly_76 rfl (by decide) ?_
      refine WE.iadd (n := 78) dX4_letFly_77 rfl ?_
      refine WE.iconst (n := 79) (nI 5) dX4_letFly_78 rfl (by decide) ?_
      refine WE.idiv (n := 80) dX4_letFly_79 rfl (by decide) ?_
      refine WE.iadd (n := 81) dX4_letFly_80 rfl ?_
      refine WE.putI (n := 84) dX4_letFly_81 rfl fl_X4_156 ⟨by decide, by decide, rfl, rfl⟩ ⟨by first | rfl | decide, by first | rfl | decide⟩ (by first | decide | exact kd_bal (by omega) | assumption) ?_
      refine WE.vret dX4_letFly_84 rfl ⟨by decide, by decide⟩ ?_
      have h51 : (flN N j (nlN N)) (22 + 11 * j + 5) = nI 2 := by first | exact Classical.not_not.mp h51 | exact h51
      rcases hM.st with ⟨q5, q⟩ | ⟨q5, q7, q8, q9, q⟩ | ⟨q5, q⟩
      · exact absurd (ha.symm.trans (q5.symm.trans h51)) st_ne.2.2.1
      · refine PV.mk ⟨_, rfl, hR.fly hC hj hM ?_ ?_ ?_ ?_ ?_ ?_ ?_, ?_⟩
        · exact F1.congr (fun k hk => by repeat rw [u2_ne _ _ (by omega)]) (fun _ _ => rfl) (fun _ _ _ => rfl)
        · exact fun a k h1 h2 => by (repeat rw [u2_ne _ _ (by omega)]); exact f1 _ _ (by omega)
        · (repeat rw [u2_ne _ _ (by omega)])
          exact f1 _ _ (by omega)
        · rw [u2_ne _ _ (by omega), u2_eq, u2_ne _ _ (by omega), u2_ne _ _ (by omega), s7, b2, q7]
        · rw [u2_ne _ _ (by omega), u2_ne _ _ (by omega), u2_ne _ _ (by omega), s8, q8]
        · rw [u2_ne _ _ (by omega), u2_ne _ _ (by omega), u2_eq, e9]
        · intro _
          have x9 : c1 (6 + j) 9 = (flN N j (nlN N)) (22 + 11 * j + 6) := F1.1 (9, 6) (by decide)
          have x10 : c1 (6 + j) 10 = (flN N j (nlN N)) (22 + 11 * j + 7) := F1.1 (10, 7) (by decide)
          have x6 : c1 1 6 = N 0 := (f1 _ _ (by omega)).trans (hR.s (6, 0) (by decide))
          rw [u2_eq]
          unfold woN
          rw [q9, ← x6, ← x9, ← x10]
          (repeat rw [u2_ne _ _ (by omega)])
        · exact fun a k h => by (repeat rw [u2_ne _ _ (by omega)]); exact f1 _ _ (by omega)
      · exact absurd (q5.symm.trans h51) st_ne.2.1
  · skip
    rw [u2_ne _ _ (by omega), F1.1 (7, 5) (by decide)] at h30
    refine WE.aload_n (n := 34) dX4_letFly_33 rfl rfl ?_
    refine WE.dup (n := 35) dX4_letFly_34 rfl rfl ?_
    refine WE.getI (n := 38) dX4_letFly_35 rfl fl_X4_64 ⟨by decide, by decide, rfl⟩ (by first | decide | exact kd_bal (by omega) | assumption) ?_
    refine WE.aload_n (n := 39) dX4_letFly_38 rfl rfl ?_
    refine WE.getI (n := 42) dX4_letFly_39 rfl fl_X4_103 ⟨by decide, by decide, rfl⟩ (by first | decide | exact kd_bal (by omega) | assumption) ?_
    refine WE.iadd (n := 43) dX4_letFly_42 rfl ?_
    refine WE.putI (n := 46) dX4_letFly_43 rfl fl_X4_64 ⟨by decide, by decide, rfl, rfl⟩ ⟨by first | rfl | decide, by first | rfl | decide⟩ (by first | decide | exact kd_bal (by omega) | assumption) ?_
    refine WE.aload_n (n := 47) dX4_letFly_46 rfl rfl ?_
    refine WE.getI (n := 50) dX4_letFly_47 rfl fl_X4_99 ⟨by decide, by decide, rfl⟩ (by first | decide | exact kd_bal (by omega) | assumption) ?_
    refine WE.iconst (n := 51) (nI 2) dX4_letFly_50 rfl (by decide) ?_
    refine WE.icmp_ne (n := 54) (tgt := 84) dX4_letFly_51 rfl (by decide) (fun h51 => ?_) (fun h51 => ?_)
    · skip
      (repeat rw [u2_ne _ _ (by omega)] at h51)
      rw [F1.1 (7, 5) (by decide)] at h51
      refine WE.vret dX4_letFly_84 rfl ⟨by decide, by decide⟩ ?_
      have h30 : (flN N j (nlN N)) (22 + 11 * j + 5) = nI 3 := by first | exact Classical.not_not.mp h30 | exact h30
      rcases hM.st with ⟨q5, q⟩ | ⟨q5, q⟩ | ⟨q5, q7, q8, q9⟩
      · exact absurd (ha.symm.trans (q5.symm.trans h30)) st_ne.2.2.2
      · exact absurd (q5.symm.trans h30) st_ne.1
      · refine PV.mk ⟨_, rfl, hR.fly hC hj hM ?_ ?_ ?_ ?_ ?_ ?_ ?_, ?_⟩
        · exact F1.congr (fun k hk => by repeat rw [u2_ne _ _ (by omega)]) (fun _ _ => rfl) (fun _ _ _ => rfl)
        · exact fun a k h1 h2 => by (repeat rw [u2_ne _ _ (by omega)]); exact f1 _ _ (by omega)
        · (repeat rw [u2_ne _ _ (by omega)])
          exact f1 _ _ (by omega)
        · rw [u2_ne _ _ (by omega), u2_ne _ _ (by omega), s7, q7]
        · rw [u2_eq, u2_ne _ _ (by omega), u2_ne _ _ (by omega), s8, b2, q8]
        · rw [u2_ne _ _ (by omega), u2_eq, e9]
        · exact fun x => absurd (h30.symm.trans x) st_ne.2.1
        · exact fun a k h => by (repeat rw [u2_ne _ _ (by omega)]); exact f1 _ _ (by omega)
    · skip
      (repeat rw [u2_ne _ _ (by omega)] at h51)
      rw [F1.1 (7, 5) (by decide)] at h51
      refine WE.aload_n (n := 55) dX4_letFly_54 rfl rfl ?_
      refine WE.dup (n := 56) dX4_letFly_55 rfl rfl ?_
      refine WE.getI (n := 59) dX4_letFly_56 rfl fl_X4_61 ⟨by decide, by decide, rfl⟩ (by first | decide | exact kd_bal (by omega) | assumption) ?_
      refine WE.aload_n (n := 60) dX4_letFly_59 rfl rfl ?_
      refine WE.getI (n := 63) dX4_letFly_60 rfl fl_X4_103 ⟨by decide, by decide, rfl⟩ (by first | decide | exact kd_bal (by omega) | assumption) ?_
      refine WE.iadd (n := 64) dX4_letFly_63 rfl ?_
      refine WE.putI (n := 67) dX4_letFly_64 rfl fl_X4_61 ⟨by decide, by decide, rfl, rfl⟩ ⟨by first | rfl | decide, by first | rfl | decide⟩ (by first | decide | exact kd_bal (by omega) | assumption) ?_
      refine WE.aload_n (n := 68) dX4_letFly_67 rfl rfl ?_
      refine WE.aload_n (n := 69) dX4_letFly_68 rfl rfl ?_
      refine WE.getI (n := 72) dX4_letFly_69 rfl fl_X4_52 ⟨by decide, by decide, rfl⟩ (by first | decide | exact kd_bal (by omega) | assumption) ?_
      refine WE.aload_n (n := 73) dX4_letFly_72 rfl rfl ?_
      refine WE.V0I (M' := mX0_distance) (n := 76) dX4_letFly_73 rfl cv_X4_153 (by first | decide | exact kd_bal (by omega) | assumption) ⟨⟨by decide, by decide⟩, by decide, by decide⟩ (Nat.le_of_ble_eq_true rfl) (c_distance _ _ _ (kd_bal hj6)) ?_
      refine WE.iconst (n := 77) (nI 4) dX4_letFly_76 rfl (by decide) ?_
      refine WE.iadd (n := 78) dX4_letFly_77 rfl ?_
      refine WE.iconst (n := 79) (nI 5) dX4_letFly_78 rfl (by decide) ?_
      refine WE.idiv (n := 80) dX4_letFly_79 rfl (by decide) ?_
      refine WE.iadd (n := 81) dX4_letFly_80 rfl ?_
      refine WE.putI (n := 84) dX4_letFly_81 rfl fl_X4_156 ⟨by decide, by decide, rfl, rfl⟩ ⟨by first | rfl | decide, by first | rfl | decide⟩ (by first | decide | exact kd_bal (by omega) | assumption) ?_
      refine WE.vret dX4_letFly_84 rfl ⟨by decide, by decide⟩ ?_
      exfalso
      have h30 : (flN N j (nlN N)) (22 + 11 * j + 5) = nI 3 := by first | exact Classical.not_not.mp h30 | exact h30
      have h51 : (flN N j (nlN N)) (22 + 11 * j + 5) = nI 2 := by first | exact Classical.not_not.mp h51 | exact h51
      exact st_ne.2.1 (h30.symm.trans h51)
theorem goL_t {N : NA} {nl n : Nat} (h : (goL N nl n).1 (22 + 11 * n + 5) = nI 1) : goL N nl (n + 1) = (flN (goL N nl n).1 n nl, if flN (goL N nl n).1 n nl (22 + 11 * n + 5) = nI 2 then (goL N nl n).2 + nI 1 else (goL N nl n).2) := by
  show ite _ _ _ = _
  rw [if_pos h]
theorem goL_f {N : NA} {nl n : Nat} (h : ¬ (goL N nl n).1 (22 + 11 * n + 5) = nI 1) : goL N nl (n + 1) = goL N nl n := by
  show ite _ _ _ = _
  rw [if_neg h]
theorem sI {x y : Int32} (h : x = y) : some (Value.int x) = some (Value.int y) := by rw [h]
set_option maxRecDepth 20000 in
set_option maxHeartbeats 1000000 in
theorem c_lhg_in {G : GT} (c : CC) (od : Int64 × UInt64) (N : NA) (hC : CN N) (h acc g : Int32) {cu su : Nat} (k : ∀ c' : CC, RelT c' 1 (goL N (nlN N) (nbN N)).1 ∧ FX c c' → WE mX4_letHoursGo 87 [(0, .ref 1), (1, .int h), (2, .int (acc + (goL N (nlN N) (nbN N)).2)), (3, .int g)] [] (c', od) 0 0 G) : ∀ (n i : Nat) (c' : CC), i ≤ nbN N → nbN N < i + n → RelT c' 1 (goL N (nlN N) i).1 ∧ FX c c' → WE mX4_letHoursGo 25 [(0, .ref 1), (1, .int h), (2, .int (acc + (goL N (nlN N) i).2)), (3, .int g), (4, .int (nI i))] [] (c', od) 0 0 G := by
  have hn6 := hC.1
  intro n
  induction n with
  | zero =>
    intro i c' h1 h2
    exact absurd h2 (by omega)
  | succ n ih =>
    intro i c' hi hn hI
    have hCi := hC.of (goL_lo N (nlN N) (k := 3) (by decide) (by decide) (by decide) (by decide) i) (goL_lo N (nlN N) (k := 4) (by decide) (by decide) (by decide) (by decide) i)
    have e4 : c' 1 4 = nI (nbN N) := by rw [show c' 1 4 = (goL N (nlN N) i).1 3 from hI.1.s (4, 3) (by decide), hCi.1.2.1, hCi.2.1]
    refine WE.iload (n := 27) dX4_letHoursGo_25 rfl rfl ?_
    refine WE.aload_n (n := 28) dX4_letHoursGo_27 rfl rfl ?_
    refine WE.getI (n := 31) dX4_letHoursGo_28 rfl fl_X4_46 ⟨by decide, by decide, rfl⟩ (by first | decide | exact kd_bal (by omega) | assumption) ?_
    refine WE.icmp_ge (n := 34) (tgt := 87) dX4_letHoursGo_31 rfl (by decide) (fun h31 => ?_) (fun h31 => ?_)
    · skip
      rw [e4] at h31
      have hge : nbN N ≤ i := ge_t (by omega) (by omega) h31
      obtain rfl : i = nbN N := by omega
      exact WE.ofA (L' := [(0, .ref 1), (1, .int h), (2, .int (acc + (goL N (nlN N) (nbN N)).2)), (3, .int g)]) ⟨rfl, rfl, rfl, rfl, trivial⟩ (k _ hI)
    · skip
      rw [e4] at h31
      have hi2 : i < nbN N := ge_f (by omega) (by omega) h31
      have hi6 : i < 6 := by omega
      have e7 : c' (6 + i) 7 = (goL N (nlN N) i).1 (22 + 11 * i + 5) := hI.1.b (by rw [hCi.2.1]; exact hi2) (7, 5) (by decide)
      refine WE.aload_n (n := 35) dX4_letHoursGo_34 rfl rfl ?_
      refine WE.getR (n := 38) dX4_letHoursGo_35 rfl fl_X4_20 ⟨by decide, by decide⟩ rfl (by first | decide | exact kd_bal (by omega) | assumption) ?_
      refine WE.iload (n := 40) dX4_letHoursGo_38 rfl rfl ?_
      refine WE.aald (n := 41) 12 i dX4_letHoursGo_40 rfl (by first | decide | assumption) (by decide) rfl (by show _ < 6; omega) rfl ?_
      refine WE.getI (n := 44) dX4_letHoursGo_41 rfl fl_X4_99 ⟨by decide, by decide, rfl⟩ (by first | decide | exact kd_bal (by omega) | assumption) ?_
      refine WE.iconst (n := 45) (nI 1) dX4_letHoursGo_44 rfl (by decide) ?_
      refine WE.icmp_ne (n := 48) (tgt := 81) dX4_letHoursGo_45 rfl (by decide) (fun h45 => ?_) (fun h45 => ?_)
      · skip
        rw [e7] at h45
        refine WE.iincV (n := 84) (nI (i + 1)) dX4_letHoursGo_81 rfl rfl (by decide) (nI_inc i) ?_
        refine WE.goto (tgt := 25) dX4_letHoursGo_84 (by decide) ?_
        refine WE.ofA (L' := [(0, .ref 1), (1, .int h), (2, .int (acc + (goL N (nlN N) (i + 1)).2)), (3, .int g), (4, .int (nI (i + 1)))]) ⟨rfl, rfl, sI (by rw [goL_f h45]), rfl, rfl, trivial⟩ (ih (i + 1) _ (by omega) (by omega) ?_)
        rw [goL_f h45]
        exact hI
      · skip
        rw [e7] at h45
        refine WE.aload_n (n := 49) dX4_letHoursGo_48 rfl rfl ?_
        refine WE.aload_n (n := 50) dX4_letHoursGo_49 rfl rfl ?_
        refine WE.getR (n := 53) dX4_letHoursGo_50 rfl fl_X4_20 ⟨by decide, by decide⟩ rfl (by first | decide | exact kd_bal (by omega) | assumption) ?_
        refine WE.iload (n := 55) dX4_letHoursGo_53 rfl rfl ?_
        refine WE.aald (n := 56) 12 i dX4_letHoursGo_55 rfl (by first | decide | assumption) (by decide) rfl (by show _ < 6; omega) rfl ?_
        refine WE.V1PV (M' := mX4_letFly) (n := 59) dX4_letHoursGo_56 rfl cv_X4_146 (by first | decide | exact kd_bal (by omega) | assumption) ⟨⟨by decide, by decide⟩, by decide, by decide⟩ (Nat.le_of_ble_eq_true rfl) (c_letFly _ od _ hI.1 hCi.1 i (by rw [hCi.2.1]; exact hi2) h45) (fun σ56 q56 => ?_)
        obtain ⟨c2, rfl, R2, X2⟩ := q56
        rw [hCi.2.2] at R2
        have hI2 : RelT c2 1 (goL N (nlN N) (i + 1)).1 ∧ FX c c2 := ⟨by rw [goL_t h45]; exact R2, fun a k hh => (X2 a k hh).trans (hI.2 a k hh)⟩
        have hC2 := hC.of (M := flN (goL N (nlN N) i).1 i (nlN N)) (by rw [(fl_R _ hi6 _).rest 3 (by decide) (by decide) (by decide) (by decide)]; exact goL_lo _ _ (by decide) (by decide) (by decide) (by decide) i) (by rw [(fl_R _ hi6 _).rest 4 (by decide) (by decide) (by decide) (by decide)]; exact goL_lo _ _ (by decide) (by decide) (by decide) (by decide) i)
        refine WE.iload_n (n := 60) dX4_letHoursGo_59 rfl rfl ?_
        refine WE.aload_n (n := 61) dX4_letHoursGo_60 rfl rfl ?_
        refine WE.getR (n := 64) dX4_letHoursGo_61 rfl fl_X4_20 ⟨by decide, by decide⟩ rfl (by first | decide | exact kd_bal (by omega) | assumption) ?_
        refine WE.iload (n := 66) dX4_letHoursGo_64 rfl rfl ?_
        refine WE.aald (n := 67) 12 i dX4_letHoursGo_66 rfl (by first | decide | assumption) (by decide) rfl (by show _ < 6; omega) rfl ?_
        refine WE.getI (n := 70) dX4_letHoursGo_67 rfl fl_X4_99 ⟨by decide, by decide, rfl⟩ (by first | decide | exact kd_bal (by omega) | assumption) ?_
        refine WE.iconst (n := 71) (nI 2) dX4_letHoursGo_70 rfl (by decide) ?_
        refine WE.icmp_ne (n := 74) (tgt := 78) dX4_letHoursGo_71 rfl (by decide) (fun h71 => ?_) (fun h71 => ?_)
        · skip
          rw [(R2.b (by rw [hC2.2.1]; exact hi2) (7, 5) (by decide) : c2 (6 + i) 7 = _)] at h71
          refine WE.iconst (n := 79) (nI 0) dX4_letHoursGo_78 rfl (by decide) ?_
          refine WE.iadd (n := 80) dX4_letHoursGo_79 rfl ?_
          refine WE.istore_n (n := 81) dX4_letHoursGo_80 rfl (by decide) ?_
          refine WE.iincV (n := 84) (nI (i + 1)) dX4_letHoursGo_81 rfl rfl (by decide) (nI_inc i) ?_
          refine WE.goto (tgt := 25) dX4_letHoursGo_84 (by decide) ?_
          exact WE.ofA (L' := [(0, .ref 1), (1, .int h), (2, .int (acc + (goL N (nlN N) (i + 1)).2)), (3, .int g), (4, .int (nI (i + 1)))]) ⟨rfl, rfl, sI (by rw [goL_t h45]; show _ = acc + ite _ _ _; rw [if_neg h71]; exact Int32.add_zero _), rfl, rfl, trivial⟩ (ih (i + 1) _ (by omega) (by omega) hI2)
        · skip
          rw [(R2.b (by rw [hC2.2.1]; exact hi2) (7, 5) (by decide) : c2 (6 + i) 7 = _)] at h71
          refine WE.iconst (n := 75) (nI 1) dX4_letHoursGo_74 rfl (by decide) ?_
          refine WE.goto (tgt := 79) dX4_letHoursGo_75 (by decide) ?_
          refine WE.iadd (n := 80) dX4_letHoursGo_79 rfl ?_
          refine WE.istore_n (n := 81) dX4_letHoursGo_80 rfl (by decide) ?_
          refine WE.iincV (n := 84) (nI (i + 1)) dX4_letHoursGo_81 rfl rfl (by decide) (nI_inc i) ?_
          refine WE.goto (tgt := 25) dX4_letHoursGo_84 (by decide) ?_
          exact WE.ofA (L' := [(0, .ref 1), (1, .int h), (2, .int (acc + (goL N (nlN N) (i + 1)).2)), (3, .int g), (4, .int (nI (i + 1)))]) ⟨rfl, rfl, sI (by rw [goL_t h45]; show _ = acc + ite _ _ _; rw [if_pos (by first | exact Classical.not_not.mp h71 | exact h71)]; exact Int32.add_assoc _ _ _), rfl, rfl, trivial⟩ (ih (i + 1) _ (by omega) (by omega) hI2)
set_option maxRecDepth 20000 in
set_option maxHeartbeats 1000000 in
theorem c_lhg_out {G : GT} (c : CC) (od : Int64 × UInt64) (N : NA) (hC : CN N) (m : Nat) (hm : m ≤ 48) (k : ∀ c' : CC, RelT c' 1 (psL N (nbN N) (nlN N) m).1 ∧ FX c c' → WE mX4_letHoursGo 103 [(0, .ref 1), (1, .int (nI m)), (2, .int (psL N (nbN N) (nlN N) m).2), (3, .int (nI m))] [] (c', od) 0 0 G) : ∀ (n i : Nat) (c' : CC), i ≤ m → m < i + n → RelT c' 1 (psL N (nbN N) (nlN N) i).1 ∧ FX c c' → WE mX4_letHoursGo 17 [(0, .ref 1), (1, .int (nI m)), (2, .int (psL N (nbN N) (nlN N) i).2), (3, .int (nI i))] [] (c', od) 0 0 G := by
  intro n
  induction n with
  | zero =>
    intro i c' h1 h2
    exact absurd h2 (by omega)
  | succ n ih =>
    intro i c' hi hn hI
    have hCi := hC.of (psL_lo N (nbN N) (nlN N) (k := 3) (by decide) (by decide) (by decide) (by decide) (by decide) i) (psL_lo N (nbN N) (nlN N) (k := 4) (by decide) (by decide) (by decide) (by decide) (by decide) i)
    refine WE.iload_n (n := 18) dX4_letHoursGo_17 rfl rfl ?_
    refine WE.iload_n (n := 19) dX4_letHoursGo_18 rfl rfl ?_
    refine WE.icmp_ge (n := 22) (tgt := 103) dX4_letHoursGo_19 rfl (by decide) (fun h19 => ?_) (fun h19 => ?_)
    · skip
      have hge : m ≤ i := ge_t (by omega) (by omega) h19
      obtain rfl : i = m := by omega
      exact WE.ofA (L' := [(0, .ref 1), (1, .int (nI i)), (2, .int (psL N (nbN N) (nlN N) i).2), (3, .int (nI i))]) ⟨rfl, rfl, rfl, rfl, trivial⟩ (k _ hI)
    · skip
      have hi2 : i < m := ge_f (by omega) (by omega) h19
      refine WE.iconst (n := 23) (nI 0) dX4_letHoursGo_22 rfl (by decide) ?_
      refine WE.istore (n := 25) dX4_letHoursGo_23 rfl (by decide) ?_
      refine WE.ofA (L' := [(0, .ref 1), (1, .int (nI m)), (2, .int ((psL N (nbN N) (nlN N) i).2 + (goL (psL N (nbN N) (nlN N) i).1 (nlN (psL N (nbN N) (nlN N) i).1) 0).2)), (3, .int (nI i)), (4, .int (nI 0))]) ⟨rfl, rfl, sI (Int32.add_zero _).symm, rfl, rfl, trivial⟩ (c_lhg_in c' od (psL N (nbN N) (nlN N) i).1 hCi.1 (nI m) (psL N (nbN N) (nlN N) i).2 (nI i) (cu := 0) (su := 0) (fun c2 hI2 => ?_) (nbN (psL N (nbN N) (nlN N) i).1 + 1) 0 c' (Nat.zero_le _) (by omega) ⟨hI.1, fun _ _ _ => rfl⟩)
      refine WE.aload_n (n := 88) dX4_letHoursGo_87 rfl rfl ?_
      refine WE.dup (n := 89) dX4_letHoursGo_88 rfl rfl ?_
      refine WE.getI (n := 92) dX4_letHoursGo_89 rfl fl_X4_52 ⟨by decide, by decide, rfl⟩ (by first | decide | exact kd_bal (by assumption) | exact kd_let (by assumption) | assumption) ?_
      refine WE.iconst (n := 93) (nI 1) dX4_letHoursGo_92 rfl (by decide) ?_
      refine WE.iadd (n := 94) dX4_letHoursGo_93 rfl ?_
      refine WE.putI (n := 97) dX4_letHoursGo_94 rfl fl_X4_52 ⟨by decide, by decide, rfl, rfl⟩ ⟨by first | rfl | decide, by first | rfl | decide⟩ (by first | decide | exact kd_bal (by assumption) | exact kd_let (by assumption) | assumption) ?_
      refine WE.iincV (n := 100) (nI (i + 1)) dX4_letHoursGo_97 rfl rfl (by decide) (nI_inc i) ?_
      refine WE.goto (tgt := 17) dX4_letHoursGo_100 (by decide) ?_
      refine WE.ofA (L' := [(0, .ref 1), (1, .int (nI m)), (2, .int (psL N (nbN N) (nlN N) (i + 1)).2), (3, .int (nI (i + 1)))]) ⟨rfl, rfl, sI ?_, rfl, trivial⟩ (ih (i + 1) _ (by omega) (by omega) ⟨?_, fun a k hh => ?_⟩)
      · rw [hCi.2.1, hCi.2.2]
        rfl
      · have h0 : c2 1 6 = (goL (psL N (nbN N) (nlN N) i).1 (nlN N) (nbN N)).1 0 := by
          have h00 := hI2.1.s (6, 0) (by decide)
          rw [hCi.2.1, hCi.2.2] at h00
          exact h00
        have h1 := hI2.1.sca (6, 0) (by decide) (by decide) (by decide) ((goL (psL N (nbN N) (nlN N) i).1 (nlN N) (nbN N)).1 0 + nI 1)
        rw [h0]
        rw [hCi.2.1, hCi.2.2] at h1
        exact h1
      · rw [u2_ne _ _ (by omega)]
        exact (hI2.2 a k hh).trans (hI.2 a k hh)
set_option maxRecDepth 20000 in
set_option maxHeartbeats 1000000 in
theorem c_letHoursGo (c : CC) (od : Int64 × UInt64) (N : NA) (hR : RelT c 1 N) (hC : CN N) (x : Int32) : CM mX4_letHoursGo [.ref 1, .int x] (c, od) (PT c od N eB (S_passes N x)) := by
  refine CM.of [(0, .ref 1), (1, .int x)] rfl (by decide +kernel) rfl (Nat.le_of_ble_eq_true rfl) ?_
  refine WE.iload_n (n := 1) dX4_letHoursGo_0 rfl rfl ?_
  refine WE.iconst (n := 2) (nI 1) dX4_letHoursGo_1 rfl (by decide) ?_
  refine WE.bipush (n := 4) (nI 48) dX4_letHoursGo_2 rfl (by decide) ?_
  refine WE.N3I (M' := mX5_isBetween) (n := 7) dX4_letHoursGo_4 rfl cv_X4_80  ⟨⟨by decide, by decide⟩, by decide, by decide⟩ (Nat.le_of_ble_eq_true rfl) (c_isBetween _ _ _ _) ?_
  refine WE.if_neB (n := 10) (tgt := 13) dX4_letHoursGo_7 rfl (by decide) (fun h7 => ?_) (fun h7 => ?_)
  · skip
    obtain ⟨m, hm1, hm, rfl⟩ := in1_of (by decide) (by decide) h7
    refine WE.iconst (n := 14) (nI 0) dX4_letHoursGo_13 rfl (by decide) ?_
    refine WE.istore_n (n := 15) dX4_letHoursGo_14 rfl (by decide) ?_
    refine WE.iconst (n := 16) (nI 0) dX4_letHoursGo_15 rfl (by decide) ?_
    refine WE.istore_n (n := 17) dX4_letHoursGo_16 rfl (by decide) ?_
    refine WE.ofA (L' := [(0, .ref 1), (1, .int (nI m)), (2, .int (psL N (nbN N) (nlN N) 0).2), (3, .int (nI 0))]) ⟨rfl, rfl, rfl, rfl, trivial⟩ (c_lhg_out c od N hC m hm (fun c2 hI => ?_) (m + 1) 0 c (Nat.zero_le _) (by omega) ⟨hR, fun _ _ _ => rfl⟩)
    refine WE.iload_n (n := 104) dX4_letHoursGo_103 rfl rfl ?_
    refine WE.iret (ty := .int) dX4_letHoursGo_104 rfl rfl ⟨by decide, by decide⟩ ?_
    exact PT.ok (by unfold S_passes; rw [if_pos h7, nI_clamp (show m < 2 ^ 31 by omega)]; rfl) hI.1 hI.2
  · skip
    refine WE.bipush (n := 12) ((-102 : Int32)) dX4_letHoursGo_10 rfl (by decide) ?_
    refine WE.iret (ty := .int) dX4_letHoursGo_12 rfl rfl ⟨by decide, by decide⟩ ?_
    exact PT.no 1 (by unfold S_passes; rw [if_neg h7]) (by decide)
set_option maxRecDepth 20000 in
set_option maxHeartbeats 1000000 in
theorem c_foretell_l (c : CC) (od : Int64 × UInt64) (j nl : Nat) (hj6 : j < 6) (X : NA) : ∀ (n i h f : Nat) (M : NA) (c' : CC), i + f = 1000 → f < n → RelF c' 388 M j nl → WR c' M → (∀ a k, a ≠ 388 → c' a k = c a k) → X = (foN j nl f M h).1 → WE mX4_foretell 23 [(0, .ref 1), (3, .ref 388), (4, .int (nI i))] [] (c', od) 0 0 (GQ mX4_foretell (PV fun σ => ∃ c', σ = (c', od) ∧ (∀ a k, a ≠ 388 → c' a k = c a k) ∧ RelF c' 388 X j nl)) := by
  intro n
  induction n with
  | zero =>
    intro i h f M c' h1 h2
    exact absurd h2 (by omega)
  | succ n ih =>
    intro i h f M c' hi hn hF hW hfr hfo
    refine WE.iload (n := 25) dX4_foretell_23 rfl rfl ?_
    refine WE.sipush (n := 28) (nI 1000) dX4_foretell_25 rfl (by decide) ?_
    refine WE.icmp_ge (n := 31) (tgt := 50) dX4_foretell_28 rfl (by decide) (fun h28 => ?_) (fun h28 => ?_)
    · skip
      have hge : 1000 ≤ i := ge_t (by omega) (by omega) h28
      obtain rfl : f = 0 := by omega
      refine WE.vret dX4_foretell_50 rfl ⟨by decide, by decide⟩ ?_
      refine PV.mk ⟨_, rfl, hfr, ?_⟩
      rw [hfo]
      exact hF
    · skip
      have hlt : i < 1000 := ge_f (by omega) (by omega) h28
      obtain ⟨f, rfl⟩ : ∃ g, f = g + 1 := ⟨f - 1, by omega⟩
      refine WE.aload_n (n := 32) dX4_foretell_31 rfl rfl ?_
      refine WE.getI (n := 35) dX4_foretell_32 rfl fl_X4_99 ⟨by decide, by decide, rfl⟩ (by first | decide | exact kd_bal (by assumption) | exact kd_let (by assumption) | assumption) ?_
      refine WE.iconst (n := 36) (nI 1) dX4_foretell_35 rfl (by decide) ?_
      refine WE.icmp_ne (n := 39) (tgt := 50) dX4_foretell_36 rfl (by decide) (fun h36 => ?_) (fun h36 => ?_)
      · skip
        rw [hF.1 (7, 5) (by decide)] at h36
        refine WE.vret dX4_foretell_50 rfl ⟨by decide, by decide⟩ ?_
        refine PV.mk ⟨_, rfl, hfr, ?_⟩
        rw [hfo]
        show RelF _ _ (ite _ _ _ : NA × Nat).1 _ _
        rw [if_neg h36]
        exact hF
      · skip
        rw [hF.1 (7, 5) (by decide)] at h36
        refine WE.aload_n (n := 40) dX4_foretell_39 rfl rfl ?_
        refine WE.aload_n (n := 41) dX4_foretell_40 rfl rfl ?_
        refine WE.V1PV (M' := mX0_flyAnHour) (n := 44) dX4_foretell_41 rfl cv_X4_149 (by first | decide | exact kd_bal (by assumption) | exact kd_let (by assumption) | assumption) ⟨⟨by decide, by decide⟩, by decide, by decide⟩ (Nat.le_of_ble_eq_true rfl) (c_flyAnHour c' od 388 (by decide) M j nl hj6 hF hW) (fun σ41 q41 => ?_)
        obtain ⟨c2, rfl, f2, F2⟩ := q41
        refine WE.iincV (n := 47) (nI (i + 1)) dX4_foretell_44 rfl rfl (by decide) (nI_inc i) ?_
        refine WE.goto (tgt := 23) dX4_foretell_47 (by decide) ?_
        exact WE.ofA (L' := [(0, .ref 1), (3, .ref 388), (4, .int (nI (i + 1)))]) ⟨rfl, rfl, rfl, trivial⟩ (ih (i + 1) (h + 1) f (flN M j nl) c2 (by omega) (by omega) F2 ⟨by rw [f2 _ _ (by omega), flN_lo _ _ _ (by decide) (by decide) (by decide) (by decide)]; exact hW.1, fun w hw => by rw [f2 _ _ (by omega), f2 _ _ (by omega), flN_lo _ _ _ (by omega) (by omega) (by omega) (by omega), flN_lo _ _ _ (by omega) (by omega) (by omega) (by omega)]; exact hW.2 w hw⟩ (fun a k hh => by rw [f2 _ _ (by omega)]; exact hfr a k hh) (by rw [hfo]; show (ite _ _ _ : NA × Nat).1 = _; rw [if_pos (by first | exact Classical.not_not.mp h36 | exact h36)]))
set_option maxRecDepth 20000 in
set_option maxHeartbeats 1000000 in
theorem c_foretell (c : CC) (od : Int64 × UInt64) (N : NA) (hR : RelT c 1 N) (hC : CN N) (j : Nat) (hj : j < nbN N) (d : Int32) : CM mX4_foretell [.ref 1, .int (nI j), .int d, .ref 388] (c, od) (PV fun σ => ∃ c', σ = (c', od) ∧ (∀ a k, a ≠ 388 → c' a k = c a k) ∧ RelF c' 388 (foN j (nlN N) 1000 (upN N (22 + 11 * j + 2) (N (22 + 11 * j + 2) - d)) 0).1 j (nlN N)) := by
  refine CM.of [(0, .ref 1), (1, .int (nI j)), (2, .int d), (3, .ref 388)] rfl (by decide +kernel) rfl (Nat.le_of_ble_eq_true rfl) ?_
  have hj6 : j < 6 := by have := hC.1; omega
  refine WE.aload_n (n := 1) dX4_foretell_0 rfl rfl ?_
  refine WE.aload_n (n := 2) dX4_foretell_1 rfl rfl ?_
  refine WE.getR (n := 5) dX4_foretell_2 rfl fl_X4_20 ⟨by decide, by decide⟩ rfl (by first | decide | exact kd_bal (by omega) | assumption) ?_
  refine WE.iload_n (n := 6) dX4_foretell_5 rfl rfl ?_
  refine WE.aald (n := 7) 12 j dX4_foretell_6 rfl (by first | decide | assumption) (by decide) rfl (by show _ < 6; omega) rfl ?_
  refine WE.V1PV (M' := mX0_copyFrom) (n := 10) dX4_foretell_7 rfl cv_X4_39 (by first | decide | exact kd_bal (by omega) | assumption) ⟨⟨by decide, by decide⟩, by decide, by decide⟩ (Nat.le_of_ble_eq_true rfl) (c_copyB c od 388 (by decide) (6 + j) (kd_bal hj6) (by omega)) (fun σ7 q7 => ?_)
  obtain ⟨c1, rfl, P1, P2⟩ := q7
  refine WE.aload_n (n := 11) dX4_foretell_10 rfl rfl ?_
  refine WE.dup (n := 12) dX4_foretell_11 rfl rfl ?_
  refine WE.getI (n := 15) dX4_foretell_12 rfl fl_X4_103 ⟨by decide, by decide, rfl⟩ (by first | decide | exact kd_bal (by omega) | assumption) ?_
  refine WE.iload_n (n := 16) dX4_foretell_15 rfl rfl ?_
  refine WE.isub (n := 17) dX4_foretell_16 rfl ?_
  refine WE.putI (n := 20) dX4_foretell_17 rfl fl_X4_103 ⟨by decide, by decide, rfl, rfl⟩ ⟨by first | rfl | decide, by first | rfl | decide⟩ (by first | decide | exact kd_bal (by omega) | assumption) ?_
  refine WE.iconst (n := 21) (nI 0) dX4_foretell_20 rfl (by decide) ?_
  refine WE.istore (n := 23) dX4_foretell_21 rfl (by decide) ?_
  refine WE.ofA (L' := [(0, .ref 1), (3, .ref 388), (4, .int (nI 0))]) ⟨rfl, rfl, rfl, trivial⟩ (c_foretell_l c od j (nlN N) hj6 _ 1001 0 0 1000 (upN N (22 + 11 * j + 2) (N (22 + 11 * j + 2) - d)) _ rfl (by decide) ?_ ?_ ?_ rfl)
  · have h1 : RelF c1 388 N j (nlN N) := (hR.F hj).congr (fun k hk => P1 k (by omega)) (fun _ _ => rfl) (fun _ _ _ => rfl)
    have h2 := h1.up hj6 (2, 2) (by decide) (N (22 + 11 * j + 2) - d)
    rw [show c1 388 2 = N (22 + 11 * j + 2) from h1.1 (2, 2) (by decide)]
    exact h2
  · refine ⟨?_, fun w hw => ?_⟩
    · rw [u2_ne _ _ (by omega), P2 _ _ (by omega), upN_ne _ _ _ (by omega)]
      exact hR.W.1
    · rw [u2_ne _ _ (by omega), u2_ne _ _ (by omega), P2 _ _ (by omega), P2 _ _ (by omega), upN_ne _ _ _ (by omega), upN_ne _ _ _ (by omega)]
      exact hR.W.2 w hw
  · intro a k hh
    rw [u2_ne _ _ (by omega), P2 _ _ (by omega)]
