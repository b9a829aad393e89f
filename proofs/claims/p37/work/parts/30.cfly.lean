theorem u2_comm (c : CC) {a k b l : Nat} (x y : Int32) (h : ¬ (a = b ∧ k = l)) : u2 (u2 c a k x) b l y = u2 (u2 c b l y) a k x := by
  funext i j
  by_cases h1 : i = a ∧ j = k
  · obtain ⟨rfl, rfl⟩ := h1
    rw [u2_ne _ _ h, u2_eq, u2_eq]
  · by_cases h2 : i = b ∧ j = l
    · obtain ⟨rfl, rfl⟩ := h2
      rw [u2_eq, u2_ne _ _ h1, u2_eq]
    · rw [u2_ne _ _ h2, u2_ne _ _ h1, u2_ne _ _ h1, u2_ne _ _ h2]
theorem RelF.up {c : CC} {o : Nat} {N : NA} {j nl : Nat} (h : RelF c o N j nl) (hj : j < 6) (q : Nat × Nat) (hq : q ∈ bP) (v : Int32) : RelF (u2 c o q.1 v) o (upN N (22 + 11 * j + q.2) v) j nl := by
  have hq2 := bP_lt q hq
  refine ⟨fun p hp => ?_, ?_⟩
  · by_cases e : p.1 = q.1
    · rw [(bP_inj p hp q hq).mp e, e, u2_eq, upN_eq]
    · rw [u2_ne _ _ (by omega), upN_ne _ _ _ (fun x => e ((bP_inj p hp q hq).mpr (by omega)))]
      exact h.1 p hp
  · rw [u2_ne _ _ (by omega), shN_congr _ _ (fun k q1 q2 => upN_ne _ _ _ (by omega))]
    exact h.2
theorem RelF.skip {c : CC} {o : Nat} {N : NA} {j nl k : Nat} (h : RelF c o N j nl) (hk : k < 22 ∨ (k = 22 + 11 * j + 9 ∧ j < 6)) (v : Int32) : RelF c o (upN N k v) j nl := by
  refine ⟨fun p hp => ?_, ?_⟩
  · have := bP_lt p hp
    rw [upN_ne _ _ _ (by omega)]
    exact h.1 p hp
  · rw [shN_congr _ _ (fun k q1 q2 => upN_ne _ _ _ (by omega))]
    exact h.2
/-- the letters of a balloon that came down: their states alone change, and stay above 0 -/
theorem dnL_o (N : NA) (st b : Int32) {k : Nat} : ∀ n, (∀ l, l < n → k ≠ 88 + 4 * l + 2) → dnL N st b n k = N k
  | 0, _ => rfl
  | n + 1, h => by
    have ih := dnL_o N st b n (fun l hl => h l (by omega))
    unfold dnL
    split
    · split
      · rw [upN_ne _ _ _ (h n (by omega))]
        exact ih
      · exact ih
    · exact ih
theorem dnL_2 (N : NA) {st b : Int32} : ∀ n l, dnL N st b n (88 + 4 * l + 2) = if l < n ∧ N (88 + 4 * l + 2) = nI 1 ∧ N (88 + 4 * l + 3) = b then st else N (88 + 4 * l + 2)
  | 0, l => by
    rw [if_neg (by omega)]
    rfl
  | n + 1, l => by
    have ih := dnL_2 (N := N) (st := st) (b := b) n
    have e3 : dnL N st b n (88 + 4 * n + 3) = N (88 + 4 * n + 3) := dnL_o N st b n (fun l _ => by omega)
    have e2 : dnL N st b n (88 + 4 * n + 2) = N (88 + 4 * n + 2) := by rw [ih n, if_neg (by omega)]
    unfold dnL
    rw [e2, e3]
    by_cases e : l = n
    · subst e
      split
      · rename_i h1
        split
        · rename_i h2
          rw [upN_eq, if_pos ⟨Nat.lt_succ_self _, h1, h2⟩]
        · rename_i h2
          rw [e2, if_neg (fun q => h2 q.2.2)]
      · rename_i h1
        rw [e2, if_neg (fun q => h1 q.2.1)]
    · have e4 : (if l < n + 1 ∧ N (88 + 4 * l + 2) = nI 1 ∧ N (88 + 4 * l + 3) = b then st else N (88 + 4 * l + 2)) = (if l < n ∧ N (88 + 4 * l + 2) = nI 1 ∧ N (88 + 4 * l + 3) = b then st else N (88 + 4 * l + 2)) := by
        by_cases h1 : l < n
        · simp only [h1, show l < n + 1 by omega]
        · simp only [h1, show ¬ l < n + 1 by omega]
      rw [e4, ← ih l]
      split
      · split
        · rw [upN_ne _ _ _ (by omega)]
        · rfl
      · rfl
theorem shN_dnL (N : NA) {st b : Int32} (hst : 0 < st) (b' : Int32) (n : Nat) : ∀ m, shN (dnL N st b n) b' m = shN N b' m
  | 0 => rfl
  | m + 1 => by
    have ih := shN_dnL N hst (b := b) b' n m
    simp only [shN]
    rw [ih, dnL_o N st b n (k := 88 + 4 * m + 3) (fun l _ => by omega), dnL_o N st b n (k := 88 + 4 * m) (fun l _ => by omega), dnL_2]
    by_cases h : m < n ∧ N (88 + 4 * m + 2) = nI 1 ∧ N (88 + 4 * m + 3) = b
    · rw [if_pos h]
      have h1 : 0 < N (88 + 4 * m + 2) := by rw [h.2.1]; decide
      simp only [hst, h1]
    · rw [if_neg h]
theorem lcN_dnL (N : NA) {st b : Int32} (hst : 0 < st) (b' : Int32) (n : Nat) : ∀ m, lcN (dnL N st b n) b' m = lcN N b' m := by
  intro m
  unfold lcN
  refine ctL_congr m (fun i _ => ?_)
  rw [dnL_o N st b n (k := 88 + 4 * i + 3) (fun l _ => by omega), dnL_2]
  by_cases h : i < n ∧ N (88 + 4 * i + 2) = nI 1 ∧ N (88 + 4 * i + 3) = b
  · rw [if_pos h]
    have h1 : 0 < N (88 + 4 * i + 2) := by rw [h.2.1]; decide
    simp only [hst, h1]
  · rw [if_neg h]
theorem RelF.dnL {c : CC} {o : Nat} {N : NA} {j nl : Nat} (h : RelF c o N j nl) (hj : j < 6) {st b : Int32} (hst : 0 < st) (n : Nat) : RelF c o (dnL N st b n) j nl := by
  refine ⟨fun p hp => ?_, ?_⟩
  · have := bP_lt p hp
    rw [dnL_o _ _ _ _ (fun l _ => by omega)]
    exact h.1 p hp
  · rw [shN_dnL _ hst]
    exact h.2
theorem RelF.dn {c : CC} {o : Nat} {N : NA} {j nl : Nat} (h : RelF c o N j nl) (hj : j < 6) {st : Int32} (hst : 0 < st) : RelF (u2 (u2 c o 7 st) o 8 (nI 0)) o (dnN N j st nl) j nl := by
  unfold dnN
  refine RelF.dnL ?_ hj hst nl
  have h1 := (((h.up hj (7, 5) (by decide) st).skip (k := 22 + 11 * j + 9) (Or.inr ⟨rfl, hj⟩) (N 0)).up hj (8, 10) (by decide) (nI 0))
  split
  · exact h1.skip (Or.inl (by decide)) _
  · exact h1.skip (Or.inl (by decide)) _
/-- the flight behind the leak -/
def flT (M : NA) (j nl : Nat) : NA :=
  if 0 ≤ beN M j nl then
    if nI 0 ≤ fl2 M j nl (22 + 11 * j + 6) ∧ fl2 M j nl (22 + 11 * j + 6) ≤ nI 39 then
      if nI 0 ≤ fl2 M j nl (22 + 11 * j + 7) ∧ fl2 M j nl (22 + 11 * j + 7) ≤ nI 39 then fl2 M j nl
      else dnN (fl2 M j nl) j (nI 3) nl
    else dnN (fl2 M j nl) j (nI 3) nl
  else dnN M j (if M 1 < far (M (22 + 11 * j + 6)) (M (22 + 11 * j + 7)) then nI 2 else nI 3) nl
theorem fl_T (N : NA) (j nl : Nat) : flN N j nl = flT (fl1 N j) j nl := rfl
theorem wg_F {c : CC} {o : Nat} {N : NA} {j nl : Nat} (h : RelF c o N j nl) : wgB c o (nI 0) = wgN N j nl := by
  unfold wgB wgN
  rw [h.1 (0, 0) (by decide), h.1 (2, 2) (by decide), h.1 (4, 4) (by decide), h.2, show shN N (nI j) nl + nI 0 = shN N (nI j) nl from Int32.add_zero _]
theorem be_F {c : CC} {o : Nat} {N : NA} {j nl : Nat} (h : RelF c o N j nl) : c o 1 - wgB c o (nI 0) = beN N j nl := by
  unfold beN
  rw [wg_F h, h.1 (1, 1) (by decide)]
theorem mn_comm (x y : Int32) : mn x y = mn y x := by
  unfold mn
  by_cases h1 : y < x
  · rw [if_pos h1, if_neg (fun q => by simp only [Int32.lt_iff_toInt_lt] at *; omega)]
  · by_cases h2 : x < y
    · rw [if_neg h1, if_pos h2]
    · rw [if_neg h1, if_neg h2]
      exact Int32.toInt_inj.mp (by simp only [Int32.lt_iff_toInt_lt] at h1 h2; omega)
/-- the town's winds and ring, as the flight reads them -/
def WR (c : CC) (M : NA) : Prop := c 1 7 = M 1 ∧ ∀ h, h < 6 → c 2 h = M (10 + 2 * h) ∧ c 3 h = M (10 + 2 * h + 1)
/-- what a flight leaves alone -/
def FF (c c' : CC) (o : Nat) : Prop := ∀ a k, ¬ (a = o ∧ (k = 1 ∨ 7 ≤ k ∧ k ≤ 11)) → c' a k = c a k
theorem bal_ne {o : Nat} (ho : KD o = 0 ∧ o < NN) : o ≠ 1 ∧ o ≠ 2 ∧ o ≠ 3 := by
  refine ⟨?_, ?_, ?_⟩ <;> (intro e; subst e; exact absurd ho.1 (by decide))
set_option maxRecDepth 20000 in
set_option maxHeartbeats 1000000 in
theorem c_fly2 (b c : CC) (od : Int64 × UInt64) (o : Nat) (ho : KD o = 0 ∧ o < NN) (M : NA) (j nl : Nat) (hj : j < 6) (hF : RelF c o M j nl) (hW : WR c M) (hb : FF b c o) : WE mX0_flyAnHour 29 [(0, .ref o), (1, .ref 1)] [] (c, od) 0 0 (GQ mX0_flyAnHour (PV fun σ => ∃ c', σ = (c', od) ∧ FF b c' o ∧ RelF c' o (flT M j nl) j nl)) := by
  obtain ⟨o1, o2, o3⟩ := bal_ne ho
  refine WE.aload_n (n := 30) dX0_flyAnHour_29 rfl rfl ?_
  refine WE.V0I (M' := mX0_bears) (n := 33) dX0_flyAnHour_30 rfl cv_X0_63 (by first | decide | exact kd_bal (by assumption) | exact kd_let (by assumption) | assumption) ⟨⟨by decide, by decide⟩, by decide, by decide⟩ (Nat.le_of_ble_eq_true rfl) (c_bears _ _ o ho) ?_
  refine WE.istore_n (n := 34) dX0_flyAnHour_33 rfl (by decide) ?_
  refine WE.iload_n (n := 35) dX0_flyAnHour_34 rfl rfl ?_
  refine WE.if_ge (n := 38) (tgt := 63) dX0_flyAnHour_35 rfl (by decide) (fun h35 => ?_) (fun h35 => ?_)
  · skip
    rw [be_F hF] at h35
    obtain ⟨kk, hk5, hk⟩ := ht_of h35
    have eh : (if nI 5 < (c o 1 - wgB c o (nI 0)) / nI 4 then nI 5 else (c o 1 - wgB c o (nI 0)) / nI 4) = nI kk := by show mn _ _ = _; rw [be_F hF, mn_comm]; exact hk
    obtain ⟨w1, w2⟩ := hW.2 kk (by omega)
    have hG := ((hF.up hj (8, 10) (by decide) (nI kk)).up hj (9, 6) (by decide) (M (22 + 11 * j + 6) + M (10 + 2 * kk))).up hj (10, 7) (by decide) (M (22 + 11 * j + 7) + M (10 + 2 * kk + 1))
    have e2 : fl2 M j nl = upN (upN (upN M (22 + 11 * j + 10) (nI kk)) (22 + 11 * j + 6) (M (22 + 11 * j + 6) + M (10 + 2 * kk))) (22 + 11 * j + 7) (M (22 + 11 * j + 7) + M (10 + 2 * kk + 1)) := by unfold fl2; rw [hk, nI_clamp (show kk < 2 ^ 31 by omega)]
    refine WE.aload_n (n := 64) dX0_flyAnHour_63 rfl rfl ?_
    refine WE.iload_n (n := 65) dX0_flyAnHour_64 rfl rfl ?_
    refine WE.iconst (n := 66) (nI 4) dX0_flyAnHour_65 rfl (by decide) ?_
    refine WE.idiv (n := 67) dX0_flyAnHour_66 rfl (by decide) ?_
    refine WE.iconst (n := 68) (nI 5) dX0_flyAnHour_67 rfl (by decide) ?_
    refine WE.mmin (n := 71) dX0_flyAnHour_68 rfl ml_X0_76 ⟨by decide, Nat.le_of_ble_eq_true rfl, by decide, by decide⟩ ?_
    refine WE.putI (n := 74) dX0_flyAnHour_71 rfl fl_X0_42 ⟨by decide, by decide, rfl, rfl⟩ ⟨by first | rfl | decide, by first | rfl | decide⟩ (by first | decide | exact kd_bal (by assumption) | exact kd_let (by assumption) | assumption) ?_
    refine WE.aload_n (n := 75) dX0_flyAnHour_74 rfl rfl ?_
    refine WE.dup (n := 76) dX0_flyAnHour_75 rfl rfl ?_
    refine WE.getI (n := 79) dX0_flyAnHour_76 rfl fl_X0_9 ⟨by decide, by decide, rfl⟩ (by first | decide | exact kd_bal (by assumption) | exact kd_let (by assumption) | assumption) ?_
    refine WE.aload_n (n := 80) dX0_flyAnHour_79 rfl rfl ?_
    refine WE.getR (n := 83) dX0_flyAnHour_80 rfl fl_X0_81 ⟨by decide, by decide⟩ rfl (by first | decide | exact kd_bal (by assumption) | exact kd_let (by assumption) | assumption) ?_
    refine WE.aload_n (n := 84) dX0_flyAnHour_83 rfl rfl ?_
    refine WE.getI (n := 87) dX0_flyAnHour_84 rfl fl_X0_42 ⟨by decide, by decide, rfl⟩ (by first | decide | exact kd_bal (by assumption) | exact kd_let (by assumption) | assumption) ?_
    refine WE.iald (n := 88) kk dX0_flyAnHour_87 rfl (by first | decide | assumption) (by first | exact (u2_eq _ _ _ _).trans eh | (rw [u2_ne _ _ (by omega), u2_eq]; exact eh)) (by show _ < 6; omega) ?_
    refine WE.iadd (n := 89) dX0_flyAnHour_88 rfl ?_
    refine WE.putI (n := 92) dX0_flyAnHour_89 rfl fl_X0_9 ⟨by decide, by decide, rfl, rfl⟩ ⟨by first | rfl | decide, by first | rfl | decide⟩ (by first | decide | exact kd_bal (by assumption) | exact kd_let (by assumption) | assumption) ?_
    refine WE.aload_n (n := 93) dX0_flyAnHour_92 rfl rfl ?_
    refine WE.dup (n := 94) dX0_flyAnHour_93 rfl rfl ?_
    refine WE.getI (n := 97) dX0_flyAnHour_94 rfl fl_X0_15 ⟨by decide, by decide, rfl⟩ (by first | decide | exact kd_bal (by assumption) | exact kd_let (by assumption) | assumption) ?_
    refine WE.aload_n (n := 98) dX0_flyAnHour_97 rfl rfl ?_
    refine WE.getR (n := 101) dX0_flyAnHour_98 rfl fl_X0_85 ⟨by decide, by decide⟩ rfl (by first | decide | exact kd_bal (by assumption) | exact kd_let (by assumption) | assumption) ?_
    refine WE.aload_n (n := 102) dX0_flyAnHour_101 rfl rfl ?_
    refine WE.getI (n := 105) dX0_flyAnHour_102 rfl fl_X0_42 ⟨by decide, by decide, rfl⟩ (by first | decide | exact kd_bal (by assumption) | exact kd_let (by assumption) | assumption) ?_
    refine WE.iald (n := 106) kk dX0_flyAnHour_105 rfl (by first | decide | assumption) (by rw [u2_ne _ _ (by omega), u2_eq]; exact eh) (by show _ < 6; omega) ?_
    refine WE.iadd (n := 107) dX0_flyAnHour_106 rfl ?_
    refine WE.putI (n := 110) dX0_flyAnHour_107 rfl fl_X0_15 ⟨by decide, by decide, rfl, rfl⟩ ⟨by first | rfl | decide, by first | rfl | decide⟩ (by first | decide | exact kd_bal (by assumption) | exact kd_let (by assumption) | assumption) ?_
    obtain ⟨c2, hc2⟩ : ∃ c2, c2 = (u2 (u2 (u2 c o 8 (nI kk)) o 9 (M (22 + 11 * j + 6) + M (10 + 2 * kk))) o 10 (M (22 + 11 * j + 7) + M (10 + 2 * kk + 1))) := ⟨_, rfl⟩
    refine WE.ofS (σ' := (c2, od)) ?_ ?_
    · show (_, od) = (c2, od)
      rw [hc2]
      simp only [u2_eq, u2_ne _ _ (show ¬ (o = o ∧ (9 : Nat) = 8) by omega), u2_ne _ _ (show ¬ (o = o ∧ (10 : Nat) = 9) by omega), u2_ne _ _ (show ¬ (o = o ∧ (10 : Nat) = 8) by omega), u2_ne _ _ (show ¬ (2 = o ∧ kk = 8) by omega), u2_ne _ _ (show ¬ (3 = o ∧ kk = 8) by omega), u2_ne _ _ (show ¬ (3 = o ∧ kk = 9) by omega), eh, w1, w2, hF.1 (9, 6) (by decide), hF.1 (10, 7) (by decide)]
    · have hG2 : RelF c2 o (fl2 M j nl) j nl := by rw [e2, hc2]; exact hG
      have hff : FF b c2 o := fun a k h => by rw [hc2]; (repeat rw [u2_ne _ _ (by omega)]); exact hb a k h
      refine WE.aload_n (n := 111) dX0_flyAnHour_110 rfl rfl ?_
      refine WE.getI (n := 114) dX0_flyAnHour_111 rfl fl_X0_9 ⟨by decide, by decide, rfl⟩ (by first | decide | exact kd_bal (by assumption) | exact kd_let (by assumption) | assumption) ?_
      refine WE.aload_n (n := 115) dX0_flyAnHour_114 rfl rfl ?_
      refine WE.getI (n := 118) dX0_flyAnHour_115 rfl fl_X0_15 ⟨by decide, by decide, rfl⟩ (by first | decide | exact kd_bal (by assumption) | exact kd_let (by assumption) | assumption) ?_
      refine WE.N2I (M' := mX5_isOnMap) (n := 121) dX0_flyAnHour_118 rfl cv_X0_88  ⟨⟨by decide, by decide⟩, by decide, by decide⟩ (Nat.le_of_ble_eq_true rfl) (c_isOnMap _ _ _) ?_
      refine WE.if_neB (n := 124) (tgt := 129) dX0_flyAnHour_121 rfl (by decide) (fun h121 => ?_) (fun h121 => ?_)
      · skip
        refine WE.vret dX0_flyAnHour_129 rfl ⟨by decide, by decide⟩ ?_
        refine PV.mk ⟨_, rfl, hff, ?_⟩
        unfold flT
        rw [if_pos h35, if_pos (by rw [← hG2.1 (9, 6) (by decide)]; exact h121.1), if_pos (by rw [← hG2.1 (10, 7) (by decide)]; exact h121.2)]
        exact hG2
      · skip
        refine WE.aload_n (n := 125) dX0_flyAnHour_124 rfl rfl ?_
        refine WE.iconst (n := 126) (nI 3) dX0_flyAnHour_125 rfl (by decide) ?_
        refine WE.V1V (M' := mX0_end) (n := 129) dX0_flyAnHour_126 rfl cv_X0_72 (by first | decide | exact kd_bal (by assumption) | exact kd_let (by assumption) | assumption) ⟨⟨by decide, by decide⟩, by decide, by decide⟩ (Nat.le_of_ble_eq_true rfl) (c_end _ _ o ho _) ?_
        refine WE.vret dX0_flyAnHour_129 rfl ⟨by decide, by decide⟩ ?_
        refine PV.mk ⟨_, rfl, fun a k h => by rw [u2_ne _ _ (by omega), u2_ne _ _ (by omega)]; exact hff a k h, ?_⟩
        have hd := hG2.dn hj (st := nI 3) (by decide)
        unfold flT
        rw [if_pos h35]
        split
        · rename_i q1
          split
          · rename_i q2
            exact absurd ⟨(by rw [hG2.1 (9, 6) (by decide)]; exact q1), (by rw [hG2.1 (10, 7) (by decide)]; exact q2)⟩ h121
          · exact hd
        · exact hd
  · skip
    rw [be_F hF] at h35
    refine WE.aload_n (n := 39) dX0_flyAnHour_38 rfl rfl ?_
    refine WE.aload_n (n := 40) dX0_flyAnHour_39 rfl rfl ?_
    refine WE.aload_n (n := 41) dX0_flyAnHour_40 rfl rfl ?_
    refine WE.getI (n := 44) dX0_flyAnHour_41 rfl fl_X0_9 ⟨by decide, by decide, rfl⟩ (by first | decide | exact kd_bal (by assumption) | exact kd_let (by assumption) | assumption) ?_
    refine WE.aload_n (n := 45) dX0_flyAnHour_44 rfl rfl ?_
    refine WE.getI (n := 48) dX0_flyAnHour_45 rfl fl_X0_15 ⟨by decide, by decide, rfl⟩ (by first | decide | exact kd_bal (by assumption) | exact kd_let (by assumption) | assumption) ?_
    refine WE.V2I (M' := mX4_isInRing) (n := 51) dX0_flyAnHour_48 rfl cv_X0_66 (by first | decide | exact kd_bal (by assumption) | exact kd_let (by assumption) | assumption) ⟨⟨by decide, by decide⟩, by decide, by decide⟩ (Nat.le_of_ble_eq_true rfl) (c_isInRing _ _ _ _) ?_
    refine WE.if_eqB (n := 54) (tgt := 58) dX0_flyAnHour_51 rfl (by decide) (fun h51 => ?_) (fun h51 => ?_)
    · skip
      refine WE.iconst (n := 59) (nI 2) dX0_flyAnHour_58 rfl (by decide) ?_
      refine WE.V1V (M' := mX0_end) (n := 62) dX0_flyAnHour_59 rfl cv_X0_72 (by first | decide | exact kd_bal (by assumption) | exact kd_let (by assumption) | assumption) ⟨⟨by decide, by decide⟩, by decide, by decide⟩ (Nat.le_of_ble_eq_true rfl) (c_end _ _ o ho _) ?_
      refine WE.vret dX0_flyAnHour_62 rfl ⟨by decide, by decide⟩ ?_
      refine PV.mk ⟨_, rfl, (fun a k h => by (repeat rw [u2_ne _ _ (by omega)]); exact hb a k h), ?_⟩
      unfold flT
      rw [if_neg h35]
      rw [if_pos (by rw [← hW.1, ← hF.1 (9, 6) (by decide), ← hF.1 (10, 7) (by decide)]; first | exact Classical.not_not.mp h51 | exact h51)]
      exact hF.dn hj (by decide)
    · skip
      refine WE.iconst (n := 55) (nI 3) dX0_flyAnHour_54 rfl (by decide) ?_
      refine WE.goto (tgt := 59) dX0_flyAnHour_55 (by decide) ?_
      refine WE.V1V (M' := mX0_end) (n := 62) dX0_flyAnHour_59 rfl cv_X0_72 (by first | decide | exact kd_bal (by assumption) | exact kd_let (by assumption) | assumption) ⟨⟨by decide, by decide⟩, by decide, by decide⟩ (Nat.le_of_ble_eq_true rfl) (c_end _ _ o ho _) ?_
      refine WE.vret dX0_flyAnHour_62 rfl ⟨by decide, by decide⟩ ?_
      refine PV.mk ⟨_, rfl, (fun a k h => by (repeat rw [u2_ne _ _ (by omega)]); exact hb a k h), ?_⟩
      unfold flT
      rw [if_neg h35]
      rw [if_neg (by rw [← hW.1, ← hF.1 (9, 6) (by decide), ← hF.1 (10, 7) (by decide)]; first | exact h51 | exact not_not.mpr h51 | exact fun q => h51 q)]
      exact hF.dn hj (by decide)
set_option maxRecDepth 20000 in
set_option maxHeartbeats 1000000 in
theorem c_flyAnHour (c : CC) (od : Int64 × UInt64) (o : Nat) (ho : KD o = 0 ∧ o < NN) (N : NA) (j nl : Nat) (hj : j < 6) (hF : RelF c o N j nl) (hW : WR c N) : CM mX0_flyAnHour [.ref o, .ref 1] (c, od) (PV fun σ => ∃ c', σ = (c', od) ∧ FF c c' o ∧ RelF c' o (flN N j nl) j nl) := by
  refine CM.of [(0, .ref o), (1, .ref 1)] rfl (by decide +kernel) rfl (Nat.le_of_ble_eq_true rfl) ?_
  obtain ⟨o1, o2, o3⟩ := bal_ne ho
  refine WE.aload_n (n := 1) dX0_flyAnHour_0 rfl rfl ?_
  refine WE.dup (n := 2) dX0_flyAnHour_1 rfl rfl ?_
  refine WE.getI (n := 5) dX0_flyAnHour_2 rfl fl_X0_45 ⟨by decide, by decide, rfl⟩ (by first | decide | exact kd_bal (by assumption) | exact kd_let (by assumption) | assumption) ?_
  refine WE.iconst (n := 6) (nI 1) dX0_flyAnHour_5 rfl (by decide) ?_
  refine WE.iadd (n := 7) dX0_flyAnHour_6 rfl ?_
  refine WE.putI (n := 10) dX0_flyAnHour_7 rfl fl_X0_45 ⟨by decide, by decide, rfl, rfl⟩ ⟨by first | rfl | decide, by first | rfl | decide⟩ (by first | decide | exact kd_bal (by assumption) | exact kd_let (by assumption) | assumption) ?_
  refine WE.aload_n (n := 11) dX0_flyAnHour_10 rfl rfl ?_
  refine WE.dup (n := 12) dX0_flyAnHour_11 rfl rfl ?_
  refine WE.getI (n := 15) dX0_flyAnHour_12 rfl fl_X0_21 ⟨by decide, by decide, rfl⟩ (by first | decide | exact kd_bal (by assumption) | exact kd_let (by assumption) | assumption) ?_
  refine WE.aload_n (n := 16) dX0_flyAnHour_15 rfl rfl ?_
  refine WE.getI (n := 19) dX0_flyAnHour_16 rfl fl_X0_21 ⟨by decide, by decide, rfl⟩ (by first | decide | exact kd_bal (by assumption) | exact kd_let (by assumption) | assumption) ?_
  refine WE.bipush (n := 21) (nI 19) dX0_flyAnHour_19 rfl (by decide) ?_
  refine WE.iadd (n := 22) dX0_flyAnHour_21 rfl ?_
  refine WE.bipush (n := 24) (nI 20) dX0_flyAnHour_22 rfl (by decide) ?_
  refine WE.idiv (n := 25) dX0_flyAnHour_24 rfl (by decide) ?_
  refine WE.isub (n := 26) dX0_flyAnHour_25 rfl ?_
  refine WE.putI (n := 29) dX0_flyAnHour_26 rfl fl_X0_21 ⟨by decide, by decide, rfl, rfl⟩ ⟨by first | rfl | decide, by first | rfl | decide⟩ (by first | decide | exact kd_bal (by assumption) | exact kd_let (by assumption) | assumption) ?_
  refine WE.ofA (L' := [(0, .ref o), (1, .ref 1)]) ⟨rfl, rfl, trivial⟩ (WE.ofS (σ' := ((u2 (u2 c o 11 (c o 11 + nI 1)) o 1 (c o 1 - (c o 1 + nI 19) / nI 20)), od)) ?_ ?_)
  · simp only [u2_ne _ _ (show ¬ (o = o ∧ (1 : Nat) = 11) by omega)]
  · refine c_fly2 c _ od o ho (fl1 N j) j nl hj ?_ ?_ ?_
    · have h1 := ((hF.up hj (1, 1) (by decide) (N (22 + 11 * j + 1) - lkN N j)).up hj (11, 8) (by decide) (N (22 + 11 * j + 8) + nI 1)).skip (k := 9) (Or.inl (by decide)) (N 9 + lkN N j)
      rw [u2_comm _ _ _ (by omega)]
      have e1 : c o 1 = N (22 + 11 * j + 1) := hF.1 (1, 1) (by decide)
      have e11 : c o 11 = N (22 + 11 * j + 8) := hF.1 (11, 8) (by decide)
      rw [e1, e11]
      exact h1
    · refine ⟨?_, fun h hh => ?_⟩
      · rw [u2_ne _ _ (by omega), u2_ne _ _ (by omega), fl1_lo _ _ (by decide) (by decide)]
        exact hW.1
      · rw [u2_ne _ _ (by omega), u2_ne _ _ (by omega), u2_ne _ _ (by omega), u2_ne _ _ (by omega), fl1_lo _ _ (by omega) (by omega), fl1_lo _ _ (by omega) (by omega)]
        exact hW.2 h hh
    · exact fun a k h => by rw [u2_ne _ _ (by omega), u2_ne _ _ (by omega)]
theorem fl2_o (M : NA) (j nl : Nat) {k : Nat} (h : k ≠ 22 + 11 * j + 6) (h7 : k ≠ 22 + 11 * j + 7) (h10 : k ≠ 22 + 11 * j + 10) : fl2 M j nl k = M k := by
  unfold fl2
  rw [upN_ne _ _ _ h7, upN_ne _ _ _ h, upN_ne _ _ _ h10]
theorem fl1_o (M : NA) (j : Nat) {k : Nat} (h : k ≠ 22 + 11 * j + 1) (h8 : k ≠ 22 + 11 * j + 8) (h9 : k ≠ 9) : fl1 M j k = M k := by
  unfold fl1
  rw [upN_ne _ _ _ h9, upN_ne _ _ _ h8, upN_ne _ _ _ h]
theorem dnN_o (M : NA) (j : Nat) (st : Int32) (nl : Nat) {k : Nat} (h5 : k ≠ 22 + 11 * j + 5) (h9 : k ≠ 22 + 11 * j + 9) (h10 : k ≠ 22 + 11 * j + 10) (h7 : k ≠ 7) (h8 : k ≠ 8) (hl : ∀ l, l < nl → k ≠ 88 + 4 * l + 2) : dnN M j st nl k = M k := by
  unfold dnN
  rw [dnL_o _ _ _ _ hl]
  split
  · rw [upN_ne _ _ _ h7, upN_ne _ _ _ h10, upN_ne _ _ _ h9, upN_ne _ _ _ h5]
  · rw [upN_ne _ _ _ h8, upN_ne _ _ _ h10, upN_ne _ _ _ h9, upN_ne _ _ _ h5]
theorem dnN_5 (M : NA) {j : Nat} (hj : j < 6) (st : Int32) (nl : Nat) : dnN M j st nl (22 + 11 * j + 5) = st := by
  unfold dnN
  rw [dnL_o _ _ _ _ (fun l _ => by omega)]
  split
  · rw [upN_ne _ _ _ (by omega), upN_ne _ _ _ (by omega), upN_ne _ _ _ (by omega), upN_eq]
  · rw [upN_ne _ _ _ (by omega), upN_ne _ _ _ (by omega), upN_ne _ _ _ (by omega), upN_eq]
theorem dnN_9 (M : NA) {j : Nat} (hj : j < 6) (st : Int32) (nl : Nat) : dnN M j st nl (22 + 11 * j + 9) = M 0 := by
  unfold dnN
  rw [dnL_o _ _ _ _ (fun l _ => by omega)]
  split
  · rw [upN_ne _ _ _ (by omega), upN_ne _ _ _ (by omega), upN_eq]
  · rw [upN_ne _ _ _ (by omega), upN_ne _ _ _ (by omega), upN_eq]
theorem dnN_7 (M : NA) {j : Nat} (st : Int32) (nl : Nat) : dnN M j st nl 7 = if st = nI 2 then M 7 + M (22 + 11 * j + 2) else M 7 := by
  unfold dnN
  rw [dnL_o _ _ _ _ (fun l _ => by omega)]
  split
  · rw [upN_eq, upN_ne _ _ _ (by omega), upN_ne _ _ _ (by omega), upN_ne _ _ _ (by omega)]
  · rw [upN_ne _ _ _ (by omega), upN_ne _ _ _ (by omega), upN_ne _ _ _ (by omega), upN_ne _ _ _ (by omega)]
theorem dnN_8 (M : NA) {j : Nat} (st : Int32) (nl : Nat) : dnN M j st nl 8 = if st = nI 2 then M 8 else M 8 + M (22 + 11 * j + 2) := by
  unfold dnN
  rw [dnL_o _ _ _ _ (fun l _ => by omega)]
  split
  · rw [upN_ne _ _ _ (by omega), upN_ne _ _ _ (by omega), upN_ne _ _ _ (by omega), upN_ne _ _ _ (by omega)]
  · rw [upN_eq, upN_ne _ _ _ (by omega), upN_ne _ _ _ (by omega), upN_ne _ _ _ (by omega)]
/-- the three ends of an hour's flight: aloft still, or down -/
theorem fl_cases (N : NA) (j nl : Nat) : (∃ X, flN N j nl = X ∧ (∀ k, k ≠ 9 → ¬ (22 + 11 * j ≤ k ∧ k < 22 + 11 * j + 11) → X k = N k) ∧ X 9 = N 9 + lkN N j ∧ (∀ w, w < 11 → w ≠ 1 → w ≠ 6 → w ≠ 7 → w ≠ 8 → w ≠ 10 → X (22 + 11 * j + w) = N (22 + 11 * j + w)) ∧ X (22 + 11 * j + 1) = N (22 + 11 * j + 1) - lkN N j ∧ X (22 + 11 * j + 8) = N (22 + 11 * j + 8) + nI 1) ∨
    (∃ X st, (st = nI 2 ∨ st = nI 3) ∧ flN N j nl = dnN X j st nl ∧ (∀ k, k ≠ 9 → ¬ (22 + 11 * j ≤ k ∧ k < 22 + 11 * j + 11) → X k = N k) ∧ X 9 = N 9 + lkN N j ∧ (∀ w, w < 11 → w ≠ 1 → w ≠ 6 → w ≠ 7 → w ≠ 8 → w ≠ 10 → X (22 + 11 * j + w) = N (22 + 11 * j + w)) ∧ X (22 + 11 * j + 1) = N (22 + 11 * j + 1) - lkN N j ∧ X (22 + 11 * j + 8) = N (22 + 11 * j + 8) + nI 1) := by
  have h1 : ∀ k, k ≠ 9 → ¬ (22 + 11 * j ≤ k ∧ k < 22 + 11 * j + 11) → fl1 N j k = N k := fun k h9 h => fl1_o N j (by omega) (by omega) h9
  have h2 : fl1 N j 9 = N 9 + lkN N j := by unfold fl1; rw [upN_eq]
  have h3 : ∀ w, w < 11 → w ≠ 1 → w ≠ 8 → fl1 N j (22 + 11 * j + w) = N (22 + 11 * j + w) := fun w hw h1 h8 => fl1_o N j (by omega) (by omega) (by omega)
  have h4 : fl1 N j (22 + 11 * j + 1) = N (22 + 11 * j + 1) - lkN N j := by unfold fl1; rw [upN_ne _ _ _ (by omega), upN_ne _ _ _ (by omega), upN_eq]
  have h5 : fl1 N j (22 + 11 * j + 8) = N (22 + 11 * j + 8) + nI 1 := by unfold fl1; rw [upN_ne _ _ _ (by omega), upN_eq]
  have g1 : ∀ k, k ≠ 9 → ¬ (22 + 11 * j ≤ k ∧ k < 22 + 11 * j + 11) → fl2 (fl1 N j) j nl k = N k := fun k h9 h => by rw [fl2_o _ _ _ (by omega) (by omega) (by omega), h1 k h9 h]
  have g2 : fl2 (fl1 N j) j nl 9 = N 9 + lkN N j := by rw [fl2_o _ _ _ (by omega) (by omega) (by omega), h2]
  have g3 : ∀ w, w < 11 → w ≠ 1 → w ≠ 6 → w ≠ 7 → w ≠ 8 → w ≠ 10 → fl2 (fl1 N j) j nl (22 + 11 * j + w) = N (22 + 11 * j + w) := fun w hw q1 q6 q7 q8 q10 => by rw [fl2_o _ _ _ (by omega) (by omega) (by omega), h3 w hw q1 q8]
  have g4 : fl2 (fl1 N j) j nl (22 + 11 * j + 1) = N (22 + 11 * j + 1) - lkN N j := by rw [fl2_o _ _ _ (by omega) (by omega) (by omega), h4]
  have g5 : fl2 (fl1 N j) j nl (22 + 11 * j + 8) = N (22 + 11 * j + 8) + nI 1 := by rw [fl2_o _ _ _ (by omega) (by omega) (by omega), h5]
  have hd : ∀ st, st = nI 2 ∨ st = nI 3 → flN N j nl = dnN (fl2 (fl1 N j) j nl) j st nl → ∃ X st, (st = nI 2 ∨ st = nI 3) ∧ flN N j nl = dnN X j st nl ∧ (∀ k, k ≠ 9 → ¬ (22 + 11 * j ≤ k ∧ k < 22 + 11 * j + 11) → X k = N k) ∧ X 9 = N 9 + lkN N j ∧ (∀ w, w < 11 → w ≠ 1 → w ≠ 6 → w ≠ 7 → w ≠ 8 → w ≠ 10 → X (22 + 11 * j + w) = N (22 + 11 * j + w)) ∧ X (22 + 11 * j + 1) = N (22 + 11 * j + 1) - lkN N j ∧ X (22 + 11 * j + 8) = N (22 + 11 * j + 8) + nI 1 := fun st hs e => ⟨_, st, hs, e, g1, g2, g3, g4, g5⟩
  by_cases c1 : 0 ≤ beN (fl1 N j) j nl
  · by_cases c2 : nI 0 ≤ fl2 (fl1 N j) j nl (22 + 11 * j + 6) ∧ fl2 (fl1 N j) j nl (22 + 11 * j + 6) ≤ nI 39
    · by_cases c3 : nI 0 ≤ fl2 (fl1 N j) j nl (22 + 11 * j + 7) ∧ fl2 (fl1 N j) j nl (22 + 11 * j + 7) ≤ nI 39
      · exact Or.inl ⟨fl2 (fl1 N j) j nl, by unfold flN; rw [if_pos c1, if_pos c2, if_pos c3], g1, g2, g3, g4, g5⟩
      · exact Or.inr (hd (nI 3) (Or.inr rfl) (by unfold flN; rw [if_pos c1, if_pos c2, if_neg c3]))
    · exact Or.inr (hd (nI 3) (Or.inr rfl) (by unfold flN; rw [if_pos c1, if_neg c2]))
  · refine Or.inr ⟨fl1 N j, _, ?_, by unfold flN; rw [if_neg c1], h1, h2, fun w hw q1 q6 q7 q8 q10 => h3 w hw q1 q8, h4, h5⟩
    split
    · exact Or.inl rfl
    · exact Or.inr rfl
/-- what of the numbers a flight changes -/
def FlR (N M : NA) (j nl : Nat) : Prop :=
  (∀ k, k < 22 → k ≠ 7 → k ≠ 8 → k ≠ 9 → M k = N k) ∧
  (M 9 = N 9 + lkN N j) ∧
  (M (22 + 11 * j + 1) = N (22 + 11 * j + 1) - lkN N j) ∧
  (M (22 + 11 * j + 8) = N (22 + 11 * j + 8) + nI 1) ∧
  (∀ i, i ≠ j → ∀ w, w < 11 → i < 6 → M (22 + 11 * i + w) = N (22 + 11 * i + w)) ∧
  (∀ w, w < 11 → (w = 0 ∨ w = 2 ∨ w = 3 ∨ w = 4) → M (22 + 11 * j + w) = N (22 + 11 * j + w)) ∧
  (∀ l w, w < 4 → w ≠ 2 → M (88 + 4 * l + w) = N (88 + 4 * l + w)) ∧
  (∀ b n, shN M b n = shN N b n) ∧
  (∀ b n, lcN M b n = lcN N b n) ∧
  ((M (22 + 11 * j + 5) = N (22 + 11 * j + 5) ∧ M 7 = N 7 ∧ M 8 = N 8 ∧ ∀ l, M (88 + 4 * l + 2) = N (88 + 4 * l + 2)) ∨
    (M (22 + 11 * j + 5) = nI 2 ∧ M 7 = N 7 + N (22 + 11 * j + 2) ∧ M 8 = N 8 ∧ M (22 + 11 * j + 9) = N 0 ∧ ∀ l, l < nl → M (88 + 4 * l + 2) = if N (88 + 4 * l + 2) = nI 1 ∧ N (88 + 4 * l + 3) = nI j then nI 2 else N (88 + 4 * l + 2)) ∨
    (M (22 + 11 * j + 5) = nI 3 ∧ M 7 = N 7 ∧ M 8 = N 8 + N (22 + 11 * j + 2) ∧ ∀ l, l < nl → M (88 + 4 * l + 2) = if N (88 + 4 * l + 2) = nI 1 ∧ N (88 + 4 * l + 3) = nI j then nI 3 else N (88 + 4 * l + 2)))
theorem FlR.rest {N M : NA} {j nl : Nat} (h : FlR N M j nl) : ∀ k, k < 22 → k ≠ 7 → k ≠ 8 → k ≠ 9 → M k = N k := h.1
theorem FlR.leak {N M : NA} {j nl : Nat} (h : FlR N M j nl) : M 9 = N 9 + lkN N j := h.2.1
theorem FlR.gas {N M : NA} {j nl : Nat} (h : FlR N M j nl) : M (22 + 11 * j + 1) = N (22 + 11 * j + 1) - lkN N j := h.2.2.1
theorem FlR.flew {N M : NA} {j nl : Nat} (h : FlR N M j nl) : M (22 + 11 * j + 8) = N (22 + 11 * j + 8) + nI 1 := h.2.2.2.1
theorem FlR.rows {N M : NA} {j nl : Nat} (h : FlR N M j nl) : ∀ i, i ≠ j → ∀ w, w < 11 → i < 6 → M (22 + 11 * i + w) = N (22 + 11 * i + w) := h.2.2.2.2.1
theorem FlR.own {N M : NA} {j nl : Nat} (h : FlR N M j nl) : ∀ w, w < 11 → (w = 0 ∨ w = 2 ∨ w = 3 ∨ w = 4) → M (22 + 11 * j + w) = N (22 + 11 * j + w) := h.2.2.2.2.2.1
theorem FlR.lets {N M : NA} {j nl : Nat} (h : FlR N M j nl) : ∀ l w, w < 4 → w ≠ 2 → M (88 + 4 * l + w) = N (88 + 4 * l + w) := h.2.2.2.2.2.2.1
theorem FlR.sh {N M : NA} {j nl : Nat} (h : FlR N M j nl) : ∀ b n, shN M b n = shN N b n := h.2.2.2.2.2.2.2.1
theorem FlR.lc {N M : NA} {j nl : Nat} (h : FlR N M j nl) : ∀ b n, lcN M b n = lcN N b n := h.2.2.2.2.2.2.2.2.1
theorem FlR.st {N M : NA} {j nl : Nat} (h : FlR N M j nl) : (M (22 + 11 * j + 5) = N (22 + 11 * j + 5) ∧ M 7 = N 7 ∧ M 8 = N 8 ∧ ∀ l, M (88 + 4 * l + 2) = N (88 + 4 * l + 2)) ∨
    (M (22 + 11 * j + 5) = nI 2 ∧ M 7 = N 7 + N (22 + 11 * j + 2) ∧ M 8 = N 8 ∧ M (22 + 11 * j + 9) = N 0 ∧ ∀ l, l < nl → M (88 + 4 * l + 2) = if N (88 + 4 * l + 2) = nI 1 ∧ N (88 + 4 * l + 3) = nI j then nI 2 else N (88 + 4 * l + 2)) ∨
    (M (22 + 11 * j + 5) = nI 3 ∧ M 7 = N 7 ∧ M 8 = N 8 + N (22 + 11 * j + 2) ∧ ∀ l, l < nl → M (88 + 4 * l + 2) = if N (88 + 4 * l + 2) = nI 1 ∧ N (88 + 4 * l + 3) = nI j then nI 3 else N (88 + 4 * l + 2)) := h.2.2.2.2.2.2.2.2.2
theorem shN_dnN (X : NA) (j : Nat) (hj : j < 6) {st : Int32} (hst : 0 < st) (nl : Nat) (b : Int32) (n : Nat) : shN (dnN X j st nl) b n = shN X b n := by
  unfold dnN
  rw [shN_dnL _ hst]
  split <;> exact shN_congr _ _ (fun k q1 q2 => by rw [upN_ne _ _ _ (by omega), upN_ne _ _ _ (by omega), upN_ne _ _ _ (by omega), upN_ne _ _ _ (by omega)])
theorem lcN_dnN (X : NA) (j : Nat) (hj : j < 6) {st : Int32} (hst : 0 < st) (nl : Nat) (b : Int32) (n : Nat) : lcN (dnN X j st nl) b n = lcN X b n := by
  unfold dnN
  rw [lcN_dnL _ hst]
  split <;> exact lcN_congr _ _ (fun k q1 q2 => by rw [upN_ne _ _ _ (by omega), upN_ne _ _ _ (by omega), upN_ne _ _ _ (by omega), upN_ne _ _ _ (by omega)])
theorem dnN_2 (M : NA) {j : Nat} (hj : j < 6) (st : Int32) (nl l : Nat) (hl : l < nl) : dnN M j st nl (88 + 4 * l + 2) = if M (88 + 4 * l + 2) = nI 1 ∧ M (88 + 4 * l + 3) = nI j then st else M (88 + 4 * l + 2) := by
  have e : ∀ (k : Nat), 88 ≤ k → (if st = nI 2 then upN (upN (upN (upN M (22 + 11 * j + 5) st) (22 + 11 * j + 9) (M 0)) (22 + 11 * j + 10) (nI 0)) 7 (upN (upN (upN M (22 + 11 * j + 5) st) (22 + 11 * j + 9) (M 0)) (22 + 11 * j + 10) (nI 0) 7 + M (22 + 11 * j + 2)) else upN (upN (upN (upN M (22 + 11 * j + 5) st) (22 + 11 * j + 9) (M 0)) (22 + 11 * j + 10) (nI 0)) 8 (upN (upN (upN M (22 + 11 * j + 5) st) (22 + 11 * j + 9) (M 0)) (22 + 11 * j + 10) (nI 0) 8 + M (22 + 11 * j + 2))) k = M k := fun k hk => by
    split <;> rw [upN_ne _ _ _ (by omega), upN_ne _ _ _ (by omega), upN_ne _ _ _ (by omega), upN_ne _ _ _ (by omega)]
  unfold dnN
  rw [dnL_2]
  simp only [e (88 + 4 * l + 2) (by omega), e (88 + 4 * l + 3) (by omega), hl, true_and]
theorem fl_R (N : NA) {j : Nat} (hj : j < 6) (nl : Nat) : FlR N (flN N j nl) j nl := by
  have sc : ∀ X : NA, (∀ k, k ≠ 9 → ¬ (22 + 11 * j ≤ k ∧ k < 22 + 11 * j + 11) → X k = N k) → (∀ b n, shN X b n = shN N b n) ∧ (∀ b n, lcN X b n = lcN N b n) := fun X h => ⟨fun b n => shN_congr _ _ (fun k q1 q2 => h k (by omega) (by omega)), fun b n => lcN_congr _ _ (fun k q1 q2 => h k (by omega) (by omega))⟩
  rcases fl_cases N j nl with ⟨X, e, x1, x2, x3, x4, x5⟩ | ⟨X, st, hs, e, x1, x2, x3, x4, x5⟩
  · rw [e]
    exact ⟨fun k h h7 h8 h9 => x1 k h9 (by omega), x2, x4, x5, fun i hi w hw hi6 => x1 _ (by omega) (by omega), fun w hw h => x3 w hw (by omega) (by omega) (by omega) (by omega) (by omega), fun l w hw h2 => x1 _ (by omega) (by omega), (sc X x1).1, (sc X x1).2, Or.inl ⟨x3 5 (by decide) (by decide) (by decide) (by decide) (by decide) (by decide), x1 7 (by decide) (by omega), x1 8 (by decide) (by omega), fun l => x1 _ (by omega) (by omega)⟩⟩
  · rw [e]
    have hst : 0 < st := by rcases hs with rfl | rfl <;> decide
    have e2 : ∀ l, l < nl → dnN X j st nl (88 + 4 * l + 2) = if N (88 + 4 * l + 2) = nI 1 ∧ N (88 + 4 * l + 3) = nI j then st else N (88 + 4 * l + 2) := fun l hl => by rw [dnN_2 X hj st nl l hl, x1 (88 + 4 * l + 2) (by omega) (by omega), x1 (88 + 4 * l + 3) (by omega) (by omega)]
    refine ⟨fun k h h7 h8 h9 => ?_, ?_, ?_, ?_, fun i hi w hw hi6 => ?_, fun w hw h => ?_, fun l w hw h2 => ?_, fun b n => ?_, fun b n => ?_, ?_⟩
    · rw [dnN_o _ _ _ _ (by omega) (by omega) (by omega) h7 h8 (fun l _ => by omega)]
      exact x1 k h9 (by omega)
    · rw [dnN_o _ _ _ _ (by omega) (by omega) (by omega) (by omega) (by omega) (fun l _ => by omega), x2]
    · rw [dnN_o _ _ _ _ (by omega) (by omega) (by omega) (by omega) (by omega) (fun l _ => by omega), x4]
    · rw [dnN_o _ _ _ _ (by omega) (by omega) (by omega) (by omega) (by omega) (fun l _ => by omega), x5]
    · rw [dnN_o _ _ _ _ (by omega) (by omega) (by omega) (by omega) (by omega) (fun l _ => by omega)]
      exact x1 _ (by omega) (by omega)
    · rw [dnN_o _ _ _ _ (by omega) (by omega) (by omega) (by omega) (by omega) (fun l _ => by omega)]
      exact x3 w hw (by omega) (by omega) (by omega) (by omega) (by omega)
    · rw [dnN_o _ _ _ _ (by omega) (by omega) (by omega) (by omega) (by omega) (fun l2 _ => by omega)]
      exact x1 _ (by omega) (by omega)
    · rw [shN_dnN X j hj hst, (sc X x1).1]
    · rw [lcN_dnN X j hj hst, (sc X x1).2]
    · have y7 := x1 7 (by decide) (by omega)
      have y8 := x1 8 (by decide) (by omega)
      have y0 := x1 0 (by decide) (by omega)
      have y2 := x3 2 (by decide) (by decide) (by decide) (by decide) (by decide) (by decide)
      rcases hs with rfl | rfl
      · refine Or.inr (Or.inl ⟨dnN_5 X hj _ nl, ?_, ?_, ?_, e2⟩)
        · rw [dnN_7, if_pos rfl, y7, y2]
        · rw [dnN_8, if_pos rfl, y8]
        · rw [dnN_9 X hj, y0]
      · refine Or.inr (Or.inr ⟨dnN_5 X hj _ nl, ?_, ?_, e2⟩)
        · rw [dnN_7, if_neg (by decide), y7]
        · rw [dnN_8, if_neg (by decide), y8, y2]
