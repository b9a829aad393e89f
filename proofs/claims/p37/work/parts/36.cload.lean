theorem be_ge {f w : Nat} (hf : f < 2 ^ 30) (hw : w < 2 ^ 30) : (0 ≤ nI f - nI w ↔ w ≤ f) := by
  rw [Int32.le_iff_toInt_le, pk_sub_toInt hf hw]
  have : ((0 : Int32)).toInt = 0 := by decide
  omega
/-- the test of the class, and that of the reference behind the loading -/
theorem lw_test {c : CC} {M : NA} {l j : Nat} (hR : RelT c 1 M) (hI : IN M) (hl : l < nlN M) (hj : j < nbN M) (hw : M (88 + 4 * l + 2) = 0) (h5 : M (22 + 11 * j + 5) = 0) : (c (6 + j) 1 < wgB c (6 + j) (c (12 + l) 0)) ↔ ¬ 0 ≤ beN (ldN M l (nI j)) j (nlN M) := by
  have hn := hI.cn.1
  have hI2 := hI.ld hl hj h5
  obtain ⟨w, hw1, hw2, ew⟩ := wg_le hI2 (j := j) (by rw [ld_nb]; exact hj)
  rw [ld_nl] at ew
  obtain ⟨⟨s, f, hs1, hs2, hf, es, ef⟩, _, _, _⟩ := hI.b hj
  have e1 : c (6 + j) 1 = nI f := (hR.b hj (1, 1) (by decide)).trans ef
  have e2 : wgB c (6 + j) (c (12 + l) 0) = nI w := by
    rw [← ew]
    unfold wgB wgN
    rw [show c (6 + j) 0 = M (22 + 11 * j + 0) from hR.b hj (0, 0) (by decide), show c (6 + j) 2 = M (22 + 11 * j + 2) from hR.b hj (2, 2) (by decide), show c (6 + j) 4 = M (22 + 11 * j + 4) from hR.b hj (4, 4) (by decide), hR.b6 hj, (hR.l hl).1, shN_ld _ hw, if_pos hl, ldN_o _ _ _ (by omega) (by omega), ldN_o _ _ _ (by omega) (by omega), ldN_o _ _ _ (by omega) (by omega)]
  unfold beN
  rw [e1, e2, ew, ldN_o _ _ _ (by omega) (by omega), ef, be_ge (by omega) (by omega), nI_ltI (by omega) (by omega)]
  omega
/-- where the loading stands: M, k loaded so far, the letters that are still to come -/
def LW (c0 c : CC) (N M : NA) (j k : Nat) (rest : List Nat) : Prop :=
  RelT c 1 M ∧ FX c0 c ∧ IN M ∧ nbN M = nbN N ∧ nlN M = nlN N ∧ M (22 + 11 * j + 5) = 0 ∧
  laF j (nlN N) N (WL N (nlN N)) = ((laF j (nlN N) M rest).1, k + (laF j (nlN N) M rest).2) ∧ k + rest.length ≤ 100 ∧
  (∀ l, M (88 + 4 * l + 2) = 0 → N (88 + 4 * l + 2) = 0) ∧ (∀ l, M (88 + 4 * l + 1) = N (88 + 4 * l + 1)) ∧ rest.Nodup ∧ ∀ l, l ∈ rest → M (88 + 4 * l + 2) = 0
theorem LW.load {c0 c : CC} {N M : NA} {j k l : Nat} {rest : List Nat} (h : LW c0 c N M j k (l :: rest)) (hl : l < nlN N) (hj : j < nbN N) (ht : ¬ c (6 + j) 1 < wgB c (6 + j) (c (12 + l) 0)) : LW c0 (putS c l j) N (ldN M l (nI j)) j (k + 1) rest := by
  obtain ⟨h1, h2, h3, h4, h5, h6, h7, h8, h9, h10, h11, h12⟩ := h
  have hw := h12 l List.mem_cons_self
  have hn := h3.cn.1
  rw [lw_test h1 h3 (by omega) (by omega) hw h6, h5] at ht
  have ht := Classical.not_not.mp ht
  have hl2 : l < nlN M := by omega
  have hj2 : j < nbN M := by omega
  refine ⟨h1.load h3.cn.1 h3.cn.2.2.1 hl2 hj2 hw (by rw [h6]; decide), fun a q hq => ?_, h3.ld hl2 hj2 h6, (ld_nb _ _ _).trans h4, (ld_nl _ _ _).trans h5, ?_, ?_, ?_, fun x hx => ?_, fun x => ?_, (List.nodup_cons.mp h11).2, fun x hx => ?_⟩
  · unfold putS
    rw [u2_ne _ _ (by have := h3.cn.2.2.1; omega), u2_ne _ _ (by omega), u2_ne _ _ (by have := h3.cn.2.2.1; omega)]
    exact h2 a q hq
  · rw [ldN_o _ _ _ (by omega) (by omega)]
    exact h6
  · rw [h7]
    simp only [laF, if_pos ht]
    rw [Nat.add_assoc, Nat.add_comm 1]
  · simp only [List.length_cons] at h8
    omega
  · by_cases e : x = l
    · subst e
      rw [ldN_2] at hx
      exact absurd hx (by decide)
    · rw [ldN_o _ _ _ (by omega) (by omega)] at hx
      exact h9 x hx
  · rw [ldN_o _ _ _ (by omega) (by omega)]
    exact h10 x
  · have hne : x ≠ l := fun e => (List.nodup_cons.mp h11).1 (e ▸ hx)
    rw [ldN_o _ _ _ (by omega) (by omega)]
    exact h12 x (List.mem_cons_of_mem _ hx)
theorem LW.skip {c0 c : CC} {N M : NA} {j k l : Nat} {rest : List Nat} (h : LW c0 c N M j k (l :: rest)) (hl : l < nlN N) (hj : j < nbN N) (ht : c (6 + j) 1 < wgB c (6 + j) (c (12 + l) 0)) : LW c0 c N M j k rest := by
  obtain ⟨h1, h2, h3, h4, h5, h6, h7, h8, h9, h10, h11, h12⟩ := h
  have hw := h12 l List.mem_cons_self
  have hn := h3.cn.1
  rw [lw_test h1 h3 (by omega) (by omega) hw h6, h5] at ht
  refine ⟨h1, h2, h3, h4, h5, h6, ?_, ?_, h9, h10, (List.nodup_cons.mp h11).2, fun x hx => h12 x (List.mem_cons_of_mem _ hx)⟩
  · rw [h7]
    simp only [laF, if_neg ht]
  · simp only [List.length_cons] at h8
    omega
/-- whether letter i is the next of rank r, as the class sees it -/
theorem LW.see {c0 c : CC} {N M : NA} {j k r i : Nat} {t post : List Nat} (h : LW c0 c N M j k (t ++ post)) (hi : i < nlN N) (hF : FL N r (nlN N) = FL N r i ++ t) : (c (12 + i) 2 = (-1 : Int32) ∧ c (12 + i) 1 = nI r) ↔ ∃ t', t = i :: t' ∧ FL N r (nlN N) = FL N r (i + 1) ++ t' := by
  obtain ⟨h1, h2, h3, h4, h5, h6, h7, h8, h9, h10, h11, h12⟩ := h
  have hi2 : i < nlN M := by omega
  have gl := h1.l hi2
  have hf : M (88 + 4 * i + 2) = 0 ↔ M (88 + 4 * i + 3) = (-1 : Int32) := (h3.l hi2).2.2.f h3.cn
  rw [gl.2.2, gl.2.1, h10, ← hf]
  constructor
  · rintro ⟨q1, q2⟩
    obtain ⟨t', ht'⟩ := FL_split N r (i + 1) (nlN N) hi
    have e := FL_t ⟨h9 i q1, q2⟩
    refine ⟨t', ?_, ht'⟩
    rw [ht', e, List.append_assoc] at hF
    exact (List.append_cancel_left hF).symm
  · rintro ⟨t', rfl, ht'⟩
    have hm := h12 i (by simp)
    refine ⟨hm, ?_⟩
    have hmem : i ∈ FL N r (nlN N) := by rw [hF]; simp
    exact (FL_mem.mp hmem).2.2
theorem FL_no {N : NA} {r i : Nat} {t : List Nat} (hi : i < nlN N) (hF : FL N r (nlN N) = FL N r i ++ t) (h : ¬ ∃ t', t = i :: t' ∧ FL N r (nlN N) = FL N r (i + 1) ++ t') : FL N r (nlN N) = FL N r (i + 1) ++ t := by
  by_cases q : N (88 + 4 * i + 2) = 0 ∧ N (88 + 4 * i + 1) = nI r
  · obtain ⟨t', ht'⟩ := FL_split N r (i + 1) (nlN N) hi
    refine absurd ⟨t', ?_, ht'⟩ h
    rw [ht', FL_t q, List.append_assoc] at hF
    exact (List.append_cancel_left hF).symm
  · rw [FL_f q]
    exact hF
set_option maxRecDepth 20000 in
set_option maxHeartbeats 1000000 in
theorem c_lw_loop {G : GT} (c : CC) (od : Int64 × UInt64) (N : NA) (hR : RelT c 1 N) (hI : IN N) (j : Nat) (hj : j < nbN N) (hj6 : j < 6) (r : Nat) (post : List Nat) {cu su : Nat} (ke : ∀ (c1 : CC) (M : NA) (k : Nat), LW c c1 N M j k ([] ++ post) → WE mX4_loadWaiting 102 [(0, .ref 1), (1, .int (nI j)), (2, .ref (6 + j)), (3, .int (nI k)), (4, .int (nI r))] [] (c1, od) 0 0 G) : ∀ (n i : Nat) (c1 : CC) (M : NA) (k : Nat) (t : List Nat), i ≤ nlN N → nlN N < i + n → FL N r (nlN N) = FL N r i ++ t → LW c c1 N M j k (t ++ post) → WE mX4_loadWaiting 45 [(0, .ref 1), (1, .int (nI j)), (2, .ref (6 + j)), (3, .int (nI k)), (4, .int (nI r)), (5, .int (nI i))] [] (c1, od) 0 0 G := by
  have hn24 := hI.cn.2.2.1
  intro n
  induction n with
  | zero =>
    intro i c1 M k t h1 h2
    exact absurd h2 (by omega)
  | succ n ih =>
    intro i c1 M k t hi hn hF hW
    have s5 : c1 1 5 = nI (nlN N) := by rw [← hW.2.2.2.2.1]; exact (hW.1.s (5, 4) (by decide)).trans hW.2.2.1.cn.2.2.2
    refine WE.iload (n := 47) dX4_loadWaiting_45 rfl rfl ?_
    refine WE.aload_n (n := 48) dX4_loadWaiting_47 rfl rfl ?_
    refine WE.getI (n := 51) dX4_loadWaiting_48 rfl fl_X4_49 ⟨by decide, by decide, rfl⟩ (by first | decide | exact kd_bal (by omega) | exact kd_let (by omega) | assumption) ?_
    refine WE.icmp_ge (n := 54) (tgt := 102) dX4_loadWaiting_51 rfl (by decide) (fun h51 => ?_) (fun h51 => ?_)
    · skip
      rw [s5] at h51
      have hx : i = nlN N := by have := ge_t (by omega) (by omega) h51; omega
      subst hx
      have ht : t = [] := by simpa using hF
      subst ht
      exact WE.ofA (L' := [(0, .ref 1), (1, .int (nI j)), (2, .ref (6 + j)), (3, .int (nI k)), (4, .int (nI r))]) ⟨rfl, rfl, rfl, rfl, rfl, trivial⟩ (ke c1 M k hW)
    · skip
      rw [s5] at h51
      have hlt : i < nlN N := ge_f (by omega) (by omega) h51
      refine WE.aload_n (n := 55) dX4_loadWaiting_54 rfl rfl ?_
      refine WE.iload (n := 57) dX4_loadWaiting_55 rfl rfl ?_
      refine WE.iload (n := 59) dX4_loadWaiting_57 rfl rfl ?_
      refine WE.V2I (M' := mX4_isWaiting) (n := 62) dX4_loadWaiting_59 rfl cv_X4_132 (by first | decide | exact kd_bal (by omega) | exact kd_let (by omega) | assumption) ⟨⟨by decide, by decide⟩, by decide, by decide⟩ (Nat.le_of_ble_eq_true rfl) (c_isWaiting c1 od i (by omega) (nI r)) ?_
      refine WE.if_eqB (n := 65) (tgt := 96) dX4_loadWaiting_62 rfl (by decide) (fun h62 => ?_) (fun h62 => ?_)
      · skip
        have h62 := fun z => h62 ((hW.see hlt hF).mpr z)
        refine WE.iincV (n := 99) (nI (i + 1)) dX4_loadWaiting_96 rfl rfl (by decide) (nI_inc i) ?_
        refine WE.goto (tgt := 45) dX4_loadWaiting_99 (by decide) ?_
        exact WE.ofA (L' := [(0, .ref 1), (1, .int (nI j)), (2, .ref (6 + j)), (3, .int (nI k)), (4, .int (nI r)), (5, .int (nI (i + 1)))]) ⟨rfl, rfl, rfl, rfl, rfl, rfl, trivial⟩ (ih (i + 1) _ _ _ t (by omega) (by omega) (FL_no hlt hF h62) hW)
      · skip
        obtain ⟨t2, rfl, hF2⟩ := (hW.see hlt hF).mp h62
        refine WE.aload_n (n := 66) dX4_loadWaiting_65 rfl rfl ?_
        refine WE.getI (n := 69) dX4_loadWaiting_66 rfl fl_X4_102 ⟨by decide, by decide, rfl⟩ (by first | decide | exact kd_bal (by omega) | exact kd_let (by omega) | assumption) ?_
        refine WE.aload_n (n := 70) dX4_loadWaiting_69 rfl rfl ?_
        refine WE.aload_n (n := 71) dX4_loadWaiting_70 rfl rfl ?_
        refine WE.getR (n := 74) dX4_loadWaiting_71 rfl fl_X4_26 ⟨by decide, by decide⟩ rfl (by first | decide | exact kd_bal (by omega) | exact kd_let (by omega) | assumption) ?_
        refine WE.iload (n := 76) dX4_loadWaiting_74 rfl rfl ?_
        refine WE.aald (n := 77) 13 i dX4_loadWaiting_76 rfl (by first | decide | assumption) (by decide) rfl (by show _ < 24; omega) rfl ?_
        refine WE.getI (n := 80) dX4_loadWaiting_77 rfl fl_X4_112 ⟨by decide, by decide, rfl⟩ (by first | decide | exact kd_bal (by omega) | exact kd_let (by omega) | assumption) ?_
        refine WE.V1I (M' := mX0_weightWith) (n := 83) dX4_loadWaiting_80 rfl cv_X4_136 (by first | decide | exact kd_bal (by omega) | exact kd_let (by omega) | assumption) ⟨⟨by decide, by decide⟩, by decide, by decide⟩ (Nat.le_of_ble_eq_true rfl) (c_weightWith c1 od (6 + j) (kd_bal hj6) _) ?_
        refine WE.icmp_lt (n := 86) (tgt := 96) dX4_loadWaiting_83 rfl (by decide) (fun h83 => ?_) (fun h83 => ?_)
        · skip
          have hW2 := LW.skip (rest := t2 ++ post) hW hlt hj h83
          refine WE.iincV (n := 99) (nI (i + 1)) dX4_loadWaiting_96 rfl rfl (by decide) (nI_inc i) ?_
          refine WE.goto (tgt := 45) dX4_loadWaiting_99 (by decide) ?_
          exact WE.ofA (L' := [(0, .ref 1), (1, .int (nI j)), (2, .ref (6 + j)), (3, .int (nI k)), (4, .int (nI r)), (5, .int (nI (i + 1)))]) ⟨rfl, rfl, rfl, rfl, rfl, rfl, trivial⟩ (ih (i + 1) _ _ _ t2 (by omega) (by omega) hF2 hW2)
        · skip
          have hW2 := LW.load (rest := t2 ++ post) hW hlt hj h83
          refine WE.aload_n (n := 87) dX4_loadWaiting_86 rfl rfl ?_
          refine WE.iload (n := 89) dX4_loadWaiting_87 rfl rfl ?_
          refine WE.iload_n (n := 90) dX4_loadWaiting_89 rfl rfl ?_
          refine WE.V2V (M' := mX4_putInto) (n := 93) dX4_loadWaiting_90 rfl cv_X4_124 (by first | decide | exact kd_bal (by omega) | exact kd_let (by omega) | assumption) ⟨⟨by decide, by decide⟩, by decide, by decide⟩ (Nat.le_of_ble_eq_true rfl) (c_putInto c1 od i (by omega) j hj6) ?_
          refine WE.iincV (n := 96) (nI (k + 1)) dX4_loadWaiting_93 rfl rfl (by decide) (nI_inc k) ?_
          refine WE.iincV (n := 99) (nI (i + 1)) dX4_loadWaiting_96 rfl rfl (by decide) (nI_inc i) ?_
          refine WE.goto (tgt := 45) dX4_loadWaiting_99 (by decide) ?_
          exact WE.ofA (L' := [(0, .ref 1), (1, .int (nI j)), (2, .ref (6 + j)), (3, .int (nI (k + 1))), (4, .int (nI r)), (5, .int (nI (i + 1)))]) ⟨rfl, rfl, rfl, rfl, rfl, rfl, trivial⟩ (ih (i + 1) _ _ _ t2 (by omega) (by omega) hF2 hW2)
set_option maxRecDepth 20000 in
set_option maxHeartbeats 1000000 in
theorem c_loadWaiting (c : CC) (od : Int64 × UInt64) (N : NA) (hR : RelT c 1 N) (hI : IN N) (b : Int32) : CM mX4_loadWaiting [.ref 1, .int b] (c, od) (PT c od N eC (S_loadAll N b)) := by
  refine CM.of [(0, .ref 1), (1, .int b)] rfl (by decide +kernel) rfl (Nat.le_of_ble_eq_true rfl) ?_
  have hC := hI.cn
  have hn24 := hC.2.2.1
  refine WE.aload_n (n := 1) dX4_loadWaiting_0 rfl rfl ?_
  refine WE.iload_n (n := 2) dX4_loadWaiting_1 rfl rfl ?_
  refine WE.V1I (M' := mX4_hasBalloon) (n := 5) dX4_loadWaiting_2 rfl cv_X4_95 (by first | decide | exact kd_bal (by omega) | exact kd_let (by omega) | assumption) ⟨⟨by decide, by decide⟩, by decide, by decide⟩ (Nat.le_of_ble_eq_true rfl) (c_hasB _ _ _ (nbN N) (by have := hC.1; omega) ((hR.s (4, 3) (by decide)).trans hC.2.1)) ?_
  refine WE.if_neB (n := 8) (tgt := 11) dX4_loadWaiting_5 rfl (by decide) (fun h5 => ?_) (fun h5 => ?_)
  · skip
    obtain ⟨j, hj, rfl⟩ := isB_of hC.1 hC.2.1 (by rw [hC.2.1]; exact h5)
    have hj6 : j < 6 := by have := hC.1; omega
    have hcl := nI_clamp (show j < 2 ^ 31 by omega)
    have h5 : isBN N (nI j) := by unfold isBN; rw [hC.2.1]; exact h5
    have g7 : c (6 + j) 7 = N (22 + 11 * j + 5) := hR.b hj (7, 5) (by decide)
    refine WE.aload_n (n := 12) dX4_loadWaiting_11 rfl rfl ?_
    refine WE.getR (n := 15) dX4_loadWaiting_12 rfl fl_X4_20 ⟨by decide, by decide⟩ rfl (by first | decide | exact kd_bal (by omega) | exact kd_let (by omega) | assumption) ?_
    refine WE.iload_n (n := 16) dX4_loadWaiting_15 rfl rfl ?_
    refine WE.aald (n := 17) 12 j dX4_loadWaiting_16 rfl (by first | decide | assumption) (by decide) rfl (by show _ < 6; omega) rfl ?_
    refine WE.astore_n (n := 18) dX4_loadWaiting_17 rfl (by decide) ?_
    refine WE.aload_n (n := 19) dX4_loadWaiting_18 rfl rfl ?_
    refine WE.getI (n := 22) dX4_loadWaiting_19 rfl fl_X4_99 ⟨by decide, by decide, rfl⟩ (by first | decide | exact kd_bal (by omega) | exact kd_let (by omega) | assumption) ?_
    refine WE.if_eq (n := 25) (tgt := 32) dX4_loadWaiting_22 rfl (by decide) (fun h22 => ?_) (fun h22 => ?_)
    · skip
      refine WE.iconst (n := 33) (nI 0) dX4_loadWaiting_32 rfl (by decide) ?_
      refine WE.istore_n (n := 34) dX4_loadWaiting_33 rfl (by decide) ?_
      rw [g7] at h22
      have hWL : WL N (nlN N) = (FL N 2 (nlN N)) ++ ((FL N 1 (nlN N)) ++ (FL N 0 (nlN N))) := rfl
      have hW0 : LW c c N N j 0 ((FL N 2 (nlN N)) ++ ((FL N 1 (nlN N)) ++ (FL N 0 (nlN N)))) := ⟨hR, fun _ _ _ => rfl, hI, rfl, rfl, h22, by rw [hWL]; simp only [Nat.zero_add], by rw [← hWL]; have := WL_len N (nlN N); omega, fun _ q => q, fun _ => rfl, by rw [← hWL]; exact WL_nodup _ _, fun l hl => (WL_mem (nl := nlN N) (by rw [hWL]; exact hl)).2⟩
      refine WE.iconst (n := 35) (nI 2) dX4_loadWaiting_34 rfl (by decide) ?_
      refine WE.istore (n := 37) dX4_loadWaiting_35 rfl (by decide) ?_
      refine WE.iload (n := 39) dX4_loadWaiting_37 rfl rfl ?_
      refine WE.if_lt (n := 42) (tgt := 108) dX4_loadWaiting_39 rfl (by decide) (fun h => absurd h (by decide)) (fun _ => ?_)
      refine WE.iconst (n := 43) (nI 0) dX4_loadWaiting_42 rfl (by decide) ?_
      refine WE.istore (n := 45) dX4_loadWaiting_43 rfl (by decide) ?_
      refine WE.ofA (L' := [(0, .ref 1), (1, .int (nI j)), (2, .ref (6 + j)), (3, .int (nI 0)), (4, .int (nI 2)), (5, .int (nI 0))]) ⟨rfl, rfl, rfl, rfl, rfl, rfl, trivial⟩ (c_lw_loop c od N hR hI j hj hj6 2 ((FL N 1 (nlN N)) ++ (FL N 0 (nlN N))) (cu := 0) (su := 0) (fun c2 M2 k2 hW2 => ?_) (nlN N + 1) 0 c N 0 (FL N 2 (nlN N)) (Nat.zero_le _) (by omega) rfl hW0)
      refine WE.iincV (n := 105) (nI 1) dX4_loadWaiting_102 rfl rfl (by decide) (by decide) ?_
      refine WE.goto (tgt := 37) dX4_loadWaiting_105 (by decide) ?_
      refine WE.iload (n := 39) dX4_loadWaiting_37 rfl rfl ?_
      refine WE.if_lt (n := 42) (tgt := 108) dX4_loadWaiting_39 rfl (by decide) (fun h => absurd h (by decide)) (fun _ => ?_)
      refine WE.iconst (n := 43) (nI 0) dX4_loadWaiting_42 rfl (by decide) ?_
      refine WE.istore (n := 45) dX4_loadWaiting_43 rfl (by decide) ?_
      refine WE.ofA (L' := [(0, .ref 1), (1, .int (nI j)), (2, .ref (6 + j)), (3, .int (nI k2)), (4, .int (nI 1)), (5, .int (nI 0))]) ⟨rfl, rfl, rfl, rfl, rfl, rfl, trivial⟩ (c_lw_loop c od N hR hI j hj hj6 1 (FL N 0 (nlN N)) (cu := 0) (su := 0) (fun c1 M1 k1 hW1 => ?_) (nlN N + 1) 0 c2 M2 k2 (FL N 1 (nlN N)) (Nat.zero_le _) (by omega) rfl hW2)
      refine WE.iincV (n := 105) (nI 0) dX4_loadWaiting_102 rfl rfl (by decide) (by decide) ?_
      refine WE.goto (tgt := 37) dX4_loadWaiting_105 (by decide) ?_
      refine WE.iload (n := 39) dX4_loadWaiting_37 rfl rfl ?_
      refine WE.if_lt (n := 42) (tgt := 108) dX4_loadWaiting_39 rfl (by decide) (fun h => absurd h (by decide)) (fun _ => ?_)
      refine WE.iconst (n := 43) (nI 0) dX4_loadWaiting_42 rfl (by decide) ?_
      refine WE.istore (n := 45) dX4_loadWaiting_43 rfl (by decide) ?_
      refine WE.ofA (L' := [(0, .ref 1), (1, .int (nI j)), (2, .ref (6 + j)), (3, .int (nI k1)), (4, .int (nI 0)), (5, .int (nI 0))]) ⟨rfl, rfl, rfl, rfl, rfl, rfl, trivial⟩ (c_lw_loop c od N hR hI j hj hj6 0 [] (cu := 0) (su := 0) (fun c0 M0 k0 hW0 => ?_) (nlN N + 1) 0 c1 M1 k1 (FL N 0 (nlN N)) (Nat.zero_le _) (by omega) rfl (by rw [List.append_nil]; exact hW1))
      refine WE.iincV (n := 105) ((-1 : Int32)) dX4_loadWaiting_102 rfl rfl (by decide) (by decide) ?_
      refine WE.goto (tgt := 37) dX4_loadWaiting_105 (by decide) ?_
      refine WE.iload (n := 39) dX4_loadWaiting_37 rfl rfl ?_
      refine WE.if_lt (n := 42) (tgt := 108) dX4_loadWaiting_39 rfl (by decide) (fun _ => ?_) (fun h => absurd (by decide) h)
      refine WE.iload_n (n := 109) dX4_loadWaiting_108 rfl rfl ?_
      refine WE.iret (ty := .int) dX4_loadWaiting_109 rfl rfl ⟨by decide, by decide⟩ ?_
      obtain ⟨w1, w2, w3, w4, w5, w6, w7, w8⟩ := hW0
      refine PT.ok (by unfold S_loadAll bk; rw [if_pos h5, hcl, if_pos h22, w7]; rfl) w1 w2
    · skip
      refine WE.aload_n (n := 26) dX4_loadWaiting_25 rfl rfl ?_
      refine WE.iconst (n := 27) (nI 2) dX4_loadWaiting_26 rfl (by decide) ?_
      refine WE.iload_n (n := 28) dX4_loadWaiting_27 rfl rfl ?_
      refine WE.V2I (M' := mX4_refuse) (n := 31) dX4_loadWaiting_28 rfl cv_X4_89 (by first | decide | exact kd_bal (by omega) | exact kd_let (by omega) | assumption) ⟨⟨by decide, by decide⟩, by decide, by decide⟩ (Nat.le_of_ble_eq_true rfl) (c_refuse _ _ _ _) ?_
      refine WE.iret (ty := .int) dX4_loadWaiting_31 rfl rfl ⟨by decide, by decide⟩ ?_
      rw [g7] at h22
      exact PT.ref hR hC (by unfold S_loadAll bk; rw [if_pos h5, hcl, if_neg h22])
  · skip
    have h5 : ¬ isBN N b := by unfold isBN; rw [hC.2.1]; exact h5
    refine WE.bipush (n := 10) ((-101 : Int32)) dX4_loadWaiting_8 rfl (by decide) ?_
    refine WE.iret (ty := .int) dX4_loadWaiting_10 rfl rfl ⟨by decide, by decide⟩ ?_
    exact PT.no 1 (by unfold S_loadAll; rw [if_neg h5]) (by decide)
