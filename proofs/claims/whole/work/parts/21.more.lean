theorem nneg_of {x : Int32} (h : 0 ≤ x) : ∃ k : Nat, k < 2 ^ 31 ∧ x = nI k := nI_of (by
  rw [Int32.le_iff_toInt_le] at h
  rw [Int32.lt_iff_toInt_lt]
  omega)
theorem WL_len (N : NA) (nl : Nat) : (WL N nl).length ≤ 3 * nl := by
  have h2 := FL_len N 2 nl
  have h1 := FL_len N 1 nl
  have h0 := FL_len N 0 nl
  simp only [WL, List.length_append]
  omega
theorem wres_neg {o : Option Nat} (ho : ∀ l, o = some l → l < 2 ^ 31) : ¬ 0 ≤ wres o ↔ o = none := by
  cases o with
  | none => exact ⟨fun _ => rfl, fun _ => by decide⟩
  | some l => exact ⟨fun q => absurd (nI_pos' (ho l rfl)) q, fun q => by cases q⟩
/-- a flight to its end: at most f hours, h before -/
def foN (j nl : Nat) : Nat → NA → Nat → NA × Nat
  | 0, N, h => (N, h)
  | f + 1, N, h => if N (22 + 11 * j + 5) = nI 1 then foN j nl f (flN N j nl) (h + 1) else (N, h)
theorem wait_fin {c : CC} {x : Int32} {k nl : Nat} (hx : x = nI k) (hk : k < 2 ^ 31) (hnl : nl ≤ 24) (hnlN : nlN (c 396) = nl) :
    (0 ≤ wres (WL (c 396) nl)[k]? → (mQ c (Q_waiting (c 396) x)) = (wres (WL (c 396) nl)[k]?, u2 c 395 16 (nI 0))) ∧ (¬ 0 ≤ wres (WL (c 396) nl)[k]? → (mQ c (Q_waiting (c 396) x)) = (nI 0, u2 c 395 16 (nI 1))) := by
  subst hx
  have ho : ∀ l, (WL (c 396) nl)[k]? = some l → l < 2 ^ 31 := fun l h => by
    have := (WL_mem (List.mem_of_getElem? h)).1
    omega
  simp only [Q_waiting, hnlN, nI_clamp hk, nI_pos' hk, ↓reduceIte]
  cases e : (WL (c 396) nl)[k]? with
  | none => exact ⟨fun h => absurd h (by decide), fun _ => rfl⟩
  | some l => exact ⟨fun _ => rfl, fun h => absurd (nI_pos' (ho l e)) h⟩
set_option maxRecDepth 20000 in
set_option maxHeartbeats 1000000 in
theorem m_waiting (c : CC) (od : Int64 × UInt64) (x : Int32) (nl : Nat) (hnl : nl ≤ 24) (hc4 : c 396 4 = nI nl) : CM mX6_waiting [.ref 395, .int x] (c, od) (RI (mQ c (Q_waiting (c 396) x)).1 ((mQ c (Q_waiting (c 396) x)).2, od)) := by
  refine CM.of [(0, .ref 395), (1, .int x)] rfl (by decide +kernel) rfl (Nat.le_of_ble_eq_true rfl) ?_
  have hnlN : nlN (c 396) = nl := by unfold nlN; rw [hc4]; exact nI_clamp (by omega)
  refine WE.aload_n (n := 1) dX6_waiting_0 rfl rfl ?_
  refine WE.iconst (n := 2) (nI 0) dX6_waiting_1 rfl (by decide) ?_
  refine WE.putI (n := 5) dX6_waiting_2 rfl fl_X6_36 ⟨by decide, by decide, rfl, rfl⟩ ⟨by first | rfl | decide, by first | rfl | decide⟩ (by first | decide | exact kd_bal (by assumption) | exact kd_let (by assumption) | assumption) ?_
  refine WE.iload_n (n := 6) dX6_waiting_5 rfl rfl ?_
  refine WE.if_ge (n := 9) (tgt := 13) dX6_waiting_6 rfl (by decide) (fun h6 => ?_) (fun h6 => ?_)
  · skip
    obtain ⟨k, hk, rfl⟩ := nneg_of h6
    have hcl : (nI k).toNatClampNeg = k := nI_clamp hk
    have hL := WL_len (c 396) nl
    have ho : ∀ l, (WL (c 396) nl)[k]? = some l → l < 2 ^ 31 := fun l h => by have := (WL_mem (List.mem_of_getElem? h)).1; omega
    refine WE.aload_n (n := 14) dX6_waiting_13 rfl rfl ?_
    refine WE.iload_n (n := 15) dX6_waiting_14 rfl rfl ?_
    refine WE.V1I (M' := mX6_waits) (n := 18) dX6_waiting_15 rfl cv_X6_122 (by first | decide | exact kd_bal (by assumption) | exact kd_let (by assumption) | assumption) ⟨⟨by decide, by decide⟩, by decide, by decide⟩ (Nat.le_of_ble_eq_true rfl) (by have q := m_waits (u2 c 395 16 (nI 0)) od nl hnl (by rw [u2_56]; exact hc4) k hk; rw [u2_56] at q; exact q) ?_
    refine WE.istore_n (n := 19) dX6_waiting_18 rfl (by decide) ?_
    refine WE.iload_n (n := 20) dX6_waiting_19 rfl rfl ?_
    refine WE.if_ge (n := 23) (tgt := 31) dX6_waiting_20 rfl (by decide) (fun h20 => ?_) (fun h20 => ?_)
    · skip
      refine WE.iload_n (n := 32) dX6_waiting_31 rfl rfl ?_
      refine WE.iret (ty := .int) dX6_waiting_32 rfl rfl ⟨by decide, by decide⟩ ?_
      rw [(wait_fin rfl hk hnl hnlN).1 h20]
      exact RI.mk rfl rfl
    · skip
      refine WE.aload_n (n := 24) dX6_waiting_23 rfl rfl ?_
      refine WE.iconst (n := 25) (nI 1) dX6_waiting_24 rfl (by decide) ?_
      refine WE.V1I (M' := mX6_raises) (n := 28) dX6_waiting_25 rfl cv_X6_55 (by first | decide | exact kd_bal (by assumption) | exact kd_let (by assumption) | assumption) ⟨⟨by decide, by decide⟩, by decide, by decide⟩ (Nat.le_of_ble_eq_true rfl) (m_raises _ _ _) ?_
      refine WE.goto (tgt := 32) dX6_waiting_28 (by decide) ?_
      refine WE.iret (ty := .int) dX6_waiting_32 rfl rfl ⟨by decide, by decide⟩ ?_
      rw [(wait_fin rfl hk hnl hnlN).2 h20, u2_u2]
      exact RI.mk rfl rfl
  · skip
    refine WE.iconst (n := 10) ((-1 : Int32)) dX6_waiting_9 rfl (by decide) ?_
    refine WE.goto (tgt := 18) dX6_waiting_10 (by decide) ?_
    refine WE.istore_n (n := 19) dX6_waiting_18 rfl (by decide) ?_
    refine WE.iload_n (n := 20) dX6_waiting_19 rfl rfl ?_
    refine WE.if_ge (n := 23) (tgt := 31) dX6_waiting_20 rfl (by decide) (fun h20 => ?_) (fun h20 => ?_)
    · skip
      refine WE.iload_n (n := 32) dX6_waiting_31 rfl rfl ?_
      refine WE.iret (ty := .int) dX6_waiting_32 rfl rfl ⟨by decide, by decide⟩ ?_
      exact absurd h20 (by decide)
    · skip
      refine WE.aload_n (n := 24) dX6_waiting_23 rfl rfl ?_
      refine WE.iconst (n := 25) (nI 1) dX6_waiting_24 rfl (by decide) ?_
      refine WE.V1I (M' := mX6_raises) (n := 28) dX6_waiting_25 rfl cv_X6_55 (by first | decide | exact kd_bal (by assumption) | exact kd_let (by assumption) | assumption) ⟨⟨by decide, by decide⟩, by decide, by decide⟩ (Nat.le_of_ble_eq_true rfl) (m_raises _ _ _) ?_
      refine WE.goto (tgt := 32) dX6_waiting_28 (by decide) ?_
      refine WE.iret (ty := .int) dX6_waiting_32 rfl rfl ⟨by decide, by decide⟩ ?_
      simp only [Q_waiting, h6, mQ, u2_u2, ↓reduceIte]
      exact RI.mk rfl rfl
set_option maxRecDepth 20000 in
set_option maxHeartbeats 1000000 in
theorem m_isWithin (c : CC) (od : Int64 × UInt64) (x y : Int32) : CM mX6_isWithin [.ref 395, .int x, .int y] (c, od) (RI (mQ c (Q_within (c 396) x y)).1 ((mQ c (Q_within (c 396) x y)).2, od)) := by
  refine CM.of [(0, .ref 395), (1, .int x), (2, .int y)] rfl (by decide +kernel) rfl (Nat.le_of_ble_eq_true rfl) ?_
  refine WE.aload_n (n := 1) dX6_isWithin_0 rfl rfl ?_
  refine WE.iconst (n := 2) (nI 0) dX6_isWithin_1 rfl (by decide) ?_
  refine WE.putI (n := 5) dX6_isWithin_2 rfl fl_X6_36 ⟨by decide, by decide, rfl, rfl⟩ ⟨by first | rfl | decide, by first | rfl | decide⟩ (by first | decide | exact kd_bal (by assumption) | exact kd_let (by assumption) | assumption) ?_
  refine WE.iload_n (n := 6) dX6_isWithin_5 rfl rfl ?_
  refine WE.iconst (n := 7) (nI 0) dX6_isWithin_6 rfl (by decide) ?_
  refine WE.bipush (n := 9) (nI 39) dX6_isWithin_7 rfl (by decide) ?_
  refine WE.S3I (M' := mX6_in) (n := 12) dX6_isWithin_9 rfl cv_X6_58  ⟨⟨by decide, by decide⟩, by decide, by decide⟩ (Nat.le_of_ble_eq_true rfl) (m_in _ _ _ _) ?_
  refine WE.if_eqB (n := 15) (tgt := 25) dX6_isWithin_12 rfl (by decide) (fun h12 => ?_) (fun h12 => ?_)
  · skip
    refine WE.aload_n (n := 26) dX6_isWithin_25 rfl rfl ?_
    refine WE.iconst (n := 27) (nI 1) dX6_isWithin_26 rfl (by decide) ?_
    refine WE.V1I (M' := mX6_raises) (n := 30) dX6_isWithin_27 rfl cv_X6_55 (by first | decide | exact kd_bal (by assumption) | exact kd_let (by assumption) | assumption) ⟨⟨by decide, by decide⟩, by decide, by decide⟩ (Nat.le_of_ble_eq_true rfl) (m_raises _ _ _) ?_
    refine WE.if_le (n := 33) (tgt := 37) dX6_isWithin_30 rfl (by decide) (fun h30 => ?_) (fun h30 => ?_)
    · skip
      skip
      refine WE.iconst (n := 38) (nI 0) dX6_isWithin_37 rfl (by decide) ?_
      refine WE.iret (ty := .boolean) dX6_isWithin_38 rfl (by first | rfl | exact b2i_nar _ | decide) ⟨by decide, by decide⟩ ?_
      (try simp only [u2_56] at *)
      first | (simp only [Q_within, h12, mQ, u2_u2, u2_56, and_self, not_true_eq_false, not_false_eq_true, b2i_t, b2i_f, ↓reduceIte]; exact RI.mk rfl rfl) | (simp only [Q_within, h12, mQ, u2_u2, u2_56, and_self, not_true_eq_false, not_false_eq_true, ↓reduceIte]; exact RI.mk rfl rfl)
    · skip
      exact absurd (show nI 0 ≤ 0 by decide) h30
  · skip
    refine WE.iload_n (n := 16) dX6_isWithin_15 rfl rfl ?_
    refine WE.iconst (n := 17) (nI 0) dX6_isWithin_16 rfl (by decide) ?_
    refine WE.bipush (n := 19) (nI 39) dX6_isWithin_17 rfl (by decide) ?_
    refine WE.S3I (M' := mX6_in) (n := 22) dX6_isWithin_19 rfl cv_X6_58  ⟨⟨by decide, by decide⟩, by decide, by decide⟩ (Nat.le_of_ble_eq_true rfl) (m_in _ _ _ _) ?_
    refine WE.if_neB (n := 25) (tgt := 39) dX6_isWithin_22 rfl (by decide) (fun h22 => ?_) (fun h22 => ?_)
    · skip
      refine WE.iload_n (n := 40) dX6_isWithin_39 rfl rfl ?_
      refine WE.iload_n (n := 41) dX6_isWithin_40 rfl rfl ?_
      refine WE.S2I (M' := mX6_far) (n := 44) dX6_isWithin_41 rfl cv_X6_74  ⟨⟨by decide, by decide⟩, by decide, by decide⟩ (Nat.le_of_ble_eq_true rfl) (m_far _ _ _) ?_
      refine WE.aload_n (n := 45) dX6_isWithin_44 rfl rfl ?_
      refine WE.getR (n := 48) dX6_isWithin_45 rfl fl_X6_9 ⟨by decide, by decide⟩ rfl (by first | decide | exact kd_bal (by assumption) | exact kd_let (by assumption) | assumption) ?_
      refine WE.iconst (n := 49) (nI 1) dX6_isWithin_48 rfl (by decide) ?_
      refine WE.iald (n := 50) 1 dX6_isWithin_49 rfl (by first | decide | assumption) rfl (by show _ < 184; omega) ?_
      refine WE.icmp_gt (n := 53) (tgt := 57) dX6_isWithin_50 rfl (by decide) (fun h50 => ?_) (fun h50 => ?_)
      · skip
        refine WE.iconst (n := 58) (nI 0) dX6_isWithin_57 rfl (by decide) ?_
        refine WE.iret (ty := .boolean) dX6_isWithin_58 rfl (by first | rfl | exact b2i_nar _ | decide) ⟨by decide, by decide⟩ ?_
        (try simp only [u2_56] at *)
        first | (simp only [Q_within, h12, h22, h50, mQ, u2_u2, u2_56, and_self, not_true_eq_false, not_false_eq_true, b2i_t, b2i_f, ↓reduceIte]; exact RI.mk rfl rfl) | (simp only [Q_within, h12, h22, h50, mQ, u2_u2, u2_56, and_self, not_true_eq_false, not_false_eq_true, ↓reduceIte]; exact RI.mk rfl rfl)
      · skip
        refine WE.iconst (n := 54) (nI 1) dX6_isWithin_53 rfl (by decide) ?_
        refine WE.goto (tgt := 58) dX6_isWithin_54 (by decide) ?_
        refine WE.iret (ty := .boolean) dX6_isWithin_58 rfl (by first | rfl | exact b2i_nar _ | decide) ⟨by decide, by decide⟩ ?_
        (try simp only [u2_56] at *)
        first | (simp only [Q_within, h12, h22, h50, mQ, u2_u2, u2_56, and_self, not_true_eq_false, not_false_eq_true, b2i_t, b2i_f, ↓reduceIte]; exact RI.mk rfl rfl) | (simp only [Q_within, h12, h22, h50, mQ, u2_u2, u2_56, and_self, not_true_eq_false, not_false_eq_true, ↓reduceIte]; exact RI.mk rfl rfl)
    · skip
      refine WE.aload_n (n := 26) dX6_isWithin_25 rfl rfl ?_
      refine WE.iconst (n := 27) (nI 1) dX6_isWithin_26 rfl (by decide) ?_
      refine WE.V1I (M' := mX6_raises) (n := 30) dX6_isWithin_27 rfl cv_X6_55 (by first | decide | exact kd_bal (by assumption) | exact kd_let (by assumption) | assumption) ⟨⟨by decide, by decide⟩, by decide, by decide⟩ (Nat.le_of_ble_eq_true rfl) (m_raises _ _ _) ?_
      refine WE.if_le (n := 33) (tgt := 37) dX6_isWithin_30 rfl (by decide) (fun h30 => ?_) (fun h30 => ?_)
      · skip
        skip
        refine WE.iconst (n := 38) (nI 0) dX6_isWithin_37 rfl (by decide) ?_
        refine WE.iret (ty := .boolean) dX6_isWithin_38 rfl (by first | rfl | exact b2i_nar _ | decide) ⟨by decide, by decide⟩ ?_
        (try simp only [u2_56] at *)
        first | (simp only [Q_within, h12, h22, mQ, u2_u2, u2_56, and_self, not_true_eq_false, not_false_eq_true, b2i_t, b2i_f, ↓reduceIte]; exact RI.mk rfl rfl) | (simp only [Q_within, h12, h22, mQ, u2_u2, u2_56, and_self, not_true_eq_false, not_false_eq_true, ↓reduceIte]; exact RI.mk rfl rfl)
      · skip
        exact absurd (show nI 0 ≤ 0 by decide) h30
theorem foN_lo {j nl k : Nat} (h : k < 22) (h7 : k ≠ 7) (h8 : k ≠ 8) (h9 : k ≠ 9) : ∀ (f : Nat) (N : NA) (t : Nat), (foN j nl f N t).1 k = N k
  | 0, N, t => rfl
  | f + 1, N, t => by
    unfold foN
    split
    · rw [foN_lo h h7 h8 h9 f, flN_lo _ _ _ h h7 h8 h9]
    · rfl
set_option maxRecDepth 20000 in
set_option maxHeartbeats 1000000 in
theorem m_fliesOut_loop {G : GT} (c : CC) (od : Int64 × UInt64) (j : Nat) (hj : j < 6) (nl : Nat) (hnl : nl ≤ 24) : ∀ (f : Nat) (N : NA) (t : Nat), N 4 = nI nl → ¬ (foN j nl f N t).1 (22 + 11 * j + 5) = nI 1 → WE mX6_fliesOut 23 [(2, .int (nI (foN j nl f N t).2))] [] (setN c (foN j nl f N t).1, od) 0 0 G → WE mX6_fliesOut 2 [(0, .ref 395), (1, .int (nI j)), (2, .int (nI t))] [] (setN c N, od) 0 0 G := by
  intro f
  induction f with
  | zero =>
    intro N t h4 hf k
    refine WE.aload_n (n := 3) dX6_fliesOut_2 rfl rfl ?_
    refine WE.iload_n (n := 4) dX6_fliesOut_3 rfl rfl ?_
    refine WE.iconst (n := 5) (nI 5) dX6_fliesOut_4 rfl (by decide) ?_
    refine WE.V2I (M' := mX6_of) (n := 8) dX6_fliesOut_5 rfl cv_X6_71 (by first | decide | exact kd_bal (by assumption) | exact kd_let (by assumption) | assumption) ⟨⟨by decide, by decide⟩, by decide, by decide⟩ (Nat.le_of_ble_eq_true rfl) (m_of _ _ j 5 (by omega)) ?_
    refine WE.iconst (n := 9) (nI 1) dX6_fliesOut_8 rfl (by decide) ?_
    refine WE.icmp_ne (n := 12) (tgt := 23) dX6_fliesOut_9 rfl (by decide) (fun h9 => ?_) (fun h9 => ?_)
    · skip
      simp only [foN] at k
      exact WE.ofA (L' := [(2, .int (nI t))]) ⟨rfl, trivial⟩ k
    · skip
      exact absurd (by simpa only [setN_at, foN] using h9) hf
  | succ f ih =>
    intro N t h4 hf k
    refine WE.aload_n (n := 3) dX6_fliesOut_2 rfl rfl ?_
    refine WE.iload_n (n := 4) dX6_fliesOut_3 rfl rfl ?_
    refine WE.iconst (n := 5) (nI 5) dX6_fliesOut_4 rfl (by decide) ?_
    refine WE.V2I (M' := mX6_of) (n := 8) dX6_fliesOut_5 rfl cv_X6_71 (by first | decide | exact kd_bal (by assumption) | exact kd_let (by assumption) | assumption) ⟨⟨by decide, by decide⟩, by decide, by decide⟩ (Nat.le_of_ble_eq_true rfl) (m_of _ _ j 5 (by omega)) ?_
    refine WE.iconst (n := 9) (nI 1) dX6_fliesOut_8 rfl (by decide) ?_
    refine WE.icmp_ne (n := 12) (tgt := 23) dX6_fliesOut_9 rfl (by decide) (fun h9 => ?_) (fun h9 => ?_)
    · skip
      rw [setN_at] at h9
      simp only [foN, h9, ↓reduceIte] at k
      exact WE.ofA (L' := [(2, .int (nI t))]) ⟨rfl, trivial⟩ k
    · skip
      rw [setN_at] at h9
      simp only [foN, h9, ↓reduceIte] at k hf
      refine WE.aload_n (n := 13) dX6_fliesOut_12 rfl rfl ?_
      refine WE.iload_n (n := 14) dX6_fliesOut_13 rfl rfl ?_
      refine WE.V1V (M' := mX6_flies) (n := 17) dX6_fliesOut_14 rfl cv_X6_141 (by first | decide | exact kd_bal (by assumption) | exact kd_let (by assumption) | assumption) ⟨⟨by decide, by decide⟩, by decide, by decide⟩ (Nat.le_of_ble_eq_true rfl) (m_flies _ _ j hj nl hnl (by rw [setN_at]; exact h4)) ?_
      refine WE.iincV (n := 20) (nI (t + 1)) dX6_fliesOut_17 rfl rfl (by decide) (nI_inc t) ?_
      refine WE.goto (tgt := 2) dX6_fliesOut_20 (by decide) ?_
      refine WE.ofS (σ' := (setN c (flN N j nl), od)) (by rw [setN_setN, setN_at]) (WE.ofA (L' := [(0, .ref 395), (1, .int (nI j)), (2, .int (nI (t + 1)))]) ⟨rfl, rfl, rfl, trivial⟩ (ih (flN N j nl) (t + 1) (by rw [flN_lo _ _ _ (by decide) (by decide) (by decide) (by decide)]; exact h4) hf k))
set_option maxRecDepth 20000 in
set_option maxHeartbeats 1000000 in
theorem m_fliesOut (c : CC) (od : Int64 × UInt64) (j : Nat) (hj : j < 6) (nl : Nat) (hnl : nl ≤ 24) (hc4 : c 396 4 = nI nl) (f : Nat) (hf : ¬ (foN j nl f (c 396) 0).1 (22 + 11 * j + 5) = nI 1) : CM mX6_fliesOut [.ref 395, .int (nI j)] (c, od) (RI (nI (foN j nl f (c 396) 0).2) (setN c (foN j nl f (c 396) 0).1, od)) := by
  refine CM.of [(0, .ref 395), (1, .int (nI j))] rfl (by decide +kernel) rfl (Nat.le_of_ble_eq_true rfl) ?_
  refine WE.iconst (n := 1) (nI 0) dX6_fliesOut_0 rfl (by decide) ?_
  refine WE.istore_n (n := 2) dX6_fliesOut_1 rfl (by decide) ?_
  refine WE.ofS (σ' := (setN c (c 396), od)) (by rw [setN_self]) (WE.ofA (L' := [(0, .ref 395), (1, .int (nI j)), (2, .int (nI 0))]) ⟨rfl, rfl, rfl, trivial⟩ (m_fliesOut_loop c od j hj nl hnl f (c 396) 0 hc4 hf ?_))
  refine WE.iload_n (n := 24) dX6_fliesOut_23 rfl rfl ?_
  refine WE.iret (ty := .int) dX6_fliesOut_24 rfl rfl ⟨by decide, by decide⟩ ?_
  exact RI.mk rfl rfl
def thinkS (c : CC) : CC := setR c 398 (cpN 184 (c 396) (c 398))
/-- what a question that looks ahead comes to, and the state behind it: now as it was, thought as it is -/
def backS (c : CC) (N : NA) : CC := setN (thinkS c) (cpN 184 (c 396) N)
theorem th_396 (c : CC) : thinkS c 396 = c 396 := setR_o _ _ (by decide)
theorem th_398 (c : CC) : thinkS c 398 = cpN 184 (c 396) (c 398) := setR_at _ _ _
theorem backS_of (c : CC) (N : NA) : setR (setN (thinkS c) N) 396 (cpN 184 (setN (thinkS c) N 398) (setN (thinkS c) N 396)) = backS c N := by
  rw [setR_396, setN_setN, setN_at, setN_o _ _ (by decide), th_398]
  unfold backS
  congr 1
  funext k
  unfold cpN
  split <;> rfl
/-- an answer from a look ahead: nothing else but 'thought' has changed -/
def mA (c : CC) (q : QR) (N : NA) : Int32 × CC := match q with
  | .inl v => (v, backS (u2 c 395 16 (nI 0)) N)
  | .inr k => (nI 0, u2 c 395 16 (nI k))
def Q_endsIn (N : NA) (b : Int32) (f : Nat) : QR := if isBN N b then (if N (bk b 5) = nI 1 then .inl (nI (foN b.toNatClampNeg (nlN N) f N 0).2) else .inr 2) else .inr 1
def Q_ends (N : NA) (b x : Int32) (f : Nat) : QR :=
  if isBN N b then
    if nI 0 ≤ x ∧ x ≤ nI 2 then
      if N (bk b 5) = nI 1 then
        if x = 0 then .inl ((foN b.toNatClampNeg (nlN N) f N 0).1 (bk b 6)) else if x = nI 1 then .inl ((foN b.toNatClampNeg (nlN N) f N 0).1 (bk b 7)) else .inl ((foN b.toNatClampNeg (nlN N) f N 0).1 (bk b 5))
      else .inr 3
    else .inr 2
  else .inr 1
set_option maxRecDepth 20000 in
set_option maxHeartbeats 1000000 in
theorem m_endsIn (c : CC) (od : Int64 × UInt64) (b : Int32) (nb : Nat) (hnb : nb ≤ 6) (hc3 : c 396 3 = nI nb) (nl : Nat) (hnl : nl ≤ 24) (hc4 : c 396 4 = nI nl) (f : Nat) (hf : ∀ j, j < nb → ¬ (foN j nl f (c 396) 0).1 (22 + 11 * j + 5) = nI 1) : CM mX6_endsIn [.ref 395, .int b] (c, od) (RI (mA c (Q_endsIn (c 396) b f) (foN b.toNatClampNeg nl f (c 396) 0).1).1 ((mA c (Q_endsIn (c 396) b f) (foN b.toNatClampNeg nl f (c 396) 0).1).2, od)) := by
  refine CM.of [(0, .ref 395), (1, .int b)] rfl (by decide +kernel) rfl (Nat.le_of_ble_eq_true rfl) ?_
  have hnlN : nlN (c 396) = nl := by unfold nlN; rw [hc4]; exact nI_clamp (by omega)
  refine WE.aload_n (n := 1) dX6_endsIn_0 rfl rfl ?_
  refine WE.iconst (n := 2) (nI 0) dX6_endsIn_1 rfl (by decide) ?_
  refine WE.putI (n := 5) dX6_endsIn_2 rfl fl_X6_36 ⟨by decide, by decide, rfl, rfl⟩ ⟨by first | rfl | decide, by first | rfl | decide⟩ (by first | decide | exact kd_bal (by assumption) | exact kd_let (by assumption) | assumption) ?_
  refine WE.aload_n (n := 6) dX6_endsIn_5 rfl rfl ?_
  refine WE.iload_n (n := 7) dX6_endsIn_6 rfl rfl ?_
  refine WE.V1I (M' := mX6_isBalloon) (n := 10) dX6_endsIn_7 rfl cv_X6_106 (by first | decide | exact kd_bal (by assumption) | exact kd_let (by assumption) | assumption) ⟨⟨by decide, by decide⟩, by decide, by decide⟩ (Nat.le_of_ble_eq_true rfl) (by have q := m_isBalloon (u2 c 395 16 (nI 0)) od b; rw [u2_56] at q; exact q) ?_
  refine WE.if_neB (n := 13) (tgt := 19) dX6_endsIn_10 rfl (by decide) (fun h10 => ?_) (fun h10 => ?_)
  · skip
    obtain ⟨j, hj, rfl⟩ := isB_of hnb hc3 h10
    have hcl : (nI j).toNatClampNeg = j := nI_clamp (by omega)
    refine WE.aload_n (n := 20) dX6_endsIn_19 rfl rfl ?_
    refine WE.iload_n (n := 21) dX6_endsIn_20 rfl rfl ?_
    refine WE.iconst (n := 22) (nI 5) dX6_endsIn_21 rfl (by decide) ?_
    refine WE.V2I (M' := mX6_of) (n := 25) dX6_endsIn_22 rfl cv_X6_71 (by first | decide | exact kd_bal (by assumption) | exact kd_let (by assumption) | assumption) ⟨⟨by decide, by decide⟩, by decide, by decide⟩ (Nat.le_of_ble_eq_true rfl) (m_of _ _ j 5 (by omega)) ?_
    refine WE.iconst (n := 26) (nI 1) dX6_endsIn_25 rfl (by decide) ?_
    refine WE.icmp_eq (n := 29) (tgt := 35) dX6_endsIn_26 rfl (by decide) (fun h26 => ?_) (fun h26 => ?_)
    · skip
      refine WE.aload_n (n := 36) dX6_endsIn_35 rfl rfl ?_
      refine WE.V0V (M' := mX6_thinks) (n := 39) dX6_endsIn_36 rfl cv_X6_169 (by first | decide | exact kd_bal (by assumption) | exact kd_let (by assumption) | assumption) ⟨⟨by decide, by decide⟩, by decide, by decide⟩ (Nat.le_of_ble_eq_true rfl) (show CM mX6_thinks [.ref 395] ((u2 c 395 16 (nI 0)), od) (RV (thinkS (u2 c 395 16 (nI 0)), od)) from m_thinks (u2 c 395 16 (nI 0)) od) ?_
      refine WE.aload_n (n := 40) dX6_endsIn_39 rfl rfl ?_
      refine WE.iload_n (n := 41) dX6_endsIn_40 rfl rfl ?_
      refine WE.V1I (M' := mX6_fliesOut) (n := 44) dX6_endsIn_41 rfl cv_X6_172 (by first | decide | exact kd_bal (by assumption) | exact kd_let (by assumption) | assumption) ⟨⟨by decide, by decide⟩, by decide, by decide⟩ (Nat.le_of_ble_eq_true rfl) (by have q := m_fliesOut (thinkS (u2 c 395 16 (nI 0))) od j (by omega) nl hnl (by rw [th_396, u2_56]; exact hc4) f (by rw [th_396, u2_56]; exact hf j (by omega)); rw [th_396, u2_56] at q; exact q) ?_
      refine WE.istore_n (n := 45) dX6_endsIn_44 rfl (by decide) ?_
      refine WE.aload_n (n := 46) dX6_endsIn_45 rfl rfl ?_
      refine WE.V0V (M' := mX6_thinksNoMore) (n := 49) dX6_endsIn_46 rfl cv_X6_175 (by first | decide | exact kd_bal (by assumption) | exact kd_let (by assumption) | assumption) ⟨⟨by decide, by decide⟩, by decide, by decide⟩ (Nat.le_of_ble_eq_true rfl) (m_thinksNoMore _ _) ?_
      refine WE.iload_n (n := 50) dX6_endsIn_49 rfl rfl ?_
      refine WE.iret (ty := .int) dX6_endsIn_50 rfl rfl ⟨by decide, by decide⟩ ?_
      (try simp only [u2_56] at *)
      simp only [Q_endsIn, h10, h26, bk, isBN, mA, u2_u2, u2_56, hcl, hnlN, and_self, ↓reduceIte]
      exact RI.mk rfl (by first | rfl | (rw [backS_of]))
    · skip
      refine WE.aload_n (n := 30) dX6_endsIn_29 rfl rfl ?_
      refine WE.iconst (n := 31) (nI 2) dX6_endsIn_30 rfl (by decide) ?_
      refine WE.V1I (M' := mX6_raises) (n := 34) dX6_endsIn_31 rfl cv_X6_55 (by first | decide | exact kd_bal (by assumption) | exact kd_let (by assumption) | assumption) ⟨⟨by decide, by decide⟩, by decide, by decide⟩ (Nat.le_of_ble_eq_true rfl) (m_raises _ _ _) ?_
      refine WE.iret (ty := .int) dX6_endsIn_34 rfl rfl ⟨by decide, by decide⟩ ?_
      (try simp only [u2_56] at *)
      simp only [Q_endsIn, h10, h26, bk, isBN, mA, u2_u2, u2_56, hcl, hnlN, and_self, ↓reduceIte]
      exact RI.mk rfl (by first | rfl | (rw [backS_of]))
  · skip
    refine WE.aload_n (n := 14) dX6_endsIn_13 rfl rfl ?_
    refine WE.iconst (n := 15) (nI 1) dX6_endsIn_14 rfl (by decide) ?_
    refine WE.V1I (M' := mX6_raises) (n := 18) dX6_endsIn_15 rfl cv_X6_55 (by first | decide | exact kd_bal (by assumption) | exact kd_let (by assumption) | assumption) ⟨⟨by decide, by decide⟩, by decide, by decide⟩ (Nat.le_of_ble_eq_true rfl) (m_raises _ _ _) ?_
    refine WE.iret (ty := .int) dX6_endsIn_18 rfl rfl ⟨by decide, by decide⟩ ?_
    (try simp only [u2_56] at *)
    simp only [Q_endsIn, h10, bk, isBN, mA, u2_u2, u2_56, hnlN, and_self, ↓reduceIte]
    exact RI.mk rfl (by first | rfl | (rw [backS_of]))
set_option maxRecDepth 20000 in
set_option maxHeartbeats 1000000 in
theorem m_ends (c : CC) (od : Int64 × UInt64) (b x : Int32) (nb : Nat) (hnb : nb ≤ 6) (hc3 : c 396 3 = nI nb) (nl : Nat) (hnl : nl ≤ 24) (hc4 : c 396 4 = nI nl) (f : Nat) (hf : ∀ j, j < nb → ¬ (foN j nl f (c 396) 0).1 (22 + 11 * j + 5) = nI 1) : CM mX6_ends [.ref 395, .int b, .int x] (c, od) (RI (mA c (Q_ends (c 396) b x f) (foN b.toNatClampNeg nl f (c 396) 0).1).1 ((mA c (Q_ends (c 396) b x f) (foN b.toNatClampNeg nl f (c 396) 0).1).2, od)) := by
  refine CM.of [(0, .ref 395), (1, .int b), (2, .int x)] rfl (by decide +kernel) rfl (Nat.le_of_ble_eq_true rfl) ?_
  have hnlN : nlN (c 396) = nl := by unfold nlN; rw [hc4]; exact nI_clamp (by omega)
  have ez1 : (nI 0 ≤ (0 : Int32) ∧ (0 : Int32) ≤ nI 2) := by decide
  have ez2 : (nI 0 ≤ nI 1 ∧ nI 1 ≤ nI 2) := by decide
  have ez3 : ¬ nI 1 = 0 := by decide
  refine WE.aload_n (n := 1) dX6_ends_0 rfl rfl ?_
  refine WE.iconst (n := 2) (nI 0) dX6_ends_1 rfl (by decide) ?_
  refine WE.putI (n := 5) dX6_ends_2 rfl fl_X6_36 ⟨by decide, by decide, rfl, rfl⟩ ⟨by first | rfl | decide, by first | rfl | decide⟩ (by first | decide | exact kd_bal (by assumption) | exact kd_let (by assumption) | assumption) ?_
  refine WE.aload_n (n := 6) dX6_ends_5 rfl rfl ?_
  refine WE.iload_n (n := 7) dX6_ends_6 rfl rfl ?_
  refine WE.V1I (M' := mX6_isBalloon) (n := 10) dX6_ends_7 rfl cv_X6_106 (by first | decide | exact kd_bal (by assumption) | exact kd_let (by assumption) | assumption) ⟨⟨by decide, by decide⟩, by decide, by decide⟩ (Nat.le_of_ble_eq_true rfl) (by have q := m_isBalloon (u2 c 395 16 (nI 0)) od b; rw [u2_56] at q; exact q) ?_
  refine WE.if_neB (n := 13) (tgt := 19) dX6_ends_10 rfl (by decide) (fun h10 => ?_) (fun h10 => ?_)
  · skip
    obtain ⟨j, hj, rfl⟩ := isB_of hnb hc3 h10
    have hcl : (nI j).toNatClampNeg = j := nI_clamp (by omega)
    refine WE.iload_n (n := 20) dX6_ends_19 rfl rfl ?_
    refine WE.iconst (n := 21) (nI 0) dX6_ends_20 rfl (by decide) ?_
    refine WE.iconst (n := 22) (nI 2) dX6_ends_21 rfl (by decide) ?_
    refine WE.S3I (M' := mX6_in) (n := 25) dX6_ends_22 rfl cv_X6_58  ⟨⟨by decide, by decide⟩, by decide, by decide⟩ (Nat.le_of_ble_eq_true rfl) (m_in _ _ _ _) ?_
    refine WE.if_neB (n := 28) (tgt := 34) dX6_ends_25 rfl (by decide) (fun h25 => ?_) (fun h25 => ?_)
    · skip
      refine WE.aload_n (n := 35) dX6_ends_34 rfl rfl ?_
      refine WE.iload_n (n := 36) dX6_ends_35 rfl rfl ?_
      refine WE.iconst (n := 37) (nI 5) dX6_ends_36 rfl (by decide) ?_
      refine WE.V2I (M' := mX6_of) (n := 40) dX6_ends_37 rfl cv_X6_71 (by first | decide | exact kd_bal (by assumption) | exact kd_let (by assumption) | assumption) ⟨⟨by decide, by decide⟩, by decide, by decide⟩ (Nat.le_of_ble_eq_true rfl) (m_of _ _ j 5 (by omega)) ?_
      refine WE.iconst (n := 41) (nI 1) dX6_ends_40 rfl (by decide) ?_
      refine WE.icmp_eq (n := 44) (tgt := 50) dX6_ends_41 rfl (by decide) (fun h41 => ?_) (fun h41 => ?_)
      · skip
        refine WE.aload_n (n := 51) dX6_ends_50 rfl rfl ?_
        refine WE.V0V (M' := mX6_thinks) (n := 54) dX6_ends_51 rfl cv_X6_169 (by first | decide | exact kd_bal (by assumption) | exact kd_let (by assumption) | assumption) ⟨⟨by decide, by decide⟩, by decide, by decide⟩ (Nat.le_of_ble_eq_true rfl) (show CM mX6_thinks [.ref 395] ((u2 c 395 16 (nI 0)), od) (RV (thinkS (u2 c 395 16 (nI 0)), od)) from m_thinks (u2 c 395 16 (nI 0)) od) ?_
        refine WE.aload_n (n := 55) dX6_ends_54 rfl rfl ?_
        refine WE.iload_n (n := 56) dX6_ends_55 rfl rfl ?_
        refine WE.V1I (M' := mX6_fliesOut) (n := 59) dX6_ends_56 rfl cv_X6_172 (by first | decide | exact kd_bal (by assumption) | exact kd_let (by assumption) | assumption) ⟨⟨by decide, by decide⟩, by decide, by decide⟩ (Nat.le_of_ble_eq_true rfl) (by have q := m_fliesOut (thinkS (u2 c 395 16 (nI 0))) od j (by omega) nl hnl (by rw [th_396, u2_56]; exact hc4) f (by rw [th_396, u2_56]; exact hf j (by omega)); rw [th_396, u2_56] at q; exact q) ?_
        refine WE.istore_n (n := 60) dX6_ends_59 rfl (by decide) ?_
        refine WE.iload_n (n := 61) dX6_ends_60 rfl rfl ?_
        refine WE.if_ne (n := 64) (tgt := 74) dX6_ends_61 rfl (by decide) (fun h61 => ?_) (fun h61 => ?_)
        · skip
          refine WE.iload_n (n := 75) dX6_ends_74 rfl rfl ?_
          refine WE.iconst (n := 76) (nI 1) dX6_ends_75 rfl (by decide) ?_
          refine WE.icmp_ne (n := 79) (tgt := 89) dX6_ends_76 rfl (by decide) (fun h76 => ?_) (fun h76 => ?_)
          · skip
            refine WE.aload_n (n := 90) dX6_ends_89 rfl rfl ?_
            refine WE.iload_n (n := 91) dX6_ends_90 rfl rfl ?_
            refine WE.iconst (n := 92) (nI 5) dX6_ends_91 rfl (by decide) ?_
            refine WE.V2I (M' := mX6_of) (n := 95) dX6_ends_92 rfl cv_X6_71 (by first | decide | exact kd_bal (by assumption) | exact kd_let (by assumption) | assumption) ⟨⟨by decide, by decide⟩, by decide, by decide⟩ (Nat.le_of_ble_eq_true rfl) (m_of _ _ j 5 (by omega)) ?_
            refine WE.istore (n := 97) dX6_ends_95 rfl (by decide) ?_
            refine WE.aload_n (n := 98) dX6_ends_97 rfl rfl ?_
            refine WE.V0V (M' := mX6_thinksNoMore) (n := 101) dX6_ends_98 rfl cv_X6_175 (by first | decide | exact kd_bal (by assumption) | exact kd_let (by assumption) | assumption) ⟨⟨by decide, by decide⟩, by decide, by decide⟩ (Nat.le_of_ble_eq_true rfl) (m_thinksNoMore _ _) ?_
            refine WE.iload (n := 103) dX6_ends_101 rfl rfl ?_
            refine WE.iret (ty := .int) dX6_ends_103 rfl rfl ⟨by decide, by decide⟩ ?_
            (try simp only [u2_56] at *)
            simp only [Q_ends, h10, h25, h41, h61, h76, ez1, ez2, ez3, bk, isBN, mA, u2_u2, u2_56, hcl, hnlN, and_self, ↓reduceIte]
            exact RI.mk (by first | rfl | (rw [setN_at])) (by first | rfl | (rw [backS_of]))
          · skip
            refine WE.aload_n (n := 80) dX6_ends_79 rfl rfl ?_
            refine WE.iload_n (n := 81) dX6_ends_80 rfl rfl ?_
            refine WE.bipush (n := 83) (nI 7) dX6_ends_81 rfl (by decide) ?_
            refine WE.V2I (M' := mX6_of) (n := 86) dX6_ends_83 rfl cv_X6_71 (by first | decide | exact kd_bal (by assumption) | exact kd_let (by assumption) | assumption) ⟨⟨by decide, by decide⟩, by decide, by decide⟩ (Nat.le_of_ble_eq_true rfl) (m_of _ _ j 7 (by omega)) ?_
            refine WE.goto (tgt := 95) dX6_ends_86 (by decide) ?_
            refine WE.istore (n := 97) dX6_ends_95 rfl (by decide) ?_
            refine WE.aload_n (n := 98) dX6_ends_97 rfl rfl ?_
            refine WE.V0V (M' := mX6_thinksNoMore) (n := 101) dX6_ends_98 rfl cv_X6_175 (by first | decide | exact kd_bal (by assumption) | exact kd_let (by assumption) | assumption) ⟨⟨by decide, by decide⟩, by decide, by decide⟩ (Nat.le_of_ble_eq_true rfl) (m_thinksNoMore _ _) ?_
            refine WE.iload (n := 103) dX6_ends_101 rfl rfl ?_
            refine WE.iret (ty := .int) dX6_ends_103 rfl rfl ⟨by decide, by decide⟩ ?_
            (try simp only [u2_56] at *)
            simp only [Q_ends, h10, h25, h41, h61, h76, ez1, ez2, ez3, bk, isBN, mA, u2_u2, u2_56, hcl, hnlN, and_self, ↓reduceIte]
            exact RI.mk (by first | rfl | (rw [setN_at])) (by first | rfl | (rw [backS_of]))
        · skip
          refine WE.aload_n (n := 65) dX6_ends_64 rfl rfl ?_
          refine WE.iload_n (n := 66) dX6_ends_65 rfl rfl ?_
          refine WE.bipush (n := 68) (nI 6) dX6_ends_66 rfl (by decide) ?_
          refine WE.V2I (M' := mX6_of) (n := 71) dX6_ends_68 rfl cv_X6_71 (by first | decide | exact kd_bal (by assumption) | exact kd_let (by assumption) | assumption) ⟨⟨by decide, by decide⟩, by decide, by decide⟩ (Nat.le_of_ble_eq_true rfl) (m_of _ _ j 6 (by omega)) ?_
          refine WE.goto (tgt := 95) dX6_ends_71 (by decide) ?_
          refine WE.istore (n := 97) dX6_ends_95 rfl (by decide) ?_
          refine WE.aload_n (n := 98) dX6_ends_97 rfl rfl ?_
          refine WE.V0V (M' := mX6_thinksNoMore) (n := 101) dX6_ends_98 rfl cv_X6_175 (by first | decide | exact kd_bal (by assumption) | exact kd_let (by assumption) | assumption) ⟨⟨by decide, by decide⟩, by decide, by decide⟩ (Nat.le_of_ble_eq_true rfl) (m_thinksNoMore _ _) ?_
          refine WE.iload (n := 103) dX6_ends_101 rfl rfl ?_
          refine WE.iret (ty := .int) dX6_ends_103 rfl rfl ⟨by decide, by decide⟩ ?_
          (try simp only [u2_56] at *)
          simp only [Q_ends, h10, h25, h41, h61, ez1, ez2, ez3, bk, isBN, mA, u2_u2, u2_56, hcl, hnlN, and_self, ↓reduceIte]
          exact RI.mk (by first | rfl | (rw [setN_at])) (by first | rfl | (rw [backS_of]))
      · skip
        refine WE.aload_n (n := 45) dX6_ends_44 rfl rfl ?_
        refine WE.iconst (n := 46) (nI 3) dX6_ends_45 rfl (by decide) ?_
        refine WE.V1I (M' := mX6_raises) (n := 49) dX6_ends_46 rfl cv_X6_55 (by first | decide | exact kd_bal (by assumption) | exact kd_let (by assumption) | assumption) ⟨⟨by decide, by decide⟩, by decide, by decide⟩ (Nat.le_of_ble_eq_true rfl) (m_raises _ _ _) ?_
        refine WE.iret (ty := .int) dX6_ends_49 rfl rfl ⟨by decide, by decide⟩ ?_
        (try simp only [u2_56] at *)
        simp only [Q_ends, h10, h25, h41, ez1, ez2, ez3, bk, isBN, mA, u2_u2, u2_56, hcl, hnlN, and_self, ↓reduceIte]
        exact RI.mk (by first | rfl | (rw [setN_at])) (by first | rfl | (rw [backS_of]))
    · skip
      refine WE.aload_n (n := 29) dX6_ends_28 rfl rfl ?_
      refine WE.iconst (n := 30) (nI 2) dX6_ends_29 rfl (by decide) ?_
      refine WE.V1I (M' := mX6_raises) (n := 33) dX6_ends_30 rfl cv_X6_55 (by first | decide | exact kd_bal (by assumption) | exact kd_let (by assumption) | assumption) ⟨⟨by decide, by decide⟩, by decide, by decide⟩ (Nat.le_of_ble_eq_true rfl) (m_raises _ _ _) ?_
      refine WE.iret (ty := .int) dX6_ends_33 rfl rfl ⟨by decide, by decide⟩ ?_
      (try simp only [u2_56] at *)
      simp only [Q_ends, h10, h25, ez1, ez2, ez3, bk, isBN, mA, u2_u2, u2_56, hcl, hnlN, and_self, ↓reduceIte]
      exact RI.mk (by first | rfl | (rw [setN_at])) (by first | rfl | (rw [backS_of]))
  · skip
    refine WE.aload_n (n := 14) dX6_ends_13 rfl rfl ?_
    refine WE.iconst (n := 15) (nI 1) dX6_ends_14 rfl (by decide) ?_
    refine WE.V1I (M' := mX6_raises) (n := 18) dX6_ends_15 rfl cv_X6_55 (by first | decide | exact kd_bal (by assumption) | exact kd_let (by assumption) | assumption) ⟨⟨by decide, by decide⟩, by decide, by decide⟩ (Nat.le_of_ble_eq_true rfl) (m_raises _ _ _) ?_
    refine WE.iret (ty := .int) dX6_ends_18 rfl rfl ⟨by decide, by decide⟩ ?_
    (try simp only [u2_56] at *)
    simp only [Q_ends, h10, ez1, ez2, ez3, bk, isBN, mA, u2_u2, u2_56, hnlN, and_self, ↓reduceIte]
    exact RI.mk (by first | rfl | (rw [setN_at])) (by first | rfl | (rw [backS_of]))
