def triesS (c : CC) : CC := setR (u2 c 395 16 (nI 0)) 397 (cpN 184 (c 396) (c 397))
theorem tr_396 (c : CC) : triesS c 396 = c 396 := by
  unfold triesS
  rw [setR_o _ _ (by decide), u2_o _ _ _ (by decide)]
theorem tr_395 (c : CC) {k : Nat} (h : k ≠ 16) : triesS c 395 k = c 395 k := by
  unfold triesS
  rw [setR_o _ _ (by decide), u2_ne _ _ (by omega)]
theorem tr_16 (c : CC) : triesS c 395 16 = nI 0 := by
  unfold triesS
  rw [setR_o _ _ (by decide), u2_eq]
theorem tr_397 (c : CC) : triesS c 397 = cpN 184 (c 396) (c 397) := setR_at _ _ _
theorem tr_o (c : CC) {a : Nat} (h5 : a ≠ 395) (h7 : a ≠ 397) : triesS c a = c a := by
  unfold triesS
  rw [setR_o _ _ h7, u2_o _ _ _ h5]
/-- the methods that end in outcome -/
def mF (c : CC) (r : OR) (n : Nat) : Int32 × CC := S_out (mS (triesS c) r) (mcode r) (nI n)
/-- the others -/
def mG (c : CC) (r : OR) (n : Nat) : Int32 × CC := match r with
  | .inl q => (q.1, S_keeps (setN (triesS c) q.2))
  | .inr (.inl q) => S_out (u2 (u2 (triesS c) 395 13 q.1) 395 14 q.2) q.1 (nI n)
  | .inr (.inr k) => (nI 0, u2 (triesS c) 395 16 (nI k))
def S_ring (N : NA) (r : Int32) : OR := if nI 1 ≤ r ∧ r ≤ nI 15 then .inl (N 1, upN N 1 r) else .inr (.inr 1)
def S_gas (N : NA) (a : Int32) : OR := if nI 1 ≤ a ∧ a ≤ nI 999 then .inl (mn (nI 9999) (N 2 + a), upN N 2 (mn (nI 9999) (N 2 + a))) else .inr (.inr 1)
def zeN (N : NA) (j n : Nat) : NA := fun k => if 22 + 11 * j ≤ k ∧ k < 22 + 11 * j + n then nI 0 else N k
def baN (N : NA) (j : Nat) (s : Int32) : NA := upN (upN (upN (zeN (upN N 3 (N 3 + nI 1)) j 11) (22 + 11 * j + 0) s) (22 + 11 * j + 6) (nI 20)) (22 + 11 * j + 7) (nI 20)
def S_balloon (N : NA) (s : Int32) : OR :=
  if nI 10 ≤ s ∧ s ≤ nI 99 then
    if N 3 = nI 6 then .inr (.inl (nI 1, nI 6)) else .inl (N 3, baN N (N 3).toNatClampNeg s)
  else .inr (.inr 1)
def S_courier (N : NA) (b w : Int32) : OR :=
  if isBN N b then
    if nI 5 ≤ w ∧ w ≤ nI 12 then
      if N (bk b 5) = 0 then
        if N (bk b 3) = nI 2 then .inr (.inl (nI 1, nI 2))
        else .inl (N (bk b 3) + nI 1, upN (upN N (bk b 3) (N (bk b 3) + nI 1)) (bk b 4) (N (bk b 4) + w))
      else .inr (.inl (nI 2, b))
    else .inr (.inr 2)
  else .inr (.inr 1)
def leN (N : NA) (l : Nat) (s r : Int32) : NA := upN (upN (upN (upN (upN N 4 (N 4 + nI 1)) (88 + 4 * l) s) (88 + 4 * l + 1) r) (88 + 4 * l + 2) (nI 0)) (88 + 4 * l + 3) (-1 : Int32)
def S_letter (N : NA) (s r : Int32) : OR :=
  if nI 1 ≤ s ∧ s ≤ nI 9 then
    if nI 0 ≤ r ∧ r ≤ nI 2 then
      if N 4 = nI 24 then .inr (.inl (nI 1, nI 24)) else .inl (N 4 + nI 1 - nI 1, leN N (N 4).toNatClampNeg s r)
    else .inr (.inr 1)
  else .inr (.inr 1)
theorem upN_ze (N : NA) (j i : Nat) : upN (zeN N j i) (22 + 11 * j + i) (nI 0) = zeN N j (i + 1) := by
  funext k
  unfold upN zeN
  by_cases h : k = 22 + 11 * j + i
  · subst h
    rw [if_pos rfl, if_pos (by omega)]
  · rw [if_neg h]
    by_cases h2 : 22 + 11 * j ≤ k ∧ k < 22 + 11 * j + i
    · rw [if_pos h2, if_pos (by omega)]
    · rw [if_neg h2, if_neg (by omega)]
theorem zeN_0 (N : NA) (j : Nat) : zeN N j 0 = N := by
  funext k
  unfold zeN
  rw [if_neg (by omega)]
set_option maxRecDepth 20000 in
set_option maxHeartbeats 1000000 in
theorem m_wind (c : CC) (od : Int64 × UInt64) (h x y : Int32) (u : Nat) (hu : u ≤ 8) (hcu : c 395 4 = nI u) : CM mX6_wind [.ref 395, .int h, .int x, .int y] (c, od) (RI (mF c (S_blows (c 396) h x y) 3).1 ((mF c (S_blows (c 396) h x y) 3).2, od)) := by
  refine CM.of [(0, .ref 395), (1, .int h), (2, .int x), (3, .int y)] rfl (by decide +kernel) rfl (Nat.le_of_ble_eq_true rfl) ?_
  have hout : mS (triesS c) (S_blows (c 396) h x y) 395 4 = nI u := by
    cases h : S_blows (c 396) h x y with
    | inl q => rw [mS, setN_o _ _ (by decide), u2_ne _ _ (by decide), tr_395 _ (by decide)]; exact hcu
    | inr q => cases q with
      | inl q => rw [mS, u2_ne _ _ (by decide), u2_ne _ _ (by decide), tr_395 _ (by decide)]; exact hcu
      | inr k => rw [mS, tr_395 _ (by decide)]; exact hcu
  have e396 : triesS c 396 = c 396 := tr_396 c
  refine WE.aload_n (n := 1) dX6_wind_0 rfl rfl ?_
  refine WE.V0V (M' := mX6_tries) (n := 4) dX6_wind_1 rfl cv_X6_83 (by first | decide | exact kd_bal (by assumption) | exact kd_let (by assumption) | assumption) ⟨⟨by decide, by decide⟩, by decide, by decide⟩ (Nat.le_of_ble_eq_true rfl) (m_tries _ _) ?_
  refine WE.aload_n (n := 5) dX6_wind_4 rfl rfl ?_
  refine WE.aload_n (n := 6) dX6_wind_5 rfl rfl ?_
  refine WE.iload_n (n := 7) dX6_wind_6 rfl rfl ?_
  refine WE.iload_n (n := 8) dX6_wind_7 rfl rfl ?_
  refine WE.iload_n (n := 9) dX6_wind_8 rfl rfl ?_
  refine WE.V3I (M' := mX6_blows) (n := 12) dX6_wind_9 rfl cv_X6_89 (by first | decide | exact kd_bal (by assumption) | exact kd_let (by assumption) | assumption) ⟨⟨by decide, by decide⟩, by decide, by decide⟩ (Nat.le_of_ble_eq_true rfl) (by have q := m_blows (triesS c) od h x y; rw [tr_396] at q; exact q) ?_
  refine WE.iconst (n := 13) (nI 3) dX6_wind_12 rfl (by decide) ?_
  refine WE.V2I (M' := mX6_outcome) (n := 16) dX6_wind_13 rfl cv_X6_93 (by first | decide | exact kd_bal (by assumption) | exact kd_let (by assumption) | assumption) ⟨⟨by decide, by decide⟩, by decide, by decide⟩ (Nat.le_of_ble_eq_true rfl) (m_outcome _ _ _ _ u hu hout) ?_
  refine WE.iret (ty := .int) dX6_wind_16 rfl rfl ⟨by decide, by decide⟩ ?_
  exact RI.mk rfl rfl
set_option maxRecDepth 20000 in
set_option maxHeartbeats 1000000 in
theorem m_fill (c : CC) (od : Int64 × UInt64) (b a : Int32) (nb : Nat) (hnb : nb ≤ 6) (hc3 : c 396 3 = nI nb) (u : Nat) (hu : u ≤ 8) (hcu : c 395 4 = nI u) : CM mX6_fill [.ref 395, .int b, .int a] (c, od) (RI (mF c (S_fills (c 396) b a) 3).1 ((mF c (S_fills (c 396) b a) 3).2, od)) := by
  refine CM.of [(0, .ref 395), (1, .int b), (2, .int a)] rfl (by decide +kernel) rfl (Nat.le_of_ble_eq_true rfl) ?_
  have hout : mS (triesS c) (S_fills (c 396) b a) 395 4 = nI u := by
    cases h : S_fills (c 396) b a with
    | inl q => rw [mS, setN_o _ _ (by decide), u2_ne _ _ (by decide), tr_395 _ (by decide)]; exact hcu
    | inr q => cases q with
      | inl q => rw [mS, u2_ne _ _ (by decide), u2_ne _ _ (by decide), tr_395 _ (by decide)]; exact hcu
      | inr k => rw [mS, tr_395 _ (by decide)]; exact hcu
  have e396 : triesS c 396 = c 396 := tr_396 c
  refine WE.aload_n (n := 1) dX6_fill_0 rfl rfl ?_
  refine WE.V0V (M' := mX6_tries) (n := 4) dX6_fill_1 rfl cv_X6_83 (by first | decide | exact kd_bal (by assumption) | exact kd_let (by assumption) | assumption) ⟨⟨by decide, by decide⟩, by decide, by decide⟩ (Nat.le_of_ble_eq_true rfl) (m_tries _ _) ?_
  refine WE.aload_n (n := 5) dX6_fill_4 rfl rfl ?_
  refine WE.aload_n (n := 6) dX6_fill_5 rfl rfl ?_
  refine WE.iload_n (n := 7) dX6_fill_6 rfl rfl ?_
  refine WE.iload_n (n := 8) dX6_fill_7 rfl rfl ?_
  refine WE.V2I (M' := mX6_fills) (n := 11) dX6_fill_8 rfl cv_X6_110 (by first | decide | exact kd_bal (by assumption) | exact kd_let (by assumption) | assumption) ⟨⟨by decide, by decide⟩, by decide, by decide⟩ (Nat.le_of_ble_eq_true rfl) (by have q := m_fills (triesS c) od b a nb hnb (by rw [tr_396]; exact hc3); rw [tr_396] at q; exact q) ?_
  refine WE.iconst (n := 12) (nI 3) dX6_fill_11 rfl (by decide) ?_
  refine WE.V2I (M' := mX6_outcome) (n := 15) dX6_fill_12 rfl cv_X6_93 (by first | decide | exact kd_bal (by assumption) | exact kd_let (by assumption) | assumption) ⟨⟨by decide, by decide⟩, by decide, by decide⟩ (Nat.le_of_ble_eq_true rfl) (m_outcome _ _ _ _ u hu hout) ?_
  refine WE.iret (ty := .int) dX6_fill_15 rfl rfl ⟨by decide, by decide⟩ ?_
  exact RI.mk rfl rfl
set_option maxRecDepth 20000 in
set_option maxHeartbeats 1000000 in
theorem m_ballast (c : CC) (od : Int64 × UInt64) (b a : Int32) (nb : Nat) (hnb : nb ≤ 6) (hc3 : c 396 3 = nI nb) (u : Nat) (hu : u ≤ 8) (hcu : c 395 4 = nI u) : CM mX6_ballast [.ref 395, .int b, .int a] (c, od) (RI (mF c (S_lays (c 396) b a) 3).1 ((mF c (S_lays (c 396) b a) 3).2, od)) := by
  refine CM.of [(0, .ref 395), (1, .int b), (2, .int a)] rfl (by decide +kernel) rfl (Nat.le_of_ble_eq_true rfl) ?_
  have hout : mS (triesS c) (S_lays (c 396) b a) 395 4 = nI u := by
    cases h : S_lays (c 396) b a with
    | inl q => rw [mS, setN_o _ _ (by decide), u2_ne _ _ (by decide), tr_395 _ (by decide)]; exact hcu
    | inr q => cases q with
      | inl q => rw [mS, u2_ne _ _ (by decide), u2_ne _ _ (by decide), tr_395 _ (by decide)]; exact hcu
      | inr k => rw [mS, tr_395 _ (by decide)]; exact hcu
  have e396 : triesS c 396 = c 396 := tr_396 c
  refine WE.aload_n (n := 1) dX6_ballast_0 rfl rfl ?_
  refine WE.V0V (M' := mX6_tries) (n := 4) dX6_ballast_1 rfl cv_X6_83 (by first | decide | exact kd_bal (by assumption) | exact kd_let (by assumption) | assumption) ⟨⟨by decide, by decide⟩, by decide, by decide⟩ (Nat.le_of_ble_eq_true rfl) (m_tries _ _) ?_
  refine WE.aload_n (n := 5) dX6_ballast_4 rfl rfl ?_
  refine WE.aload_n (n := 6) dX6_ballast_5 rfl rfl ?_
  refine WE.iload_n (n := 7) dX6_ballast_6 rfl rfl ?_
  refine WE.iload_n (n := 8) dX6_ballast_7 rfl rfl ?_
  refine WE.V2I (M' := mX6_lays) (n := 11) dX6_ballast_8 rfl cv_X6_113 (by first | decide | exact kd_bal (by assumption) | exact kd_let (by assumption) | assumption) ⟨⟨by decide, by decide⟩, by decide, by decide⟩ (Nat.le_of_ble_eq_true rfl) (by have q := m_lays (triesS c) od b a nb hnb (by rw [tr_396]; exact hc3); rw [tr_396] at q; exact q) ?_
  refine WE.iconst (n := 12) (nI 3) dX6_ballast_11 rfl (by decide) ?_
  refine WE.V2I (M' := mX6_outcome) (n := 15) dX6_ballast_12 rfl cv_X6_93 (by first | decide | exact kd_bal (by assumption) | exact kd_let (by assumption) | assumption) ⟨⟨by decide, by decide⟩, by decide, by decide⟩ (Nat.le_of_ble_eq_true rfl) (m_outcome _ _ _ _ u hu hout) ?_
  refine WE.iret (ty := .int) dX6_ballast_15 rfl rfl ⟨by decide, by decide⟩ ?_
  exact RI.mk rfl rfl
set_option maxRecDepth 20000 in
set_option maxHeartbeats 1000000 in
theorem m_load (c : CC) (od : Int64 × UInt64) (l b : Int32) (nb : Nat) (hnb : nb ≤ 6) (hc3 : c 396 3 = nI nb) (nl : Nat) (hnl : nl ≤ 24) (hc4 : c 396 4 = nI nl) (u : Nat) (hu : u ≤ 8) (hcu : c 395 4 = nI u) : CM mX6_load [.ref 395, .int l, .int b] (c, od) (RI (mF c (S_loads (c 396) l b) 2).1 ((mF c (S_loads (c 396) l b) 2).2, od)) := by
  refine CM.of [(0, .ref 395), (1, .int l), (2, .int b)] rfl (by decide +kernel) rfl (Nat.le_of_ble_eq_true rfl) ?_
  have hout : mS (triesS c) (S_loads (c 396) l b) 395 4 = nI u := by
    cases h : S_loads (c 396) l b with
    | inl q => rw [mS, setN_o _ _ (by decide), u2_ne _ _ (by decide), tr_395 _ (by decide)]; exact hcu
    | inr q => cases q with
      | inl q => rw [mS, u2_ne _ _ (by decide), u2_ne _ _ (by decide), tr_395 _ (by decide)]; exact hcu
      | inr k => rw [mS, tr_395 _ (by decide)]; exact hcu
  have e396 : triesS c 396 = c 396 := tr_396 c
  refine WE.aload_n (n := 1) dX6_load_0 rfl rfl ?_
  refine WE.V0V (M' := mX6_tries) (n := 4) dX6_load_1 rfl cv_X6_83 (by first | decide | exact kd_bal (by assumption) | exact kd_let (by assumption) | assumption) ⟨⟨by decide, by decide⟩, by decide, by decide⟩ (Nat.le_of_ble_eq_true rfl) (m_tries _ _) ?_
  refine WE.aload_n (n := 5) dX6_load_4 rfl rfl ?_
  refine WE.aload_n (n := 6) dX6_load_5 rfl rfl ?_
  refine WE.iload_n (n := 7) dX6_load_6 rfl rfl ?_
  refine WE.iload_n (n := 8) dX6_load_7 rfl rfl ?_
  refine WE.V2I (M' := mX6_loads) (n := 11) dX6_load_8 rfl cv_X6_119 (by first | decide | exact kd_bal (by assumption) | exact kd_let (by assumption) | assumption) ⟨⟨by decide, by decide⟩, by decide, by decide⟩ (Nat.le_of_ble_eq_true rfl) (by have q := m_loads (triesS c) od l b nb hnb (by rw [tr_396]; exact hc3) nl hnl (by rw [tr_396]; exact hc4); rw [tr_396] at q; exact q) ?_
  refine WE.iconst (n := 12) (nI 2) dX6_load_11 rfl (by decide) ?_
  refine WE.V2I (M' := mX6_outcome) (n := 15) dX6_load_12 rfl cv_X6_93 (by first | decide | exact kd_bal (by assumption) | exact kd_let (by assumption) | assumption) ⟨⟨by decide, by decide⟩, by decide, by decide⟩ (Nat.le_of_ble_eq_true rfl) (m_outcome _ _ _ _ u hu hout) ?_
  refine WE.iret (ty := .int) dX6_load_15 rfl rfl ⟨by decide, by decide⟩ ?_
  exact RI.mk rfl rfl
set_option maxRecDepth 20000 in
set_option maxHeartbeats 1000000 in
theorem m_launch (c : CC) (od : Int64 × UInt64) (b : Int32) (nb : Nat) (hnb : nb ≤ 6) (hc3 : c 396 3 = nI nb) (nl : Nat) (hnl : nl ≤ 24) (hc4 : c 396 4 = nI nl) (u : Nat) (hu : u ≤ 8) (hcu : c 395 4 = nI u) : CM mX6_launch [.ref 395, .int b] (c, od) (RI (mF c (S_launches (c 396) b) 2).1 ((mF c (S_launches (c 396) b) 2).2, od)) := by
  refine CM.of [(0, .ref 395), (1, .int b)] rfl (by decide +kernel) rfl (Nat.le_of_ble_eq_true rfl) ?_
  have hout : mS (triesS c) (S_launches (c 396) b) 395 4 = nI u := by
    cases h : S_launches (c 396) b with
    | inl q => rw [mS, setN_o _ _ (by decide), u2_ne _ _ (by decide), tr_395 _ (by decide)]; exact hcu
    | inr q => cases q with
      | inl q => rw [mS, u2_ne _ _ (by decide), u2_ne _ _ (by decide), tr_395 _ (by decide)]; exact hcu
      | inr k => rw [mS, tr_395 _ (by decide)]; exact hcu
  have e396 : triesS c 396 = c 396 := tr_396 c
  refine WE.aload_n (n := 1) dX6_launch_0 rfl rfl ?_
  refine WE.V0V (M' := mX6_tries) (n := 4) dX6_launch_1 rfl cv_X6_83 (by first | decide | exact kd_bal (by assumption) | exact kd_let (by assumption) | assumption) ⟨⟨by decide, by decide⟩, by decide, by decide⟩ (Nat.le_of_ble_eq_true rfl) (m_tries _ _) ?_
  refine WE.aload_n (n := 5) dX6_launch_4 rfl rfl ?_
  refine WE.aload_n (n := 6) dX6_launch_5 rfl rfl ?_
  refine WE.iload_n (n := 7) dX6_launch_6 rfl rfl ?_
  refine WE.V1I (M' := mX6_launches) (n := 10) dX6_launch_7 rfl cv_X6_128 (by first | decide | exact kd_bal (by assumption) | exact kd_let (by assumption) | assumption) ⟨⟨by decide, by decide⟩, by decide, by decide⟩ (Nat.le_of_ble_eq_true rfl) (by have q := m_launches (triesS c) od b nb hnb (by rw [tr_396]; exact hc3) nl hnl (by rw [tr_396]; exact hc4); rw [tr_396] at q; exact q) ?_
  refine WE.iconst (n := 11) (nI 2) dX6_launch_10 rfl (by decide) ?_
  refine WE.V2I (M' := mX6_outcome) (n := 14) dX6_launch_11 rfl cv_X6_93 (by first | decide | exact kd_bal (by assumption) | exact kd_let (by assumption) | assumption) ⟨⟨by decide, by decide⟩, by decide, by decide⟩ (Nat.le_of_ble_eq_true rfl) (m_outcome _ _ _ _ u hu hout) ?_
  refine WE.iret (ty := .int) dX6_launch_14 rfl rfl ⟨by decide, by decide⟩ ?_
  exact RI.mk rfl rfl
set_option maxRecDepth 20000 in
set_option maxHeartbeats 1000000 in
theorem m_drop (c : CC) (od : Int64 × UInt64) (b a : Int32) (nb : Nat) (hnb : nb ≤ 6) (hc3 : c 396 3 = nI nb) (u : Nat) (hu : u ≤ 8) (hcu : c 395 4 = nI u) : CM mX6_drop [.ref 395, .int b, .int a] (c, od) (RI (mF c (S_drops (c 396) b a) 3).1 ((mF c (S_drops (c 396) b a) 3).2, od)) := by
  refine CM.of [(0, .ref 395), (1, .int b), (2, .int a)] rfl (by decide +kernel) rfl (Nat.le_of_ble_eq_true rfl) ?_
  have hout : mS (triesS c) (S_drops (c 396) b a) 395 4 = nI u := by
    cases h : S_drops (c 396) b a with
    | inl q => rw [mS, setN_o _ _ (by decide), u2_ne _ _ (by decide), tr_395 _ (by decide)]; exact hcu
    | inr q => cases q with
      | inl q => rw [mS, u2_ne _ _ (by decide), u2_ne _ _ (by decide), tr_395 _ (by decide)]; exact hcu
      | inr k => rw [mS, tr_395 _ (by decide)]; exact hcu
  have e396 : triesS c 396 = c 396 := tr_396 c
  refine WE.aload_n (n := 1) dX6_drop_0 rfl rfl ?_
  refine WE.V0V (M' := mX6_tries) (n := 4) dX6_drop_1 rfl cv_X6_83 (by first | decide | exact kd_bal (by assumption) | exact kd_let (by assumption) | assumption) ⟨⟨by decide, by decide⟩, by decide, by decide⟩ (Nat.le_of_ble_eq_true rfl) (m_tries _ _) ?_
  refine WE.aload_n (n := 5) dX6_drop_4 rfl rfl ?_
  refine WE.aload_n (n := 6) dX6_drop_5 rfl rfl ?_
  refine WE.iload_n (n := 7) dX6_drop_6 rfl rfl ?_
  refine WE.iload_n (n := 8) dX6_drop_7 rfl rfl ?_
  refine WE.V2I (M' := mX6_drops) (n := 11) dX6_drop_8 rfl cv_X6_131 (by first | decide | exact kd_bal (by assumption) | exact kd_let (by assumption) | assumption) ⟨⟨by decide, by decide⟩, by decide, by decide⟩ (Nat.le_of_ble_eq_true rfl) (by have q := m_drops (triesS c) od b a nb hnb (by rw [tr_396]; exact hc3); rw [tr_396] at q; exact q) ?_
  refine WE.iconst (n := 12) (nI 3) dX6_drop_11 rfl (by decide) ?_
  refine WE.V2I (M' := mX6_outcome) (n := 15) dX6_drop_12 rfl cv_X6_93 (by first | decide | exact kd_bal (by assumption) | exact kd_let (by assumption) | assumption) ⟨⟨by decide, by decide⟩, by decide, by decide⟩ (Nat.le_of_ble_eq_true rfl) (m_outcome _ _ _ _ u hu hout) ?_
  refine WE.iret (ty := .int) dX6_drop_15 rfl rfl ⟨by decide, by decide⟩ ?_
  exact RI.mk rfl rfl
set_option maxRecDepth 20000 in
set_option maxHeartbeats 1000000 in
theorem m_pass (c : CC) (od : Int64 × UInt64) (h : Int32) (nb : Nat) (hnb : nb ≤ 6) (hc3 : c 396 3 = nI nb) (nl : Nat) (hnl : nl ≤ 24) (hc4 : c 396 4 = nI nl) (u : Nat) (hu : u ≤ 8) (hcu : c 395 4 = nI u) : CM mX6_pass [.ref 395, .int h] (c, od) (RI (mF c (S_passes (c 396) h) 1).1 ((mF c (S_passes (c 396) h) 1).2, od)) := by
  refine CM.of [(0, .ref 395), (1, .int h)] rfl (by decide +kernel) rfl (Nat.le_of_ble_eq_true rfl) ?_
  have hout : mS (triesS c) (S_passes (c 396) h) 395 4 = nI u := by
    cases h : S_passes (c 396) h with
    | inl q => rw [mS, setN_o _ _ (by decide), u2_ne _ _ (by decide), tr_395 _ (by decide)]; exact hcu
    | inr q => cases q with
      | inl q => rw [mS, u2_ne _ _ (by decide), u2_ne _ _ (by decide), tr_395 _ (by decide)]; exact hcu
      | inr k => rw [mS, tr_395 _ (by decide)]; exact hcu
  have e396 : triesS c 396 = c 396 := tr_396 c
  refine WE.aload_n (n := 1) dX6_pass_0 rfl rfl ?_
  refine WE.V0V (M' := mX6_tries) (n := 4) dX6_pass_1 rfl cv_X6_83 (by first | decide | exact kd_bal (by assumption) | exact kd_let (by assumption) | assumption) ⟨⟨by decide, by decide⟩, by decide, by decide⟩ (Nat.le_of_ble_eq_true rfl) (m_tries _ _) ?_
  refine WE.aload_n (n := 5) dX6_pass_4 rfl rfl ?_
  refine WE.aload_n (n := 6) dX6_pass_5 rfl rfl ?_
  refine WE.iload_n (n := 7) dX6_pass_6 rfl rfl ?_
  refine WE.V1I (M' := mX6_passes) (n := 10) dX6_pass_7 rfl cv_X6_149 (by first | decide | exact kd_bal (by assumption) | exact kd_let (by assumption) | assumption) ⟨⟨by decide, by decide⟩, by decide, by decide⟩ (Nat.le_of_ble_eq_true rfl) (by have q := m_passes (triesS c) od nb hnb (by rw [tr_396]; exact hc3) nl hnl (by rw [tr_396]; exact hc4) h; rw [tr_396] at q; exact q) ?_
  refine WE.iconst (n := 11) (nI 1) dX6_pass_10 rfl (by decide) ?_
  refine WE.V2I (M' := mX6_outcome) (n := 14) dX6_pass_11 rfl cv_X6_93 (by first | decide | exact kd_bal (by assumption) | exact kd_let (by assumption) | assumption) ⟨⟨by decide, by decide⟩, by decide, by decide⟩ (Nat.le_of_ble_eq_true rfl) (m_outcome _ _ _ _ u hu hout) ?_
  refine WE.iret (ty := .int) dX6_pass_14 rfl rfl ⟨by decide, by decide⟩ ?_
  exact RI.mk rfl rfl
set_option maxRecDepth 20000 in
set_option maxHeartbeats 1000000 in
theorem m_ring (c : CC) (od : Int64 × UInt64) (r : Int32) (u : Nat) (hu : u ≤ 8) (hcu : c 395 4 = nI u) : CM mX6_ring [.ref 395, .int r] (c, od) (RI (mG c (S_ring (c 396) r) 1).1 ((mG c (S_ring (c 396) r) 1).2, od)) := by
  refine CM.of [(0, .ref 395), (1, .int r)] rfl (by decide +kernel) rfl (Nat.le_of_ble_eq_true rfl) ?_
  have tru : triesS c 395 4 = nI u := by rw [tr_395 _ (by decide)]; exact hcu
  refine WE.aload_n (n := 1) dX6_ring_0 rfl rfl ?_
  refine WE.V0V (M' := mX6_tries) (n := 4) dX6_ring_1 rfl cv_X6_83 (by first | decide | exact kd_bal (by assumption) | exact kd_let (by assumption) | assumption) ⟨⟨by decide, by decide⟩, by decide, by decide⟩ (Nat.le_of_ble_eq_true rfl) (show CM mX6_tries [.ref 395] (c, od) (RV (triesS c, od)) from m_tries c od) ?_
  refine WE.iload_n (n := 5) dX6_ring_4 rfl rfl ?_
  refine WE.iconst (n := 6) (nI 1) dX6_ring_5 rfl (by decide) ?_
  refine WE.bipush (n := 8) (nI 15) dX6_ring_6 rfl (by decide) ?_
  refine WE.S3I (M' := mX6_in) (n := 11) dX6_ring_8 rfl cv_X6_58  ⟨⟨by decide, by decide⟩, by decide, by decide⟩ (Nat.le_of_ble_eq_true rfl) (m_in _ _ _ _) ?_
  refine WE.if_neB (n := 14) (tgt := 20) dX6_ring_11 rfl (by decide) (fun h11 => ?_) (fun h11 => ?_)
  · skip
    refine WE.aload_n (n := 21) dX6_ring_20 rfl rfl ?_
    refine WE.getR (n := 24) dX6_ring_21 rfl fl_X6_9 ⟨by decide, by decide⟩ rfl (by first | decide | exact kd_bal (by assumption) | exact kd_let (by assumption) | assumption) ?_
    refine WE.iconst (n := 25) (nI 1) dX6_ring_24 rfl (by decide) ?_
    refine WE.iald (n := 26) 1 dX6_ring_25 rfl (by first | decide | assumption) rfl (by show _ < 184; omega) ?_
    refine WE.istore_n (n := 27) dX6_ring_26 rfl (by decide) ?_
    refine WE.aload_n (n := 28) dX6_ring_27 rfl rfl ?_
    refine WE.getR (n := 31) dX6_ring_28 rfl fl_X6_9 ⟨by decide, by decide⟩ rfl (by first | decide | exact kd_bal (by assumption) | exact kd_let (by assumption) | assumption) ?_
    refine WE.iconst (n := 32) (nI 1) dX6_ring_31 rfl (by decide) ?_
    refine WE.iload_n (n := 33) dX6_ring_32 rfl rfl ?_
    refine WE.iast (n := 34) 1 dX6_ring_33 rfl (by first | decide | assumption) rfl (by show _ < 184; omega) ?_
    refine WE.aload_n (n := 35) dX6_ring_34 rfl rfl ?_
    refine WE.iload_n (n := 36) dX6_ring_35 rfl rfl ?_
    refine WE.V1I (M' := mX6_keeps) (n := 39) dX6_ring_36 rfl cv_X6_51 (by first | decide | exact kd_bal (by assumption) | exact kd_let (by assumption) | assumption) ⟨⟨by decide, by decide⟩, by decide, by decide⟩ (Nat.le_of_ble_eq_true rfl) (m_keeps _ _ _ u hu (by simp only [u2_now, setN_5]; exact tru)) ?_
    refine WE.iret (ty := .int) dX6_ring_39 rfl rfl ⟨by decide, by decide⟩ ?_
    (try simp only [tr_396] at *)
    simp (disch := omega) only [S_ring, h11, tru, mG, tr_396, u2_now, u2_setN5, setN_setN, setN_at, setN_5, u2_56, upN_eq, upN_ne, bk, isBN, ↓reduceIte, and_self, and_true, true_and, not_true_eq_false, not_false_eq_true]
    exact RI.mk rfl rfl
  · skip
    refine WE.aload_n (n := 15) dX6_ring_14 rfl rfl ?_
    refine WE.iconst (n := 16) (nI 1) dX6_ring_15 rfl (by decide) ?_
    refine WE.V1I (M' := mX6_raises) (n := 19) dX6_ring_16 rfl cv_X6_55 (by first | decide | exact kd_bal (by assumption) | exact kd_let (by assumption) | assumption) ⟨⟨by decide, by decide⟩, by decide, by decide⟩ (Nat.le_of_ble_eq_true rfl) (m_raises _ _ _) ?_
    refine WE.iret (ty := .int) dX6_ring_19 rfl rfl ⟨by decide, by decide⟩ ?_
    (try simp only [tr_396] at *)
    simp (disch := omega) only [S_ring, h11, tru, mG, tr_396, u2_now, u2_setN5, setN_setN, setN_at, setN_5, u2_56, upN_eq, upN_ne, bk, isBN, ↓reduceIte, and_self, and_true, true_and, not_true_eq_false, not_false_eq_true]
    exact RI.mk rfl rfl
set_option maxRecDepth 20000 in
set_option maxHeartbeats 1000000 in
theorem m_gas (c : CC) (od : Int64 × UInt64) (a : Int32) (u : Nat) (hu : u ≤ 8) (hcu : c 395 4 = nI u) : CM mX6_gas [.ref 395, .int a] (c, od) (RI (mG c (S_gas (c 396) a) 1).1 ((mG c (S_gas (c 396) a) 1).2, od)) := by
  refine CM.of [(0, .ref 395), (1, .int a)] rfl (by decide +kernel) rfl (Nat.le_of_ble_eq_true rfl) ?_
  have tru : triesS c 395 4 = nI u := by rw [tr_395 _ (by decide)]; exact hcu
  refine WE.aload_n (n := 1) dX6_gas_0 rfl rfl ?_
  refine WE.V0V (M' := mX6_tries) (n := 4) dX6_gas_1 rfl cv_X6_83 (by first | decide | exact kd_bal (by assumption) | exact kd_let (by assumption) | assumption) ⟨⟨by decide, by decide⟩, by decide, by decide⟩ (Nat.le_of_ble_eq_true rfl) (show CM mX6_tries [.ref 395] (c, od) (RV (triesS c, od)) from m_tries c od) ?_
  refine WE.iload_n (n := 5) dX6_gas_4 rfl rfl ?_
  refine WE.iconst (n := 6) (nI 1) dX6_gas_5 rfl (by decide) ?_
  refine WE.sipush (n := 9) (nI 999) dX6_gas_6 rfl (by decide) ?_
  refine WE.S3I (M' := mX6_in) (n := 12) dX6_gas_9 rfl cv_X6_58  ⟨⟨by decide, by decide⟩, by decide, by decide⟩ (Nat.le_of_ble_eq_true rfl) (m_in _ _ _ _) ?_
  refine WE.if_neB (n := 15) (tgt := 21) dX6_gas_12 rfl (by decide) (fun h12 => ?_) (fun h12 => ?_)
  · skip
    refine WE.aload_n (n := 22) dX6_gas_21 rfl rfl ?_
    refine WE.getR (n := 25) dX6_gas_22 rfl fl_X6_9 ⟨by decide, by decide⟩ rfl (by first | decide | exact kd_bal (by assumption) | exact kd_let (by assumption) | assumption) ?_
    refine WE.iconst (n := 26) (nI 2) dX6_gas_25 rfl (by decide) ?_
    refine WE.sipush (n := 29) (nI 9999) dX6_gas_26 rfl (by decide) ?_
    refine WE.aload_n (n := 30) dX6_gas_29 rfl rfl ?_
    refine WE.getR (n := 33) dX6_gas_30 rfl fl_X6_9 ⟨by decide, by decide⟩ rfl (by first | decide | exact kd_bal (by assumption) | exact kd_let (by assumption) | assumption) ?_
    refine WE.iconst (n := 34) (nI 2) dX6_gas_33 rfl (by decide) ?_
    refine WE.iald (n := 35) 2 dX6_gas_34 rfl (by first | decide | assumption) rfl (by show _ < 184; omega) ?_
    refine WE.iload_n (n := 36) dX6_gas_35 rfl rfl ?_
    refine WE.iadd (n := 37) dX6_gas_36 rfl ?_
    refine WE.mmin (n := 40) dX6_gas_37 rfl ml_X6_96 ⟨by decide, Nat.le_of_ble_eq_true rfl, by decide, by decide⟩ ?_
    refine WE.iast (n := 41) 2 dX6_gas_40 rfl (by first | decide | assumption) rfl (by show _ < 184; omega) ?_
    refine WE.aload_n (n := 42) dX6_gas_41 rfl rfl ?_
    refine WE.aload_n (n := 43) dX6_gas_42 rfl rfl ?_
    refine WE.getR (n := 46) dX6_gas_43 rfl fl_X6_9 ⟨by decide, by decide⟩ rfl (by first | decide | exact kd_bal (by assumption) | exact kd_let (by assumption) | assumption) ?_
    refine WE.iconst (n := 47) (nI 2) dX6_gas_46 rfl (by decide) ?_
    refine WE.iald (n := 48) 2 dX6_gas_47 rfl (by first | decide | assumption) rfl (by show _ < 184; omega) ?_
    refine WE.V1I (M' := mX6_keeps) (n := 51) dX6_gas_48 rfl cv_X6_51 (by first | decide | exact kd_bal (by assumption) | exact kd_let (by assumption) | assumption) ⟨⟨by decide, by decide⟩, by decide, by decide⟩ (Nat.le_of_ble_eq_true rfl) (m_keeps _ _ _ u hu (by simp only [u2_now, setN_5]; exact tru)) ?_
    refine WE.iret (ty := .int) dX6_gas_51 rfl rfl ⟨by decide, by decide⟩ ?_
    (try simp only [tr_396] at *)
    simp (disch := omega) only [S_gas, h12, mn, tru, mG, tr_396, u2_now, u2_setN5, setN_setN, setN_at, setN_5, u2_56, upN_eq, upN_ne, bk, isBN, ↓reduceIte, and_self, and_true, true_and, not_true_eq_false, not_false_eq_true]
    exact RI.mk rfl rfl
  · skip
    refine WE.aload_n (n := 16) dX6_gas_15 rfl rfl ?_
    refine WE.iconst (n := 17) (nI 1) dX6_gas_16 rfl (by decide) ?_
    refine WE.V1I (M' := mX6_raises) (n := 20) dX6_gas_17 rfl cv_X6_55 (by first | decide | exact kd_bal (by assumption) | exact kd_let (by assumption) | assumption) ⟨⟨by decide, by decide⟩, by decide, by decide⟩ (Nat.le_of_ble_eq_true rfl) (m_raises _ _ _) ?_
    refine WE.iret (ty := .int) dX6_gas_20 rfl rfl ⟨by decide, by decide⟩ ?_
    (try simp only [tr_396] at *)
    simp (disch := omega) only [S_gas, h12, mn, tru, mG, tr_396, u2_now, u2_setN5, setN_setN, setN_at, setN_5, u2_56, upN_eq, upN_ne, bk, isBN, ↓reduceIte, and_self, and_true, true_and, not_true_eq_false, not_false_eq_true]
    exact RI.mk rfl rfl
set_option maxRecDepth 20000 in
set_option maxHeartbeats 1000000 in
theorem m_courier (c : CC) (od : Int64 × UInt64) (b w : Int32) (nb : Nat) (hnb : nb ≤ 6) (hc3 : c 396 3 = nI nb) (u : Nat) (hu : u ≤ 8) (hcu : c 395 4 = nI u) : CM mX6_courier [.ref 395, .int b, .int w] (c, od) (RI (mG c (S_courier (c 396) b w) 3).1 ((mG c (S_courier (c 396) b w) 3).2, od)) := by
  refine CM.of [(0, .ref 395), (1, .int b), (2, .int w)] rfl (by decide +kernel) rfl (Nat.le_of_ble_eq_true rfl) ?_
  have tru : triesS c 395 4 = nI u := by rw [tr_395 _ (by decide)]; exact hcu
  refine WE.aload_n (n := 1) dX6_courier_0 rfl rfl ?_
  refine WE.V0V (M' := mX6_tries) (n := 4) dX6_courier_1 rfl cv_X6_83 (by first | decide | exact kd_bal (by assumption) | exact kd_let (by assumption) | assumption) ⟨⟨by decide, by decide⟩, by decide, by decide⟩ (Nat.le_of_ble_eq_true rfl) (show CM mX6_tries [.ref 395] (c, od) (RV (triesS c, od)) from m_tries c od) ?_
  refine WE.aload_n (n := 5) dX6_courier_4 rfl rfl ?_
  refine WE.iload_n (n := 6) dX6_courier_5 rfl rfl ?_
  refine WE.V1I (M' := mX6_isBalloon) (n := 9) dX6_courier_6 rfl cv_X6_106 (by first | decide | exact kd_bal (by assumption) | exact kd_let (by assumption) | assumption) ⟨⟨by decide, by decide⟩, by decide, by decide⟩ (Nat.le_of_ble_eq_true rfl) (by have q := m_isBalloon (triesS c) od b; rw [tr_396] at q; exact q) ?_
  refine WE.if_neB (n := 12) (tgt := 18) dX6_courier_9 rfl (by decide) (fun h9 => ?_) (fun h9 => ?_)
  · skip
    obtain ⟨j, hj, rfl⟩ := isB_of hnb hc3 h9
    have hcl : (nI j).toNatClampNeg = j := nI_clamp (by omega)
    refine WE.iload_n (n := 19) dX6_courier_18 rfl rfl ?_
    refine WE.iconst (n := 20) (nI 5) dX6_courier_19 rfl (by decide) ?_
    refine WE.bipush (n := 22) (nI 12) dX6_courier_20 rfl (by decide) ?_
    refine WE.S3I (M' := mX6_in) (n := 25) dX6_courier_22 rfl cv_X6_58  ⟨⟨by decide, by decide⟩, by decide, by decide⟩ (Nat.le_of_ble_eq_true rfl) (m_in _ _ _ _) ?_
    refine WE.if_neB (n := 28) (tgt := 34) dX6_courier_25 rfl (by decide) (fun h25 => ?_) (fun h25 => ?_)
    · skip
      refine WE.aload_n (n := 35) dX6_courier_34 rfl rfl ?_
      refine WE.iload_n (n := 36) dX6_courier_35 rfl rfl ?_
      refine WE.iconst (n := 37) (nI 5) dX6_courier_36 rfl (by decide) ?_
      refine WE.V2I (M' := mX6_of) (n := 40) dX6_courier_37 rfl cv_X6_71 (by first | decide | exact kd_bal (by assumption) | exact kd_let (by assumption) | assumption) ⟨⟨by decide, by decide⟩, by decide, by decide⟩ (Nat.le_of_ble_eq_true rfl) (m_of _ _ j 5 (by omega)) ?_
      refine WE.if_eq (n := 43) (tgt := 55) dX6_courier_40 rfl (by decide) (fun h40 => ?_) (fun h40 => ?_)
      · skip
        refine WE.aload_n (n := 56) dX6_courier_55 rfl rfl ?_
        refine WE.iload_n (n := 57) dX6_courier_56 rfl rfl ?_
        refine WE.iconst (n := 58) (nI 3) dX6_courier_57 rfl (by decide) ?_
        refine WE.V2I (M' := mX6_of) (n := 61) dX6_courier_58 rfl cv_X6_71 (by first | decide | exact kd_bal (by assumption) | exact kd_let (by assumption) | assumption) ⟨⟨by decide, by decide⟩, by decide, by decide⟩ (Nat.le_of_ble_eq_true rfl) (m_of _ _ j 3 (by omega)) ?_
        refine WE.iconst (n := 62) (nI 2) dX6_courier_61 rfl (by decide) ?_
        refine WE.icmp_ne (n := 65) (tgt := 77) dX6_courier_62 rfl (by decide) (fun h62 => ?_) (fun h62 => ?_)
        · skip
          refine WE.aload_n (n := 78) dX6_courier_77 rfl rfl ?_
          refine WE.iload_n (n := 79) dX6_courier_78 rfl rfl ?_
          refine WE.iconst (n := 80) (nI 3) dX6_courier_79 rfl (by decide) ?_
          refine WE.aload_n (n := 81) dX6_courier_80 rfl rfl ?_
          refine WE.iload_n (n := 82) dX6_courier_81 rfl rfl ?_
          refine WE.iconst (n := 83) (nI 3) dX6_courier_82 rfl (by decide) ?_
          refine WE.V2I (M' := mX6_of) (n := 86) dX6_courier_83 rfl cv_X6_71 (by first | decide | exact kd_bal (by assumption) | exact kd_let (by assumption) | assumption) ⟨⟨by decide, by decide⟩, by decide, by decide⟩ (Nat.le_of_ble_eq_true rfl) (m_of _ _ j 3 (by omega)) ?_
          refine WE.iconst (n := 87) (nI 1) dX6_courier_86 rfl (by decide) ?_
          refine WE.iadd (n := 88) dX6_courier_87 rfl ?_
          refine WE.V3V (M' := mX6_sets) (n := 91) dX6_courier_88 rfl cv_X6_102 (by first | decide | exact kd_bal (by assumption) | exact kd_let (by assumption) | assumption) ⟨⟨by decide, by decide⟩, by decide, by decide⟩ (Nat.le_of_ble_eq_true rfl) (m_sets _ _ j 3 _ (by omega)) ?_
          refine WE.aload_n (n := 92) dX6_courier_91 rfl rfl ?_
          refine WE.iload_n (n := 93) dX6_courier_92 rfl rfl ?_
          refine WE.iconst (n := 94) (nI 4) dX6_courier_93 rfl (by decide) ?_
          refine WE.aload_n (n := 95) dX6_courier_94 rfl rfl ?_
          refine WE.iload_n (n := 96) dX6_courier_95 rfl rfl ?_
          refine WE.iconst (n := 97) (nI 4) dX6_courier_96 rfl (by decide) ?_
          refine WE.V2I (M' := mX6_of) (n := 100) dX6_courier_97 rfl cv_X6_71 (by first | decide | exact kd_bal (by assumption) | exact kd_let (by assumption) | assumption) ⟨⟨by decide, by decide⟩, by decide, by decide⟩ (Nat.le_of_ble_eq_true rfl) (m_of _ _ j 4 (by omega)) ?_
          refine WE.iload_n (n := 101) dX6_courier_100 rfl rfl ?_
          refine WE.iadd (n := 102) dX6_courier_101 rfl ?_
          refine WE.V3V (M' := mX6_sets) (n := 105) dX6_courier_102 rfl cv_X6_102 (by first | decide | exact kd_bal (by assumption) | exact kd_let (by assumption) | assumption) ⟨⟨by decide, by decide⟩, by decide, by decide⟩ (Nat.le_of_ble_eq_true rfl) (m_sets _ _ j 4 _ (by omega)) ?_
          refine WE.aload_n (n := 106) dX6_courier_105 rfl rfl ?_
          refine WE.aload_n (n := 107) dX6_courier_106 rfl rfl ?_
          refine WE.iload_n (n := 108) dX6_courier_107 rfl rfl ?_
          refine WE.iconst (n := 109) (nI 3) dX6_courier_108 rfl (by decide) ?_
          refine WE.V2I (M' := mX6_of) (n := 112) dX6_courier_109 rfl cv_X6_71 (by first | decide | exact kd_bal (by assumption) | exact kd_let (by assumption) | assumption) ⟨⟨by decide, by decide⟩, by decide, by decide⟩ (Nat.le_of_ble_eq_true rfl) (m_of _ _ j 3 (by omega)) ?_
          refine WE.V1I (M' := mX6_keeps) (n := 115) dX6_courier_112 rfl cv_X6_51 (by first | decide | exact kd_bal (by assumption) | exact kd_let (by assumption) | assumption) ⟨⟨by decide, by decide⟩, by decide, by decide⟩ (Nat.le_of_ble_eq_true rfl) (m_keeps _ _ _ u hu (by simp only [u2_now, setN_5]; exact tru)) ?_
          refine WE.iret (ty := .int) dX6_courier_115 rfl rfl ⟨by decide, by decide⟩ ?_
          (try simp only [tr_396] at *)
          simp (disch := omega) only [S_courier, h9, h25, h40, h62, hcl, tru, mG, tr_396, u2_now, u2_setN5, setN_setN, setN_at, setN_5, u2_56, upN_eq, upN_ne, bk, isBN, ↓reduceIte, and_self, and_true, true_and, not_true_eq_false, not_false_eq_true]
          exact RI.mk rfl rfl
        · skip
          refine WE.aload_n (n := 66) dX6_courier_65 rfl rfl ?_
          refine WE.aload_n (n := 67) dX6_courier_66 rfl rfl ?_
          refine WE.iconst (n := 68) (nI 1) dX6_courier_67 rfl (by decide) ?_
          refine WE.iconst (n := 69) (nI 2) dX6_courier_68 rfl (by decide) ?_
          refine WE.V2I (M' := mX6_why) (n := 72) dX6_courier_69 rfl cv_X6_99 (by first | decide | exact kd_bal (by assumption) | exact kd_let (by assumption) | assumption) ⟨⟨by decide, by decide⟩, by decide, by decide⟩ (Nat.le_of_ble_eq_true rfl) (m_why _ _ _ _) ?_
          refine WE.iconst (n := 73) (nI 3) dX6_courier_72 rfl (by decide) ?_
          refine WE.V2I (M' := mX6_outcome) (n := 76) dX6_courier_73 rfl cv_X6_93 (by first | decide | exact kd_bal (by assumption) | exact kd_let (by assumption) | assumption) ⟨⟨by decide, by decide⟩, by decide, by decide⟩ (Nat.le_of_ble_eq_true rfl) (m_outcome _ _ _ _ u hu (by rw [u2_ne _ _ (by decide), u2_ne _ _ (by decide)]; exact tru)) ?_
          refine WE.iret (ty := .int) dX6_courier_76 rfl rfl ⟨by decide, by decide⟩ ?_
          (try simp only [tr_396] at *)
          simp (disch := omega) only [S_courier, h9, h25, h40, h62, hcl, tru, mG, tr_396, u2_now, u2_setN5, setN_setN, setN_at, setN_5, u2_56, upN_eq, upN_ne, bk, isBN, ↓reduceIte, and_self, and_true, true_and, not_true_eq_false, not_false_eq_true]
          exact RI.mk rfl rfl
      · skip
        refine WE.aload_n (n := 44) dX6_courier_43 rfl rfl ?_
        refine WE.aload_n (n := 45) dX6_courier_44 rfl rfl ?_
        refine WE.iconst (n := 46) (nI 2) dX6_courier_45 rfl (by decide) ?_
        refine WE.iload_n (n := 47) dX6_courier_46 rfl rfl ?_
        refine WE.V2I (M' := mX6_why) (n := 50) dX6_courier_47 rfl cv_X6_99 (by first | decide | exact kd_bal (by assumption) | exact kd_let (by assumption) | assumption) ⟨⟨by decide, by decide⟩, by decide, by decide⟩ (Nat.le_of_ble_eq_true rfl) (m_why _ _ _ _) ?_
        refine WE.iconst (n := 51) (nI 3) dX6_courier_50 rfl (by decide) ?_
        refine WE.V2I (M' := mX6_outcome) (n := 54) dX6_courier_51 rfl cv_X6_93 (by first | decide | exact kd_bal (by assumption) | exact kd_let (by assumption) | assumption) ⟨⟨by decide, by decide⟩, by decide, by decide⟩ (Nat.le_of_ble_eq_true rfl) (m_outcome _ _ _ _ u hu (by rw [u2_ne _ _ (by decide), u2_ne _ _ (by decide)]; exact tru)) ?_
        refine WE.iret (ty := .int) dX6_courier_54 rfl rfl ⟨by decide, by decide⟩ ?_
        (try simp only [tr_396] at *)
        simp (disch := omega) only [S_courier, h9, h25, h40, hcl, tru, mG, tr_396, u2_now, u2_setN5, setN_setN, setN_at, setN_5, u2_56, upN_eq, upN_ne, bk, isBN, ↓reduceIte, and_self, and_true, true_and, not_true_eq_false, not_false_eq_true]
        exact RI.mk rfl rfl
    · skip
      refine WE.aload_n (n := 29) dX6_courier_28 rfl rfl ?_
      refine WE.iconst (n := 30) (nI 2) dX6_courier_29 rfl (by decide) ?_
      refine WE.V1I (M' := mX6_raises) (n := 33) dX6_courier_30 rfl cv_X6_55 (by first | decide | exact kd_bal (by assumption) | exact kd_let (by assumption) | assumption) ⟨⟨by decide, by decide⟩, by decide, by decide⟩ (Nat.le_of_ble_eq_true rfl) (m_raises _ _ _) ?_
      refine WE.iret (ty := .int) dX6_courier_33 rfl rfl ⟨by decide, by decide⟩ ?_
      (try simp only [tr_396] at *)
      simp (disch := omega) only [S_courier, h9, h25, hcl, tru, mG, tr_396, u2_now, u2_setN5, setN_setN, setN_at, setN_5, u2_56, upN_eq, upN_ne, bk, isBN, ↓reduceIte, and_self, and_true, true_and, not_true_eq_false, not_false_eq_true]
      exact RI.mk rfl rfl
  · skip
    refine WE.aload_n (n := 13) dX6_courier_12 rfl rfl ?_
    refine WE.iconst (n := 14) (nI 1) dX6_courier_13 rfl (by decide) ?_
    refine WE.V1I (M' := mX6_raises) (n := 17) dX6_courier_14 rfl cv_X6_55 (by first | decide | exact kd_bal (by assumption) | exact kd_let (by assumption) | assumption) ⟨⟨by decide, by decide⟩, by decide, by decide⟩ (Nat.le_of_ble_eq_true rfl) (m_raises _ _ _) ?_
    refine WE.iret (ty := .int) dX6_courier_17 rfl rfl ⟨by decide, by decide⟩ ?_
    (try simp only [tr_396] at *)
    simp (disch := omega) only [S_courier, h9, tru, mG, tr_396, u2_now, u2_setN5, setN_setN, setN_at, setN_5, u2_56, upN_eq, upN_ne, bk, isBN, ↓reduceIte, and_self, and_true, true_and, not_true_eq_false, not_false_eq_true]
    exact RI.mk rfl rfl
set_option maxRecDepth 20000 in
set_option maxHeartbeats 1000000 in
theorem m_letter (c : CC) (od : Int64 × UInt64) (s r : Int32) (nl : Nat) (hnl : nl ≤ 24) (hc4 : c 396 4 = nI nl) (u : Nat) (hu : u ≤ 8) (hcu : c 395 4 = nI u) : CM mX6_letter [.ref 395, .int s, .int r] (c, od) (RI (mG c (S_letter (c 396) s r) 2).1 ((mG c (S_letter (c 396) s r) 2).2, od)) := by
  refine CM.of [(0, .ref 395), (1, .int s), (2, .int r)] rfl (by decide +kernel) rfl (Nat.le_of_ble_eq_true rfl) ?_
  have tru : triesS c 395 4 = nI u := by rw [tr_395 _ (by decide)]; exact hcu
  have hcl4 : (nI nl).toNatClampNeg = nl := nI_clamp (by omega)
  refine WE.aload_n (n := 1) dX6_letter_0 rfl rfl ?_
  refine WE.V0V (M' := mX6_tries) (n := 4) dX6_letter_1 rfl cv_X6_83 (by first | decide | exact kd_bal (by assumption) | exact kd_let (by assumption) | assumption) ⟨⟨by decide, by decide⟩, by decide, by decide⟩ (Nat.le_of_ble_eq_true rfl) (show CM mX6_tries [.ref 395] (c, od) (RV (triesS c, od)) from m_tries c od) ?_
  refine WE.iload_n (n := 5) dX6_letter_4 rfl rfl ?_
  refine WE.iconst (n := 6) (nI 1) dX6_letter_5 rfl (by decide) ?_
  refine WE.bipush (n := 8) (nI 9) dX6_letter_6 rfl (by decide) ?_
  refine WE.S3I (M' := mX6_in) (n := 11) dX6_letter_8 rfl cv_X6_58  ⟨⟨by decide, by decide⟩, by decide, by decide⟩ (Nat.le_of_ble_eq_true rfl) (m_in _ _ _ _) ?_
  refine WE.if_eqB (n := 14) (tgt := 23) dX6_letter_11 rfl (by decide) (fun h11 => ?_) (fun h11 => ?_)
  · skip
    refine WE.aload_n (n := 24) dX6_letter_23 rfl rfl ?_
    refine WE.iconst (n := 25) (nI 1) dX6_letter_24 rfl (by decide) ?_
    refine WE.V1I (M' := mX6_raises) (n := 28) dX6_letter_25 rfl cv_X6_55 (by first | decide | exact kd_bal (by assumption) | exact kd_let (by assumption) | assumption) ⟨⟨by decide, by decide⟩, by decide, by decide⟩ (Nat.le_of_ble_eq_true rfl) (m_raises _ _ _) ?_
    refine WE.iret (ty := .int) dX6_letter_28 rfl rfl ⟨by decide, by decide⟩ ?_
    (try simp only [tr_396] at *)
    simp (disch := omega) only [S_letter, h11, tru, mG, tr_396, u2_now, u2_setN5, setN_setN, setN_at, setN_5, u2_56, upN_eq, upN_ne, bk, isBN, ↓reduceIte, and_self, and_true, true_and, not_true_eq_false, not_false_eq_true]
    exact RI.mk rfl rfl
  · skip
    refine WE.iload_n (n := 15) dX6_letter_14 rfl rfl ?_
    refine WE.iconst (n := 16) (nI 0) dX6_letter_15 rfl (by decide) ?_
    refine WE.iconst (n := 17) (nI 2) dX6_letter_16 rfl (by decide) ?_
    refine WE.S3I (M' := mX6_in) (n := 20) dX6_letter_17 rfl cv_X6_58  ⟨⟨by decide, by decide⟩, by decide, by decide⟩ (Nat.le_of_ble_eq_true rfl) (m_in _ _ _ _) ?_
    refine WE.if_neB (n := 23) (tgt := 29) dX6_letter_20 rfl (by decide) (fun h20 => ?_) (fun h20 => ?_)
    · skip
      refine WE.aload_n (n := 30) dX6_letter_29 rfl rfl ?_
      refine WE.getR (n := 33) dX6_letter_30 rfl fl_X6_9 ⟨by decide, by decide⟩ rfl (by first | decide | exact kd_bal (by assumption) | exact kd_let (by assumption) | assumption) ?_
      refine WE.iconst (n := 34) (nI 4) dX6_letter_33 rfl (by decide) ?_
      refine WE.iald (n := 35) 4 dX6_letter_34 rfl (by first | decide | assumption) rfl (by show _ < 184; omega) ?_
      refine WE.bipush (n := 37) (nI 24) dX6_letter_35 rfl (by decide) ?_
      refine WE.icmp_ne (n := 40) (tgt := 53) dX6_letter_37 rfl (by decide) (fun h37 => ?_) (fun h37 => ?_)
      · skip
        have hn : nl < 24 := by
          have : nl ≠ 24 := fun q => h37 (by rw [tr_396, hc4, q])
          omega
        rw [tr_396] at h37
        refine WE.bipush (n := 55) (nI 88) dX6_letter_53 rfl (by decide) ?_
        refine WE.iconst (n := 56) (nI 4) dX6_letter_55 rfl (by decide) ?_
        refine WE.aload_n (n := 57) dX6_letter_56 rfl rfl ?_
        refine WE.getR (n := 60) dX6_letter_57 rfl fl_X6_9 ⟨by decide, by decide⟩ rfl (by first | decide | exact kd_bal (by assumption) | exact kd_let (by assumption) | assumption) ?_
        refine WE.iconst (n := 61) (nI 4) dX6_letter_60 rfl (by decide) ?_
        refine WE.dup2 (n := 62) dX6_letter_61 rfl rfl rfl ?_
        refine WE.iald (n := 63) 4 dX6_letter_62 rfl (by first | decide | assumption) rfl (by show _ < 184; omega) ?_
        refine WE.dup_x2 (n := 64) dX6_letter_63 rfl rfl rfl rfl ?_
        refine WE.iconst (n := 65) (nI 1) dX6_letter_64 rfl (by decide) ?_
        refine WE.iadd (n := 66) dX6_letter_65 rfl ?_
        refine WE.iast (n := 67) 4 dX6_letter_66 rfl (by first | decide | assumption) rfl (by show _ < 184; omega) ?_
        refine WE.ofS (σ' := (setN (triesS c) (upN (c 396) 4 (c 396 4 + nI 1)), od)) (by simp only [u2_now, tr_396]) ?_
        rw [tr_396, hc4]
        refine WE.imul (n := 68) dX6_letter_67 rfl ?_
        refine WE.iadd (n := 69) dX6_letter_68 rfl ?_
        refine WE.istore_n (n := 70) dX6_letter_69 rfl (by decide) ?_
        refine WE.aload_n (n := 71) dX6_letter_70 rfl rfl ?_
        refine WE.getR (n := 74) dX6_letter_71 rfl fl_X6_9 ⟨by decide, by decide⟩ rfl (by first | decide | exact kd_bal (by assumption) | exact kd_let (by assumption) | assumption) ?_
        refine WE.iload_n (n := 75) dX6_letter_74 rfl rfl ?_
        refine WE.iload_n (n := 76) dX6_letter_75 rfl rfl ?_
        refine WE.iast (n := 77) (88 + 4 * nl) dX6_letter_76 rfl (by first | decide | assumption) (by first | rfl | simp only [pk_mul, nI_add]) (by show _ < 184; omega) ?_
        refine WE.aload_n (n := 78) dX6_letter_77 rfl rfl ?_
        refine WE.getR (n := 81) dX6_letter_78 rfl fl_X6_9 ⟨by decide, by decide⟩ rfl (by first | decide | exact kd_bal (by assumption) | exact kd_let (by assumption) | assumption) ?_
        refine WE.iload_n (n := 82) dX6_letter_81 rfl rfl ?_
        refine WE.iconst (n := 83) (nI 1) dX6_letter_82 rfl (by decide) ?_
        refine WE.iadd (n := 84) dX6_letter_83 rfl ?_
        refine WE.iload_n (n := 85) dX6_letter_84 rfl rfl ?_
        refine WE.iast (n := 86) (88 + 4 * nl + 1) dX6_letter_85 rfl (by first | decide | assumption) (by first | rfl | simp only [pk_mul, nI_add]) (by show _ < 184; omega) ?_
        refine WE.aload_n (n := 87) dX6_letter_86 rfl rfl ?_
        refine WE.getR (n := 90) dX6_letter_87 rfl fl_X6_9 ⟨by decide, by decide⟩ rfl (by first | decide | exact kd_bal (by assumption) | exact kd_let (by assumption) | assumption) ?_
        refine WE.iload_n (n := 91) dX6_letter_90 rfl rfl ?_
        refine WE.iconst (n := 92) (nI 2) dX6_letter_91 rfl (by decide) ?_
        refine WE.iadd (n := 93) dX6_letter_92 rfl ?_
        refine WE.iconst (n := 94) (nI 0) dX6_letter_93 rfl (by decide) ?_
        refine WE.iast (n := 95) (88 + 4 * nl + 2) dX6_letter_94 rfl (by first | decide | assumption) (by first | rfl | simp only [pk_mul, nI_add]) (by show _ < 184; omega) ?_
        refine WE.aload_n (n := 96) dX6_letter_95 rfl rfl ?_
        refine WE.getR (n := 99) dX6_letter_96 rfl fl_X6_9 ⟨by decide, by decide⟩ rfl (by first | decide | exact kd_bal (by assumption) | exact kd_let (by assumption) | assumption) ?_
        refine WE.iload_n (n := 100) dX6_letter_99 rfl rfl ?_
        refine WE.iconst (n := 101) (nI 3) dX6_letter_100 rfl (by decide) ?_
        refine WE.iadd (n := 102) dX6_letter_101 rfl ?_
        refine WE.iconst (n := 103) ((-1 : Int32)) dX6_letter_102 rfl (by decide) ?_
        refine WE.iast (n := 104) (88 + 4 * nl + 3) dX6_letter_103 rfl (by first | decide | assumption) (by first | rfl | simp only [pk_mul, nI_add]) (by show _ < 184; omega) ?_
        refine WE.aload_n (n := 105) dX6_letter_104 rfl rfl ?_
        refine WE.aload_n (n := 106) dX6_letter_105 rfl rfl ?_
        refine WE.getR (n := 109) dX6_letter_106 rfl fl_X6_9 ⟨by decide, by decide⟩ rfl (by first | decide | exact kd_bal (by assumption) | exact kd_let (by assumption) | assumption) ?_
        refine WE.iconst (n := 110) (nI 4) dX6_letter_109 rfl (by decide) ?_
        refine WE.iald (n := 111) 4 dX6_letter_110 rfl (by first | decide | assumption) rfl (by show _ < 184; omega) ?_
        refine WE.iconst (n := 112) (nI 1) dX6_letter_111 rfl (by decide) ?_
        refine WE.isub (n := 113) dX6_letter_112 rfl ?_
        refine WE.V1I (M' := mX6_keeps) (n := 116) dX6_letter_113 rfl cv_X6_51 (by first | decide | exact kd_bal (by assumption) | exact kd_let (by assumption) | assumption) ⟨⟨by decide, by decide⟩, by decide, by decide⟩ (Nat.le_of_ble_eq_true rfl) (m_keeps _ _ _ u hu (by simp only [u2_now, setN_5]; exact tru)) ?_
        refine WE.iret (ty := .int) dX6_letter_116 rfl rfl ⟨by decide, by decide⟩ ?_
        rw [hc4] at h37
        (try simp only [tr_396] at *)
        simp (disch := omega) only [S_letter, h11, h20, h37, hc4, hcl4, leN, tru, mG, tr_396, u2_now, u2_setN5, setN_setN, setN_at, setN_5, u2_56, upN_eq, upN_ne, bk, isBN, ↓reduceIte, and_self, and_true, true_and, not_true_eq_false, not_false_eq_true]
        exact RI.mk rfl rfl
      · skip
        refine WE.aload_n (n := 41) dX6_letter_40 rfl rfl ?_
        refine WE.aload_n (n := 42) dX6_letter_41 rfl rfl ?_
        refine WE.iconst (n := 43) (nI 1) dX6_letter_42 rfl (by decide) ?_
        refine WE.bipush (n := 45) (nI 24) dX6_letter_43 rfl (by decide) ?_
        refine WE.V2I (M' := mX6_why) (n := 48) dX6_letter_45 rfl cv_X6_99 (by first | decide | exact kd_bal (by assumption) | exact kd_let (by assumption) | assumption) ⟨⟨by decide, by decide⟩, by decide, by decide⟩ (Nat.le_of_ble_eq_true rfl) (m_why _ _ _ _) ?_
        refine WE.iconst (n := 49) (nI 2) dX6_letter_48 rfl (by decide) ?_
        refine WE.V2I (M' := mX6_outcome) (n := 52) dX6_letter_49 rfl cv_X6_93 (by first | decide | exact kd_bal (by assumption) | exact kd_let (by assumption) | assumption) ⟨⟨by decide, by decide⟩, by decide, by decide⟩ (Nat.le_of_ble_eq_true rfl) (m_outcome _ _ _ _ u hu (by rw [u2_ne _ _ (by decide), u2_ne _ _ (by decide)]; exact tru)) ?_
        refine WE.iret (ty := .int) dX6_letter_52 rfl rfl ⟨by decide, by decide⟩ ?_
        (try simp only [tr_396] at *)
        simp (disch := omega) only [S_letter, h11, h20, h37, tru, mG, tr_396, u2_now, u2_setN5, setN_setN, setN_at, setN_5, u2_56, upN_eq, upN_ne, bk, isBN, ↓reduceIte, and_self, and_true, true_and, not_true_eq_false, not_false_eq_true]
        exact RI.mk rfl rfl
    · skip
      refine WE.aload_n (n := 24) dX6_letter_23 rfl rfl ?_
      refine WE.iconst (n := 25) (nI 1) dX6_letter_24 rfl (by decide) ?_
      refine WE.V1I (M' := mX6_raises) (n := 28) dX6_letter_25 rfl cv_X6_55 (by first | decide | exact kd_bal (by assumption) | exact kd_let (by assumption) | assumption) ⟨⟨by decide, by decide⟩, by decide, by decide⟩ (Nat.le_of_ble_eq_true rfl) (m_raises _ _ _) ?_
      refine WE.iret (ty := .int) dX6_letter_28 rfl rfl ⟨by decide, by decide⟩ ?_
      (try simp only [tr_396] at *)
      simp (disch := omega) only [S_letter, h11, h20, tru, mG, tr_396, u2_now, u2_setN5, setN_setN, setN_at, setN_5, u2_56, upN_eq, upN_ne, bk, isBN, ↓reduceIte, and_self, and_true, true_and, not_true_eq_false, not_false_eq_true]
      exact RI.mk rfl rfl
