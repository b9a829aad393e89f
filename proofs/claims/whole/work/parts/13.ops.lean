/-- what an order or a change comes to: done (its answer, the numbers then), refused (reason, detail), or another exception (by its place) -/
abbrev OR : Type := (Int32 × NA) ⊕ (Int32 × Int32) ⊕ Nat
def mcode (r : OR) : Int32 := match r with
  | .inl _ => nI 0
  | .inr (.inl q) => q.1
  | .inr (.inr 1) => (-1 : Int32)
  | .inr (.inr _) => (-2 : Int32)
/-- the reference behind it -/
def mS (c : CC) (r : OR) : CC := match r with
  | .inl q => setN (u2 c 395 15 q.1) q.2
  | .inr (.inl q) => u2 (u2 c 395 13 q.1) 395 14 q.2
  | .inr (.inr _) => c
theorem u2_setN5 (c : CC) (N : NA) (k : Nat) (x : Int32) : u2 (setN c N) 395 k x = setN (u2 c 395 k x) N := u2_setN_o c N k x (by decide)
theorem setN_5 (c : CC) (N : NA) : setN c N 395 = c 395 := setN_o c N (by decide)
theorem u2_56 (c : CC) (k : Nat) (x : Int32) : u2 c 395 k x 396 = c 396 := u2_o c k x (by decide)
theorem isB_of {nb : Nat} {n b : Int32} (hb : nb ≤ 6) (hc : n = nI nb) (h : nI 0 ≤ b ∧ b ≤ n - nI 1) : ∃ j : Nat, j < nb ∧ b = nI j := by
  subst hc
  obtain ⟨j, hj, rfl⟩ := nI_of (x := b) (by
    have := h.1
    rw [Int32.le_iff_toInt_le] at this
    rw [Int32.lt_iff_toInt_lt]
    have h0 : (nI 0).toInt = 0 := by decide
    have h1 : (0 : Int32).toInt = 0 := by decide
    omega)
  refine ⟨j, ?_, rfl⟩
  have h2 := h.2
  rw [Int32.le_iff_toInt_le, pk_sub_toInt (by omega) (by omega), nI_toInt hj] at h2
  omega
theorem isL_of {nl : Nat} {n b : Int32} (hb : nl ≤ 24) (hc : n = nI nl) (h : nI 0 ≤ b ∧ b ≤ n - nI 1) : ∃ j : Nat, j < nl ∧ b = nI j := by
  subst hc
  obtain ⟨j, hj, rfl⟩ := nI_of (x := b) (by
    have := h.1
    rw [Int32.le_iff_toInt_le] at this
    rw [Int32.lt_iff_toInt_lt]
    have h0 : (nI 0).toInt = 0 := by decide
    have h1 : (0 : Int32).toInt = 0 := by decide
    omega)
  refine ⟨j, ?_, rfl⟩
  have h2 := h.2
  rw [Int32.le_iff_toInt_le, pk_sub_toInt (by omega) (by omega), nI_toInt hj] at h2
  omega
theorem in_of {m : Nat} {x : Int32} (hm : m < 2 ^ 30) (h : nI 0 ≤ x ∧ x ≤ nI m) : ∃ j : Nat, j ≤ m ∧ x = nI j := by
  obtain ⟨j, hj, rfl⟩ := nI_of (x := x) (by
    have := h.1
    rw [Int32.le_iff_toInt_le] at this
    rw [Int32.lt_iff_toInt_lt]
    have h0 : (nI 0).toInt = 0 := by decide
    have h1 : (0 : Int32).toInt = 0 := by decide
    omega)
  exact ⟨j, (nI_leI hj (by omega)).mp h.2, rfl⟩
abbrev isBN (N : NA) (b : Int32) : Prop := nI 0 ≤ b ∧ b ≤ N 3 - nI 1
abbrev isLN (N : NA) (b : Int32) : Prop := nI 0 ≤ b ∧ b ≤ N 4 - nI 1
def S_blows (N : NA) (h x y : Int32) : OR :=
  if nI 0 ≤ h ∧ h ≤ nI 5 then
    if (-3 : Int32) ≤ x ∧ x ≤ nI 3 then
      if (-3 : Int32) ≤ y ∧ y ≤ nI 3 then
        .inl (nI 10 * N (10 + 2 * h.toNatClampNeg) + N (10 + 2 * h.toNatClampNeg + 1), upN (upN N (10 + 2 * h.toNatClampNeg) x) (10 + 2 * h.toNatClampNeg + 1) y)
      else .inr (.inr 2)
    else .inr (.inr 2)
  else .inr (.inr 1)
abbrev bk (b : Int32) (w : Nat) : Nat := 22 + 11 * b.toNatClampNeg + w
def S_fills (N : NA) (b a : Int32) : OR :=
  if isBN N b then
    if nI 1 ≤ a ∧ a ≤ nI 99 then
      if N (bk b 5) = 0 then
        if a ≤ N 2 then
          if a ≤ N (bk b 0) - N (bk b 1) then .inl (N (bk b 1) + a, upN (upN N 2 (N 2 - a)) (bk b 1) (N (bk b 1) + a))
          else .inr (.inl (nI 5, N (bk b 0) - N (bk b 1)))
        else .inr (.inl (nI 4, N 2))
      else .inr (.inl (nI 2, b))
    else .inr (.inr 2)
  else .inr (.inr 1)
def S_lays (N : NA) (b a : Int32) : OR :=
  if isBN N b then
    if nI 1 ≤ a ∧ a ≤ nI 50 then
      if N (bk b 5) = 0 then
        if a ≤ nI 50 - N (bk b 2) then .inl (N (bk b 2) + a, upN (upN N (bk b 2) (N (bk b 2) + a)) 5 (N 5 + a))
        else .inr (.inl (nI 6, nI 50 - N (bk b 2)))
      else .inr (.inl (nI 2, b))
    else .inr (.inr 2)
  else .inr (.inr 1)
def nlN (N : NA) : Nat := (N 4).toNatClampNeg
def S_launches (N : NA) (b : Int32) : OR :=
  if isBN N b then
    if N (bk b 5) = 0 then
      if 0 ≤ beN N b.toNatClampNeg (nlN N) then .inl (beN N b.toNatClampNeg (nlN N), upN N (bk b 5) (nI 1))
      else .inr (.inl (nI 9, -(beN N b.toNatClampNeg (nlN N))))
    else .inr (.inl (nI 2, b))
  else .inr (.inr 1)
def S_drops (N : NA) (b a : Int32) : OR :=
  if isBN N b then
    if nI 1 ≤ a ∧ a ≤ nI 50 then
      if N (bk b 5) = nI 1 then
        if a ≤ N (bk b 2) then .inl (N (bk b 2) - a, upN (upN N (bk b 2) (N (bk b 2) - a)) 6 (N 6 + a))
        else .inr (.inl (nI 7, N (bk b 2)))
      else .inr (.inl (nI 3, b))
    else .inr (.inr 2)
  else .inr (.inr 1)
abbrev lk (l : Int32) (w : Nat) : Nat := 88 + 4 * l.toNatClampNeg + w
def ldN (N : NA) (l : Nat) (b : Int32) : NA := upN (upN N (88 + 4 * l + 2) (nI 1)) (88 + 4 * l + 3) b
def S_loads (N : NA) (l b : Int32) : OR :=
  if isLN N l then
    if isBN N b then
      if N (lk l 2) = 0 then
        if N (bk b 5) = 0 then .inl (wgN (ldN N l.toNatClampNeg b) b.toNatClampNeg (nlN N), ldN N l.toNatClampNeg b)
        else .inr (.inl (nI 2, b))
      else .inr (.inl (nI 8, l))
    else .inr (.inr 1)
  else .inr (.inr 1)

set_option maxRecDepth 20000 in
set_option maxHeartbeats 1000000 in
theorem m_blows (c : CC) (od : Int64 × UInt64) (h x y : Int32) : CM mX6_blows [.ref 395, .int h, .int x, .int y] (c, od) (RI (mcode (S_blows (c 396) h x y)) (mS c (S_blows (c 396) h x y), od)) := by
  refine CM.of [(0, .ref 395), (1, .int h), (2, .int x), (3, .int y)] rfl (by decide +kernel) rfl (Nat.le_of_ble_eq_true rfl) ?_
  refine WE.iload_n (n := 1) dX6_blows_0 rfl rfl ?_
  refine WE.iconst (n := 2) (nI 0) dX6_blows_1 rfl (by decide) ?_
  refine WE.iconst (n := 3) (nI 5) dX6_blows_2 rfl (by decide) ?_
  refine WE.S3I (M' := mX6_in) (n := 6) dX6_blows_3 rfl cv_X6_58  ⟨⟨by decide, by decide⟩, by decide, by decide⟩ (Nat.le_of_ble_eq_true rfl) (m_in _ _ _ _) ?_
  refine WE.if_neB (n := 9) (tgt := 11) dX6_blows_6 rfl (by decide) (fun h6 => ?_) (fun h6 => ?_)
  · skip
    obtain ⟨j, hj, rfl⟩ := in_of (by decide) h6
    have hcl : (nI j).toNatClampNeg = j := nI_clamp (by omega)
    refine WE.iload_n (n := 12) dX6_blows_11 rfl rfl ?_
    refine WE.bipush (n := 14) ((-3 : Int32)) dX6_blows_12 rfl (by decide) ?_
    refine WE.iconst (n := 15) (nI 3) dX6_blows_14 rfl (by decide) ?_
    refine WE.S3I (M' := mX6_in) (n := 18) dX6_blows_15 rfl cv_X6_58  ⟨⟨by decide, by decide⟩, by decide, by decide⟩ (Nat.le_of_ble_eq_true rfl) (m_in _ _ _ _) ?_
    refine WE.if_eqB (n := 21) (tgt := 31) dX6_blows_18 rfl (by decide) (fun h18 => ?_) (fun h18 => ?_)
    · skip
      refine WE.bipush (n := 33) ((-2 : Int32)) dX6_blows_31 rfl (by decide) ?_
      refine WE.iret (ty := .int) dX6_blows_33 rfl rfl ⟨by decide, by decide⟩ ?_
      simp (disch := omega) only [S_blows, h6, h18, hcl, u2_now, u2_setN5, setN_setN, setN_at, setN_5, u2_56, upN_eq, upN_ne, bk, lk, isBN, isLN, ↓reduceIte, and_self, and_true, true_and, not_true_eq_false, not_false_eq_true]
      exact RI.mk rfl rfl
    · skip
      refine WE.iload_n (n := 22) dX6_blows_21 rfl rfl ?_
      refine WE.bipush (n := 24) ((-3 : Int32)) dX6_blows_22 rfl (by decide) ?_
      refine WE.iconst (n := 25) (nI 3) dX6_blows_24 rfl (by decide) ?_
      refine WE.S3I (M' := mX6_in) (n := 28) dX6_blows_25 rfl cv_X6_58  ⟨⟨by decide, by decide⟩, by decide, by decide⟩ (Nat.le_of_ble_eq_true rfl) (m_in _ _ _ _) ?_
      refine WE.if_neB (n := 31) (tgt := 34) dX6_blows_28 rfl (by decide) (fun h28 => ?_) (fun h28 => ?_)
      · skip
        refine WE.bipush (n := 36) (nI 10) dX6_blows_34 rfl (by decide) ?_
        refine WE.iconst (n := 37) (nI 2) dX6_blows_36 rfl (by decide) ?_
        refine WE.iload_n (n := 38) dX6_blows_37 rfl rfl ?_
        refine WE.imul (n := 39) dX6_blows_38 rfl ?_
        refine WE.iadd (n := 40) dX6_blows_39 rfl ?_
        refine WE.istore (n := 42) dX6_blows_40 rfl (by decide) ?_
        refine WE.bipush (n := 44) (nI 10) dX6_blows_42 rfl (by decide) ?_
        refine WE.aload_n (n := 45) dX6_blows_44 rfl rfl ?_
        refine WE.getR (n := 48) dX6_blows_45 rfl fl_X6_9 ⟨by decide, by decide⟩ rfl (by first | decide | exact kd_bal (by assumption) | exact kd_let (by assumption) | assumption) ?_
        refine WE.iload (n := 50) dX6_blows_48 rfl rfl ?_
        refine WE.iald (n := 51) (10 + 2 * j) dX6_blows_50 rfl (by first | decide | assumption) (by first | rfl | simp only [pk_mul, nI_add]) (by show _ < 184; omega) ?_
        refine WE.imul (n := 52) dX6_blows_51 rfl ?_
        refine WE.aload_n (n := 53) dX6_blows_52 rfl rfl ?_
        refine WE.getR (n := 56) dX6_blows_53 rfl fl_X6_9 ⟨by decide, by decide⟩ rfl (by first | decide | exact kd_bal (by assumption) | exact kd_let (by assumption) | assumption) ?_
        refine WE.iload (n := 58) dX6_blows_56 rfl rfl ?_
        refine WE.iconst (n := 59) (nI 1) dX6_blows_58 rfl (by decide) ?_
        refine WE.iadd (n := 60) dX6_blows_59 rfl ?_
        refine WE.iald (n := 61) (10 + 2 * j + 1) dX6_blows_60 rfl (by first | decide | assumption) (by first | rfl | simp only [pk_mul, nI_add]) (by show _ < 184; omega) ?_
        refine WE.iadd (n := 62) dX6_blows_61 rfl ?_
        refine WE.istore (n := 64) dX6_blows_62 rfl (by decide) ?_
        refine WE.aload_n (n := 65) dX6_blows_64 rfl rfl ?_
        refine WE.getR (n := 68) dX6_blows_65 rfl fl_X6_9 ⟨by decide, by decide⟩ rfl (by first | decide | exact kd_bal (by assumption) | exact kd_let (by assumption) | assumption) ?_
        refine WE.iload (n := 70) dX6_blows_68 rfl rfl ?_
        refine WE.iload_n (n := 71) dX6_blows_70 rfl rfl ?_
        refine WE.iast (n := 72) (10 + 2 * j) dX6_blows_71 rfl (by first | decide | assumption) (by first | rfl | simp only [pk_mul, nI_add]) (by show _ < 184; omega) ?_
        refine WE.aload_n (n := 73) dX6_blows_72 rfl rfl ?_
        refine WE.getR (n := 76) dX6_blows_73 rfl fl_X6_9 ⟨by decide, by decide⟩ rfl (by first | decide | exact kd_bal (by assumption) | exact kd_let (by assumption) | assumption) ?_
        refine WE.iload (n := 78) dX6_blows_76 rfl rfl ?_
        refine WE.iconst (n := 79) (nI 1) dX6_blows_78 rfl (by decide) ?_
        refine WE.iadd (n := 80) dX6_blows_79 rfl ?_
        refine WE.iload_n (n := 81) dX6_blows_80 rfl rfl ?_
        refine WE.iast (n := 82) (10 + 2 * j + 1) dX6_blows_81 rfl (by first | decide | assumption) (by first | rfl | simp only [pk_mul, nI_add]) (by show _ < 184; omega) ?_
        refine WE.aload_n (n := 83) dX6_blows_82 rfl rfl ?_
        refine WE.iload (n := 85) dX6_blows_83 rfl rfl ?_
        refine WE.V1I (M' := mX6_does) (n := 88) dX6_blows_85 rfl cv_X6_86 (by first | decide | exact kd_bal (by assumption) | exact kd_let (by assumption) | assumption) ⟨⟨by decide, by decide⟩, by decide, by decide⟩ (Nat.le_of_ble_eq_true rfl) (m_does _ _ _) ?_
        refine WE.iret (ty := .int) dX6_blows_88 rfl rfl ⟨by decide, by decide⟩ ?_
        simp (disch := omega) only [S_blows, h6, h18, h28, hcl, u2_now, u2_setN5, setN_setN, setN_at, setN_5, u2_56, upN_eq, upN_ne, bk, lk, isBN, isLN, ↓reduceIte, and_self, and_true, true_and, not_true_eq_false, not_false_eq_true]
        exact RI.mk rfl rfl
      · skip
        refine WE.bipush (n := 33) ((-2 : Int32)) dX6_blows_31 rfl (by decide) ?_
        refine WE.iret (ty := .int) dX6_blows_33 rfl rfl ⟨by decide, by decide⟩ ?_
        simp (disch := omega) only [S_blows, h6, h18, h28, hcl, u2_now, u2_setN5, setN_setN, setN_at, setN_5, u2_56, upN_eq, upN_ne, bk, lk, isBN, isLN, ↓reduceIte, and_self, and_true, true_and, not_true_eq_false, not_false_eq_true]
        exact RI.mk rfl rfl
  · skip
    refine WE.iconst (n := 10) ((-1 : Int32)) dX6_blows_9 rfl (by decide) ?_
    refine WE.iret (ty := .int) dX6_blows_10 rfl rfl ⟨by decide, by decide⟩ ?_
    simp (disch := omega) only [S_blows, h6, u2_now, u2_setN5, setN_setN, setN_at, setN_5, u2_56, upN_eq, upN_ne, bk, lk, isBN, isLN, ↓reduceIte, and_self, and_true, true_and, not_true_eq_false, not_false_eq_true]
    exact RI.mk rfl rfl
set_option maxRecDepth 20000 in
set_option maxHeartbeats 1000000 in
theorem m_fills (c : CC) (od : Int64 × UInt64) (b a : Int32) (nb : Nat) (hnb : nb ≤ 6) (hc3 : c 396 3 = nI nb) : CM mX6_fills [.ref 395, .int b, .int a] (c, od) (RI (mcode (S_fills (c 396) b a)) (mS c (S_fills (c 396) b a), od)) := by
  refine CM.of [(0, .ref 395), (1, .int b), (2, .int a)] rfl (by decide +kernel) rfl (Nat.le_of_ble_eq_true rfl) ?_
  refine WE.aload_n (n := 1) dX6_fills_0 rfl rfl ?_
  refine WE.iload_n (n := 2) dX6_fills_1 rfl rfl ?_
  refine WE.V1I (M' := mX6_isBalloon) (n := 5) dX6_fills_2 rfl cv_X6_106 (by first | decide | exact kd_bal (by assumption) | exact kd_let (by assumption) | assumption) ⟨⟨by decide, by decide⟩, by decide, by decide⟩ (Nat.le_of_ble_eq_true rfl) (m_isBalloon _ _ _) ?_
  refine WE.if_neB (n := 8) (tgt := 10) dX6_fills_5 rfl (by decide) (fun h5 => ?_) (fun h5 => ?_)
  · skip
    obtain ⟨j, hj, rfl⟩ := isB_of hnb hc3 h5
    have hcl : (nI j).toNatClampNeg = j := nI_clamp (by omega)
    refine WE.iload_n (n := 11) dX6_fills_10 rfl rfl ?_
    refine WE.iconst (n := 12) (nI 1) dX6_fills_11 rfl (by decide) ?_
    refine WE.bipush (n := 14) (nI 99) dX6_fills_12 rfl (by decide) ?_
    refine WE.S3I (M' := mX6_in) (n := 17) dX6_fills_14 rfl cv_X6_58  ⟨⟨by decide, by decide⟩, by decide, by decide⟩ (Nat.le_of_ble_eq_true rfl) (m_in _ _ _ _) ?_
    refine WE.if_neB (n := 20) (tgt := 23) dX6_fills_17 rfl (by decide) (fun h17 => ?_) (fun h17 => ?_)
    · skip
      refine WE.aload_n (n := 24) dX6_fills_23 rfl rfl ?_
      refine WE.iload_n (n := 25) dX6_fills_24 rfl rfl ?_
      refine WE.iconst (n := 26) (nI 5) dX6_fills_25 rfl (by decide) ?_
      refine WE.V2I (M' := mX6_of) (n := 29) dX6_fills_26 rfl cv_X6_71 (by first | decide | exact kd_bal (by assumption) | exact kd_let (by assumption) | assumption) ⟨⟨by decide, by decide⟩, by decide, by decide⟩ (Nat.le_of_ble_eq_true rfl) (m_of _ _ j 5 (by omega)) ?_
      refine WE.if_eq (n := 32) (tgt := 39) dX6_fills_29 rfl (by decide) (fun h29 => ?_) (fun h29 => ?_)
      · skip
        refine WE.aload_n (n := 40) dX6_fills_39 rfl rfl ?_
        refine WE.getR (n := 43) dX6_fills_40 rfl fl_X6_9 ⟨by decide, by decide⟩ rfl (by first | decide | exact kd_bal (by assumption) | exact kd_let (by assumption) | assumption) ?_
        refine WE.iconst (n := 44) (nI 2) dX6_fills_43 rfl (by decide) ?_
        refine WE.iald (n := 45) 2 dX6_fills_44 rfl (by first | decide | assumption) rfl (by show _ < 184; omega) ?_
        refine WE.iload_n (n := 46) dX6_fills_45 rfl rfl ?_
        refine WE.icmp_ge (n := 49) (tgt := 61) dX6_fills_46 rfl (by decide) (fun h46 => ?_) (fun h46 => ?_)
        · skip
          refine WE.aload_n (n := 62) dX6_fills_61 rfl rfl ?_
          refine WE.iload_n (n := 63) dX6_fills_62 rfl rfl ?_
          refine WE.iconst (n := 64) (nI 0) dX6_fills_63 rfl (by decide) ?_
          refine WE.V2I (M' := mX6_of) (n := 67) dX6_fills_64 rfl cv_X6_71 (by first | decide | exact kd_bal (by assumption) | exact kd_let (by assumption) | assumption) ⟨⟨by decide, by decide⟩, by decide, by decide⟩ (Nat.le_of_ble_eq_true rfl) (m_of _ _ j 0 (by omega)) ?_
          refine WE.aload_n (n := 68) dX6_fills_67 rfl rfl ?_
          refine WE.iload_n (n := 69) dX6_fills_68 rfl rfl ?_
          refine WE.iconst (n := 70) (nI 1) dX6_fills_69 rfl (by decide) ?_
          refine WE.V2I (M' := mX6_of) (n := 73) dX6_fills_70 rfl cv_X6_71 (by first | decide | exact kd_bal (by assumption) | exact kd_let (by assumption) | assumption) ⟨⟨by decide, by decide⟩, by decide, by decide⟩ (Nat.le_of_ble_eq_true rfl) (m_of _ _ j 1 (by omega)) ?_
          refine WE.isub (n := 74) dX6_fills_73 rfl ?_
          refine WE.istore_n (n := 75) dX6_fills_74 rfl (by decide) ?_
          refine WE.iload_n (n := 76) dX6_fills_75 rfl rfl ?_
          refine WE.iload_n (n := 77) dX6_fills_76 rfl rfl ?_
          refine WE.icmp_ge (n := 80) (tgt := 87) dX6_fills_77 rfl (by decide) (fun h77 => ?_) (fun h77 => ?_)
          · skip
            refine WE.aload_n (n := 88) dX6_fills_87 rfl rfl ?_
            refine WE.getR (n := 91) dX6_fills_88 rfl fl_X6_9 ⟨by decide, by decide⟩ rfl (by first | decide | exact kd_bal (by assumption) | exact kd_let (by assumption) | assumption) ?_
            refine WE.iconst (n := 92) (nI 2) dX6_fills_91 rfl (by decide) ?_
            refine WE.dup2 (n := 93) dX6_fills_92 rfl rfl rfl ?_
            refine WE.iald (n := 94) 2 dX6_fills_93 rfl (by first | decide | assumption) rfl (by show _ < 184; omega) ?_
            refine WE.iload_n (n := 95) dX6_fills_94 rfl rfl ?_
            refine WE.isub (n := 96) dX6_fills_95 rfl ?_
            refine WE.iast (n := 97) 2 dX6_fills_96 rfl (by first | decide | assumption) rfl (by show _ < 184; omega) ?_
            refine WE.aload_n (n := 98) dX6_fills_97 rfl rfl ?_
            refine WE.iload_n (n := 99) dX6_fills_98 rfl rfl ?_
            refine WE.iconst (n := 100) (nI 1) dX6_fills_99 rfl (by decide) ?_
            refine WE.aload_n (n := 101) dX6_fills_100 rfl rfl ?_
            refine WE.iload_n (n := 102) dX6_fills_101 rfl rfl ?_
            refine WE.iconst (n := 103) (nI 1) dX6_fills_102 rfl (by decide) ?_
            refine WE.V2I (M' := mX6_of) (n := 106) dX6_fills_103 rfl cv_X6_71 (by first | decide | exact kd_bal (by assumption) | exact kd_let (by assumption) | assumption) ⟨⟨by decide, by decide⟩, by decide, by decide⟩ (Nat.le_of_ble_eq_true rfl) (m_of _ _ j 1 (by omega)) ?_
            refine WE.iload_n (n := 107) dX6_fills_106 rfl rfl ?_
            refine WE.iadd (n := 108) dX6_fills_107 rfl ?_
            refine WE.V3V (M' := mX6_sets) (n := 111) dX6_fills_108 rfl cv_X6_102 (by first | decide | exact kd_bal (by assumption) | exact kd_let (by assumption) | assumption) ⟨⟨by decide, by decide⟩, by decide, by decide⟩ (Nat.le_of_ble_eq_true rfl) (m_sets _ _ j 1 _ (by omega)) ?_
            refine WE.aload_n (n := 112) dX6_fills_111 rfl rfl ?_
            refine WE.aload_n (n := 113) dX6_fills_112 rfl rfl ?_
            refine WE.iload_n (n := 114) dX6_fills_113 rfl rfl ?_
            refine WE.iconst (n := 115) (nI 1) dX6_fills_114 rfl (by decide) ?_
            refine WE.V2I (M' := mX6_of) (n := 118) dX6_fills_115 rfl cv_X6_71 (by first | decide | exact kd_bal (by assumption) | exact kd_let (by assumption) | assumption) ⟨⟨by decide, by decide⟩, by decide, by decide⟩ (Nat.le_of_ble_eq_true rfl) (m_of _ _ j 1 (by omega)) ?_
            refine WE.V1I (M' := mX6_does) (n := 121) dX6_fills_118 rfl cv_X6_86 (by first | decide | exact kd_bal (by assumption) | exact kd_let (by assumption) | assumption) ⟨⟨by decide, by decide⟩, by decide, by decide⟩ (Nat.le_of_ble_eq_true rfl) (m_does _ _ _) ?_
            refine WE.iret (ty := .int) dX6_fills_121 rfl rfl ⟨by decide, by decide⟩ ?_
            simp (disch := omega) only [S_fills, h5, h17, h29, h46, h77, hcl, u2_now, u2_setN5, setN_setN, setN_at, setN_5, u2_56, upN_eq, upN_ne, bk, lk, isBN, isLN, ↓reduceIte, and_self, and_true, true_and, not_true_eq_false, not_false_eq_true]
            exact RI.mk rfl rfl
          · skip
            refine WE.aload_n (n := 81) dX6_fills_80 rfl rfl ?_
            refine WE.iconst (n := 82) (nI 5) dX6_fills_81 rfl (by decide) ?_
            refine WE.iload_n (n := 83) dX6_fills_82 rfl rfl ?_
            refine WE.V2I (M' := mX6_why) (n := 86) dX6_fills_83 rfl cv_X6_99 (by first | decide | exact kd_bal (by assumption) | exact kd_let (by assumption) | assumption) ⟨⟨by decide, by decide⟩, by decide, by decide⟩ (Nat.le_of_ble_eq_true rfl) (m_why _ _ _ _) ?_
            refine WE.iret (ty := .int) dX6_fills_86 rfl rfl ⟨by decide, by decide⟩ ?_
            simp (disch := omega) only [S_fills, h5, h17, h29, h46, h77, hcl, u2_now, u2_setN5, setN_setN, setN_at, setN_5, u2_56, upN_eq, upN_ne, bk, lk, isBN, isLN, ↓reduceIte, and_self, and_true, true_and, not_true_eq_false, not_false_eq_true]
            exact RI.mk rfl rfl
        · skip
          refine WE.aload_n (n := 50) dX6_fills_49 rfl rfl ?_
          refine WE.iconst (n := 51) (nI 4) dX6_fills_50 rfl (by decide) ?_
          refine WE.aload_n (n := 52) dX6_fills_51 rfl rfl ?_
          refine WE.getR (n := 55) dX6_fills_52 rfl fl_X6_9 ⟨by decide, by decide⟩ rfl (by first | decide | exact kd_bal (by assumption) | exact kd_let (by assumption) | assumption) ?_
          refine WE.iconst (n := 56) (nI 2) dX6_fills_55 rfl (by decide) ?_
          refine WE.iald (n := 57) 2 dX6_fills_56 rfl (by first | decide | assumption) rfl (by show _ < 184; omega) ?_
          refine WE.V2I (M' := mX6_why) (n := 60) dX6_fills_57 rfl cv_X6_99 (by first | decide | exact kd_bal (by assumption) | exact kd_let (by assumption) | assumption) ⟨⟨by decide, by decide⟩, by decide, by decide⟩ (Nat.le_of_ble_eq_true rfl) (m_why _ _ _ _) ?_
          refine WE.iret (ty := .int) dX6_fills_60 rfl rfl ⟨by decide, by decide⟩ ?_
          simp (disch := omega) only [S_fills, h5, h17, h29, h46, hcl, u2_now, u2_setN5, setN_setN, setN_at, setN_5, u2_56, upN_eq, upN_ne, bk, lk, isBN, isLN, ↓reduceIte, and_self, and_true, true_and, not_true_eq_false, not_false_eq_true]
          exact RI.mk rfl rfl
      · skip
        refine WE.aload_n (n := 33) dX6_fills_32 rfl rfl ?_
        refine WE.iconst (n := 34) (nI 2) dX6_fills_33 rfl (by decide) ?_
        refine WE.iload_n (n := 35) dX6_fills_34 rfl rfl ?_
        refine WE.V2I (M' := mX6_why) (n := 38) dX6_fills_35 rfl cv_X6_99 (by first | decide | exact kd_bal (by assumption) | exact kd_let (by assumption) | assumption) ⟨⟨by decide, by decide⟩, by decide, by decide⟩ (Nat.le_of_ble_eq_true rfl) (m_why _ _ _ _) ?_
        refine WE.iret (ty := .int) dX6_fills_38 rfl rfl ⟨by decide, by decide⟩ ?_
        simp (disch := omega) only [S_fills, h5, h17, h29, hcl, u2_now, u2_setN5, setN_setN, setN_at, setN_5, u2_56, upN_eq, upN_ne, bk, lk, isBN, isLN, ↓reduceIte, and_self, and_true, true_and, not_true_eq_false, not_false_eq_true]
        exact RI.mk rfl rfl
    · skip
      refine WE.bipush (n := 22) ((-2 : Int32)) dX6_fills_20 rfl (by decide) ?_
      refine WE.iret (ty := .int) dX6_fills_22 rfl rfl ⟨by decide, by decide⟩ ?_
      simp (disch := omega) only [S_fills, h5, h17, hcl, u2_now, u2_setN5, setN_setN, setN_at, setN_5, u2_56, upN_eq, upN_ne, bk, lk, isBN, isLN, ↓reduceIte, and_self, and_true, true_and, not_true_eq_false, not_false_eq_true]
      exact RI.mk rfl rfl
  · skip
    refine WE.iconst (n := 9) ((-1 : Int32)) dX6_fills_8 rfl (by decide) ?_
    refine WE.iret (ty := .int) dX6_fills_9 rfl rfl ⟨by decide, by decide⟩ ?_
    simp (disch := omega) only [S_fills, h5, u2_now, u2_setN5, setN_setN, setN_at, setN_5, u2_56, upN_eq, upN_ne, bk, lk, isBN, isLN, ↓reduceIte, and_self, and_true, true_and, not_true_eq_false, not_false_eq_true]
    exact RI.mk rfl rfl
set_option maxRecDepth 20000 in
set_option maxHeartbeats 1000000 in
theorem m_lays (c : CC) (od : Int64 × UInt64) (b a : Int32) (nb : Nat) (hnb : nb ≤ 6) (hc3 : c 396 3 = nI nb) : CM mX6_lays [.ref 395, .int b, .int a] (c, od) (RI (mcode (S_lays (c 396) b a)) (mS c (S_lays (c 396) b a), od)) := by
  refine CM.of [(0, .ref 395), (1, .int b), (2, .int a)] rfl (by decide +kernel) rfl (Nat.le_of_ble_eq_true rfl) ?_
  refine WE.aload_n (n := 1) dX6_lays_0 rfl rfl ?_
  refine WE.iload_n (n := 2) dX6_lays_1 rfl rfl ?_
  refine WE.V1I (M' := mX6_isBalloon) (n := 5) dX6_lays_2 rfl cv_X6_106 (by first | decide | exact kd_bal (by assumption) | exact kd_let (by assumption) | assumption) ⟨⟨by decide, by decide⟩, by decide, by decide⟩ (Nat.le_of_ble_eq_true rfl) (m_isBalloon _ _ _) ?_
  refine WE.if_neB (n := 8) (tgt := 10) dX6_lays_5 rfl (by decide) (fun h5 => ?_) (fun h5 => ?_)
  · skip
    obtain ⟨j, hj, rfl⟩ := isB_of hnb hc3 h5
    have hcl : (nI j).toNatClampNeg = j := nI_clamp (by omega)
    refine WE.iload_n (n := 11) dX6_lays_10 rfl rfl ?_
    refine WE.iconst (n := 12) (nI 1) dX6_lays_11 rfl (by decide) ?_
    refine WE.bipush (n := 14) (nI 50) dX6_lays_12 rfl (by decide) ?_
    refine WE.S3I (M' := mX6_in) (n := 17) dX6_lays_14 rfl cv_X6_58  ⟨⟨by decide, by decide⟩, by decide, by decide⟩ (Nat.le_of_ble_eq_true rfl) (m_in _ _ _ _) ?_
    refine WE.if_neB (n := 20) (tgt := 23) dX6_lays_17 rfl (by decide) (fun h17 => ?_) (fun h17 => ?_)
    · skip
      refine WE.aload_n (n := 24) dX6_lays_23 rfl rfl ?_
      refine WE.iload_n (n := 25) dX6_lays_24 rfl rfl ?_
      refine WE.iconst (n := 26) (nI 5) dX6_lays_25 rfl (by decide) ?_
      refine WE.V2I (M' := mX6_of) (n := 29) dX6_lays_26 rfl cv_X6_71 (by first | decide | exact kd_bal (by assumption) | exact kd_let (by assumption) | assumption) ⟨⟨by decide, by decide⟩, by decide, by decide⟩ (Nat.le_of_ble_eq_true rfl) (m_of _ _ j 5 (by omega)) ?_
      refine WE.if_eq (n := 32) (tgt := 39) dX6_lays_29 rfl (by decide) (fun h29 => ?_) (fun h29 => ?_)
      · skip
        refine WE.bipush (n := 41) (nI 50) dX6_lays_39 rfl (by decide) ?_
        refine WE.aload_n (n := 42) dX6_lays_41 rfl rfl ?_
        refine WE.iload_n (n := 43) dX6_lays_42 rfl rfl ?_
        refine WE.iconst (n := 44) (nI 2) dX6_lays_43 rfl (by decide) ?_
        refine WE.V2I (M' := mX6_of) (n := 47) dX6_lays_44 rfl cv_X6_71 (by first | decide | exact kd_bal (by assumption) | exact kd_let (by assumption) | assumption) ⟨⟨by decide, by decide⟩, by decide, by decide⟩ (Nat.le_of_ble_eq_true rfl) (m_of _ _ j 2 (by omega)) ?_
        refine WE.isub (n := 48) dX6_lays_47 rfl ?_
        refine WE.istore_n (n := 49) dX6_lays_48 rfl (by decide) ?_
        refine WE.iload_n (n := 50) dX6_lays_49 rfl rfl ?_
        refine WE.iload_n (n := 51) dX6_lays_50 rfl rfl ?_
        refine WE.icmp_ge (n := 54) (tgt := 62) dX6_lays_51 rfl (by decide) (fun h51 => ?_) (fun h51 => ?_)
        · skip
          refine WE.aload_n (n := 63) dX6_lays_62 rfl rfl ?_
          refine WE.iload_n (n := 64) dX6_lays_63 rfl rfl ?_
          refine WE.iconst (n := 65) (nI 2) dX6_lays_64 rfl (by decide) ?_
          refine WE.aload_n (n := 66) dX6_lays_65 rfl rfl ?_
          refine WE.iload_n (n := 67) dX6_lays_66 rfl rfl ?_
          refine WE.iconst (n := 68) (nI 2) dX6_lays_67 rfl (by decide) ?_
          refine WE.V2I (M' := mX6_of) (n := 71) dX6_lays_68 rfl cv_X6_71 (by first | decide | exact kd_bal (by assumption) | exact kd_let (by assumption) | assumption) ⟨⟨by decide, by decide⟩, by decide, by decide⟩ (Nat.le_of_ble_eq_true rfl) (m_of _ _ j 2 (by omega)) ?_
          refine WE.iload_n (n := 72) dX6_lays_71 rfl rfl ?_
          refine WE.iadd (n := 73) dX6_lays_72 rfl ?_
          refine WE.V3V (M' := mX6_sets) (n := 76) dX6_lays_73 rfl cv_X6_102 (by first | decide | exact kd_bal (by assumption) | exact kd_let (by assumption) | assumption) ⟨⟨by decide, by decide⟩, by decide, by decide⟩ (Nat.le_of_ble_eq_true rfl) (m_sets _ _ j 2 _ (by omega)) ?_
          refine WE.aload_n (n := 77) dX6_lays_76 rfl rfl ?_
          refine WE.getR (n := 80) dX6_lays_77 rfl fl_X6_9 ⟨by decide, by decide⟩ rfl (by first | decide | exact kd_bal (by assumption) | exact kd_let (by assumption) | assumption) ?_
          refine WE.iconst (n := 81) (nI 5) dX6_lays_80 rfl (by decide) ?_
          refine WE.dup2 (n := 82) dX6_lays_81 rfl rfl rfl ?_
          refine WE.iald (n := 83) 5 dX6_lays_82 rfl (by first | decide | assumption) rfl (by show _ < 184; omega) ?_
          refine WE.iload_n (n := 84) dX6_lays_83 rfl rfl ?_
          refine WE.iadd (n := 85) dX6_lays_84 rfl ?_
          refine WE.iast (n := 86) 5 dX6_lays_85 rfl (by first | decide | assumption) rfl (by show _ < 184; omega) ?_
          refine WE.aload_n (n := 87) dX6_lays_86 rfl rfl ?_
          refine WE.aload_n (n := 88) dX6_lays_87 rfl rfl ?_
          refine WE.iload_n (n := 89) dX6_lays_88 rfl rfl ?_
          refine WE.iconst (n := 90) (nI 2) dX6_lays_89 rfl (by decide) ?_
          refine WE.V2I (M' := mX6_of) (n := 93) dX6_lays_90 rfl cv_X6_71 (by first | decide | exact kd_bal (by assumption) | exact kd_let (by assumption) | assumption) ⟨⟨by decide, by decide⟩, by decide, by decide⟩ (Nat.le_of_ble_eq_true rfl) (m_of _ _ j 2 (by omega)) ?_
          refine WE.V1I (M' := mX6_does) (n := 96) dX6_lays_93 rfl cv_X6_86 (by first | decide | exact kd_bal (by assumption) | exact kd_let (by assumption) | assumption) ⟨⟨by decide, by decide⟩, by decide, by decide⟩ (Nat.le_of_ble_eq_true rfl) (m_does _ _ _) ?_
          refine WE.iret (ty := .int) dX6_lays_96 rfl rfl ⟨by decide, by decide⟩ ?_
          simp (disch := omega) only [S_lays, h5, h17, h29, h51, hcl, u2_now, u2_setN5, setN_setN, setN_at, setN_5, u2_56, upN_eq, upN_ne, bk, lk, isBN, isLN, ↓reduceIte, and_self, and_true, true_and, not_true_eq_false, not_false_eq_true]
          exact RI.mk rfl rfl
        · skip
          refine WE.aload_n (n := 55) dX6_lays_54 rfl rfl ?_
          refine WE.bipush (n := 57) (nI 6) dX6_lays_55 rfl (by decide) ?_
          refine WE.iload_n (n := 58) dX6_lays_57 rfl rfl ?_
          refine WE.V2I (M' := mX6_why) (n := 61) dX6_lays_58 rfl cv_X6_99 (by first | decide | exact kd_bal (by assumption) | exact kd_let (by assumption) | assumption) ⟨⟨by decide, by decide⟩, by decide, by decide⟩ (Nat.le_of_ble_eq_true rfl) (m_why _ _ _ _) ?_
          refine WE.iret (ty := .int) dX6_lays_61 rfl rfl ⟨by decide, by decide⟩ ?_
          simp (disch := omega) only [S_lays, h5, h17, h29, h51, hcl, u2_now, u2_setN5, setN_setN, setN_at, setN_5, u2_56, upN_eq, upN_ne, bk, lk, isBN, isLN, ↓reduceIte, and_self, and_true, true_and, not_true_eq_false, not_false_eq_true]
          exact RI.mk rfl rfl
      · skip
        refine WE.aload_n (n := 33) dX6_lays_32 rfl rfl ?_
        refine WE.iconst (n := 34) (nI 2) dX6_lays_33 rfl (by decide) ?_
        refine WE.iload_n (n := 35) dX6_lays_34 rfl rfl ?_
        refine WE.V2I (M' := mX6_why) (n := 38) dX6_lays_35 rfl cv_X6_99 (by first | decide | exact kd_bal (by assumption) | exact kd_let (by assumption) | assumption) ⟨⟨by decide, by decide⟩, by decide, by decide⟩ (Nat.le_of_ble_eq_true rfl) (m_why _ _ _ _) ?_
        refine WE.iret (ty := .int) dX6_lays_38 rfl rfl ⟨by decide, by decide⟩ ?_
        simp (disch := omega) only [S_lays, h5, h17, h29, hcl, u2_now, u2_setN5, setN_setN, setN_at, setN_5, u2_56, upN_eq, upN_ne, bk, lk, isBN, isLN, ↓reduceIte, and_self, and_true, true_and, not_true_eq_false, not_false_eq_true]
        exact RI.mk rfl rfl
    · skip
      refine WE.bipush (n := 22) ((-2 : Int32)) dX6_lays_20 rfl (by decide) ?_
      refine WE.iret (ty := .int) dX6_lays_22 rfl rfl ⟨by decide, by decide⟩ ?_
      simp (disch := omega) only [S_lays, h5, h17, hcl, u2_now, u2_setN5, setN_setN, setN_at, setN_5, u2_56, upN_eq, upN_ne, bk, lk, isBN, isLN, ↓reduceIte, and_self, and_true, true_and, not_true_eq_false, not_false_eq_true]
      exact RI.mk rfl rfl
  · skip
    refine WE.iconst (n := 9) ((-1 : Int32)) dX6_lays_8 rfl (by decide) ?_
    refine WE.iret (ty := .int) dX6_lays_9 rfl rfl ⟨by decide, by decide⟩ ?_
    simp (disch := omega) only [S_lays, h5, u2_now, u2_setN5, setN_setN, setN_at, setN_5, u2_56, upN_eq, upN_ne, bk, lk, isBN, isLN, ↓reduceIte, and_self, and_true, true_and, not_true_eq_false, not_false_eq_true]
    exact RI.mk rfl rfl
set_option maxRecDepth 20000 in
set_option maxHeartbeats 1000000 in
theorem m_launches (c : CC) (od : Int64 × UInt64) (b : Int32) (nb : Nat) (hnb : nb ≤ 6) (hc3 : c 396 3 = nI nb) (nl : Nat) (hnl : nl ≤ 24) (hc4 : c 396 4 = nI nl) : CM mX6_launches [.ref 395, .int b] (c, od) (RI (mcode (S_launches (c 396) b)) (mS c (S_launches (c 396) b), od)) := by
  refine CM.of [(0, .ref 395), (1, .int b)] rfl (by decide +kernel) rfl (Nat.le_of_ble_eq_true rfl) ?_
  have hnlN : nlN (c 396) = nl := by unfold nlN; rw [hc4]; exact nI_clamp (by omega)
  refine WE.aload_n (n := 1) dX6_launches_0 rfl rfl ?_
  refine WE.iload_n (n := 2) dX6_launches_1 rfl rfl ?_
  refine WE.V1I (M' := mX6_isBalloon) (n := 5) dX6_launches_2 rfl cv_X6_106 (by first | decide | exact kd_bal (by assumption) | exact kd_let (by assumption) | assumption) ⟨⟨by decide, by decide⟩, by decide, by decide⟩ (Nat.le_of_ble_eq_true rfl) (m_isBalloon _ _ _) ?_
  refine WE.if_neB (n := 8) (tgt := 10) dX6_launches_5 rfl (by decide) (fun h5 => ?_) (fun h5 => ?_)
  · skip
    obtain ⟨j, hj, rfl⟩ := isB_of hnb hc3 h5
    have hcl : (nI j).toNatClampNeg = j := nI_clamp (by omega)
    refine WE.aload_n (n := 11) dX6_launches_10 rfl rfl ?_
    refine WE.iload_n (n := 12) dX6_launches_11 rfl rfl ?_
    refine WE.iconst (n := 13) (nI 5) dX6_launches_12 rfl (by decide) ?_
    refine WE.V2I (M' := mX6_of) (n := 16) dX6_launches_13 rfl cv_X6_71 (by first | decide | exact kd_bal (by assumption) | exact kd_let (by assumption) | assumption) ⟨⟨by decide, by decide⟩, by decide, by decide⟩ (Nat.le_of_ble_eq_true rfl) (m_of _ _ j 5 (by omega)) ?_
    refine WE.if_eq (n := 19) (tgt := 26) dX6_launches_16 rfl (by decide) (fun h16 => ?_) (fun h16 => ?_)
    · skip
      refine WE.aload_n (n := 27) dX6_launches_26 rfl rfl ?_
      refine WE.iload_n (n := 28) dX6_launches_27 rfl rfl ?_
      refine WE.V1I (M' := mX6_bears) (n := 31) dX6_launches_28 rfl cv_X6_125 (by first | decide | exact kd_bal (by assumption) | exact kd_let (by assumption) | assumption) ⟨⟨by decide, by decide⟩, by decide, by decide⟩ (Nat.le_of_ble_eq_true rfl) (m_bears _ _ j (by omega) nl hnl hc4) ?_
      refine WE.istore_n (n := 32) dX6_launches_31 rfl (by decide) ?_
      refine WE.iload_n (n := 33) dX6_launches_32 rfl rfl ?_
      refine WE.if_ge (n := 36) (tgt := 45) dX6_launches_33 rfl (by decide) (fun h33 => ?_) (fun h33 => ?_)
      · skip
        refine WE.aload_n (n := 46) dX6_launches_45 rfl rfl ?_
        refine WE.iload_n (n := 47) dX6_launches_46 rfl rfl ?_
        refine WE.iconst (n := 48) (nI 5) dX6_launches_47 rfl (by decide) ?_
        refine WE.iconst (n := 49) (nI 1) dX6_launches_48 rfl (by decide) ?_
        refine WE.V3V (M' := mX6_sets) (n := 52) dX6_launches_49 rfl cv_X6_102 (by first | decide | exact kd_bal (by assumption) | exact kd_let (by assumption) | assumption) ⟨⟨by decide, by decide⟩, by decide, by decide⟩ (Nat.le_of_ble_eq_true rfl) (m_sets _ _ j 5 _ (by omega)) ?_
        refine WE.aload_n (n := 53) dX6_launches_52 rfl rfl ?_
        refine WE.iload_n (n := 54) dX6_launches_53 rfl rfl ?_
        refine WE.V1I (M' := mX6_does) (n := 57) dX6_launches_54 rfl cv_X6_86 (by first | decide | exact kd_bal (by assumption) | exact kd_let (by assumption) | assumption) ⟨⟨by decide, by decide⟩, by decide, by decide⟩ (Nat.le_of_ble_eq_true rfl) (m_does _ _ _) ?_
        refine WE.iret (ty := .int) dX6_launches_57 rfl rfl ⟨by decide, by decide⟩ ?_
        simp (disch := omega) only [S_launches, h5, h16, h33, hcl, hnlN, u2_now, u2_setN5, setN_setN, setN_at, setN_5, u2_56, upN_eq, upN_ne, bk, lk, isBN, isLN, ↓reduceIte, and_self, and_true, true_and, not_true_eq_false, not_false_eq_true]
        exact RI.mk rfl rfl
      · skip
        refine WE.aload_n (n := 37) dX6_launches_36 rfl rfl ?_
        refine WE.bipush (n := 39) (nI 9) dX6_launches_37 rfl (by decide) ?_
        refine WE.iload_n (n := 40) dX6_launches_39 rfl rfl ?_
        refine WE.ineg (n := 41) dX6_launches_40 rfl ?_
        refine WE.V2I (M' := mX6_why) (n := 44) dX6_launches_41 rfl cv_X6_99 (by first | decide | exact kd_bal (by assumption) | exact kd_let (by assumption) | assumption) ⟨⟨by decide, by decide⟩, by decide, by decide⟩ (Nat.le_of_ble_eq_true rfl) (m_why _ _ _ _) ?_
        refine WE.iret (ty := .int) dX6_launches_44 rfl rfl ⟨by decide, by decide⟩ ?_
        simp (disch := omega) only [S_launches, h5, h16, h33, hcl, hnlN, u2_now, u2_setN5, setN_setN, setN_at, setN_5, u2_56, upN_eq, upN_ne, bk, lk, isBN, isLN, ↓reduceIte, and_self, and_true, true_and, not_true_eq_false, not_false_eq_true]
        exact RI.mk rfl rfl
    · skip
      refine WE.aload_n (n := 20) dX6_launches_19 rfl rfl ?_
      refine WE.iconst (n := 21) (nI 2) dX6_launches_20 rfl (by decide) ?_
      refine WE.iload_n (n := 22) dX6_launches_21 rfl rfl ?_
      refine WE.V2I (M' := mX6_why) (n := 25) dX6_launches_22 rfl cv_X6_99 (by first | decide | exact kd_bal (by assumption) | exact kd_let (by assumption) | assumption) ⟨⟨by decide, by decide⟩, by decide, by decide⟩ (Nat.le_of_ble_eq_true rfl) (m_why _ _ _ _) ?_
      refine WE.iret (ty := .int) dX6_launches_25 rfl rfl ⟨by decide, by decide⟩ ?_
      simp (disch := omega) only [S_launches, h5, h16, hcl, hnlN, u2_now, u2_setN5, setN_setN, setN_at, setN_5, u2_56, upN_eq, upN_ne, bk, lk, isBN, isLN, ↓reduceIte, and_self, and_true, true_and, not_true_eq_false, not_false_eq_true]
      exact RI.mk rfl rfl
  · skip
    refine WE.iconst (n := 9) ((-1 : Int32)) dX6_launches_8 rfl (by decide) ?_
    refine WE.iret (ty := .int) dX6_launches_9 rfl rfl ⟨by decide, by decide⟩ ?_
    simp (disch := omega) only [S_launches, h5, u2_now, u2_setN5, setN_setN, setN_at, setN_5, u2_56, upN_eq, upN_ne, bk, lk, isBN, isLN, ↓reduceIte, and_self, and_true, true_and, not_true_eq_false, not_false_eq_true]
    exact RI.mk rfl rfl
set_option maxRecDepth 20000 in
set_option maxHeartbeats 1000000 in
theorem m_drops (c : CC) (od : Int64 × UInt64) (b a : Int32) (nb : Nat) (hnb : nb ≤ 6) (hc3 : c 396 3 = nI nb) : CM mX6_drops [.ref 395, .int b, .int a] (c, od) (RI (mcode (S_drops (c 396) b a)) (mS c (S_drops (c 396) b a), od)) := by
  refine CM.of [(0, .ref 395), (1, .int b), (2, .int a)] rfl (by decide +kernel) rfl (Nat.le_of_ble_eq_true rfl) ?_
  refine WE.aload_n (n := 1) dX6_drops_0 rfl rfl ?_
  refine WE.iload_n (n := 2) dX6_drops_1 rfl rfl ?_
  refine WE.V1I (M' := mX6_isBalloon) (n := 5) dX6_drops_2 rfl cv_X6_106 (by first | decide | exact kd_bal (by assumption) | exact kd_let (by assumption) | assumption) ⟨⟨by decide, by decide⟩, by decide, by decide⟩ (Nat.le_of_ble_eq_true rfl) (m_isBalloon _ _ _) ?_
  refine WE.if_neB (n := 8) (tgt := 10) dX6_drops_5 rfl (by decide) (fun h5 => ?_) (fun h5 => ?_)
  · skip
    obtain ⟨j, hj, rfl⟩ := isB_of hnb hc3 h5
    have hcl : (nI j).toNatClampNeg = j := nI_clamp (by omega)
    refine WE.iload_n (n := 11) dX6_drops_10 rfl rfl ?_
    refine WE.iconst (n := 12) (nI 1) dX6_drops_11 rfl (by decide) ?_
    refine WE.bipush (n := 14) (nI 50) dX6_drops_12 rfl (by decide) ?_
    refine WE.S3I (M' := mX6_in) (n := 17) dX6_drops_14 rfl cv_X6_58  ⟨⟨by decide, by decide⟩, by decide, by decide⟩ (Nat.le_of_ble_eq_true rfl) (m_in _ _ _ _) ?_
    refine WE.if_neB (n := 20) (tgt := 23) dX6_drops_17 rfl (by decide) (fun h17 => ?_) (fun h17 => ?_)
    · skip
      refine WE.aload_n (n := 24) dX6_drops_23 rfl rfl ?_
      refine WE.iload_n (n := 25) dX6_drops_24 rfl rfl ?_
      refine WE.iconst (n := 26) (nI 5) dX6_drops_25 rfl (by decide) ?_
      refine WE.V2I (M' := mX6_of) (n := 29) dX6_drops_26 rfl cv_X6_71 (by first | decide | exact kd_bal (by assumption) | exact kd_let (by assumption) | assumption) ⟨⟨by decide, by decide⟩, by decide, by decide⟩ (Nat.le_of_ble_eq_true rfl) (m_of _ _ j 5 (by omega)) ?_
      refine WE.iconst (n := 30) (nI 1) dX6_drops_29 rfl (by decide) ?_
      refine WE.icmp_eq (n := 33) (tgt := 40) dX6_drops_30 rfl (by decide) (fun h30 => ?_) (fun h30 => ?_)
      · skip
        refine WE.aload_n (n := 41) dX6_drops_40 rfl rfl ?_
        refine WE.iload_n (n := 42) dX6_drops_41 rfl rfl ?_
        refine WE.iconst (n := 43) (nI 2) dX6_drops_42 rfl (by decide) ?_
        refine WE.V2I (M' := mX6_of) (n := 46) dX6_drops_43 rfl cv_X6_71 (by first | decide | exact kd_bal (by assumption) | exact kd_let (by assumption) | assumption) ⟨⟨by decide, by decide⟩, by decide, by decide⟩ (Nat.le_of_ble_eq_true rfl) (m_of _ _ j 2 (by omega)) ?_
        refine WE.iload_n (n := 47) dX6_drops_46 rfl rfl ?_
        refine WE.icmp_ge (n := 50) (tgt := 63) dX6_drops_47 rfl (by decide) (fun h47 => ?_) (fun h47 => ?_)
        · skip
          refine WE.aload_n (n := 64) dX6_drops_63 rfl rfl ?_
          refine WE.iload_n (n := 65) dX6_drops_64 rfl rfl ?_
          refine WE.iconst (n := 66) (nI 2) dX6_drops_65 rfl (by decide) ?_
          refine WE.aload_n (n := 67) dX6_drops_66 rfl rfl ?_
          refine WE.iload_n (n := 68) dX6_drops_67 rfl rfl ?_
          refine WE.iconst (n := 69) (nI 2) dX6_drops_68 rfl (by decide) ?_
          refine WE.V2I (M' := mX6_of) (n := 72) dX6_drops_69 rfl cv_X6_71 (by first | decide | exact kd_bal (by assumption) | exact kd_let (by assumption) | assumption) ⟨⟨by decide, by decide⟩, by decide, by decide⟩ (Nat.le_of_ble_eq_true rfl) (m_of _ _ j 2 (by omega)) ?_
          refine WE.iload_n (n := 73) dX6_drops_72 rfl rfl ?_
          refine WE.isub (n := 74) dX6_drops_73 rfl ?_
          refine WE.V3V (M' := mX6_sets) (n := 77) dX6_drops_74 rfl cv_X6_102 (by first | decide | exact kd_bal (by assumption) | exact kd_let (by assumption) | assumption) ⟨⟨by decide, by decide⟩, by decide, by decide⟩ (Nat.le_of_ble_eq_true rfl) (m_sets _ _ j 2 _ (by omega)) ?_
          refine WE.aload_n (n := 78) dX6_drops_77 rfl rfl ?_
          refine WE.getR (n := 81) dX6_drops_78 rfl fl_X6_9 ⟨by decide, by decide⟩ rfl (by first | decide | exact kd_bal (by assumption) | exact kd_let (by assumption) | assumption) ?_
          refine WE.bipush (n := 83) (nI 6) dX6_drops_81 rfl (by decide) ?_
          refine WE.dup2 (n := 84) dX6_drops_83 rfl rfl rfl ?_
          refine WE.iald (n := 85) 6 dX6_drops_84 rfl (by first | decide | assumption) rfl (by show _ < 184; omega) ?_
          refine WE.iload_n (n := 86) dX6_drops_85 rfl rfl ?_
          refine WE.iadd (n := 87) dX6_drops_86 rfl ?_
          refine WE.iast (n := 88) 6 dX6_drops_87 rfl (by first | decide | assumption) rfl (by show _ < 184; omega) ?_
          refine WE.aload_n (n := 89) dX6_drops_88 rfl rfl ?_
          refine WE.aload_n (n := 90) dX6_drops_89 rfl rfl ?_
          refine WE.iload_n (n := 91) dX6_drops_90 rfl rfl ?_
          refine WE.iconst (n := 92) (nI 2) dX6_drops_91 rfl (by decide) ?_
          refine WE.V2I (M' := mX6_of) (n := 95) dX6_drops_92 rfl cv_X6_71 (by first | decide | exact kd_bal (by assumption) | exact kd_let (by assumption) | assumption) ⟨⟨by decide, by decide⟩, by decide, by decide⟩ (Nat.le_of_ble_eq_true rfl) (m_of _ _ j 2 (by omega)) ?_
          refine WE.V1I (M' := mX6_does) (n := 98) dX6_drops_95 rfl cv_X6_86 (by first | decide | exact kd_bal (by assumption) | exact kd_let (by assumption) | assumption) ⟨⟨by decide, by decide⟩, by decide, by decide⟩ (Nat.le_of_ble_eq_true rfl) (m_does _ _ _) ?_
          refine WE.iret (ty := .int) dX6_drops_98 rfl rfl ⟨by decide, by decide⟩ ?_
          simp (disch := omega) only [S_drops, h5, h17, h30, h47, hcl, u2_now, u2_setN5, setN_setN, setN_at, setN_5, u2_56, upN_eq, upN_ne, bk, lk, isBN, isLN, ↓reduceIte, and_self, and_true, true_and, not_true_eq_false, not_false_eq_true]
          exact RI.mk rfl rfl
        · skip
          refine WE.aload_n (n := 51) dX6_drops_50 rfl rfl ?_
          refine WE.bipush (n := 53) (nI 7) dX6_drops_51 rfl (by decide) ?_
          refine WE.aload_n (n := 54) dX6_drops_53 rfl rfl ?_
          refine WE.iload_n (n := 55) dX6_drops_54 rfl rfl ?_
          refine WE.iconst (n := 56) (nI 2) dX6_drops_55 rfl (by decide) ?_
          refine WE.V2I (M' := mX6_of) (n := 59) dX6_drops_56 rfl cv_X6_71 (by first | decide | exact kd_bal (by assumption) | exact kd_let (by assumption) | assumption) ⟨⟨by decide, by decide⟩, by decide, by decide⟩ (Nat.le_of_ble_eq_true rfl) (m_of _ _ j 2 (by omega)) ?_
          refine WE.V2I (M' := mX6_why) (n := 62) dX6_drops_59 rfl cv_X6_99 (by first | decide | exact kd_bal (by assumption) | exact kd_let (by assumption) | assumption) ⟨⟨by decide, by decide⟩, by decide, by decide⟩ (Nat.le_of_ble_eq_true rfl) (m_why _ _ _ _) ?_
          refine WE.iret (ty := .int) dX6_drops_62 rfl rfl ⟨by decide, by decide⟩ ?_
          simp (disch := omega) only [S_drops, h5, h17, h30, h47, hcl, u2_now, u2_setN5, setN_setN, setN_at, setN_5, u2_56, upN_eq, upN_ne, bk, lk, isBN, isLN, ↓reduceIte, and_self, and_true, true_and, not_true_eq_false, not_false_eq_true]
          exact RI.mk rfl rfl
      · skip
        refine WE.aload_n (n := 34) dX6_drops_33 rfl rfl ?_
        refine WE.iconst (n := 35) (nI 3) dX6_drops_34 rfl (by decide) ?_
        refine WE.iload_n (n := 36) dX6_drops_35 rfl rfl ?_
        refine WE.V2I (M' := mX6_why) (n := 39) dX6_drops_36 rfl cv_X6_99 (by first | decide | exact kd_bal (by assumption) | exact kd_let (by assumption) | assumption) ⟨⟨by decide, by decide⟩, by decide, by decide⟩ (Nat.le_of_ble_eq_true rfl) (m_why _ _ _ _) ?_
        refine WE.iret (ty := .int) dX6_drops_39 rfl rfl ⟨by decide, by decide⟩ ?_
        simp (disch := omega) only [S_drops, h5, h17, h30, hcl, u2_now, u2_setN5, setN_setN, setN_at, setN_5, u2_56, upN_eq, upN_ne, bk, lk, isBN, isLN, ↓reduceIte, and_self, and_true, true_and, not_true_eq_false, not_false_eq_true]
        exact RI.mk rfl rfl
    · skip
      refine WE.bipush (n := 22) ((-2 : Int32)) dX6_drops_20 rfl (by decide) ?_
      refine WE.iret (ty := .int) dX6_drops_22 rfl rfl ⟨by decide, by decide⟩ ?_
      simp (disch := omega) only [S_drops, h5, h17, hcl, u2_now, u2_setN5, setN_setN, setN_at, setN_5, u2_56, upN_eq, upN_ne, bk, lk, isBN, isLN, ↓reduceIte, and_self, and_true, true_and, not_true_eq_false, not_false_eq_true]
      exact RI.mk rfl rfl
  · skip
    refine WE.iconst (n := 9) ((-1 : Int32)) dX6_drops_8 rfl (by decide) ?_
    refine WE.iret (ty := .int) dX6_drops_9 rfl rfl ⟨by decide, by decide⟩ ?_
    simp (disch := omega) only [S_drops, h5, u2_now, u2_setN5, setN_setN, setN_at, setN_5, u2_56, upN_eq, upN_ne, bk, lk, isBN, isLN, ↓reduceIte, and_self, and_true, true_and, not_true_eq_false, not_false_eq_true]
    exact RI.mk rfl rfl
set_option maxRecDepth 20000 in
set_option maxHeartbeats 1000000 in
theorem m_loads (c : CC) (od : Int64 × UInt64) (l b : Int32) (nb : Nat) (hnb : nb ≤ 6) (hc3 : c 396 3 = nI nb) (nl : Nat) (hnl : nl ≤ 24) (hc4 : c 396 4 = nI nl) : CM mX6_loads [.ref 395, .int l, .int b] (c, od) (RI (mcode (S_loads (c 396) l b)) (mS c (S_loads (c 396) l b), od)) := by
  refine CM.of [(0, .ref 395), (1, .int l), (2, .int b)] rfl (by decide +kernel) rfl (Nat.le_of_ble_eq_true rfl) ?_
  have hnlN : nlN (c 396) = nl := by unfold nlN; rw [hc4]; exact nI_clamp (by omega)
  refine WE.aload_n (n := 1) dX6_loads_0 rfl rfl ?_
  refine WE.iload_n (n := 2) dX6_loads_1 rfl rfl ?_
  refine WE.V1I (M' := mX6_isLetter) (n := 5) dX6_loads_2 rfl cv_X6_116 (by first | decide | exact kd_bal (by assumption) | exact kd_let (by assumption) | assumption) ⟨⟨by decide, by decide⟩, by decide, by decide⟩ (Nat.le_of_ble_eq_true rfl) (m_isLetter _ _ _) ?_
  refine WE.if_eqB (n := 8) (tgt := 16) dX6_loads_5 rfl (by decide) (fun h5 => ?_) (fun h5 => ?_)
  · skip
    refine WE.iconst (n := 17) ((-1 : Int32)) dX6_loads_16 rfl (by decide) ?_
    refine WE.iret (ty := .int) dX6_loads_17 rfl rfl ⟨by decide, by decide⟩ ?_
    first | (simp (disch := omega) only [S_loads, h5, hcli, u2_now, u2_setN5, setN_setN, setN_at, setN_5, u2_56, upN_eq, upN_ne, bk, lk, isBN, isLN, ↓reduceIte, and_self, and_true, true_and, not_true_eq_false, not_false_eq_true]; exact RI.mk rfl rfl) | (simp (disch := omega) only [S_loads, h5, u2_now, u2_setN5, setN_setN, setN_at, setN_5, u2_56, upN_eq, upN_ne, bk, lk, isBN, isLN, ↓reduceIte, and_self, and_true, true_and, not_true_eq_false, not_false_eq_true]; exact RI.mk rfl rfl)
  · skip
    obtain ⟨i, hi, rfl⟩ := isL_of hnl hc4 h5
    have hcli : (nI i).toNatClampNeg = i := nI_clamp (by omega)
    refine WE.aload_n (n := 9) dX6_loads_8 rfl rfl ?_
    refine WE.iload_n (n := 10) dX6_loads_9 rfl rfl ?_
    refine WE.V1I (M' := mX6_isBalloon) (n := 13) dX6_loads_10 rfl cv_X6_106 (by first | decide | exact kd_bal (by assumption) | exact kd_let (by assumption) | assumption) ⟨⟨by decide, by decide⟩, by decide, by decide⟩ (Nat.le_of_ble_eq_true rfl) (m_isBalloon _ _ _) ?_
    refine WE.if_neB (n := 16) (tgt := 18) dX6_loads_13 rfl (by decide) (fun h13 => ?_) (fun h13 => ?_)
    · skip
      obtain ⟨j, hj, rfl⟩ := isB_of hnb hc3 h13
      have hcl : (nI j).toNatClampNeg = j := nI_clamp (by omega)
      refine WE.bipush (n := 20) (nI 88) dX6_loads_18 rfl (by decide) ?_
      refine WE.iconst (n := 21) (nI 4) dX6_loads_20 rfl (by decide) ?_
      refine WE.iload_n (n := 22) dX6_loads_21 rfl rfl ?_
      refine WE.imul (n := 23) dX6_loads_22 rfl ?_
      refine WE.iadd (n := 24) dX6_loads_23 rfl ?_
      refine WE.istore_n (n := 25) dX6_loads_24 rfl (by decide) ?_
      refine WE.aload_n (n := 26) dX6_loads_25 rfl rfl ?_
      refine WE.getR (n := 29) dX6_loads_26 rfl fl_X6_9 ⟨by decide, by decide⟩ rfl (by first | decide | exact kd_bal (by assumption) | exact kd_let (by assumption) | assumption) ?_
      refine WE.iload_n (n := 30) dX6_loads_29 rfl rfl ?_
      refine WE.iconst (n := 31) (nI 2) dX6_loads_30 rfl (by decide) ?_
      refine WE.iadd (n := 32) dX6_loads_31 rfl ?_
      refine WE.iald (n := 33) (88 + 4 * i + 2) dX6_loads_32 rfl (by first | decide | assumption) (by first | rfl | simp only [pk_mul, nI_add]) (by show _ < 184; omega) ?_
      refine WE.if_eq (n := 36) (tgt := 44) dX6_loads_33 rfl (by decide) (fun h33 => ?_) (fun h33 => ?_)
      · skip
        refine WE.aload_n (n := 45) dX6_loads_44 rfl rfl ?_
        refine WE.iload_n (n := 46) dX6_loads_45 rfl rfl ?_
        refine WE.iconst (n := 47) (nI 5) dX6_loads_46 rfl (by decide) ?_
        refine WE.V2I (M' := mX6_of) (n := 50) dX6_loads_47 rfl cv_X6_71 (by first | decide | exact kd_bal (by assumption) | exact kd_let (by assumption) | assumption) ⟨⟨by decide, by decide⟩, by decide, by decide⟩ (Nat.le_of_ble_eq_true rfl) (m_of _ _ j 5 (by omega)) ?_
        refine WE.if_eq (n := 53) (tgt := 60) dX6_loads_50 rfl (by decide) (fun h50 => ?_) (fun h50 => ?_)
        · skip
          refine WE.aload_n (n := 61) dX6_loads_60 rfl rfl ?_
          refine WE.getR (n := 64) dX6_loads_61 rfl fl_X6_9 ⟨by decide, by decide⟩ rfl (by first | decide | exact kd_bal (by assumption) | exact kd_let (by assumption) | assumption) ?_
          refine WE.iload_n (n := 65) dX6_loads_64 rfl rfl ?_
          refine WE.iconst (n := 66) (nI 2) dX6_loads_65 rfl (by decide) ?_
          refine WE.iadd (n := 67) dX6_loads_66 rfl ?_
          refine WE.iconst (n := 68) (nI 1) dX6_loads_67 rfl (by decide) ?_
          refine WE.iast (n := 69) (88 + 4 * i + 2) dX6_loads_68 rfl (by first | decide | assumption) (by first | rfl | simp only [pk_mul, nI_add]) (by show _ < 184; omega) ?_
          refine WE.aload_n (n := 70) dX6_loads_69 rfl rfl ?_
          refine WE.getR (n := 73) dX6_loads_70 rfl fl_X6_9 ⟨by decide, by decide⟩ rfl (by first | decide | exact kd_bal (by assumption) | exact kd_let (by assumption) | assumption) ?_
          refine WE.iload_n (n := 74) dX6_loads_73 rfl rfl ?_
          refine WE.iconst (n := 75) (nI 3) dX6_loads_74 rfl (by decide) ?_
          refine WE.iadd (n := 76) dX6_loads_75 rfl ?_
          refine WE.iload_n (n := 77) dX6_loads_76 rfl rfl ?_
          refine WE.iast (n := 78) (88 + 4 * i + 3) dX6_loads_77 rfl (by first | decide | assumption) (by first | rfl | simp only [pk_mul, nI_add]) (by show _ < 184; omega) ?_
          refine WE.aload_n (n := 79) dX6_loads_78 rfl rfl ?_
          refine WE.aload_n (n := 80) dX6_loads_79 rfl rfl ?_
          refine WE.iload_n (n := 81) dX6_loads_80 rfl rfl ?_
          refine WE.V1I (M' := mX6_weight) (n := 84) dX6_loads_81 rfl cv_X6_80 (by first | decide | exact kd_bal (by assumption) | exact kd_let (by assumption) | assumption) ⟨⟨by decide, by decide⟩, by decide, by decide⟩ (Nat.le_of_ble_eq_true rfl) (m_weight _ _ j (by omega) nl hnl (by simp (disch := omega) only [u2_now, setN_setN, setN_at, upN_ne]; exact hc4)) ?_
          refine WE.V1I (M' := mX6_does) (n := 87) dX6_loads_84 rfl cv_X6_86 (by first | decide | exact kd_bal (by assumption) | exact kd_let (by assumption) | assumption) ⟨⟨by decide, by decide⟩, by decide, by decide⟩ (Nat.le_of_ble_eq_true rfl) (m_does _ _ _) ?_
          refine WE.iret (ty := .int) dX6_loads_87 rfl rfl ⟨by decide, by decide⟩ ?_
          simp (disch := omega) only [S_loads, h5, h13, h33, h50, hcl, hcli, hnlN, ldN, u2_now, u2_setN5, setN_setN, setN_at, setN_5, u2_56, upN_eq, upN_ne, bk, lk, isBN, isLN, ↓reduceIte, and_self, and_true, true_and, not_true_eq_false, not_false_eq_true]
          exact RI.mk rfl rfl
        · skip
          refine WE.aload_n (n := 54) dX6_loads_53 rfl rfl ?_
          refine WE.iconst (n := 55) (nI 2) dX6_loads_54 rfl (by decide) ?_
          refine WE.iload_n (n := 56) dX6_loads_55 rfl rfl ?_
          refine WE.V2I (M' := mX6_why) (n := 59) dX6_loads_56 rfl cv_X6_99 (by first | decide | exact kd_bal (by assumption) | exact kd_let (by assumption) | assumption) ⟨⟨by decide, by decide⟩, by decide, by decide⟩ (Nat.le_of_ble_eq_true rfl) (m_why _ _ _ _) ?_
          refine WE.iret (ty := .int) dX6_loads_59 rfl rfl ⟨by decide, by decide⟩ ?_
          simp (disch := omega) only [S_loads, h5, h13, h33, h50, hcl, hcli, hnlN, ldN, u2_now, u2_setN5, setN_setN, setN_at, setN_5, u2_56, upN_eq, upN_ne, bk, lk, isBN, isLN, ↓reduceIte, and_self, and_true, true_and, not_true_eq_false, not_false_eq_true]
          exact RI.mk rfl rfl
      · skip
        refine WE.aload_n (n := 37) dX6_loads_36 rfl rfl ?_
        refine WE.bipush (n := 39) (nI 8) dX6_loads_37 rfl (by decide) ?_
        refine WE.iload_n (n := 40) dX6_loads_39 rfl rfl ?_
        refine WE.V2I (M' := mX6_why) (n := 43) dX6_loads_40 rfl cv_X6_99 (by first | decide | exact kd_bal (by assumption) | exact kd_let (by assumption) | assumption) ⟨⟨by decide, by decide⟩, by decide, by decide⟩ (Nat.le_of_ble_eq_true rfl) (m_why _ _ _ _) ?_
        refine WE.iret (ty := .int) dX6_loads_43 rfl rfl ⟨by decide, by decide⟩ ?_
        simp (disch := omega) only [S_loads, h5, h13, h33, hcl, hcli, hnlN, ldN, u2_now, u2_setN5, setN_setN, setN_at, setN_5, u2_56, upN_eq, upN_ne, bk, lk, isBN, isLN, ↓reduceIte, and_self, and_true, true_and, not_true_eq_false, not_false_eq_true]
        exact RI.mk rfl rfl
    · skip
      refine WE.iconst (n := 17) ((-1 : Int32)) dX6_loads_16 rfl (by decide) ?_
      refine WE.iret (ty := .int) dX6_loads_17 rfl rfl ⟨by decide, by decide⟩ ?_
      first | (simp (disch := omega) only [S_loads, h5, h13, hcli, u2_now, u2_setN5, setN_setN, setN_at, setN_5, u2_56, upN_eq, upN_ne, bk, lk, isBN, isLN, ↓reduceIte, and_self, and_true, true_and, not_true_eq_false, not_false_eq_true]; exact RI.mk rfl rfl) | (simp (disch := omega) only [S_loads, h5, h13, u2_now, u2_setN5, setN_setN, setN_at, setN_5, u2_56, upN_eq, upN_ne, bk, lk, isBN, isLN, ↓reduceIte, and_self, and_true, true_and, not_true_eq_false, not_false_eq_true]; exact RI.mk rfl rfl)
