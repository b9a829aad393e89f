/-- the first n letters, those that balloon b has aboard getting the state st -/
def dnL (N : NA) (st b : Int32) : Nat → NA
  | 0 => N
  | n + 1 => if dnL N st b n (88 + 4 * n + 2) = nI 1 then (if dnL N st b n (88 + 4 * n + 3) = b then upN (dnL N st b n) (88 + 4 * n + 2) st else dnL N st b n) else dnL N st b n
theorem dnL_lo (N : NA) (st b : Int32) {k : Nat} (h : k < 88) : ∀ n, dnL N st b n k = N k
  | 0 => rfl
  | n + 1 => by
    unfold dnL
    split
    · split
      · rw [upN_ne _ _ _ (by omega)]
        exact dnL_lo N st b h n
      · exact dnL_lo N st b h n
    · exact dnL_lo N st b h n
def dnN (N : NA) (j : Nat) (st : Int32) (nl : Nat) : NA :=
  let M := upN (upN (upN N (22 + 11 * j + 5) st) (22 + 11 * j + 9) (N 0)) (22 + 11 * j + 10) (nI 0)
  dnL (if st = nI 2 then upN M 7 (M 7 + N (22 + 11 * j + 2)) else upN M 8 (M 8 + N (22 + 11 * j + 2))) st (nI j) nl
def lkN (N : NA) (j : Nat) : Int32 := (N (22 + 11 * j + 1) + nI 19) / nI 20
/-- behind the leak -/
def fl1 (N : NA) (j : Nat) : NA := upN (upN (upN N (22 + 11 * j + 1) (N (22 + 11 * j + 1) - lkN N j)) (22 + 11 * j + 8) (N (22 + 11 * j + 8) + nI 1)) 9 (N 9 + lkN N j)
def htN (N : NA) (j nl : Nat) : Int32 := mn (nI 5) (beN N j nl / nI 4)
/-- behind the drift -/
def fl2 (N : NA) (j nl : Nat) : NA :=
  upN (upN (upN N (22 + 11 * j + 10) (htN N j nl)) (22 + 11 * j + 6) (N (22 + 11 * j + 6) + N (10 + 2 * (htN N j nl).toNatClampNeg))) (22 + 11 * j + 7) (N (22 + 11 * j + 7) + N (10 + 2 * (htN N j nl).toNatClampNeg + 1))
def flN (N : NA) (j nl : Nat) : NA :=
  if 0 ≤ beN (fl1 N j) j nl then
    if nI 0 ≤ fl2 (fl1 N j) j nl (22 + 11 * j + 6) ∧ fl2 (fl1 N j) j nl (22 + 11 * j + 6) ≤ nI 39 then
      if nI 0 ≤ fl2 (fl1 N j) j nl (22 + 11 * j + 7) ∧ fl2 (fl1 N j) j nl (22 + 11 * j + 7) ≤ nI 39 then fl2 (fl1 N j) j nl
      else dnN (fl2 (fl1 N j) j nl) j (nI 3) nl
    else dnN (fl2 (fl1 N j) j nl) j (nI 3) nl
  else dnN (fl1 N j) j (if fl1 N j 1 < far (fl1 N j (22 + 11 * j + 6)) (fl1 N j (22 + 11 * j + 7)) then nI 2 else nI 3) nl
theorem ht_of {N : NA} {j nl : Nat} (h : 0 ≤ beN N j nl) : ∃ k, k ≤ 5 ∧ htN N j nl = nI k := by
  obtain ⟨q, hq, e⟩ := nI_of (x := beN N j nl) (by
    rw [Int32.lt_iff_toInt_lt]
    rw [Int32.le_iff_toInt_le] at h
    omega)
  unfold htN
  rw [e, pk_div hq (by decide) (by decide)]
  unfold mn
  split
  · rename_i h1
    rw [nI_ltI (by omega) (by decide)] at h1
    exact ⟨q / 4, by omega, rfl⟩
  · exact ⟨5, Nat.le_refl _, rfl⟩
theorem dnN_lo (N : NA) (j : Nat) (st : Int32) (nl : Nat) {k : Nat} (h : k < 22) (h7 : k ≠ 7) (h8 : k ≠ 8) : dnN N j st nl k = N k := by
  unfold dnN
  rw [dnL_lo _ _ _ (by omega)]
  split
  · rw [upN_ne _ _ _ h7, upN_ne _ _ _ (by omega), upN_ne _ _ _ (by omega), upN_ne _ _ _ (by omega)]
  · rw [upN_ne _ _ _ h8, upN_ne _ _ _ (by omega), upN_ne _ _ _ (by omega), upN_ne _ _ _ (by omega)]
theorem fl1_lo (N : NA) (j : Nat) {k : Nat} (h : k < 22) (h9 : k ≠ 9) : fl1 N j k = N k := by
  unfold fl1
  rw [upN_ne _ _ _ h9, upN_ne _ _ _ (by omega), upN_ne _ _ _ (by omega)]
theorem fl2_lo (N : NA) (j nl : Nat) {k : Nat} (h : k < 22) : fl2 N j nl k = N k := by
  unfold fl2
  rw [upN_ne _ _ _ (by omega), upN_ne _ _ _ (by omega), upN_ne _ _ _ (by omega)]
theorem flN_lo (N : NA) (j nl : Nat) {k : Nat} (h : k < 22) (h7 : k ≠ 7) (h8 : k ≠ 8) (h9 : k ≠ 9) : flN N j nl k = N k := by
  unfold flN
  split
  · split
    · split
      · rw [fl2_lo _ _ _ h, fl1_lo _ _ h h9]
      · rw [dnN_lo _ _ _ _ h h7 h8, fl2_lo _ _ _ h, fl1_lo _ _ h h9]
    · rw [dnN_lo _ _ _ _ h h7 h8, fl2_lo _ _ _ h, fl1_lo _ _ h h9]
  · rw [dnN_lo _ _ _ _ h h7 h8, fl1_lo _ _ h h9]
/-- an hour of the first n balloons: the numbers, how many landed -/
def goL (N : NA) (nl : Nat) : Nat → NA × Int32
  | 0 => (N, nI 0)
  | n + 1 => if (goL N nl n).1 (22 + 11 * n + 5) = nI 1 then (flN (goL N nl n).1 n nl, if flN (goL N nl n).1 n nl (22 + 11 * n + 5) = nI 2 then (goL N nl n).2 + nI 1 else (goL N nl n).2) else goL N nl n
theorem goL_lo (N : NA) (nl : Nat) {k : Nat} (h : k < 22) (h7 : k ≠ 7) (h8 : k ≠ 8) (h9 : k ≠ 9) : ∀ n, (goL N nl n).1 k = N k
  | 0 => rfl
  | n + 1 => by
    unfold goL
    split
    · show flN _ _ _ k = N k
      rw [flN_lo _ _ _ h h7 h8 h9]
      exact goL_lo N nl h h7 h8 h9 n
    · exact goL_lo N nl h h7 h8 h9 n
def goN (N : NA) (nb nl : Nat) : NA × Int32 := (upN (goL N nl nb).1 0 ((goL N nl nb).1 0 + nI 1), (goL N nl nb).2)
def psL (N : NA) (nb nl : Nat) : Nat → NA × Int32
  | 0 => (N, nI 0)
  | n + 1 => ((goN (psL N nb nl n).1 nb nl).1, (psL N nb nl n).2 + (goN (psL N nb nl n).1 nb nl).2)
theorem psL_lo (N : NA) (nb nl : Nat) {k : Nat} (h : k < 22) (h0 : k ≠ 0) (h7 : k ≠ 7) (h8 : k ≠ 8) (h9 : k ≠ 9) : ∀ n, (psL N nb nl n).1 k = N k
  | 0 => rfl
  | n + 1 => by
    unfold psL
    show upN _ 0 _ k = N k
    rw [upN_ne _ _ _ h0, goL_lo _ _ h h7 h8 h9]
    exact psL_lo N nb nl h h0 h7 h8 h9 n
def S_passes (N : NA) (h : Int32) : OR :=
  if nI 1 ≤ h ∧ h ≤ nI 48 then .inl ((psL N (N 3).toNatClampNeg (nlN N) h.toNatClampNeg).2, (psL N (N 3).toNatClampNeg (nlN N) h.toNatClampNeg).1)
  else .inr (.inr 1)
set_option maxRecDepth 20000 in
set_option maxHeartbeats 1000000 in
theorem m_isDown_loop {G : GT} (c : CC) (od : Int64 × UInt64) (b st : Int32) (nl : Nat) (hl : nl ≤ 24) (hc : c 396 4 = nI nl) (k : WE mX6_isDown 120 [] [] (setN c (dnL (c 396) st b nl), od) 0 0 G) : WE mX6_isDown 56 [(0, .ref 395), (1, .int b), (2, .int st), (3, .int (nI 0))] [] (c, od) 0 0 G := by
  suffices H : ∀ n i : Nat, i ≤ nl → nl < i + n → WE mX6_isDown 56 [(0, .ref 395), (1, .int b), (2, .int st), (3, .int (nI i))] [] (setN c (dnL (c 396) st b i), od) 0 0 G from WE.ofS (σ' := (setN c (dnL (c 396) st b 0), od)) (by rw [show dnL (c 396) st b 0 = c 396 from rfl, setN_self]) (WE.ofA (L' := [(0, .ref 395), (1, .int b), (2, .int st), (3, .int (nI 0))]) ⟨rfl, rfl, rfl, rfl, trivial⟩ (H (nl + 1) 0 (Nat.zero_le _) (by omega)))
  intro n
  induction n with
  | zero =>
    intro i h1 h2
    exact absurd h2 (by omega)
  | succ n ih =>
    intro i hi hn
    refine WE.iload_n (n := 57) dX6_isDown_56 rfl rfl ?_
    refine WE.aload_n (n := 58) dX6_isDown_57 rfl rfl ?_
    refine WE.getR (n := 61) dX6_isDown_58 rfl fl_X6_9 ⟨by decide, by decide⟩ rfl (by first | decide | exact kd_bal (by assumption) | exact kd_let (by assumption) | assumption) ?_
    refine WE.iconst (n := 62) (nI 4) dX6_isDown_61 rfl (by decide) ?_
    refine WE.iald (n := 63) 4 dX6_isDown_62 rfl (by first | decide | assumption) rfl (by show _ < 184; omega) ?_
    refine WE.icmp_ge (n := 66) (tgt := 120) dX6_isDown_63 rfl (by decide) (fun h63 => ?_) (fun h63 => ?_)
    · skip
      have h63 : (c 396) 4 ≤ nI i := by simpa only [setN_at, dnL_lo _ _ _ (show 4 < 88 by decide)] using h63
      rw [hc] at h63
      have hx : i = nl := by have := ge_t (by omega) (by omega) h63; omega
      subst hx
      exact WE.ofL (fun _ h => absurd h List.not_mem_nil) k
    · skip
      have h63 : ¬ (c 396) 4 ≤ nI i := by simpa only [setN_at, dnL_lo _ _ _ (show 4 < 88 by decide)] using h63
      rw [hc] at h63
      have hlt : i < nl := ge_f (by omega) (by omega) h63
      refine WE.aload_n (n := 67) dX6_isDown_66 rfl rfl ?_
      refine WE.getR (n := 70) dX6_isDown_67 rfl fl_X6_9 ⟨by decide, by decide⟩ rfl (by first | decide | exact kd_bal (by assumption) | exact kd_let (by assumption) | assumption) ?_
      refine WE.bipush (n := 72) (nI 88) dX6_isDown_70 rfl (by decide) ?_
      refine WE.iconst (n := 73) (nI 4) dX6_isDown_72 rfl (by decide) ?_
      refine WE.iload_n (n := 74) dX6_isDown_73 rfl rfl ?_
      refine WE.imul (n := 75) dX6_isDown_74 rfl ?_
      refine WE.iadd (n := 76) dX6_isDown_75 rfl ?_
      refine WE.iconst (n := 77) (nI 2) dX6_isDown_76 rfl (by decide) ?_
      refine WE.iadd (n := 78) dX6_isDown_77 rfl ?_
      refine WE.iald (n := 79) (88 + 4 * i + 2) dX6_isDown_78 rfl (by first | decide | assumption) (by first | rfl | simp only [pk_mul, nI_add]) (by show _ < 184; omega) ?_
      refine WE.iconst (n := 80) (nI 1) dX6_isDown_79 rfl (by decide) ?_
      refine WE.icmp_ne (n := 83) (tgt := 114) dX6_isDown_80 rfl (by decide) (fun h80 => ?_) (fun h80 => ?_)
      · skip
        refine WE.iincV (n := 117) (nI (i + 1)) dX6_isDown_114 rfl rfl (by decide) (nI_inc i) ?_
        refine WE.goto (tgt := 56) dX6_isDown_117 (by decide) ?_
        refine WE.ofS (σ' := (setN c (dnL (c 396) st b (i + 1)), od)) ?_ (WE.ofA (L' := [(0, .ref 395), (1, .int b), (2, .int st), (3, .int (nI (i + 1)))]) ⟨rfl, rfl, rfl, rfl, trivial⟩ (ih (i + 1) (by omega) (by omega)))
        simp only [setN_at] at h63 h80
        simp only [dnL, u2_now, setN_setN, setN_at, h80, ↓reduceIte]
      · skip
        refine WE.aload_n (n := 84) dX6_isDown_83 rfl rfl ?_
        refine WE.getR (n := 87) dX6_isDown_84 rfl fl_X6_9 ⟨by decide, by decide⟩ rfl (by first | decide | exact kd_bal (by assumption) | exact kd_let (by assumption) | assumption) ?_
        refine WE.bipush (n := 89) (nI 88) dX6_isDown_87 rfl (by decide) ?_
        refine WE.iconst (n := 90) (nI 4) dX6_isDown_89 rfl (by decide) ?_
        refine WE.iload_n (n := 91) dX6_isDown_90 rfl rfl ?_
        refine WE.imul (n := 92) dX6_isDown_91 rfl ?_
        refine WE.iadd (n := 93) dX6_isDown_92 rfl ?_
        refine WE.iconst (n := 94) (nI 3) dX6_isDown_93 rfl (by decide) ?_
        refine WE.iadd (n := 95) dX6_isDown_94 rfl ?_
        refine WE.iald (n := 96) (88 + 4 * i + 3) dX6_isDown_95 rfl (by first | decide | assumption) (by first | rfl | simp only [pk_mul, nI_add]) (by show _ < 184; omega) ?_
        refine WE.iload_n (n := 97) dX6_isDown_96 rfl rfl ?_
        refine WE.icmp_ne (n := 100) (tgt := 114) dX6_isDown_97 rfl (by decide) (fun h97 => ?_) (fun h97 => ?_)
        · skip
          refine WE.iincV (n := 117) (nI (i + 1)) dX6_isDown_114 rfl rfl (by decide) (nI_inc i) ?_
          refine WE.goto (tgt := 56) dX6_isDown_117 (by decide) ?_
          refine WE.ofS (σ' := (setN c (dnL (c 396) st b (i + 1)), od)) ?_ (WE.ofA (L' := [(0, .ref 395), (1, .int b), (2, .int st), (3, .int (nI (i + 1)))]) ⟨rfl, rfl, rfl, rfl, trivial⟩ (ih (i + 1) (by omega) (by omega)))
          simp only [setN_at] at h63 h80 h97
          simp only [dnL, u2_now, setN_setN, setN_at, h80, h97, ↓reduceIte]
        · skip
          refine WE.aload_n (n := 101) dX6_isDown_100 rfl rfl ?_
          refine WE.getR (n := 104) dX6_isDown_101 rfl fl_X6_9 ⟨by decide, by decide⟩ rfl (by first | decide | exact kd_bal (by assumption) | exact kd_let (by assumption) | assumption) ?_
          refine WE.bipush (n := 106) (nI 88) dX6_isDown_104 rfl (by decide) ?_
          refine WE.iconst (n := 107) (nI 4) dX6_isDown_106 rfl (by decide) ?_
          refine WE.iload_n (n := 108) dX6_isDown_107 rfl rfl ?_
          refine WE.imul (n := 109) dX6_isDown_108 rfl ?_
          refine WE.iadd (n := 110) dX6_isDown_109 rfl ?_
          refine WE.iconst (n := 111) (nI 2) dX6_isDown_110 rfl (by decide) ?_
          refine WE.iadd (n := 112) dX6_isDown_111 rfl ?_
          refine WE.iload_n (n := 113) dX6_isDown_112 rfl rfl ?_
          refine WE.iast (n := 114) (88 + 4 * i + 2) dX6_isDown_113 rfl (by first | decide | assumption) (by first | rfl | simp only [pk_mul, nI_add]) (by show _ < 184; omega) ?_
          refine WE.iincV (n := 117) (nI (i + 1)) dX6_isDown_114 rfl rfl (by decide) (nI_inc i) ?_
          refine WE.goto (tgt := 56) dX6_isDown_117 (by decide) ?_
          refine WE.ofS (σ' := (setN c (dnL (c 396) st b (i + 1)), od)) ?_ (WE.ofA (L' := [(0, .ref 395), (1, .int b), (2, .int st), (3, .int (nI (i + 1)))]) ⟨rfl, rfl, rfl, rfl, trivial⟩ (ih (i + 1) (by omega) (by omega)))
          simp only [setN_at] at h63 h80 h97
          simp only [dnL, u2_now, setN_setN, setN_at, h80, h97, ↓reduceIte]
set_option maxRecDepth 20000 in
set_option maxHeartbeats 1000000 in
theorem m_isDown (c : CC) (od : Int64 × UInt64) (j : Nat) (hj : j < 6) (st : Int32) (nl : Nat) (hnl : nl ≤ 24) (hc4 : c 396 4 = nI nl) : CM mX6_isDown [.ref 395, .int (nI j), .int st] (c, od) (RV (setN c (dnN (c 396) j st nl), od)) := by
  refine CM.of [(0, .ref 395), (1, .int (nI j)), (2, .int st)] rfl (by decide +kernel) rfl (Nat.le_of_ble_eq_true rfl) ?_
  refine WE.aload_n (n := 1) dX6_isDown_0 rfl rfl ?_
  refine WE.iload_n (n := 2) dX6_isDown_1 rfl rfl ?_
  refine WE.iconst (n := 3) (nI 5) dX6_isDown_2 rfl (by decide) ?_
  refine WE.iload_n (n := 4) dX6_isDown_3 rfl rfl ?_
  refine WE.V3V (M' := mX6_sets) (n := 7) dX6_isDown_4 rfl cv_X6_102 (by first | decide | exact kd_bal (by assumption) | exact kd_let (by assumption) | assumption) ⟨⟨by decide, by decide⟩, by decide, by decide⟩ (Nat.le_of_ble_eq_true rfl) (m_sets _ _ j 5 _ (by omega)) ?_
  refine WE.aload_n (n := 8) dX6_isDown_7 rfl rfl ?_
  refine WE.iload_n (n := 9) dX6_isDown_8 rfl rfl ?_
  refine WE.bipush (n := 11) (nI 9) dX6_isDown_9 rfl (by decide) ?_
  refine WE.aload_n (n := 12) dX6_isDown_11 rfl rfl ?_
  refine WE.getR (n := 15) dX6_isDown_12 rfl fl_X6_9 ⟨by decide, by decide⟩ rfl (by first | decide | exact kd_bal (by assumption) | exact kd_let (by assumption) | assumption) ?_
  refine WE.iconst (n := 16) (nI 0) dX6_isDown_15 rfl (by decide) ?_
  refine WE.iald (n := 17) 0 dX6_isDown_16 rfl (by first | decide | assumption) rfl (by show _ < 184; omega) ?_
  refine WE.V3V (M' := mX6_sets) (n := 20) dX6_isDown_17 rfl cv_X6_102 (by first | decide | exact kd_bal (by assumption) | exact kd_let (by assumption) | assumption) ⟨⟨by decide, by decide⟩, by decide, by decide⟩ (Nat.le_of_ble_eq_true rfl) (m_sets _ _ j 9 _ (by omega)) ?_
  refine WE.aload_n (n := 21) dX6_isDown_20 rfl rfl ?_
  refine WE.iload_n (n := 22) dX6_isDown_21 rfl rfl ?_
  refine WE.bipush (n := 24) (nI 10) dX6_isDown_22 rfl (by decide) ?_
  refine WE.iconst (n := 25) (nI 0) dX6_isDown_24 rfl (by decide) ?_
  refine WE.V3V (M' := mX6_sets) (n := 28) dX6_isDown_25 rfl cv_X6_102 (by first | decide | exact kd_bal (by assumption) | exact kd_let (by assumption) | assumption) ⟨⟨by decide, by decide⟩, by decide, by decide⟩ (Nat.le_of_ble_eq_true rfl) (m_sets _ _ j 10 _ (by omega)) ?_
  refine WE.aload_n (n := 29) dX6_isDown_28 rfl rfl ?_
  refine WE.getR (n := 32) dX6_isDown_29 rfl fl_X6_9 ⟨by decide, by decide⟩ rfl (by first | decide | exact kd_bal (by assumption) | exact kd_let (by assumption) | assumption) ?_
  refine WE.iload_n (n := 33) dX6_isDown_32 rfl rfl ?_
  refine WE.iconst (n := 34) (nI 2) dX6_isDown_33 rfl (by decide) ?_
  refine WE.icmp_ne (n := 37) (tgt := 42) dX6_isDown_34 rfl (by decide) (fun h34 => ?_) (fun h34 => ?_)
  · skip
    refine WE.bipush (n := 44) (nI 8) dX6_isDown_42 rfl (by decide) ?_
    refine WE.dup2 (n := 45) dX6_isDown_44 rfl rfl rfl ?_
    refine WE.iald (n := 46) 8 dX6_isDown_45 rfl (by first | decide | assumption) rfl (by show _ < 184; omega) ?_
    refine WE.aload_n (n := 47) dX6_isDown_46 rfl rfl ?_
    refine WE.iload_n (n := 48) dX6_isDown_47 rfl rfl ?_
    refine WE.iconst (n := 49) (nI 2) dX6_isDown_48 rfl (by decide) ?_
    refine WE.V2I (M' := mX6_of) (n := 52) dX6_isDown_49 rfl cv_X6_71 (by first | decide | exact kd_bal (by assumption) | exact kd_let (by assumption) | assumption) ⟨⟨by decide, by decide⟩, by decide, by decide⟩ (Nat.le_of_ble_eq_true rfl) (m_of _ _ j 2 (by omega)) ?_
    refine WE.iadd (n := 53) dX6_isDown_52 rfl ?_
    refine WE.iast (n := 54) 8 dX6_isDown_53 rfl (by first | decide | assumption) rfl (by show _ < 184; omega) ?_
    refine WE.iconst (n := 55) (nI 0) dX6_isDown_54 rfl (by decide) ?_
    refine WE.istore_n (n := 56) dX6_isDown_55 rfl (by decide) ?_
    refine WE.ofS (σ' := (setN c (if st = nI 2 then upN (upN (upN (upN (c 396) (22 + 11 * j + 5) st) (22 + 11 * j + 9) (c 396 0)) (22 + 11 * j + 10) (nI 0)) 7 (c 396 7 + c 396 (22 + 11 * j + 2)) else upN (upN (upN (upN (c 396) (22 + 11 * j + 5) st) (22 + 11 * j + 9) (c 396 0)) (22 + 11 * j + 10) (nI 0)) 8 (c 396 8 + c 396 (22 + 11 * j + 2))), od)) (by simp (disch := omega) only [h34, u2_now, setN_setN, setN_at, u2_setN5, setN_5, u2_56, upN_eq, upN_ne, ne_eq, not_false_eq_true, ↓reduceIte]) (WE.ofA (L' := [(0, .ref 395), (1, .int (nI j)), (2, .int st), (3, .int (nI 0))]) ⟨rfl, rfl, rfl, rfl, trivial⟩ (m_isDown_loop _ od (nI j) st nl hnl ?_ ?_))
    · rw [setN_at]
      split <;> simp (disch := omega) only [upN_ne, hc4]
    · refine WE.vret dX6_isDown_120 rfl ⟨by decide, by decide⟩ (RV.mk ?_)
      simp (disch := omega) only [setN_setN, setN_at, dnN, upN_ne]
  · skip
    refine WE.bipush (n := 39) (nI 7) dX6_isDown_37 rfl (by decide) ?_
    refine WE.goto (tgt := 44) dX6_isDown_39 (by decide) ?_
    refine WE.dup2 (n := 45) dX6_isDown_44 rfl rfl rfl ?_
    refine WE.iald (n := 46) 7 dX6_isDown_45 rfl (by first | decide | assumption) rfl (by show _ < 184; omega) ?_
    refine WE.aload_n (n := 47) dX6_isDown_46 rfl rfl ?_
    refine WE.iload_n (n := 48) dX6_isDown_47 rfl rfl ?_
    refine WE.iconst (n := 49) (nI 2) dX6_isDown_48 rfl (by decide) ?_
    refine WE.V2I (M' := mX6_of) (n := 52) dX6_isDown_49 rfl cv_X6_71 (by first | decide | exact kd_bal (by assumption) | exact kd_let (by assumption) | assumption) ⟨⟨by decide, by decide⟩, by decide, by decide⟩ (Nat.le_of_ble_eq_true rfl) (m_of _ _ j 2 (by omega)) ?_
    refine WE.iadd (n := 53) dX6_isDown_52 rfl ?_
    refine WE.iast (n := 54) 7 dX6_isDown_53 rfl (by first | decide | assumption) rfl (by show _ < 184; omega) ?_
    refine WE.iconst (n := 55) (nI 0) dX6_isDown_54 rfl (by decide) ?_
    refine WE.istore_n (n := 56) dX6_isDown_55 rfl (by decide) ?_
    refine WE.ofS (σ' := (setN c (if st = nI 2 then upN (upN (upN (upN (c 396) (22 + 11 * j + 5) st) (22 + 11 * j + 9) (c 396 0)) (22 + 11 * j + 10) (nI 0)) 7 (c 396 7 + c 396 (22 + 11 * j + 2)) else upN (upN (upN (upN (c 396) (22 + 11 * j + 5) st) (22 + 11 * j + 9) (c 396 0)) (22 + 11 * j + 10) (nI 0)) 8 (c 396 8 + c 396 (22 + 11 * j + 2))), od)) (by simp (disch := omega) only [h34, u2_now, setN_setN, setN_at, u2_setN5, setN_5, u2_56, upN_eq, upN_ne, ne_eq, not_false_eq_true, ↓reduceIte]) (WE.ofA (L' := [(0, .ref 395), (1, .int (nI j)), (2, .int st), (3, .int (nI 0))]) ⟨rfl, rfl, rfl, rfl, trivial⟩ (m_isDown_loop _ od (nI j) st nl hnl ?_ ?_))
    · rw [setN_at]
      split <;> simp (disch := omega) only [upN_ne, hc4]
    · refine WE.vret dX6_isDown_120 rfl ⟨by decide, by decide⟩ (RV.mk ?_)
      simp (disch := omega) only [setN_setN, setN_at, dnN, upN_ne]
set_option maxRecDepth 20000 in
set_option maxHeartbeats 1000000 in
theorem m_flies (c : CC) (od : Int64 × UInt64) (j : Nat) (hj : j < 6) (nl : Nat) (hnl : nl ≤ 24) (hc4 : c 396 4 = nI nl) : CM mX6_flies [.ref 395, .int (nI j)] (c, od) (RV (setN c (flN (c 396) j nl), od)) := by
  refine CM.of [(0, .ref 395), (1, .int (nI j))] rfl (by decide +kernel) rfl (Nat.le_of_ble_eq_true rfl) ?_
  refine WE.aload_n (n := 1) dX6_flies_0 rfl rfl ?_
  refine WE.iload_n (n := 2) dX6_flies_1 rfl rfl ?_
  refine WE.iconst (n := 3) (nI 1) dX6_flies_2 rfl (by decide) ?_
  refine WE.V2I (M' := mX6_of) (n := 6) dX6_flies_3 rfl cv_X6_71 (by first | decide | exact kd_bal (by assumption) | exact kd_let (by assumption) | assumption) ⟨⟨by decide, by decide⟩, by decide, by decide⟩ (Nat.le_of_ble_eq_true rfl) (m_of _ _ j 1 (by omega)) ?_
  refine WE.bipush (n := 8) (nI 19) dX6_flies_6 rfl (by decide) ?_
  refine WE.iadd (n := 9) dX6_flies_8 rfl ?_
  refine WE.bipush (n := 11) (nI 20) dX6_flies_9 rfl (by decide) ?_
  refine WE.idiv (n := 12) dX6_flies_11 rfl (by decide) ?_
  refine WE.istore_n (n := 13) dX6_flies_12 rfl (by decide) ?_
  refine WE.aload_n (n := 14) dX6_flies_13 rfl rfl ?_
  refine WE.iload_n (n := 15) dX6_flies_14 rfl rfl ?_
  refine WE.iconst (n := 16) (nI 1) dX6_flies_15 rfl (by decide) ?_
  refine WE.aload_n (n := 17) dX6_flies_16 rfl rfl ?_
  refine WE.iload_n (n := 18) dX6_flies_17 rfl rfl ?_
  refine WE.iconst (n := 19) (nI 1) dX6_flies_18 rfl (by decide) ?_
  refine WE.V2I (M' := mX6_of) (n := 22) dX6_flies_19 rfl cv_X6_71 (by first | decide | exact kd_bal (by assumption) | exact kd_let (by assumption) | assumption) ⟨⟨by decide, by decide⟩, by decide, by decide⟩ (Nat.le_of_ble_eq_true rfl) (m_of _ _ j 1 (by omega)) ?_
  refine WE.iload_n (n := 23) dX6_flies_22 rfl rfl ?_
  refine WE.isub (n := 24) dX6_flies_23 rfl ?_
  refine WE.V3V (M' := mX6_sets) (n := 27) dX6_flies_24 rfl cv_X6_102 (by first | decide | exact kd_bal (by assumption) | exact kd_let (by assumption) | assumption) ⟨⟨by decide, by decide⟩, by decide, by decide⟩ (Nat.le_of_ble_eq_true rfl) (m_sets _ _ j 1 _ (by omega)) ?_
  refine WE.aload_n (n := 28) dX6_flies_27 rfl rfl ?_
  refine WE.iload_n (n := 29) dX6_flies_28 rfl rfl ?_
  refine WE.bipush (n := 31) (nI 8) dX6_flies_29 rfl (by decide) ?_
  refine WE.aload_n (n := 32) dX6_flies_31 rfl rfl ?_
  refine WE.iload_n (n := 33) dX6_flies_32 rfl rfl ?_
  refine WE.bipush (n := 35) (nI 8) dX6_flies_33 rfl (by decide) ?_
  refine WE.V2I (M' := mX6_of) (n := 38) dX6_flies_35 rfl cv_X6_71 (by first | decide | exact kd_bal (by assumption) | exact kd_let (by assumption) | assumption) ⟨⟨by decide, by decide⟩, by decide, by decide⟩ (Nat.le_of_ble_eq_true rfl) (m_of _ _ j 8 (by omega)) ?_
  refine WE.iconst (n := 39) (nI 1) dX6_flies_38 rfl (by decide) ?_
  refine WE.iadd (n := 40) dX6_flies_39 rfl ?_
  refine WE.V3V (M' := mX6_sets) (n := 43) dX6_flies_40 rfl cv_X6_102 (by first | decide | exact kd_bal (by assumption) | exact kd_let (by assumption) | assumption) ⟨⟨by decide, by decide⟩, by decide, by decide⟩ (Nat.le_of_ble_eq_true rfl) (m_sets _ _ j 8 _ (by omega)) ?_
  refine WE.aload_n (n := 44) dX6_flies_43 rfl rfl ?_
  refine WE.getR (n := 47) dX6_flies_44 rfl fl_X6_9 ⟨by decide, by decide⟩ rfl (by first | decide | exact kd_bal (by assumption) | exact kd_let (by assumption) | assumption) ?_
  refine WE.bipush (n := 49) (nI 9) dX6_flies_47 rfl (by decide) ?_
  refine WE.dup2 (n := 50) dX6_flies_49 rfl rfl rfl ?_
  refine WE.iald (n := 51) 9 dX6_flies_50 rfl (by first | decide | assumption) rfl (by show _ < 184; omega) ?_
  refine WE.iload_n (n := 52) dX6_flies_51 rfl rfl ?_
  refine WE.iadd (n := 53) dX6_flies_52 rfl ?_
  refine WE.iast (n := 54) 9 dX6_flies_53 rfl (by first | decide | assumption) rfl (by show _ < 184; omega) ?_
  refine WE.ofS (σ' := (setN c (fl1 (c 396) j), od)) (by simp (disch := omega) only [fl1, lkN, u2_now, setN_setN, setN_at, u2_setN5, setN_5, u2_56, upN_eq, upN_ne, ne_eq, not_false_eq_true]) ?_
  refine WE.aload_n (n := 55) dX6_flies_54 rfl rfl ?_
  refine WE.iload_n (n := 56) dX6_flies_55 rfl rfl ?_
  refine WE.V1I (M' := mX6_bears) (n := 59) dX6_flies_56 rfl cv_X6_125 (by first | decide | exact kd_bal (by assumption) | exact kd_let (by assumption) | assumption) ⟨⟨by decide, by decide⟩, by decide, by decide⟩ (Nat.le_of_ble_eq_true rfl) (m_bears _ _ j hj nl hnl (by simp (disch := omega) only [fl1, fl2, upN_ne, setN_at, hc4])) ?_
  refine WE.if_ge (n := 62) (tgt := 87) dX6_flies_59 rfl (by decide) (fun h59 => ?_) (fun h59 => ?_)
  · skip
    rw [setN_at] at h59
    obtain ⟨k, hk, ek⟩ := ht_of h59
    refine WE.aload_n (n := 88) dX6_flies_87 rfl rfl ?_
    refine WE.iload_n (n := 89) dX6_flies_88 rfl rfl ?_
    refine WE.bipush (n := 91) (nI 10) dX6_flies_89 rfl (by decide) ?_
    refine WE.iconst (n := 92) (nI 5) dX6_flies_91 rfl (by decide) ?_
    refine WE.aload_n (n := 93) dX6_flies_92 rfl rfl ?_
    refine WE.iload_n (n := 94) dX6_flies_93 rfl rfl ?_
    refine WE.V1I (M' := mX6_bears) (n := 97) dX6_flies_94 rfl cv_X6_125 (by first | decide | exact kd_bal (by assumption) | exact kd_let (by assumption) | assumption) ⟨⟨by decide, by decide⟩, by decide, by decide⟩ (Nat.le_of_ble_eq_true rfl) (m_bears _ _ j hj nl hnl (by simp (disch := omega) only [fl1, fl2, upN_ne, setN_at, hc4])) ?_
    refine WE.iconst (n := 98) (nI 4) dX6_flies_97 rfl (by decide) ?_
    refine WE.idiv (n := 99) dX6_flies_98 rfl (by decide) ?_
    refine WE.mmin (n := 102) dX6_flies_99 rfl ml_X6_96 ⟨by decide, Nat.le_of_ble_eq_true rfl, by decide, by decide⟩ ?_
    refine WE.V3V (M' := mX6_sets) (n := 105) dX6_flies_102 rfl cv_X6_102 (by first | decide | exact kd_bal (by assumption) | exact kd_let (by assumption) | assumption) ⟨⟨by decide, by decide⟩, by decide, by decide⟩ (Nat.le_of_ble_eq_true rfl) (m_sets _ _ j 10 _ (by omega)) ?_
    refine WE.ofS (σ' := (setN c (upN (fl1 (c 396) j) (22 + 11 * j + 10) (nI k)), od)) (by rw [u2_now, setN_setN, setN_at, ← ek]; rfl) ?_
    refine WE.bipush (n := 107) (nI 10) dX6_flies_105 rfl (by decide) ?_
    refine WE.iconst (n := 108) (nI 2) dX6_flies_107 rfl (by decide) ?_
    refine WE.aload_n (n := 109) dX6_flies_108 rfl rfl ?_
    refine WE.iload_n (n := 110) dX6_flies_109 rfl rfl ?_
    refine WE.bipush (n := 112) (nI 10) dX6_flies_110 rfl (by decide) ?_
    refine WE.V2I (M' := mX6_of) (n := 115) dX6_flies_112 rfl cv_X6_71 (by first | decide | exact kd_bal (by assumption) | exact kd_let (by assumption) | assumption) ⟨⟨by decide, by decide⟩, by decide, by decide⟩ (Nat.le_of_ble_eq_true rfl) (m_of _ _ j 10 (by omega)) ?_
    refine WE.imul (n := 116) dX6_flies_115 rfl ?_
    refine WE.iadd (n := 117) dX6_flies_116 rfl ?_
    refine WE.istore_n (n := 118) dX6_flies_117 rfl (by decide) ?_
    simp (disch := omega) only [setN_at, upN_eq]
    refine WE.aload_n (n := 119) dX6_flies_118 rfl rfl ?_
    refine WE.iload_n (n := 120) dX6_flies_119 rfl rfl ?_
    refine WE.bipush (n := 122) (nI 6) dX6_flies_120 rfl (by decide) ?_
    refine WE.aload_n (n := 123) dX6_flies_122 rfl rfl ?_
    refine WE.iload_n (n := 124) dX6_flies_123 rfl rfl ?_
    refine WE.bipush (n := 126) (nI 6) dX6_flies_124 rfl (by decide) ?_
    refine WE.V2I (M' := mX6_of) (n := 129) dX6_flies_126 rfl cv_X6_71 (by first | decide | exact kd_bal (by assumption) | exact kd_let (by assumption) | assumption) ⟨⟨by decide, by decide⟩, by decide, by decide⟩ (Nat.le_of_ble_eq_true rfl) (m_of _ _ j 6 (by omega)) ?_
    refine WE.aload_n (n := 130) dX6_flies_129 rfl rfl ?_
    refine WE.getR (n := 133) dX6_flies_130 rfl fl_X6_9 ⟨by decide, by decide⟩ rfl (by first | decide | exact kd_bal (by assumption) | exact kd_let (by assumption) | assumption) ?_
    refine WE.iload_n (n := 134) dX6_flies_133 rfl rfl ?_
    refine WE.iald (n := 135) (10 + 2 * k) dX6_flies_134 rfl (by first | decide | assumption) (by first | rfl | simp only [pk_mul, nI_add]) (by show _ < 184; omega) ?_
    refine WE.iadd (n := 136) dX6_flies_135 rfl ?_
    refine WE.V3V (M' := mX6_sets) (n := 139) dX6_flies_136 rfl cv_X6_102 (by first | decide | exact kd_bal (by assumption) | exact kd_let (by assumption) | assumption) ⟨⟨by decide, by decide⟩, by decide, by decide⟩ (Nat.le_of_ble_eq_true rfl) (m_sets _ _ j 6 _ (by omega)) ?_
    refine WE.aload_n (n := 140) dX6_flies_139 rfl rfl ?_
    refine WE.iload_n (n := 141) dX6_flies_140 rfl rfl ?_
    refine WE.bipush (n := 143) (nI 7) dX6_flies_141 rfl (by decide) ?_
    refine WE.aload_n (n := 144) dX6_flies_143 rfl rfl ?_
    refine WE.iload_n (n := 145) dX6_flies_144 rfl rfl ?_
    refine WE.bipush (n := 147) (nI 7) dX6_flies_145 rfl (by decide) ?_
    refine WE.V2I (M' := mX6_of) (n := 150) dX6_flies_147 rfl cv_X6_71 (by first | decide | exact kd_bal (by assumption) | exact kd_let (by assumption) | assumption) ⟨⟨by decide, by decide⟩, by decide, by decide⟩ (Nat.le_of_ble_eq_true rfl) (m_of _ _ j 7 (by omega)) ?_
    refine WE.aload_n (n := 151) dX6_flies_150 rfl rfl ?_
    refine WE.getR (n := 154) dX6_flies_151 rfl fl_X6_9 ⟨by decide, by decide⟩ rfl (by first | decide | exact kd_bal (by assumption) | exact kd_let (by assumption) | assumption) ?_
    refine WE.iload_n (n := 155) dX6_flies_154 rfl rfl ?_
    refine WE.iconst (n := 156) (nI 1) dX6_flies_155 rfl (by decide) ?_
    refine WE.iadd (n := 157) dX6_flies_156 rfl ?_
    refine WE.iald (n := 158) (10 + 2 * k + 1) dX6_flies_157 rfl (by first | decide | assumption) (by first | rfl | simp only [pk_mul, nI_add]) (by show _ < 184; omega) ?_
    refine WE.iadd (n := 159) dX6_flies_158 rfl ?_
    refine WE.V3V (M' := mX6_sets) (n := 162) dX6_flies_159 rfl cv_X6_102 (by first | decide | exact kd_bal (by assumption) | exact kd_let (by assumption) | assumption) ⟨⟨by decide, by decide⟩, by decide, by decide⟩ (Nat.le_of_ble_eq_true rfl) (m_sets _ _ j 7 _ (by omega)) ?_
    refine WE.ofS (σ' := (setN c (fl2 (fl1 (c 396) j) j nl), od)) (by simp (disch := omega) only [fl2, ek, nI_clamp, u2_now, setN_setN, setN_at, u2_setN5, setN_5, u2_56, upN_eq, upN_ne, ne_eq, not_false_eq_true]) ?_
    refine WE.aload_n (n := 163) dX6_flies_162 rfl rfl ?_
    refine WE.iload_n (n := 164) dX6_flies_163 rfl rfl ?_
    refine WE.bipush (n := 166) (nI 6) dX6_flies_164 rfl (by decide) ?_
    refine WE.V2I (M' := mX6_of) (n := 169) dX6_flies_166 rfl cv_X6_71 (by first | decide | exact kd_bal (by assumption) | exact kd_let (by assumption) | assumption) ⟨⟨by decide, by decide⟩, by decide, by decide⟩ (Nat.le_of_ble_eq_true rfl) (m_of _ _ j 6 (by omega)) ?_
    refine WE.iconst (n := 170) (nI 0) dX6_flies_169 rfl (by decide) ?_
    refine WE.bipush (n := 172) (nI 39) dX6_flies_170 rfl (by decide) ?_
    refine WE.S3I (M' := mX6_in) (n := 175) dX6_flies_172 rfl cv_X6_58  ⟨⟨by decide, by decide⟩, by decide, by decide⟩ (Nat.le_of_ble_eq_true rfl) (m_in _ _ _ _) ?_
    refine WE.if_eqB (n := 178) (tgt := 194) dX6_flies_175 rfl (by decide) (fun h175 => ?_) (fun h175 => ?_)
    · skip
      refine WE.aload_n (n := 195) dX6_flies_194 rfl rfl ?_
      refine WE.iload_n (n := 196) dX6_flies_195 rfl rfl ?_
      refine WE.iconst (n := 197) (nI 3) dX6_flies_196 rfl (by decide) ?_
      refine WE.V2V (M' := mX6_isDown) (n := 200) dX6_flies_197 rfl cv_X6_137 (by first | decide | exact kd_bal (by assumption) | exact kd_let (by assumption) | assumption) ⟨⟨by decide, by decide⟩, by decide, by decide⟩ (Nat.le_of_ble_eq_true rfl) (m_isDown _ _ j hj (nI 3) nl hnl (by simp (disch := omega) only [fl1, fl2, upN_ne, setN_at, hc4])) ?_
      refine WE.vret dX6_flies_200 rfl ⟨by decide, by decide⟩ ?_
      refine RV.mk ?_
      simp only [setN_at] at h175
      simp only [flN, h59, h175, setN_setN, setN_at, and_self, ↓reduceIte]
    · skip
      refine WE.aload_n (n := 179) dX6_flies_178 rfl rfl ?_
      refine WE.iload_n (n := 180) dX6_flies_179 rfl rfl ?_
      refine WE.bipush (n := 182) (nI 7) dX6_flies_180 rfl (by decide) ?_
      refine WE.V2I (M' := mX6_of) (n := 185) dX6_flies_182 rfl cv_X6_71 (by first | decide | exact kd_bal (by assumption) | exact kd_let (by assumption) | assumption) ⟨⟨by decide, by decide⟩, by decide, by decide⟩ (Nat.le_of_ble_eq_true rfl) (m_of _ _ j 7 (by omega)) ?_
      refine WE.iconst (n := 186) (nI 0) dX6_flies_185 rfl (by decide) ?_
      refine WE.bipush (n := 188) (nI 39) dX6_flies_186 rfl (by decide) ?_
      refine WE.S3I (M' := mX6_in) (n := 191) dX6_flies_188 rfl cv_X6_58  ⟨⟨by decide, by decide⟩, by decide, by decide⟩ (Nat.le_of_ble_eq_true rfl) (m_in _ _ _ _) ?_
      refine WE.if_neB (n := 194) (tgt := 200) dX6_flies_191 rfl (by decide) (fun h191 => ?_) (fun h191 => ?_)
      · skip
        refine WE.vret dX6_flies_200 rfl ⟨by decide, by decide⟩ ?_
        refine RV.mk ?_
        simp only [setN_at] at h175 h191
        simp only [flN, h59, h175, h191, setN_setN, setN_at, and_self, ↓reduceIte]
      · skip
        refine WE.aload_n (n := 195) dX6_flies_194 rfl rfl ?_
        refine WE.iload_n (n := 196) dX6_flies_195 rfl rfl ?_
        refine WE.iconst (n := 197) (nI 3) dX6_flies_196 rfl (by decide) ?_
        refine WE.V2V (M' := mX6_isDown) (n := 200) dX6_flies_197 rfl cv_X6_137 (by first | decide | exact kd_bal (by assumption) | exact kd_let (by assumption) | assumption) ⟨⟨by decide, by decide⟩, by decide, by decide⟩ (Nat.le_of_ble_eq_true rfl) (m_isDown _ _ j hj (nI 3) nl hnl (by simp (disch := omega) only [fl1, fl2, upN_ne, setN_at, hc4])) ?_
        refine WE.vret dX6_flies_200 rfl ⟨by decide, by decide⟩ ?_
        refine RV.mk ?_
        simp only [setN_at] at h175 h191
        simp only [flN, h59, h175, h191, setN_setN, setN_at, and_self, ↓reduceIte]
  · skip
    rw [setN_at] at h59
    refine WE.aload_n (n := 63) dX6_flies_62 rfl rfl ?_
    refine WE.iload_n (n := 64) dX6_flies_63 rfl rfl ?_
    refine WE.aload_n (n := 65) dX6_flies_64 rfl rfl ?_
    refine WE.iload_n (n := 66) dX6_flies_65 rfl rfl ?_
    refine WE.V1I (M' := mX6_farOf) (n := 69) dX6_flies_66 rfl cv_X6_134 (by first | decide | exact kd_bal (by assumption) | exact kd_let (by assumption) | assumption) ⟨⟨by decide, by decide⟩, by decide, by decide⟩ (Nat.le_of_ble_eq_true rfl) (m_farOf _ _ j hj) ?_
    refine WE.aload_n (n := 70) dX6_flies_69 rfl rfl ?_
    refine WE.getR (n := 73) dX6_flies_70 rfl fl_X6_9 ⟨by decide, by decide⟩ rfl (by first | decide | exact kd_bal (by assumption) | exact kd_let (by assumption) | assumption) ?_
    refine WE.iconst (n := 74) (nI 1) dX6_flies_73 rfl (by decide) ?_
    refine WE.iald (n := 75) 1 dX6_flies_74 rfl (by first | decide | assumption) rfl (by show _ < 184; omega) ?_
    refine WE.icmp_gt (n := 78) (tgt := 82) dX6_flies_75 rfl (by decide) (fun h75 => ?_) (fun h75 => ?_)
    · skip
      refine WE.iconst (n := 83) (nI 2) dX6_flies_82 rfl (by decide) ?_
      refine WE.V2V (M' := mX6_isDown) (n := 86) dX6_flies_83 rfl cv_X6_137 (by first | decide | exact kd_bal (by assumption) | exact kd_let (by assumption) | assumption) ⟨⟨by decide, by decide⟩, by decide, by decide⟩ (Nat.le_of_ble_eq_true rfl) (m_isDown _ _ j hj _ nl hnl (by simp (disch := omega) only [fl1, fl2, upN_ne, setN_at, hc4])) ?_
      refine WE.vret dX6_flies_86 rfl ⟨by decide, by decide⟩ ?_
      refine RV.mk ?_
      simp only [setN_at] at h75
      simp only [flN, h59, h75, setN_setN, setN_at, ↓reduceIte]
    · skip
      refine WE.iconst (n := 79) (nI 3) dX6_flies_78 rfl (by decide) ?_
      refine WE.goto (tgt := 83) dX6_flies_79 (by decide) ?_
      refine WE.V2V (M' := mX6_isDown) (n := 86) dX6_flies_83 rfl cv_X6_137 (by first | decide | exact kd_bal (by assumption) | exact kd_let (by assumption) | assumption) ⟨⟨by decide, by decide⟩, by decide, by decide⟩ (Nat.le_of_ble_eq_true rfl) (m_isDown _ _ j hj _ nl hnl (by simp (disch := omega) only [fl1, fl2, upN_ne, setN_at, hc4])) ?_
      refine WE.vret dX6_flies_86 rfl ⟨by decide, by decide⟩ ?_
      refine RV.mk ?_
      simp only [setN_at] at h75
      simp only [flN, h59, h75, setN_setN, setN_at, ↓reduceIte]
