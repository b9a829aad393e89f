set_option maxRecDepth 20000 in
set_option maxHeartbeats 1000000 in
theorem m_goes (c : CC) (od : Int64 × UInt64) (nb : Nat) (hnb : nb ≤ 6) (hc3 : c 396 3 = nI nb) (nl : Nat) (hnl : nl ≤ 24) (hc4 : c 396 4 = nI nl) : CM mX6_goes [.ref 395] (c, od) (RI (goN (c 396) nb nl).2 (setN c (goN (c 396) nb nl).1, od)) := by
  refine CM.of [(0, .ref 395)] rfl (by decide +kernel) rfl (Nat.le_of_ble_eq_true rfl) ?_
  refine WE.iconst (n := 1) (nI 0) dX6_goes_0 rfl (by decide) ?_
  refine WE.istore_n (n := 2) dX6_goes_1 rfl (by decide) ?_
  refine WE.iconst (n := 3) (nI 0) dX6_goes_2 rfl (by decide) ?_
  refine WE.istore_n (n := 4) dX6_goes_3 rfl (by decide) ?_
  suffices H : ∀ n i : Nat, i ≤ nb → nb < i + n → WE mX6_goes 4 [(0, .ref 395), (1, .int ((goL (c 396) nl i).2)), (2, .int (nI i))] [] (setN c (goL (c 396) nl i).1, od) 0 0 (GQ mX6_goes (RI (goN (c 396) nb nl).2 (setN c (goN (c 396) nb nl).1, od))) from WE.ofS (σ' := (setN c (goL (c 396) nl 0).1, od)) (by rw [show (goL (c 396) nl 0).1 = c 396 from rfl, setN_self]) (WE.ofA (L' := [(0, .ref 395), (1, .int ((goL (c 396) nl 0).2)), (2, .int (nI 0))]) ⟨rfl, rfl, rfl, trivial⟩ (H (nb + 1) 0 (Nat.zero_le _) (by omega)))
  intro n
  induction n with
  | zero =>
    intro i h1 h2
    exact absurd h2 (by omega)
  | succ n ih =>
    intro i hi hn
    refine WE.iload_n (n := 5) dX6_goes_4 rfl rfl ?_
    refine WE.aload_n (n := 6) dX6_goes_5 rfl rfl ?_
    refine WE.getR (n := 9) dX6_goes_6 rfl fl_X6_9 ⟨by decide, by decide⟩ rfl (by first | decide | exact kd_bal (by assumption) | exact kd_let (by assumption) | assumption) ?_
    refine WE.iconst (n := 10) (nI 3) dX6_goes_9 rfl (by decide) ?_
    refine WE.iald (n := 11) 3 dX6_goes_10 rfl (by first | decide | assumption) rfl (by show _ < 184; omega) ?_
    refine WE.icmp_ge (n := 14) (tgt := 51) dX6_goes_11 rfl (by decide) (fun h11 => ?_) (fun h11 => ?_)
    · skip
      have h11 : nI nb ≤ nI i := by simpa only [setN_at, goL_lo _ _ (show 3 < 22 by decide) (by decide) (by decide) (by decide), hc3] using h11
      have hx : i = nb := by have := ge_t (by omega) (by omega) h11; omega
      subst hx
      clear hi hn
      refine WE.aload_n (n := 52) dX6_goes_51 rfl rfl ?_
      refine WE.getR (n := 55) dX6_goes_52 rfl fl_X6_9 ⟨by decide, by decide⟩ rfl (by first | decide | exact kd_bal (by assumption) | exact kd_let (by assumption) | assumption) ?_
      refine WE.iconst (n := 56) (nI 0) dX6_goes_55 rfl (by decide) ?_
      refine WE.dup2 (n := 57) dX6_goes_56 rfl rfl rfl ?_
      refine WE.iald (n := 58) 0 dX6_goes_57 rfl (by first | decide | assumption) rfl (by show _ < 184; omega) ?_
      refine WE.iconst (n := 59) (nI 1) dX6_goes_58 rfl (by decide) ?_
      refine WE.iadd (n := 60) dX6_goes_59 rfl ?_
      refine WE.iast (n := 61) 0 dX6_goes_60 rfl (by first | decide | assumption) rfl (by show _ < 184; omega) ?_
      refine WE.iload_n (n := 62) dX6_goes_61 rfl rfl ?_
      refine WE.iret (ty := .int) dX6_goes_62 rfl rfl ⟨by decide, by decide⟩ ?_
      exact RI.mk rfl (by simp only [goN, u2_now, setN_at, setN_setN])
    · skip
      have h11 : ¬ nI nb ≤ nI i := by simpa only [setN_at, goL_lo _ _ (show 3 < 22 by decide) (by decide) (by decide) (by decide), hc3] using h11
      have hlt : i < nb := ge_f (by omega) (by omega) h11
      refine WE.aload_n (n := 15) dX6_goes_14 rfl rfl ?_
      refine WE.iload_n (n := 16) dX6_goes_15 rfl rfl ?_
      refine WE.iconst (n := 17) (nI 5) dX6_goes_16 rfl (by decide) ?_
      refine WE.V2I (M' := mX6_of) (n := 20) dX6_goes_17 rfl cv_X6_71 (by first | decide | exact kd_bal (by assumption) | exact kd_let (by assumption) | assumption) ⟨⟨by decide, by decide⟩, by decide, by decide⟩ (Nat.le_of_ble_eq_true rfl) (m_of _ _ i 5 (by omega)) ?_
      refine WE.iconst (n := 21) (nI 1) dX6_goes_20 rfl (by decide) ?_
      refine WE.icmp_eq (n := 24) (tgt := 27) dX6_goes_21 rfl (by decide) (fun h21 => ?_) (fun h21 => ?_)
      · skip
        refine WE.aload_n (n := 28) dX6_goes_27 rfl rfl ?_
        refine WE.iload_n (n := 29) dX6_goes_28 rfl rfl ?_
        refine WE.V1V (M' := mX6_flies) (n := 32) dX6_goes_29 rfl cv_X6_141 (by first | decide | exact kd_bal (by assumption) | exact kd_let (by assumption) | assumption) ⟨⟨by decide, by decide⟩, by decide, by decide⟩ (Nat.le_of_ble_eq_true rfl) (m_flies _ _ i (by omega) nl hnl (by rw [setN_at, goL_lo _ _ (by decide) (by decide) (by decide) (by decide)]; exact hc4)) ?_
        refine WE.aload_n (n := 33) dX6_goes_32 rfl rfl ?_
        refine WE.iload_n (n := 34) dX6_goes_33 rfl rfl ?_
        refine WE.iconst (n := 35) (nI 5) dX6_goes_34 rfl (by decide) ?_
        refine WE.V2I (M' := mX6_of) (n := 38) dX6_goes_35 rfl cv_X6_71 (by first | decide | exact kd_bal (by assumption) | exact kd_let (by assumption) | assumption) ⟨⟨by decide, by decide⟩, by decide, by decide⟩ (Nat.le_of_ble_eq_true rfl) (m_of _ _ i 5 (by omega)) ?_
        refine WE.iconst (n := 39) (nI 2) dX6_goes_38 rfl (by decide) ?_
        refine WE.icmp_ne (n := 42) (tgt := 45) dX6_goes_39 rfl (by decide) (fun h39 => ?_) (fun h39 => ?_)
        · skip
          refine WE.iincV (n := 48) (nI (i + 1)) dX6_goes_45 rfl rfl (by decide) (nI_inc i) ?_
          refine WE.goto (tgt := 4) dX6_goes_48 (by decide) ?_
          simp only [setN_at, setN_setN] at h21 h39
          refine WE.ofS (σ' := (setN c (goL (c 396) nl (i + 1)).1, od)) (by simp only [goL, h21, h39, setN_at, setN_setN, ↓reduceIte]) (WE.ofA (L' := [(0, .ref 395), (1, .int ((goL (c 396) nl (i + 1)).2)), (2, .int (nI (i + 1)))]) ⟨rfl, (by simp only [lkL, stL, Nat.beq, goL, h21, h39, ↓reduceIte, cond_false, cond_true]; rfl), rfl, trivial⟩ (ih (i + 1) (by omega) (by omega)))
        · skip
          refine WE.iinc (n := 45) dX6_goes_42 rfl rfl (by decide) ?_
          refine WE.iincV (n := 48) (nI (i + 1)) dX6_goes_45 rfl rfl (by decide) (nI_inc i) ?_
          refine WE.goto (tgt := 4) dX6_goes_48 (by decide) ?_
          simp only [setN_at, setN_setN] at h21 h39
          refine WE.ofS (σ' := (setN c (goL (c 396) nl (i + 1)).1, od)) (by simp only [goL, h21, h39, setN_at, setN_setN, ↓reduceIte]) (WE.ofA (L' := [(0, .ref 395), (1, .int ((goL (c 396) nl (i + 1)).2)), (2, .int (nI (i + 1)))]) ⟨rfl, (by simp only [lkL, stL, Nat.beq, goL, h21, h39, ↓reduceIte, cond_false, cond_true]; rfl), rfl, trivial⟩ (ih (i + 1) (by omega) (by omega)))
      · skip
        refine WE.goto (tgt := 45) dX6_goes_24 (by decide) ?_
        refine WE.iincV (n := 48) (nI (i + 1)) dX6_goes_45 rfl rfl (by decide) (nI_inc i) ?_
        refine WE.goto (tgt := 4) dX6_goes_48 (by decide) ?_
        simp only [setN_at, setN_setN] at h21
        refine WE.ofS (σ' := (setN c (goL (c 396) nl (i + 1)).1, od)) (by simp only [goL, h21, setN_at, setN_setN, ↓reduceIte]) (WE.ofA (L' := [(0, .ref 395), (1, .int ((goL (c 396) nl (i + 1)).2)), (2, .int (nI (i + 1)))]) ⟨rfl, (by simp only [lkL, stL, Nat.beq, goL, h21, ↓reduceIte, cond_false, cond_true]; rfl), rfl, trivial⟩ (ih (i + 1) (by omega) (by omega)))
theorem in1_of {a m : Nat} {x : Int32} (ha : a < 2 ^ 30) (hm : m < 2 ^ 30) (h : nI a ≤ x ∧ x ≤ nI m) : ∃ j : Nat, a ≤ j ∧ j ≤ m ∧ x = nI j := by
  have h0 : nI 0 ≤ x := by
    have := h.1
    rw [Int32.le_iff_toInt_le, nI_toInt (by omega)] at this ⊢
    omega
  obtain ⟨j, hj, rfl⟩ := in_of hm ⟨h0, h.2⟩
  exact ⟨j, (nI_leI (by omega) (by omega)).mp h.1, hj, rfl⟩
theorem goN_lo (N : NA) (nb nl : Nat) {k : Nat} (h : k < 22) (h0 : k ≠ 0) (h7 : k ≠ 7) (h8 : k ≠ 8) (h9 : k ≠ 9) : (goN N nb nl).1 k = N k := by
  show upN _ 0 _ k = N k
  rw [upN_ne _ _ _ h0, goL_lo _ _ h h7 h8 h9]
set_option maxRecDepth 20000 in
set_option maxHeartbeats 1000000 in
theorem m_passes (c : CC) (od : Int64 × UInt64) (nb : Nat) (hnb : nb ≤ 6) (hc3 : c 396 3 = nI nb) (nl : Nat) (hnl : nl ≤ 24) (hc4 : c 396 4 = nI nl) (h : Int32) : CM mX6_passes [.ref 395, .int h] (c, od) (RI (mcode (S_passes (c 396) h)) (mS c (S_passes (c 396) h), od)) := by
  refine CM.of [(0, .ref 395), (1, .int h)] rfl (by decide +kernel) rfl (Nat.le_of_ble_eq_true rfl) ?_
  have hnlN : nlN (c 396) = nl := by unfold nlN; rw [hc4]; exact nI_clamp (by omega)
  have hc3N : (c 396 3).toNatClampNeg = nb := by rw [hc3]; exact nI_clamp (by omega)
  refine WE.iload_n (n := 1) dX6_passes_0 rfl rfl ?_
  refine WE.iconst (n := 2) (nI 1) dX6_passes_1 rfl (by decide) ?_
  refine WE.bipush (n := 4) (nI 48) dX6_passes_2 rfl (by decide) ?_
  refine WE.S3I (M' := mX6_in) (n := 7) dX6_passes_4 rfl cv_X6_58  ⟨⟨by decide, by decide⟩, by decide, by decide⟩ (Nat.le_of_ble_eq_true rfl) (m_in _ _ _ _) ?_
  refine WE.if_neB (n := 10) (tgt := 12) dX6_passes_7 rfl (by decide) (fun h7 => ?_) (fun h7 => ?_)
  · skip
    obtain ⟨m, hm1, hm, rfl⟩ := in1_of (by decide) (by decide) h7
    have hcm : (nI m).toNatClampNeg = m := nI_clamp (by omega)
    refine WE.iconst (n := 13) (nI 0) dX6_passes_12 rfl (by decide) ?_
    refine WE.istore_n (n := 14) dX6_passes_13 rfl (by decide) ?_
    refine WE.iconst (n := 15) (nI 0) dX6_passes_14 rfl (by decide) ?_
    refine WE.istore_n (n := 16) dX6_passes_15 rfl (by decide) ?_
    suffices H : ∀ n i : Nat, i ≤ m → m < i + n → WE mX6_passes 16 [(0, .ref 395), (1, .int (nI m)), (2, .int ((psL (c 396) nb nl i).2)), (3, .int (nI i))] [] (setN c (psL (c 396) nb nl i).1, od) 0 0 (GQ mX6_passes (RI (mcode (S_passes (c 396) (nI m))) (mS c (S_passes (c 396) (nI m)), od))) from WE.ofS (σ' := (setN c (psL (c 396) nb nl 0).1, od)) (by rw [show (psL (c 396) nb nl 0).1 = c 396 from rfl, setN_self]) (WE.ofA (L' := [(0, .ref 395), (1, .int (nI m)), (2, .int ((psL (c 396) nb nl 0).2)), (3, .int (nI 0))]) ⟨rfl, rfl, rfl, rfl, trivial⟩ (H (m + 1) 0 (Nat.zero_le _) (by omega)))
    intro n
    induction n with
    | zero =>
      intro i h1 h2
      exact absurd h2 (by omega)
    | succ n ih =>
      intro i hi hn
      refine WE.iload_n (n := 17) dX6_passes_16 rfl rfl ?_
      refine WE.iload_n (n := 18) dX6_passes_17 rfl rfl ?_
      refine WE.icmp_ge (n := 21) (tgt := 34) dX6_passes_18 rfl (by decide) (fun h18 => ?_) (fun h18 => ?_)
      · skip
        have hx : i = m := by have := ge_t (by omega) (by omega) h18; omega
        subst hx
        clear hi hn
        refine WE.aload_n (n := 35) dX6_passes_34 rfl rfl ?_
        refine WE.iload_n (n := 36) dX6_passes_35 rfl rfl ?_
        refine WE.V1I (M' := mX6_does) (n := 39) dX6_passes_36 rfl cv_X6_86 (by first | decide | exact kd_bal (by assumption) | exact kd_let (by assumption) | assumption) ⟨⟨by decide, by decide⟩, by decide, by decide⟩ (Nat.le_of_ble_eq_true rfl) (m_does _ _ _) ?_
        refine WE.iret (ty := .int) dX6_passes_39 rfl rfl ⟨by decide, by decide⟩ ?_
        simp only [S_passes, h7, hcm, hnlN, hc3N, and_self, ↓reduceIte]
        exact RI.mk rfl (by simp only [mS, u2_setN5])
      · skip
        have hlt : i < m := ge_f (by omega) (by omega) h18
        refine WE.iload_n (n := 22) dX6_passes_21 rfl rfl ?_
        refine WE.aload_n (n := 23) dX6_passes_22 rfl rfl ?_
        refine WE.V0I (M' := mX6_goes) (n := 26) dX6_passes_23 rfl cv_X6_145 (by first | decide | exact kd_bal (by assumption) | exact kd_let (by assumption) | assumption) ⟨⟨by decide, by decide⟩, by decide, by decide⟩ (Nat.le_of_ble_eq_true rfl) (m_goes _ _ nb hnb (by rw [setN_at, psL_lo _ _ _ (by decide) (by decide) (by decide) (by decide) (by decide)]; exact hc3) nl hnl (by rw [setN_at, psL_lo _ _ _ (by decide) (by decide) (by decide) (by decide) (by decide)]; exact hc4)) ?_
        refine WE.iadd (n := 27) dX6_passes_26 rfl ?_
        refine WE.istore_n (n := 28) dX6_passes_27 rfl (by decide) ?_
        refine WE.iincV (n := 31) (nI (i + 1)) dX6_passes_28 rfl rfl (by decide) (nI_inc i) ?_
        refine WE.goto (tgt := 16) dX6_passes_31 (by decide) ?_
        refine WE.ofS (σ' := (setN c (psL (c 396) nb nl (i + 1)).1, od)) (by simp only [psL, setN_at, setN_setN]) (WE.ofA (L' := [(0, .ref 395), (1, .int (nI m)), (2, .int ((psL (c 396) nb nl (i + 1)).2)), (3, .int (nI (i + 1)))]) ⟨rfl, rfl, (by simp only [lkL, stL, Nat.beq, psL, cond_false, cond_true, setN_at]; rfl), rfl, trivial⟩ (ih (i + 1) (by omega) (by omega)))
  · skip
    refine WE.iconst (n := 11) ((-1 : Int32)) dX6_passes_10 rfl (by decide) ?_
    refine WE.iret (ty := .int) dX6_passes_11 rfl rfl ⟨by decide, by decide⟩ ?_
    simp only [S_passes, h7, ↓reduceIte]
    exact RI.mk rfl rfl
def shK (n : Nat) (K : NA) : NA := fun k => if k < n then K (184 + k) else K k
def puK (u n : Nat) (T K : NA) : NA := fun k => if 184 * u ≤ k ∧ k < 184 * u + n then T (k - 184 * u) else K k
theorem upN_sh (K : NA) (i : Nat) : upN (shK i K) i (K (184 + i)) = shK (i + 1) K := by
  funext k
  unfold upN shK
  by_cases h : k = i
  · subst h
    simp
  · by_cases h2 : k < i
    · simp [h, h2, Nat.lt_succ_of_lt h2]
    · simp [h, h2, show ¬ k < i + 1 by omega]
theorem shK_at (K : NA) (i : Nat) : shK i K (184 + i) = K (184 + i) := if_neg (by omega)
theorem upN_pu (T K : NA) (u i : Nat) : upN (puK u i T K) (184 * u + i) (T i) = puK u (i + 1) T K := by
  funext k
  unfold upN puK
  by_cases h : k = 184 * u + i
  · subst h
    rw [if_pos rfl, if_pos (by omega), show 184 * u + i - 184 * u = i by omega]
  · rw [if_neg h]
    by_cases h2 : 184 * u ≤ k ∧ k < 184 * u + i
    · rw [if_pos h2, if_pos (by omega)]
    · rw [if_neg h2, if_neg (by omega)]
theorem setR_sh0 (c : CC) : setR c 399 (shK 0 (c 399)) = c := by
  funext i j
  unfold setR shK
  split
  · rename_i h
    rw [h]
    simp
  · rfl
theorem setR_pu0 (c : CC) (u : Nat) (T : NA) : setR c 399 (puK u 0 T (c 399)) = c := by
  funext i j
  unfold setR puK
  split
  · rename_i h
    rw [h, if_neg (by omega)]
  · rfl
theorem setR_setR (c : CC) (a : Nat) (N N2 : NA) : setR (setR c a N) a N2 = setR c a N2 := by
  funext i j
  unfold setR
  split <;> simp_all
set_option maxRecDepth 20000 in
set_option maxHeartbeats 1000000 in
theorem m_keeps_loop1 {G : GT} (c : CC) (od : Int64 × UInt64) (x : Int32) (k : WE mX6_keeps 40 [(0, .ref 395), (1, .int x)] [] (setR c 399 (shK 1288 (c 399)), od) 0 0 G) : WE mX6_keeps 11 [(0, .ref 395), (1, .int x), (2, .int (nI 0))] [] (c, od) 0 0 G := by
  suffices H : ∀ n i : Nat, i ≤ 1288 → 1288 < i + n → WE mX6_keeps 11 [(0, .ref 395), (1, .int x), (2, .int (nI i))] [] (setR c 399 (shK i (c 399)), od) 0 0 G from WE.ofS (σ' := (setR c 399 (shK 0 (c 399)), od)) (by rw [setR_sh0]) (WE.ofA (L' := [(0, .ref 395), (1, .int x), (2, .int (nI 0))]) ⟨rfl, rfl, rfl, trivial⟩ (H (1288 + 1) 0 (Nat.zero_le _) (by omega)))
  intro n
  induction n with
  | zero =>
    intro i h1 h2
    exact absurd h2 (by omega)
  | succ n ih =>
    intro i hi hn
    refine WE.iload_n (n := 12) dX6_keeps_11 rfl rfl ?_
    refine WE.sipush (n := 15) (nI 1288) dX6_keeps_12 rfl (by decide) ?_
    refine WE.icmp_ge (n := 18) (tgt := 40) dX6_keeps_15 rfl (by decide) (fun h15 => ?_) (fun h15 => ?_)
    · skip
      have hx : i = 1288 := by have := ge_t (by omega) (by omega) h15; omega
      subst hx
      exact WE.ofL (fun q h => by simp at h; rcases h with rfl | rfl <;> simp) k
    · skip
      have hlt : i < 1288 := ge_f (by omega) (by omega) h15
      refine WE.aload_n (n := 19) dX6_keeps_18 rfl rfl ?_
      refine WE.getR (n := 22) dX6_keeps_19 rfl fl_X6_19 ⟨by decide, by decide⟩ rfl (by first | decide | exact kd_bal (by assumption) | exact kd_let (by assumption) | assumption) ?_
      refine WE.iload_n (n := 23) dX6_keeps_22 rfl rfl ?_
      refine WE.aload_n (n := 24) dX6_keeps_23 rfl rfl ?_
      refine WE.getR (n := 27) dX6_keeps_24 rfl fl_X6_19 ⟨by decide, by decide⟩ rfl (by first | decide | exact kd_bal (by assumption) | exact kd_let (by assumption) | assumption) ?_
      refine WE.sipush (n := 30) (nI 184) dX6_keeps_27 rfl (by decide) ?_
      refine WE.iload_n (n := 31) dX6_keeps_30 rfl rfl ?_
      refine WE.iadd (n := 32) dX6_keeps_31 rfl ?_
      refine WE.iald (n := 33) (184 + i) dX6_keeps_32 rfl (by first | decide | assumption) (by first | rfl | simp only [pk_mul, nI_add]) (by show _ < 1472; omega) ?_
      refine WE.iast (n := 34) (i) dX6_keeps_33 rfl (by first | decide | assumption) (by first | rfl | simp only [pk_mul, nI_add]) (by show _ < 1472; omega) ?_
      refine WE.iincV (n := 37) (nI (i + 1)) dX6_keeps_34 rfl rfl (by decide) (nI_inc i) ?_
      refine WE.goto (tgt := 11) dX6_keeps_37 (by decide) ?_
      refine WE.ofS (σ' := (setR c 399 (shK (i + 1) (c 399)), od)) ?_ (WE.ofA (L' := [(0, .ref 395), (1, .int x), (2, .int (nI (i + 1)))]) ⟨rfl, rfl, rfl, trivial⟩ (ih (i + 1) (by omega) (by omega)))
      rw [setR_at, shK_at, u2_setR, upN_sh]
set_option maxRecDepth 20000 in
set_option maxHeartbeats 1000000 in
theorem m_keeps_loop2 {G : GT} (c : CC) (od : Int64 × UInt64) (x : Int32) (u : Nat) (hu : u < 8) (hcu : c 395 4 = nI u) (k : WE mX6_keeps 86 [(0, .ref 395), (1, .int x)] [] (setR c 399 (puK u 184 (c 397) (c 399)), od) 0 0 G) : WE mX6_keeps 52 [(0, .ref 395), (1, .int x), (2, .int (nI 0))] [] (c, od) 0 0 G := by
  suffices H : ∀ n i : Nat, i ≤ 184 → 184 < i + n → WE mX6_keeps 52 [(0, .ref 395), (1, .int x), (2, .int (nI i))] [] (setR c 399 (puK u i (c 397) (c 399)), od) 0 0 G from WE.ofS (σ' := (setR c 399 (puK u 0 (c 397) (c 399)), od)) (by rw [setR_pu0]) (WE.ofA (L' := [(0, .ref 395), (1, .int x), (2, .int (nI 0))]) ⟨rfl, rfl, rfl, trivial⟩ (H (184 + 1) 0 (Nat.zero_le _) (by omega)))
  intro n
  induction n with
  | zero =>
    intro i h1 h2
    exact absurd h2 (by omega)
  | succ n ih =>
    intro i hi hn
    refine WE.iload_n (n := 53) dX6_keeps_52 rfl rfl ?_
    refine WE.sipush (n := 56) (nI 184) dX6_keeps_53 rfl (by decide) ?_
    refine WE.icmp_ge (n := 59) (tgt := 86) dX6_keeps_56 rfl (by decide) (fun h56 => ?_) (fun h56 => ?_)
    · skip
      have hx : i = 184 := by have := ge_t (by omega) (by omega) h56; omega
      subst hx
      exact WE.ofL (fun q h => by simp at h; rcases h with rfl | rfl <;> simp) k
    · skip
      have hlt : i < 184 := ge_f (by omega) (by omega) h56
      refine WE.aload_n (n := 60) dX6_keeps_59 rfl rfl ?_
      refine WE.getR (n := 63) dX6_keeps_60 rfl fl_X6_19 ⟨by decide, by decide⟩ rfl (by first | decide | exact kd_bal (by assumption) | exact kd_let (by assumption) | assumption) ?_
      refine WE.sipush (n := 66) (nI 184) dX6_keeps_63 rfl (by decide) ?_
      refine WE.aload_n (n := 67) dX6_keeps_66 rfl rfl ?_
      refine WE.getI (n := 70) dX6_keeps_67 rfl fl_X6_39 ⟨by decide, by decide, rfl⟩ (by first | decide | exact kd_bal (by assumption) | exact kd_let (by assumption) | assumption) ?_
      refine WE.imul (n := 71) dX6_keeps_70 rfl ?_
      refine WE.iload_n (n := 72) dX6_keeps_71 rfl rfl ?_
      refine WE.iadd (n := 73) dX6_keeps_72 rfl ?_
      refine WE.aload_n (n := 74) dX6_keeps_73 rfl rfl ?_
      refine WE.getR (n := 77) dX6_keeps_74 rfl fl_X6_13 ⟨by decide, by decide⟩ rfl (by first | decide | exact kd_bal (by assumption) | exact kd_let (by assumption) | assumption) ?_
      refine WE.iload_n (n := 78) dX6_keeps_77 rfl rfl ?_
      refine WE.iald (n := 79) (i) dX6_keeps_78 rfl (by first | decide | assumption) (by first | rfl | simp only [pk_mul, nI_add]) (by show _ < 184; omega) ?_
      refine WE.iast (n := 80) (184 * u + i) dX6_keeps_79 rfl (by first | decide | assumption) (by rw [setR_o _ _ (by decide), hcu]; simp only [pk_mul, nI_add]) (by show _ < 1472; omega) ?_
      refine WE.iincV (n := 83) (nI (i + 1)) dX6_keeps_80 rfl rfl (by decide) (nI_inc i) ?_
      refine WE.goto (tgt := 52) dX6_keeps_83 (by decide) ?_
      refine WE.ofS (σ' := (setR c 399 (puK u (i + 1) (c 397) (c 399)), od)) ?_ (WE.ofA (L' := [(0, .ref 395), (1, .int x), (2, .int (nI (i + 1)))]) ⟨rfl, rfl, rfl, trivial⟩ (ih (i + 1) (by omega) (by omega)))
      rw [setR_o _ _ (by decide), u2_setR, upN_pu]
/-- the change is kept: what was tried goes behind the kept ones -/
def S_keeps (c : CC) : CC := if c 395 4 = nI 8 then u2 (setR c 399 (puK 7 184 (c 397) (shK 1288 (c 399)))) 395 4 (nI 8) else u2 (setR c 399 (puK (c 395 4).toNatClampNeg 184 (c 397) (c 399))) 395 4 (c 395 4 + nI 1)
set_option maxRecDepth 20000 in
set_option maxHeartbeats 1000000 in
theorem m_keeps (c : CC) (od : Int64 × UInt64) (x : Int32) (u : Nat) (hu : u ≤ 8) (hcu : c 395 4 = nI u) : CM mX6_keeps [.ref 395, .int x] (c, od) (RI x (S_keeps c, od)) := by
  refine CM.of [(0, .ref 395), (1, .int x)] rfl (by decide +kernel) rfl (Nat.le_of_ble_eq_true rfl) ?_
  refine WE.aload_n (n := 1) dX6_keeps_0 rfl rfl ?_
  refine WE.getI (n := 4) dX6_keeps_1 rfl fl_X6_39 ⟨by decide, by decide, rfl⟩ (by first | decide | exact kd_bal (by assumption) | exact kd_let (by assumption) | assumption) ?_
  refine WE.bipush (n := 6) (nI 8) dX6_keeps_4 rfl (by decide) ?_
  refine WE.icmp_ne (n := 9) (tgt := 50) dX6_keeps_6 rfl (by decide) (fun h6 => ?_) (fun h6 => ?_)
  · skip
    have hu8 : u < 8 := by
      have : u ≠ 8 := fun q => h6 (by rw [hcu, q])
      omega
    have hcl : (c 395 4).toNatClampNeg = u := by rw [hcu]; exact nI_clamp (by omega)
    refine WE.iconst (n := 51) (nI 0) dX6_keeps_50 rfl (by decide) ?_
    refine WE.istore_n (n := 52) dX6_keeps_51 rfl (by decide) ?_
    refine WE.ofA (L' := [(0, .ref 395), (1, .int x), (2, .int (nI 0))]) ⟨rfl, rfl, rfl, trivial⟩ (m_keeps_loop2 _ od x u hu8 hcu ?_)
    refine WE.aload_n (n := 87) dX6_keeps_86 rfl rfl ?_
    refine WE.dup (n := 88) dX6_keeps_87 rfl rfl ?_
    refine WE.getI (n := 91) dX6_keeps_88 rfl fl_X6_39 ⟨by decide, by decide, rfl⟩ (by first | decide | exact kd_bal (by assumption) | exact kd_let (by assumption) | assumption) ?_
    refine WE.iconst (n := 92) (nI 1) dX6_keeps_91 rfl (by decide) ?_
    refine WE.iadd (n := 93) dX6_keeps_92 rfl ?_
    refine WE.putI (n := 96) dX6_keeps_93 rfl fl_X6_39 ⟨by decide, by decide, rfl, rfl⟩ ⟨by first | rfl | decide, by first | rfl | decide⟩ (by first | decide | exact kd_bal (by assumption) | exact kd_let (by assumption) | assumption) ?_
    refine WE.iload_n (n := 97) dX6_keeps_96 rfl rfl ?_
    refine WE.iret (ty := .int) dX6_keeps_97 rfl rfl ⟨by decide, by decide⟩ ?_
    refine RI.mk rfl ?_
    simp only [S_keeps, h6, ↓reduceIte, hcl]
    refine congrArg (fun z => (z, od)) ?_
    rw [setR_o _ _ (by decide)]
  · skip
    refine WE.iconst (n := 10) (nI 0) dX6_keeps_9 rfl (by decide) ?_
    refine WE.istore_n (n := 11) dX6_keeps_10 rfl (by decide) ?_
    refine WE.ofA (L' := [(0, .ref 395), (1, .int x), (2, .int (nI 0))]) ⟨rfl, rfl, rfl, trivial⟩ (m_keeps_loop1 _ od x ?_)
    refine WE.aload_n (n := 41) dX6_keeps_40 rfl rfl ?_
    refine WE.dup (n := 42) dX6_keeps_41 rfl rfl ?_
    refine WE.getI (n := 45) dX6_keeps_42 rfl fl_X6_39 ⟨by decide, by decide, rfl⟩ (by first | decide | exact kd_bal (by assumption) | exact kd_let (by assumption) | assumption) ?_
    refine WE.iconst (n := 46) (nI 1) dX6_keeps_45 rfl (by decide) ?_
    refine WE.isub (n := 47) dX6_keeps_46 rfl ?_
    refine WE.putI (n := 50) dX6_keeps_47 rfl fl_X6_39 ⟨by decide, by decide, rfl, rfl⟩ ⟨by first | rfl | decide, by first | rfl | decide⟩ (by first | decide | exact kd_bal (by assumption) | exact kd_let (by assumption) | assumption) ?_
    refine WE.iconst (n := 51) (nI 0) dX6_keeps_50 rfl (by decide) ?_
    refine WE.istore_n (n := 52) dX6_keeps_51 rfl (by decide) ?_
    refine WE.ofA (L' := [(0, .ref 395), (1, .int x), (2, .int (nI 0))]) ⟨rfl, rfl, rfl, trivial⟩ (m_keeps_loop2 _ od x 7 (by decide) (by rw [u2_eq, setR_o _ _ (by decide), h6]; rfl) ?_)
    refine WE.aload_n (n := 87) dX6_keeps_86 rfl rfl ?_
    refine WE.dup (n := 88) dX6_keeps_87 rfl rfl ?_
    refine WE.getI (n := 91) dX6_keeps_88 rfl fl_X6_39 ⟨by decide, by decide, rfl⟩ (by first | decide | exact kd_bal (by assumption) | exact kd_let (by assumption) | assumption) ?_
    refine WE.iconst (n := 92) (nI 1) dX6_keeps_91 rfl (by decide) ?_
    refine WE.iadd (n := 93) dX6_keeps_92 rfl ?_
    refine WE.putI (n := 96) dX6_keeps_93 rfl fl_X6_39 ⟨by decide, by decide, rfl, rfl⟩ ⟨by first | rfl | decide, by first | rfl | decide⟩ (by first | decide | exact kd_bal (by assumption) | exact kd_let (by assumption) | assumption) ?_
    refine WE.iload_n (n := 97) dX6_keeps_96 rfl rfl ?_
    refine WE.iret (ty := .int) dX6_keeps_97 rfl rfl ⟨by decide, by decide⟩ ?_
    refine RI.mk rfl ?_
    simp only [S_keeps, h6, ↓reduceIte]
    refine congrArg (fun z => (z, od)) ?_
    funext i j
    by_cases e1 : i = 395
    · subst e1
      by_cases e2 : j = 4
      · subst e2
        simp [u2, setR, h6]
        try decide
      · simp [u2, setR, e2]
    · by_cases e3 : i = 399
      · subst e3
        simp only [u2_o _ _ _ (show (397 : Nat) ≠ 395 by decide), u2_o _ _ _ (show (399 : Nat) ≠ 395 by decide), setR_at, setR_o _ _ (show (397 : Nat) ≠ 399 by decide)]
        try simp [u2, setR]
      · simp [u2, setR, e1, e3]
/-- how a method of the reference ends: what its helper came to, r its answer, n the number of its refusals -/
def S_out (c : CC) (is n : Int32) : Int32 × CC := if is = 0 then (c 395 15, S_keeps c) else (nI 0, u2 c 395 16 (if 0 ≤ is then n else -is))
set_option maxRecDepth 20000 in
set_option maxHeartbeats 1000000 in
theorem m_outcome (c : CC) (od : Int64 × UInt64) (is n : Int32) (u : Nat) (hu : u ≤ 8) (hcu : c 395 4 = nI u) : CM mX6_outcome [.ref 395, .int is, .int n] (c, od) (RI (S_out c is n).1 ((S_out c is n).2, od)) := by
  refine CM.of [(0, .ref 395), (1, .int is), (2, .int n)] rfl (by decide +kernel) rfl (Nat.le_of_ble_eq_true rfl) ?_
  refine WE.iload_n (n := 1) dX6_outcome_0 rfl rfl ?_
  refine WE.if_ne (n := 4) (tgt := 15) dX6_outcome_1 rfl (by decide) (fun h1 => ?_) (fun h1 => ?_)
  · skip
    refine WE.aload_n (n := 16) dX6_outcome_15 rfl rfl ?_
    refine WE.iload_n (n := 17) dX6_outcome_16 rfl rfl ?_
    refine WE.if_ge (n := 20) (tgt := 25) dX6_outcome_17 rfl (by decide) (fun h17 => ?_) (fun h17 => ?_)
    · skip
      refine WE.iload_n (n := 26) dX6_outcome_25 rfl rfl ?_
      refine WE.V1I (M' := mX6_raises) (n := 29) dX6_outcome_26 rfl cv_X6_55 (by first | decide | exact kd_bal (by assumption) | exact kd_let (by assumption) | assumption) ⟨⟨by decide, by decide⟩, by decide, by decide⟩ (Nat.le_of_ble_eq_true rfl) (m_raises _ _ _) ?_
      refine WE.iret (ty := .int) dX6_outcome_29 rfl rfl ⟨by decide, by decide⟩ ?_
      exact RI.mk (by simp only [S_out, h1, h17, ↓reduceIte]) (by simp only [S_out, h1, h17, ↓reduceIte])
    · skip
      refine WE.iload_n (n := 21) dX6_outcome_20 rfl rfl ?_
      refine WE.ineg (n := 22) dX6_outcome_21 rfl ?_
      refine WE.goto (tgt := 26) dX6_outcome_22 (by decide) ?_
      refine WE.V1I (M' := mX6_raises) (n := 29) dX6_outcome_26 rfl cv_X6_55 (by first | decide | exact kd_bal (by assumption) | exact kd_let (by assumption) | assumption) ⟨⟨by decide, by decide⟩, by decide, by decide⟩ (Nat.le_of_ble_eq_true rfl) (m_raises _ _ _) ?_
      refine WE.iret (ty := .int) dX6_outcome_29 rfl rfl ⟨by decide, by decide⟩ ?_
      exact RI.mk (by simp only [S_out, h1, h17, ↓reduceIte]) (by simp only [S_out, h1, h17, ↓reduceIte])
  · skip
    refine WE.aload_n (n := 5) dX6_outcome_4 rfl rfl ?_
    refine WE.aload_n (n := 6) dX6_outcome_5 rfl rfl ?_
    refine WE.getI (n := 9) dX6_outcome_6 rfl fl_X6_42 ⟨by decide, by decide, rfl⟩ (by first | decide | exact kd_bal (by assumption) | exact kd_let (by assumption) | assumption) ?_
    refine WE.V1I (M' := mX6_keeps) (n := 12) dX6_outcome_9 rfl cv_X6_51 (by first | decide | exact kd_bal (by assumption) | exact kd_let (by assumption) | assumption) ⟨⟨by decide, by decide⟩, by decide, by decide⟩ (Nat.le_of_ble_eq_true rfl) (m_keeps _ _ _ u hu hcu) ?_
    refine WE.goto (tgt := 29) dX6_outcome_12 (by decide) ?_
    refine WE.iret (ty := .int) dX6_outcome_29 rfl rfl ⟨by decide, by decide⟩ ?_
    exact RI.mk (by simp only [S_out, h1, ↓reduceIte]) (by simp only [S_out, h1, ↓reduceIte])
