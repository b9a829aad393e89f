/-! texts: what a text of n characters T has at p: the place behind, and what it says (none: it cannot go on) -/
abbrev isDg (T : NA) (n p : Nat) : Prop := p < n ∧ nI 48 ≤ T p ∧ T p ≤ nI 57
abbrev PR : Type := Nat × Option Int32
def pDig (T : NA) (n p : Nat) : PR := if isDg T n p then (p + 1, some (T p - nI 48)) else (p, none)
def pNum (T : NA) (n p : Nat) : PR := if isDg T n p then (if isDg T n (p + 1) then (p + 2, some (nI 10 * (T p - nI 48) + (T (p + 1) - nI 48))) else (p + 1, some (T p - nI 48))) else (p, none)
def pSgn (T : NA) (n p : Nat) : PR := if p < n ∧ T p = nI 45 then (if isDg T n (p + 1) then (p + 2, some (-(T (p + 1) - nI 48))) else (p + 1, none)) else pDig T n p
/-- the told numbers and the place, as the reference holds them -/
def dS (c : CC) (k p : Nat) (v : Int32) : CC := u2 (u2 c 402 k v) 395 9 (nI p)
theorem dS_at (c : CC) (k p : Nat) (v : Int32) : dS c k p v 395 9 = nI p := u2_eq _ _ _ _
theorem dS_5 (c : CC) (k p : Nat) (v : Int32) {i : Nat} (h : i ≠ 9) : dS c k p v 395 i = c 395 i := by
  unfold dS
  rw [u2_ne _ _ (by omega), u2_ne _ _ (by omega)]
theorem dS_v (c : CC) (k p : Nat) (v : Int32) : dS c k p v 402 k = v := by
  unfold dS
  rw [u2_ne _ _ (by omega), u2_eq]
theorem dS_o (c : CC) (k p : Nat) (v : Int32) {a : Nat} (h5 : a ≠ 395) (h2 : a ≠ 402) : dS c k p v a = c a := by
  unfold dS
  rw [u2_o _ _ _ h5, u2_o _ _ _ h2]
theorem dS_up (c : CC) (k p q : Nat) (v w : Int32) : u2 (u2 (dS c k p v) 395 9 (nI q)) 402 k w = dS c k q w := by
  funext i j
  unfold dS u2
  by_cases h2 : i = 402
  · subst h2
    by_cases hj : j = k
    · simp [hj]
    · simp [hj]
  · by_cases h5 : i = 395
    · subst h5
      by_cases hj : j = 9
      · simp [hj]
      · simp [hj]
    · simp [h2, h5]
theorem dg_v0 (x : Int32) : nI 10 * nI 0 + x - nI 48 = x - nI 48 := by
  rw [show nI 10 * nI 0 = (0 : Int32) by decide, Int32.zero_add]
theorem dg_v1 (v x : Int32) : nI 10 * v + x - nI 48 = nI 10 * v + (x - nI 48) := by rw [Int32.sub_eq_add_neg, Int32.sub_eq_add_neg, Int32.add_assoc]
set_option maxRecDepth 20000 in
set_option maxHeartbeats 1000000 in
theorem m_dig (c : CC) (od : Int64 × UInt64) (k n p : Nat) (hk : k < 3) (hn : n ≤ 60) (hl : c 395 8 = nI n) (hp : p ≤ n) (ha : c 395 9 = nI p) : CM mX6_digits [.ref 395, .int (nI k), .int (nI 1)] (c, od) (RI (b2i ((pDig (c 401) n p).2.isSome = true)) (dS c k (pDig (c 401) n p).1 ((pDig (c 401) n p).2.getD (nI 0)), od)) := by
  refine CM.of [(0, .ref 395), (1, .int (nI k)), (2, .int (nI 1))] rfl (by decide +kernel) rfl (Nat.le_of_ble_eq_true rfl) ?_
  refine WE.iconst (n := 1) (nI 0) dX6_digits_0 rfl (by decide) ?_
  refine WE.istore_n (n := 2) dX6_digits_1 rfl (by decide) ?_
  refine WE.aload_n (n := 3) dX6_digits_2 rfl rfl ?_
  refine WE.getR (n := 6) dX6_digits_3 rfl fl_X6_29 ⟨by decide, by decide⟩ rfl (by first | decide | exact kd_bal (by assumption) | exact kd_let (by assumption) | assumption) ?_
  refine WE.iload_n (n := 7) dX6_digits_6 rfl rfl ?_
  refine WE.iconst (n := 8) (nI 0) dX6_digits_7 rfl (by decide) ?_
  refine WE.iast (n := 9) k dX6_digits_8 rfl (by decide) rfl (by show _ < 3; omega) ?_
  refine WE.ofS (σ' := (dS c k p (nI 0), od)) (by
    congr 1
    unfold dS
    rw [← ha]
    funext i j
    unfold u2
    by_cases h2 : i = 402 <;> by_cases h5 : i = 395 <;> by_cases hj : j = 9 <;> simp_all) ?_
  refine WE.iload_n (n := 10) dX6_digits_9 rfl rfl ?_
  refine WE.iload_n (n := 11) dX6_digits_10 rfl rfl ?_
  refine WE.icmp_ge (n := 14) (tgt := 85) dX6_digits_11 rfl (by decide) (fun h11 => ?_) (fun h11 => ?_)
  · skip
    exact absurd h11 (by decide)
  · skip
    refine WE.aload_n (n := 15) dX6_digits_14 rfl rfl ?_
    refine WE.getI (n := 18) dX6_digits_15 rfl fl_X6_181 ⟨by decide, by decide, rfl⟩ (by first | decide | exact kd_bal (by assumption) | exact kd_let (by assumption) | assumption) ?_
    refine WE.aload_n (n := 19) dX6_digits_18 rfl rfl ?_
    refine WE.getI (n := 22) dX6_digits_19 rfl fl_X6_178 ⟨by decide, by decide, rfl⟩ (by first | decide | exact kd_bal (by assumption) | exact kd_let (by assumption) | assumption) ?_
    refine WE.icmp_ge (n := 25) (tgt := 85) dX6_digits_22 rfl (by decide) (fun h22 => ?_) (fun h22 => ?_)
    · skip
      have g1 : ¬ p < n := by
        have e1 := dS_at c k p (nI 0)
        have e2 := dS_5 c k p (nI 0) (i := 8) (by decide)
        rw [e1, e2, hl] at h22
        have := ge_t (by omega) (by omega) h22
        omega
      refine WE.iload_n (n := 86) dX6_digits_85 rfl rfl ?_
      refine WE.if_le (n := 89) (tgt := 93) dX6_digits_86 rfl (by decide) (fun h86 => ?_) (fun h86 => ?_)
      · skip
        refine WE.iconst (n := 94) (nI 0) dX6_digits_93 rfl (by decide) ?_
        refine WE.iret (ty := .boolean) dX6_digits_94 rfl (by first | rfl | exact b2i_nar _ | decide) ⟨by decide, by decide⟩ ?_
        refine RI.mk ?_ ?_ <;> simp only [pDig, isDg, g1, and_self, and_false, false_and, true_and, and_true, ↓reduceIte, Option.isSome_some, Option.isSome_none, Option.getD_some, Option.getD_none] <;> first | rfl | decide
      · skip
        exact absurd (show nI 0 ≤ 0 by decide) h86
    · skip
      have g1 : p < n := by
        have e1 := dS_at c k p (nI 0)
        have e2 := dS_5 c k p (nI 0) (i := 8) (by decide)
        rw [e1, e2, hl] at h22
        exact ge_f (by omega) (by omega) h22
      refine WE.aload_n (n := 26) dX6_digits_25 rfl rfl ?_
      refine WE.getR (n := 29) dX6_digits_26 rfl fl_X6_25 ⟨by decide, by decide⟩ rfl (by first | decide | exact kd_bal (by assumption) | exact kd_let (by assumption) | assumption) ?_
      refine WE.aload_n (n := 30) dX6_digits_29 rfl rfl ?_
      refine WE.getI (n := 33) dX6_digits_30 rfl fl_X6_181 ⟨by decide, by decide, rfl⟩ (by first | decide | exact kd_bal (by assumption) | exact kd_let (by assumption) | assumption) ?_
      refine WE.cald (n := 34) p dX6_digits_33 rfl (by first | decide | assumption) (dS_at _ _ _ _) (by show _ < 60; omega) ?_
      refine WE.bipush (n := 36) (nI 48) dX6_digits_34 rfl (by decide) ?_
      refine WE.bipush (n := 38) (nI 57) dX6_digits_36 rfl (by decide) ?_
      refine WE.S3I (M' := mX6_in) (n := 41) dX6_digits_38 rfl cv_X6_58  ⟨⟨by decide, by decide⟩, by decide, by decide⟩ (Nat.le_of_ble_eq_true rfl) (m_in _ _ _ _) ?_
      refine WE.if_eqB (n := 44) (tgt := 85) dX6_digits_41 rfl (by decide) (fun h41 => ?_) (fun h41 => ?_)
      · skip
        rw [dS_o _ _ _ _ (by decide) (by decide)] at h41
        refine WE.iload_n (n := 86) dX6_digits_85 rfl rfl ?_
        refine WE.if_le (n := 89) (tgt := 93) dX6_digits_86 rfl (by decide) (fun h86 => ?_) (fun h86 => ?_)
        · skip
          refine WE.iconst (n := 94) (nI 0) dX6_digits_93 rfl (by decide) ?_
          refine WE.iret (ty := .boolean) dX6_digits_94 rfl (by first | rfl | exact b2i_nar _ | decide) ⟨by decide, by decide⟩ ?_
          refine RI.mk ?_ ?_ <;> simp only [pDig, isDg, g1, h41, and_self, and_false, false_and, true_and, and_true, ↓reduceIte, Option.isSome_some, Option.isSome_none, Option.getD_some, Option.getD_none] <;> first | rfl | decide
        · skip
          exact absurd (show nI 0 ≤ 0 by decide) h86
      · skip
        rw [dS_o _ _ _ _ (by decide) (by decide)] at h41
        refine WE.aload_n (n := 45) dX6_digits_44 rfl rfl ?_
        refine WE.getR (n := 48) dX6_digits_45 rfl fl_X6_29 ⟨by decide, by decide⟩ rfl (by first | decide | exact kd_bal (by assumption) | exact kd_let (by assumption) | assumption) ?_
        refine WE.iload_n (n := 49) dX6_digits_48 rfl rfl ?_
        refine WE.bipush (n := 51) (nI 10) dX6_digits_49 rfl (by decide) ?_
        refine WE.aload_n (n := 52) dX6_digits_51 rfl rfl ?_
        refine WE.getR (n := 55) dX6_digits_52 rfl fl_X6_29 ⟨by decide, by decide⟩ rfl (by first | decide | exact kd_bal (by assumption) | exact kd_let (by assumption) | assumption) ?_
        refine WE.iload_n (n := 56) dX6_digits_55 rfl rfl ?_
        refine WE.iald (n := 57) k dX6_digits_56 rfl (by first | decide | assumption) rfl (by show _ < 3; omega) ?_
        refine WE.imul (n := 58) dX6_digits_57 rfl ?_
        refine WE.aload_n (n := 59) dX6_digits_58 rfl rfl ?_
        refine WE.getR (n := 62) dX6_digits_59 rfl fl_X6_25 ⟨by decide, by decide⟩ rfl (by first | decide | exact kd_bal (by assumption) | exact kd_let (by assumption) | assumption) ?_
        refine WE.aload_n (n := 63) dX6_digits_62 rfl rfl ?_
        refine WE.dup (n := 64) dX6_digits_63 rfl rfl ?_
        refine WE.getI (n := 67) dX6_digits_64 rfl fl_X6_181 ⟨by decide, by decide, rfl⟩ (by first | decide | exact kd_bal (by assumption) | exact kd_let (by assumption) | assumption) ?_
        refine WE.dup_x1 (n := 68) dX6_digits_67 rfl rfl rfl ?_
        refine WE.iconst (n := 69) (nI 1) dX6_digits_68 rfl (by decide) ?_
        refine WE.iadd (n := 70) dX6_digits_69 rfl ?_
        refine WE.putI (n := 73) dX6_digits_70 rfl fl_X6_181 ⟨by decide, by decide, rfl, rfl⟩ ⟨by first | rfl | decide, by first | rfl | decide⟩ (by first | decide | exact kd_bal (by assumption) | exact kd_let (by assumption) | assumption) ?_
        refine WE.cald (n := 74) p dX6_digits_73 rfl (by first | decide | assumption) (dS_at _ _ _ _) (by show _ < 60; omega) ?_
        refine WE.iadd (n := 75) dX6_digits_74 rfl ?_
        refine WE.bipush (n := 77) (nI 48) dX6_digits_75 rfl (by decide) ?_
        refine WE.isub (n := 78) dX6_digits_77 rfl ?_
        refine WE.iast (n := 79) k dX6_digits_78 rfl (by decide) rfl (by show _ < 3; omega) ?_
        refine WE.ofS (σ' := (dS c k (p + 1) (c 401 p - nI 48), od)) (by
          rw [dS_v, dS_at, u2_o _ _ _ (by decide), dS_o _ _ _ _ (by decide) (by decide), dg_v0, nI_add, dS_up]) ?_
        refine WE.iincV (n := 82) (nI 1) dX6_digits_79 rfl rfl (by decide) (by decide) ?_
        refine WE.goto (tgt := 9) dX6_digits_82 (by decide) ?_
        refine WE.iload_n (n := 10) dX6_digits_9 rfl rfl ?_
        refine WE.iload_n (n := 11) dX6_digits_10 rfl rfl ?_
        refine WE.icmp_ge (n := 14) (tgt := 85) dX6_digits_11 rfl (by decide) (fun h11_2 => ?_) (fun h11_2 => ?_)
        · skip
          refine WE.iload_n (n := 86) dX6_digits_85 rfl rfl ?_
          refine WE.if_le (n := 89) (tgt := 93) dX6_digits_86 rfl (by decide) (fun h86 => ?_) (fun h86 => ?_)
          · skip
            exact absurd h86 (by decide)
          · skip
            refine WE.iconst (n := 90) (nI 1) dX6_digits_89 rfl (by decide) ?_
            refine WE.goto (tgt := 94) dX6_digits_90 (by decide) ?_
            refine WE.iret (ty := .boolean) dX6_digits_94 rfl (by first | rfl | exact b2i_nar _ | decide) ⟨by decide, by decide⟩ ?_
            refine RI.mk ?_ ?_ <;> simp only [pDig, isDg, g1, h41, and_self, and_false, false_and, true_and, and_true, ↓reduceIte, Option.isSome_some, Option.isSome_none, Option.getD_some, Option.getD_none] <;> first | rfl | decide
        · skip
          exact absurd (show nI 1 ≤ nI 1 by decide) h11_2
set_option maxRecDepth 20000 in
set_option maxHeartbeats 1000000 in
theorem m_num (c : CC) (od : Int64 × UInt64) (k n p : Nat) (hk : k < 3) (hn : n ≤ 60) (hl : c 395 8 = nI n) (hp : p ≤ n) (ha : c 395 9 = nI p) : CM mX6_digits [.ref 395, .int (nI k), .int (nI 2)] (c, od) (RI (b2i ((pNum (c 401) n p).2.isSome = true)) (dS c k (pNum (c 401) n p).1 ((pNum (c 401) n p).2.getD (nI 0)), od)) := by
  refine CM.of [(0, .ref 395), (1, .int (nI k)), (2, .int (nI 2))] rfl (by decide +kernel) rfl (Nat.le_of_ble_eq_true rfl) ?_
  refine WE.iconst (n := 1) (nI 0) dX6_digits_0 rfl (by decide) ?_
  refine WE.istore_n (n := 2) dX6_digits_1 rfl (by decide) ?_
  refine WE.aload_n (n := 3) dX6_digits_2 rfl rfl ?_
  refine WE.getR (n := 6) dX6_digits_3 rfl fl_X6_29 ⟨by decide, by decide⟩ rfl (by first | decide | exact kd_bal (by assumption) | exact kd_let (by assumption) | assumption) ?_
  refine WE.iload_n (n := 7) dX6_digits_6 rfl rfl ?_
  refine WE.iconst (n := 8) (nI 0) dX6_digits_7 rfl (by decide) ?_
  refine WE.iast (n := 9) k dX6_digits_8 rfl (by decide) rfl (by show _ < 3; omega) ?_
  refine WE.ofS (σ' := (dS c k p (nI 0), od)) (by
    congr 1
    unfold dS
    rw [← ha]
    funext i j
    unfold u2
    by_cases h2 : i = 402 <;> by_cases h5 : i = 395 <;> by_cases hj : j = 9 <;> simp_all) ?_
  refine WE.iload_n (n := 10) dX6_digits_9 rfl rfl ?_
  refine WE.iload_n (n := 11) dX6_digits_10 rfl rfl ?_
  refine WE.icmp_ge (n := 14) (tgt := 85) dX6_digits_11 rfl (by decide) (fun h11 => ?_) (fun h11 => ?_)
  · skip
    exact absurd h11 (by decide)
  · skip
    refine WE.aload_n (n := 15) dX6_digits_14 rfl rfl ?_
    refine WE.getI (n := 18) dX6_digits_15 rfl fl_X6_181 ⟨by decide, by decide, rfl⟩ (by first | decide | exact kd_bal (by assumption) | exact kd_let (by assumption) | assumption) ?_
    refine WE.aload_n (n := 19) dX6_digits_18 rfl rfl ?_
    refine WE.getI (n := 22) dX6_digits_19 rfl fl_X6_178 ⟨by decide, by decide, rfl⟩ (by first | decide | exact kd_bal (by assumption) | exact kd_let (by assumption) | assumption) ?_
    refine WE.icmp_ge (n := 25) (tgt := 85) dX6_digits_22 rfl (by decide) (fun h22 => ?_) (fun h22 => ?_)
    · skip
      have g1 : ¬ p < n := by
        have e1 := dS_at c k p (nI 0)
        have e2 := dS_5 c k p (nI 0) (i := 8) (by decide)
        rw [e1, e2, hl] at h22
        have := ge_t (by omega) (by omega) h22
        omega
      refine WE.iload_n (n := 86) dX6_digits_85 rfl rfl ?_
      refine WE.if_le (n := 89) (tgt := 93) dX6_digits_86 rfl (by decide) (fun h86 => ?_) (fun h86 => ?_)
      · skip
        refine WE.iconst (n := 94) (nI 0) dX6_digits_93 rfl (by decide) ?_
        refine WE.iret (ty := .boolean) dX6_digits_94 rfl (by first | rfl | exact b2i_nar _ | decide) ⟨by decide, by decide⟩ ?_
        refine RI.mk ?_ ?_ <;> simp only [pNum, isDg, g1, and_self, and_false, false_and, true_and, and_true, ↓reduceIte, Option.isSome_some, Option.isSome_none, Option.getD_some, Option.getD_none] <;> first | rfl | decide
      · skip
        exact absurd (show nI 0 ≤ 0 by decide) h86
    · skip
      have g1 : p < n := by
        have e1 := dS_at c k p (nI 0)
        have e2 := dS_5 c k p (nI 0) (i := 8) (by decide)
        rw [e1, e2, hl] at h22
        exact ge_f (by omega) (by omega) h22
      refine WE.aload_n (n := 26) dX6_digits_25 rfl rfl ?_
      refine WE.getR (n := 29) dX6_digits_26 rfl fl_X6_25 ⟨by decide, by decide⟩ rfl (by first | decide | exact kd_bal (by assumption) | exact kd_let (by assumption) | assumption) ?_
      refine WE.aload_n (n := 30) dX6_digits_29 rfl rfl ?_
      refine WE.getI (n := 33) dX6_digits_30 rfl fl_X6_181 ⟨by decide, by decide, rfl⟩ (by first | decide | exact kd_bal (by assumption) | exact kd_let (by assumption) | assumption) ?_
      refine WE.cald (n := 34) p dX6_digits_33 rfl (by first | decide | assumption) (dS_at _ _ _ _) (by show _ < 60; omega) ?_
      refine WE.bipush (n := 36) (nI 48) dX6_digits_34 rfl (by decide) ?_
      refine WE.bipush (n := 38) (nI 57) dX6_digits_36 rfl (by decide) ?_
      refine WE.S3I (M' := mX6_in) (n := 41) dX6_digits_38 rfl cv_X6_58  ⟨⟨by decide, by decide⟩, by decide, by decide⟩ (Nat.le_of_ble_eq_true rfl) (m_in _ _ _ _) ?_
      refine WE.if_eqB (n := 44) (tgt := 85) dX6_digits_41 rfl (by decide) (fun h41 => ?_) (fun h41 => ?_)
      · skip
        rw [dS_o _ _ _ _ (by decide) (by decide)] at h41
        refine WE.iload_n (n := 86) dX6_digits_85 rfl rfl ?_
        refine WE.if_le (n := 89) (tgt := 93) dX6_digits_86 rfl (by decide) (fun h86 => ?_) (fun h86 => ?_)
        · skip
          refine WE.iconst (n := 94) (nI 0) dX6_digits_93 rfl (by decide) ?_
          refine WE.iret (ty := .boolean) dX6_digits_94 rfl (by first | rfl | exact b2i_nar _ | decide) ⟨by decide, by decide⟩ ?_
          refine RI.mk ?_ ?_ <;> simp only [pNum, isDg, g1, h41, and_self, and_false, false_and, true_and, and_true, ↓reduceIte, Option.isSome_some, Option.isSome_none, Option.getD_some, Option.getD_none] <;> first | rfl | decide
        · skip
          exact absurd (show nI 0 ≤ 0 by decide) h86
      · skip
        rw [dS_o _ _ _ _ (by decide) (by decide)] at h41
        refine WE.aload_n (n := 45) dX6_digits_44 rfl rfl ?_
        refine WE.getR (n := 48) dX6_digits_45 rfl fl_X6_29 ⟨by decide, by decide⟩ rfl (by first | decide | exact kd_bal (by assumption) | exact kd_let (by assumption) | assumption) ?_
        refine WE.iload_n (n := 49) dX6_digits_48 rfl rfl ?_
        refine WE.bipush (n := 51) (nI 10) dX6_digits_49 rfl (by decide) ?_
        refine WE.aload_n (n := 52) dX6_digits_51 rfl rfl ?_
        refine WE.getR (n := 55) dX6_digits_52 rfl fl_X6_29 ⟨by decide, by decide⟩ rfl (by first | decide | exact kd_bal (by assumption) | exact kd_let (by assumption) | assumption) ?_
        refine WE.iload_n (n := 56) dX6_digits_55 rfl rfl ?_
        refine WE.iald (n := 57) k dX6_digits_56 rfl (by first | decide | assumption) rfl (by show _ < 3; omega) ?_
        refine WE.imul (n := 58) dX6_digits_57 rfl ?_
        refine WE.aload_n (n := 59) dX6_digits_58 rfl rfl ?_
        refine WE.getR (n := 62) dX6_digits_59 rfl fl_X6_25 ⟨by decide, by decide⟩ rfl (by first | decide | exact kd_bal (by assumption) | exact kd_let (by assumption) | assumption) ?_
        refine WE.aload_n (n := 63) dX6_digits_62 rfl rfl ?_
        refine WE.dup (n := 64) dX6_digits_63 rfl rfl ?_
        refine WE.getI (n := 67) dX6_digits_64 rfl fl_X6_181 ⟨by decide, by decide, rfl⟩ (by first | decide | exact kd_bal (by assumption) | exact kd_let (by assumption) | assumption) ?_
        refine WE.dup_x1 (n := 68) dX6_digits_67 rfl rfl rfl ?_
        refine WE.iconst (n := 69) (nI 1) dX6_digits_68 rfl (by decide) ?_
        refine WE.iadd (n := 70) dX6_digits_69 rfl ?_
        refine WE.putI (n := 73) dX6_digits_70 rfl fl_X6_181 ⟨by decide, by decide, rfl, rfl⟩ ⟨by first | rfl | decide, by first | rfl | decide⟩ (by first | decide | exact kd_bal (by assumption) | exact kd_let (by assumption) | assumption) ?_
        refine WE.cald (n := 74) p dX6_digits_73 rfl (by first | decide | assumption) (dS_at _ _ _ _) (by show _ < 60; omega) ?_
        refine WE.iadd (n := 75) dX6_digits_74 rfl ?_
        refine WE.bipush (n := 77) (nI 48) dX6_digits_75 rfl (by decide) ?_
        refine WE.isub (n := 78) dX6_digits_77 rfl ?_
        refine WE.iast (n := 79) k dX6_digits_78 rfl (by decide) rfl (by show _ < 3; omega) ?_
        refine WE.ofS (σ' := (dS c k (p + 1) (c 401 p - nI 48), od)) (by
          rw [dS_v, dS_at, u2_o _ _ _ (by decide), dS_o _ _ _ _ (by decide) (by decide), dg_v0, nI_add, dS_up]) ?_
        refine WE.iincV (n := 82) (nI 1) dX6_digits_79 rfl rfl (by decide) (by decide) ?_
        refine WE.goto (tgt := 9) dX6_digits_82 (by decide) ?_
        refine WE.iload_n (n := 10) dX6_digits_9 rfl rfl ?_
        refine WE.iload_n (n := 11) dX6_digits_10 rfl rfl ?_
        refine WE.icmp_ge (n := 14) (tgt := 85) dX6_digits_11 rfl (by decide) (fun h11_2 => ?_) (fun h11_2 => ?_)
        · skip
          exact absurd h11_2 (by decide)
        · skip
          refine WE.aload_n (n := 15) dX6_digits_14 rfl rfl ?_
          refine WE.getI (n := 18) dX6_digits_15 rfl fl_X6_181 ⟨by decide, by decide, rfl⟩ (by first | decide | exact kd_bal (by assumption) | exact kd_let (by assumption) | assumption) ?_
          refine WE.aload_n (n := 19) dX6_digits_18 rfl rfl ?_
          refine WE.getI (n := 22) dX6_digits_19 rfl fl_X6_178 ⟨by decide, by decide, rfl⟩ (by first | decide | exact kd_bal (by assumption) | exact kd_let (by assumption) | assumption) ?_
          refine WE.icmp_ge (n := 25) (tgt := 85) dX6_digits_22 rfl (by decide) (fun h22_2 => ?_) (fun h22_2 => ?_)
          · skip
            have g2 : ¬ (p + 1) < n := by
              have e1 := dS_at c k (p + 1) (c 401 p - nI 48)
              have e2 := dS_5 c k (p + 1) (c 401 p - nI 48) (i := 8) (by decide)
              rw [e1, e2, hl] at h22_2
              have := ge_t (by omega) (by omega) h22_2
              omega
            refine WE.iload_n (n := 86) dX6_digits_85 rfl rfl ?_
            refine WE.if_le (n := 89) (tgt := 93) dX6_digits_86 rfl (by decide) (fun h86 => ?_) (fun h86 => ?_)
            · skip
              exact absurd h86 (by decide)
            · skip
              refine WE.iconst (n := 90) (nI 1) dX6_digits_89 rfl (by decide) ?_
              refine WE.goto (tgt := 94) dX6_digits_90 (by decide) ?_
              refine WE.iret (ty := .boolean) dX6_digits_94 rfl (by first | rfl | exact b2i_nar _ | decide) ⟨by decide, by decide⟩ ?_
              refine RI.mk ?_ ?_ <;> simp only [pNum, isDg, g1, h41, g2, and_self, and_false, false_and, true_and, and_true, ↓reduceIte, Option.isSome_some, Option.isSome_none, Option.getD_some, Option.getD_none] <;> first | rfl | decide
          · skip
            have g2 : (p + 1) < n := by
              have e1 := dS_at c k (p + 1) (c 401 p - nI 48)
              have e2 := dS_5 c k (p + 1) (c 401 p - nI 48) (i := 8) (by decide)
              rw [e1, e2, hl] at h22_2
              exact ge_f (by omega) (by omega) h22_2
            refine WE.aload_n (n := 26) dX6_digits_25 rfl rfl ?_
            refine WE.getR (n := 29) dX6_digits_26 rfl fl_X6_25 ⟨by decide, by decide⟩ rfl (by first | decide | exact kd_bal (by assumption) | exact kd_let (by assumption) | assumption) ?_
            refine WE.aload_n (n := 30) dX6_digits_29 rfl rfl ?_
            refine WE.getI (n := 33) dX6_digits_30 rfl fl_X6_181 ⟨by decide, by decide, rfl⟩ (by first | decide | exact kd_bal (by assumption) | exact kd_let (by assumption) | assumption) ?_
            refine WE.cald (n := 34) (p + 1) dX6_digits_33 rfl (by first | decide | assumption) (dS_at _ _ _ _) (by show _ < 60; omega) ?_
            refine WE.bipush (n := 36) (nI 48) dX6_digits_34 rfl (by decide) ?_
            refine WE.bipush (n := 38) (nI 57) dX6_digits_36 rfl (by decide) ?_
            refine WE.S3I (M' := mX6_in) (n := 41) dX6_digits_38 rfl cv_X6_58  ⟨⟨by decide, by decide⟩, by decide, by decide⟩ (Nat.le_of_ble_eq_true rfl) (m_in _ _ _ _) ?_
            refine WE.if_eqB (n := 44) (tgt := 85) dX6_digits_41 rfl (by decide) (fun h41_2 => ?_) (fun h41_2 => ?_)
            · skip
              rw [dS_o _ _ _ _ (by decide) (by decide)] at h41_2
              refine WE.iload_n (n := 86) dX6_digits_85 rfl rfl ?_
              refine WE.if_le (n := 89) (tgt := 93) dX6_digits_86 rfl (by decide) (fun h86 => ?_) (fun h86 => ?_)
              · skip
                exact absurd h86 (by decide)
              · skip
                refine WE.iconst (n := 90) (nI 1) dX6_digits_89 rfl (by decide) ?_
                refine WE.goto (tgt := 94) dX6_digits_90 (by decide) ?_
                refine WE.iret (ty := .boolean) dX6_digits_94 rfl (by first | rfl | exact b2i_nar _ | decide) ⟨by decide, by decide⟩ ?_
                refine RI.mk ?_ ?_ <;> simp only [pNum, isDg, g1, h41, g2, h41_2, and_self, and_false, false_and, true_and, and_true, ↓reduceIte, Option.isSome_some, Option.isSome_none, Option.getD_some, Option.getD_none] <;> first | rfl | decide
            · skip
              rw [dS_o _ _ _ _ (by decide) (by decide)] at h41_2
              refine WE.aload_n (n := 45) dX6_digits_44 rfl rfl ?_
              refine WE.getR (n := 48) dX6_digits_45 rfl fl_X6_29 ⟨by decide, by decide⟩ rfl (by first | decide | exact kd_bal (by assumption) | exact kd_let (by assumption) | assumption) ?_
              refine WE.iload_n (n := 49) dX6_digits_48 rfl rfl ?_
              refine WE.bipush (n := 51) (nI 10) dX6_digits_49 rfl (by decide) ?_
              refine WE.aload_n (n := 52) dX6_digits_51 rfl rfl ?_
              refine WE.getR (n := 55) dX6_digits_52 rfl fl_X6_29 ⟨by decide, by decide⟩ rfl (by first | decide | exact kd_bal (by assumption) | exact kd_let (by assumption) | assumption) ?_
              refine WE.iload_n (n := 56) dX6_digits_55 rfl rfl ?_
              refine WE.iald (n := 57) k dX6_digits_56 rfl (by first | decide | assumption) rfl (by show _ < 3; omega) ?_
              refine WE.imul (n := 58) dX6_digits_57 rfl ?_
              refine WE.aload_n (n := 59) dX6_digits_58 rfl rfl ?_
              refine WE.getR (n := 62) dX6_digits_59 rfl fl_X6_25 ⟨by decide, by decide⟩ rfl (by first | decide | exact kd_bal (by assumption) | exact kd_let (by assumption) | assumption) ?_
              refine WE.aload_n (n := 63) dX6_digits_62 rfl rfl ?_
              refine WE.dup (n := 64) dX6_digits_63 rfl rfl ?_
              refine WE.getI (n := 67) dX6_digits_64 rfl fl_X6_181 ⟨by decide, by decide, rfl⟩ (by first | decide | exact kd_bal (by assumption) | exact kd_let (by assumption) | assumption) ?_
              refine WE.dup_x1 (n := 68) dX6_digits_67 rfl rfl rfl ?_
              refine WE.iconst (n := 69) (nI 1) dX6_digits_68 rfl (by decide) ?_
              refine WE.iadd (n := 70) dX6_digits_69 rfl ?_
              refine WE.putI (n := 73) dX6_digits_70 rfl fl_X6_181 ⟨by decide, by decide, rfl, rfl⟩ ⟨by first | rfl | decide, by first | rfl | decide⟩ (by first | decide | exact kd_bal (by assumption) | exact kd_let (by assumption) | assumption) ?_
              refine WE.cald (n := 74) (p + 1) dX6_digits_73 rfl (by first | decide | assumption) (dS_at _ _ _ _) (by show _ < 60; omega) ?_
              refine WE.iadd (n := 75) dX6_digits_74 rfl ?_
              refine WE.bipush (n := 77) (nI 48) dX6_digits_75 rfl (by decide) ?_
              refine WE.isub (n := 78) dX6_digits_77 rfl ?_
              refine WE.iast (n := 79) k dX6_digits_78 rfl (by decide) rfl (by show _ < 3; omega) ?_
              refine WE.ofS (σ' := (dS c k (p + 2) (nI 10 * (c 401 p - nI 48) + (c 401 (p + 1) - nI 48)), od)) (by
                rw [dS_v, dS_at, u2_o _ _ _ (by decide), dS_o _ _ _ _ (by decide) (by decide), dg_v1, nI_add, dS_up]) ?_
              refine WE.iincV (n := 82) (nI 2) dX6_digits_79 rfl rfl (by decide) (by decide) ?_
              refine WE.goto (tgt := 9) dX6_digits_82 (by decide) ?_
              refine WE.iload_n (n := 10) dX6_digits_9 rfl rfl ?_
              refine WE.iload_n (n := 11) dX6_digits_10 rfl rfl ?_
              refine WE.icmp_ge (n := 14) (tgt := 85) dX6_digits_11 rfl (by decide) (fun h11_3 => ?_) (fun h11_3 => ?_)
              · skip
                refine WE.iload_n (n := 86) dX6_digits_85 rfl rfl ?_
                refine WE.if_le (n := 89) (tgt := 93) dX6_digits_86 rfl (by decide) (fun h86 => ?_) (fun h86 => ?_)
                · skip
                  exact absurd h86 (by decide)
                · skip
                  refine WE.iconst (n := 90) (nI 1) dX6_digits_89 rfl (by decide) ?_
                  refine WE.goto (tgt := 94) dX6_digits_90 (by decide) ?_
                  refine WE.iret (ty := .boolean) dX6_digits_94 rfl (by first | rfl | exact b2i_nar _ | decide) ⟨by decide, by decide⟩ ?_
                  refine RI.mk ?_ ?_ <;> simp only [pNum, isDg, g1, h41, g2, h41_2, and_self, and_false, false_and, true_and, and_true, ↓reduceIte, Option.isSome_some, Option.isSome_none, Option.getD_some, Option.getD_none] <;> first | rfl | decide
              · skip
                exact absurd (show nI 2 ≤ nI 2 by decide) h11_3
/-- the text stands as c0 has it, n characters, the place at p; told numbers and the order's kind are free -/
def At (c0 c : CC) (n p : Nat) : Prop := c 395 8 = nI n ∧ c 395 9 = nI p ∧ p ≤ n ∧ ∀ a k, a ≠ 402 → ¬ (a = 395 ∧ (k = 9 ∨ k = 11)) → c a k = c0 a k
theorem At.T {c0 c : CC} {n p : Nat} (h : At c0 c n p) : c 401 = c0 401 := funext fun k => h.2.2.2 401 k (by decide) (by omega)
theorem At.inc {c0 c : CC} {n p : Nat} (h : At c0 c n p) (hp : p < n) : At c0 (u2 c 395 9 (c 395 9 + nI 1)) n (p + 1) := by
  refine ⟨?_, ?_, by omega, fun a k h1 h2 => ?_⟩
  · rw [u2_ne _ _ (by omega)]; exact h.1
  · rw [u2_eq, h.2.1, nI_add]
  · rw [u2_ne _ _ (fun q => h2 ⟨q.1, Or.inl q.2⟩)]; exact h.2.2.2 a k h1 h2
theorem At.ord {c0 c : CC} {n p : Nat} (h : At c0 c n p) (x : Int32) : At c0 (u2 c 395 11 x) n p := by
  refine ⟨?_, ?_, h.2.2.1, fun a k h1 h2 => ?_⟩
  · rw [u2_ne _ _ (by omega)]; exact h.1
  · rw [u2_ne _ _ (by omega)]; exact h.2.1
  · rw [u2_ne _ _ (fun q => h2 ⟨q.1, Or.inr q.2⟩)]; exact h.2.2.2 a k h1 h2
theorem At.dSt {c0 c : CC} {n p q k : Nat} {v : Int32} (h : At c0 c n p) (hq : q ≤ n) : At c0 (dS c k q v) n q := by
  refine ⟨?_, dS_at _ _ _ _, hq, fun a j h1 h2 => ?_⟩
  · rw [dS_5 _ _ _ _ (by decide)]; exact h.1
  · show u2 (u2 c 402 k v) 395 9 (nI q) a j = c0 a j
    rw [u2_ne _ _ (fun q => h2 ⟨q.1, Or.inl q.2⟩), u2_ne _ _ (fun q => h1 q.1)]
    exact h.2.2.2 a j h1 h2
theorem pDig_le {T : NA} {n p : Nat} (hp : p ≤ n) : (pDig T n p).1 ≤ n := by
  unfold pDig
  split
  · rename_i h
    exact h.1
  · exact hp
theorem pNum_le {T : NA} {n p : Nat} (hp : p ≤ n) : (pNum T n p).1 ≤ n := by
  unfold pNum
  split
  · rename_i h
    split
    · rename_i h2
      exact h2.1
    · exact h.1
  · exact hp
theorem pSgn_le {T : NA} {n p : Nat} (hp : p ≤ n) : (pSgn T n p).1 ≤ n := by
  unfold pSgn
  split
  · rename_i h
    split
    · rename_i h2
      exact h2.1
    · exact h.1
  · exact pDig_le hp
/-- what the reference's number readers leave: the place, the number told -/
def AtD (c0 c c' : CC) (n k : Nat) (R : PR) : Prop := At c0 c' n R.1 ∧ c' 402 k = R.2.getD (nI 0) ∧ (∀ j, j ≠ k → c' 402 j = c 402 j) ∧ c' 395 11 = c 395 11
def PD (c0 c : CC) (od : Int64 × UInt64) (n k : Nat) (R : PR) : AO → SS → Prop := PI fun r σ => ∃ c', σ = (c', od) ∧ r = b2i (R.2.isSome = true) ∧ AtD c0 c c' n k R
theorem AtD.of {c0 c : CC} {n p k : Nat} {R : PR} (h : At c0 c n p) (hR : R.1 ≤ n) : AtD c0 c (dS c k R.1 (R.2.getD (nI 0))) n k R :=
  ⟨h.dSt hR, dS_v _ _ _ _, fun j hj => by unfold dS; rw [u2_ne _ _ (by omega), u2_ne _ _ (fun q => hj q.2)], by rw [dS_5 _ _ _ _ (by decide)]⟩
theorem m_digP (od : Int64 × UInt64) (k : Nat) (hk : k < 3) {c0 c : CC} {n p : Nat} (hn : n ≤ 60) (h : At c0 c n p) : CM mX6_digits [.ref 395, .int (nI k), .int (nI 1)] (c, od) (PD c0 c od n k (pDig (c0 401) n p)) := by
  refine CM.mono (m_dig c od k n p hk hn h.1 h.2.2.1 h.2.1) (fun o s q => ?_)
  obtain ⟨h1, rfl⟩ := q
  rw [h.T] at h1 ⊢
  exact ⟨_, h1, _, rfl, rfl, AtD.of h (pDig_le h.2.2.1)⟩
theorem m_numP (od : Int64 × UInt64) (k : Nat) (hk : k < 3) {c0 c : CC} {n p : Nat} (hn : n ≤ 60) (h : At c0 c n p) : CM mX6_digits [.ref 395, .int (nI k), .int (nI 2)] (c, od) (PD c0 c od n k (pNum (c0 401) n p)) := by
  refine CM.mono (m_num c od k n p hk hn h.1 h.2.2.1 h.2.1) (fun o s q => ?_)
  obtain ⟨h1, rfl⟩ := q
  rw [h.T] at h1 ⊢
  exact ⟨_, h1, _, rfl, rfl, AtD.of h (pNum_le h.2.2.1)⟩
def chS (c : CC) (n p : Nat) (x : Int32) : CC := if p < n ∧ c 401 p = x then u2 c 395 9 (c 395 9 + nI 1) else c
set_option maxRecDepth 20000 in
set_option maxHeartbeats 1000000 in
theorem m_chr (c : CC) (od : Int64 × UInt64) (n p : Nat) (hn : n ≤ 60) (hl : c 395 8 = nI n) (hp : p ≤ n) (ha : c 395 9 = nI p) (x b : Int32) : CM mX6_sign_ [.ref 395, .int x, .int b] (c, od) (RI (b2i ((p < n ∧ c 401 p = x) ∨ b = 0)) (chS c n p x, od)) := by
  refine CM.of [(0, .ref 395), (1, .int x), (2, .int b)] rfl (by decide +kernel) rfl (Nat.le_of_ble_eq_true rfl) ?_
  refine WE.aload_n (n := 1) dX6_sign__0 rfl rfl ?_
  refine WE.getI (n := 4) dX6_sign__1 rfl fl_X6_181 ⟨by decide, by decide, rfl⟩ (by first | decide | exact kd_bal (by assumption) | exact kd_let (by assumption) | assumption) ?_
  refine WE.aload_n (n := 5) dX6_sign__4 rfl rfl ?_
  refine WE.getI (n := 8) dX6_sign__5 rfl fl_X6_178 ⟨by decide, by decide, rfl⟩ (by first | decide | exact kd_bal (by assumption) | exact kd_let (by assumption) | assumption) ?_
  refine WE.icmp_eq (n := 11) (tgt := 24) dX6_sign__8 rfl (by decide) (fun h8 => ?_) (fun h8 => ?_)
  · skip
    have g8 : ¬ p < n := by
      have h8 : nI p = nI n := by rw [← ha, ← hl]; exact h8
      have := (nI_eq (by omega) (by omega)).mp h8
      omega
    refine WE.iload_n (n := 25) dX6_sign__24 rfl rfl ?_
    refine WE.if_ne (n := 28) (tgt := 32) dX6_sign__25 rfl (by decide) (fun h25 => ?_) (fun h25 => ?_)
    · skip
      refine WE.iconst (n := 33) (nI 0) dX6_sign__32 rfl (by decide) ?_
      refine WE.iret (ty := .boolean) dX6_sign__33 rfl (by first | rfl | exact b2i_nar _ | decide) ⟨by decide, by decide⟩ ?_
      simp only [chS, g8, h25, true_and, false_and, and_true, and_false, true_or, false_or, or_false, or_true, ↓reduceIte]
      exact RI.mk (by decide) rfl
    · skip
      refine WE.iconst (n := 29) (nI 1) dX6_sign__28 rfl (by decide) ?_
      refine WE.goto (tgt := 33) dX6_sign__29 (by decide) ?_
      refine WE.iret (ty := .boolean) dX6_sign__33 rfl (by first | rfl | exact b2i_nar _ | decide) ⟨by decide, by decide⟩ ?_
      simp only [chS, g8, h25, true_and, false_and, and_true, and_false, true_or, false_or, or_false, or_true, ↓reduceIte]
      exact RI.mk (by decide) rfl
  · skip
    have g8 : p < n := by
      have : p ≠ n := fun q => h8 (by rw [ha, hl, q])
      omega
    refine WE.aload_n (n := 12) dX6_sign__11 rfl rfl ?_
    refine WE.getR (n := 15) dX6_sign__12 rfl fl_X6_25 ⟨by decide, by decide⟩ rfl (by first | decide | exact kd_bal (by assumption) | exact kd_let (by assumption) | assumption) ?_
    refine WE.aload_n (n := 16) dX6_sign__15 rfl rfl ?_
    refine WE.getI (n := 19) dX6_sign__16 rfl fl_X6_181 ⟨by decide, by decide, rfl⟩ (by first | decide | exact kd_bal (by assumption) | exact kd_let (by assumption) | assumption) ?_
    refine WE.cald (n := 20) p dX6_sign__19 rfl (by first | decide | assumption) ha (by show _ < 60; omega) ?_
    refine WE.iload_n (n := 21) dX6_sign__20 rfl rfl ?_
    refine WE.icmp_eq (n := 24) (tgt := 34) dX6_sign__21 rfl (by decide) (fun h21 => ?_) (fun h21 => ?_)
    · skip
      refine WE.aload_n (n := 35) dX6_sign__34 rfl rfl ?_
      refine WE.dup (n := 36) dX6_sign__35 rfl rfl ?_
      refine WE.getI (n := 39) dX6_sign__36 rfl fl_X6_181 ⟨by decide, by decide, rfl⟩ (by first | decide | exact kd_bal (by assumption) | exact kd_let (by assumption) | assumption) ?_
      refine WE.iconst (n := 40) (nI 1) dX6_sign__39 rfl (by decide) ?_
      refine WE.iadd (n := 41) dX6_sign__40 rfl ?_
      refine WE.putI (n := 44) dX6_sign__41 rfl fl_X6_181 ⟨by decide, by decide, rfl, rfl⟩ ⟨by first | rfl | decide, by first | rfl | decide⟩ (by first | decide | exact kd_bal (by assumption) | exact kd_let (by assumption) | assumption) ?_
      refine WE.iconst (n := 45) (nI 1) dX6_sign__44 rfl (by decide) ?_
      refine WE.iret (ty := .boolean) dX6_sign__45 rfl (by first | rfl | exact b2i_nar _ | decide) ⟨by decide, by decide⟩ ?_
      simp only [chS, g8, h21, true_and, false_and, and_true, and_false, true_or, false_or, or_false, or_true, ↓reduceIte]
      exact RI.mk (by decide) rfl
    · skip
      refine WE.iload_n (n := 25) dX6_sign__24 rfl rfl ?_
      refine WE.if_ne (n := 28) (tgt := 32) dX6_sign__25 rfl (by decide) (fun h25 => ?_) (fun h25 => ?_)
      · skip
        refine WE.iconst (n := 33) (nI 0) dX6_sign__32 rfl (by decide) ?_
        refine WE.iret (ty := .boolean) dX6_sign__33 rfl (by first | rfl | exact b2i_nar _ | decide) ⟨by decide, by decide⟩ ?_
        simp only [chS, g8, h21, h25, true_and, false_and, and_true, and_false, true_or, false_or, or_false, or_true, ↓reduceIte]
        exact RI.mk (by decide) rfl
      · skip
        refine WE.iconst (n := 29) (nI 1) dX6_sign__28 rfl (by decide) ?_
        refine WE.goto (tgt := 33) dX6_sign__29 (by decide) ?_
        refine WE.iret (ty := .boolean) dX6_sign__33 rfl (by first | rfl | exact b2i_nar _ | decide) ⟨by decide, by decide⟩ ?_
        simp only [chS, g8, h21, h25, true_and, false_and, and_true, and_false, true_or, false_or, or_false, or_true, ↓reduceIte]
        exact RI.mk (by decide) rfl
theorem chS_At {c0 c : CC} {n p : Nat} {x : Int32} (h : At c0 c n p) : At c0 (chS c n p x) n (if p < n ∧ c0 401 p = x then p + 1 else p) := by
  unfold chS
  rw [h.T]
  split
  · rename_i q
    exact h.inc q.1
  · exact h
def PC (c0 c : CC) (od : Int64 × UInt64) (n p : Nat) (x : Int32) : AO → SS → Prop := PI fun r σ => ∃ c', σ = (c', od) ∧ r = b2i (p < n ∧ c0 401 p = x) ∧ At c0 c' n (if p < n ∧ c0 401 p = x then p + 1 else p) ∧ c' 402 = c 402 ∧ c' 395 11 = c 395 11
theorem m_chrP (od : Int64 × UInt64) (x : Int32) {c0 c : CC} {n p : Nat} (hn : n ≤ 60) (h : At c0 c n p) : CM mX6_sign_ [.ref 395, .int x, .int (nI 1)] (c, od) (PC c0 c od n p x) := by
  refine CM.mono (m_chr c od n p hn h.1 h.2.2.1 h.2.1 x (nI 1)) (fun o s q => ?_)
  obtain ⟨h1, rfl⟩ := q
  rw [h.T] at h1
  refine ⟨_, h1, _, rfl, ?_, chS_At h, ?_, ?_⟩
  · congr 1
    simp
    intro q
    exact absurd q (by decide)
  · unfold chS
    split
    · rw [u2_o _ _ _ (by decide)]
    · rfl
  · unfold chS
    split
    · rw [u2_ne _ _ (by decide)]
    · rfl
