/-- where the class's taking apart stands -/
def CT (c0 c : CC) (n p o : Nat) : Prop := c 389 5 = nI n ∧ c 389 8 = nI p ∧ p ≤ n ∧ c 389 6 = nI o ∧ o < 20 ∧ ∀ a k, ¬ (a = 389 ∧ k = 8) → ¬ (391 ≤ a ∧ a ≤ 394 ∧ k = o) → c a k = c0 a k
def SB (c c' : CC) : Prop := ∀ a k, ¬ (a = 389 ∧ k = 8) → c' a k = c a k
theorem CT.T {c0 c : CC} {n p o : Nat} (h : CT c0 c n p o) : c 390 = c0 390 := funext fun k => h.2.2.2.2.2 390 k (by omega) (by omega)
theorem CT.go {c0 c : CC} {n p q o : Nat} (h : CT c0 c n p o) (hq : q ≤ n) : CT c0 (u2 c 389 8 (nI q)) n q o :=
  ⟨by rw [u2_ne _ _ (by omega)]; exact h.1, u2_eq _ _ _ _, hq, by rw [u2_ne _ _ (by omega)]; exact h.2.2.2.1, h.2.2.2.2.1, fun a k h1 h2 => by rw [u2_ne _ _ h1]; exact h.2.2.2.2.2 a k h1 h2⟩
theorem CT.st {c0 c : CC} {n p o : Nat} (h : CT c0 c n p o) {a : Nat} (ha : 391 ≤ a ∧ a ≤ 394) (v : Int32) : CT c0 (u2 c a o v) n p o :=
  ⟨by rw [u2_ne _ _ (by omega)]; exact h.1, by rw [u2_ne _ _ (by omega)]; exact h.2.1, h.2.2.1, by rw [u2_ne _ _ (by omega)]; exact h.2.2.2.1, h.2.2.2.2.1, fun x k h1 h2 => by rw [u2_ne _ _ (by omega)]; exact h.2.2.2.2.2 x k h1 h2⟩
theorem CT.up {c0 c : CC} {n p o : Nat} (h : CT c0 c n p o) (hp : p < n) : CT c0 (u2 c 389 8 (c 389 8 + nI 1)) n (p + 1) o := by
  rw [h.2.1, nI_s1]
  exact h.go (by omega)
theorem SB.go (c : CC) (x : Int32) : SB c (u2 c 389 8 x) := fun a k h => u2_ne _ _ h
def PRC (c0 c : CC) (od : Int64 × UInt64) (n o : Nat) (R : PR) : AO → SS → Prop := PI fun r σ => ∃ c', σ = (c', od) ∧ r = R.2.getD (-100 : Int32) ∧ CT c0 c' n R.1 o ∧ SB c c'
def PTC (c0 c : CC) (od : Int64 × UInt64) (n p o : Nat) (x : Int32) : AO → SS → Prop := PI fun r σ => ∃ c', σ = (c', od) ∧ r = b2i (p < n ∧ c0 390 p = x) ∧ CT c0 c' n (if p < n ∧ c0 390 p = x then p + 1 else p) o ∧ SB c c'
theorem SB.rf (c : CC) : SB c c := fun _ _ _ => rfl
theorem SB.tr {a b c : CC} (h : SB a b) (g : SB b c) : SB a c := fun x k q => (g x k q).trans (h x k q)
set_option maxRecDepth 20000 in
set_option maxHeartbeats 1000000 in
theorem c_take (od : Int64 × UInt64) {c0 c : CC} {n p o : Nat} (hn : n ≤ 60) (h : CT c0 c n p o) (x : Int32) : CM mX3_take [.ref 389, .int x] (c, od) (PTC c0 c od n p o x) := by
  refine CM.of [(0, .ref 389), (1, .int x)] rfl (by decide +kernel) rfl (Nat.le_of_ble_eq_true rfl) ?_
  refine WE.aload_n (n := 1) dX3_take_0 rfl rfl ?_
  refine WE.getI (n := 4) dX3_take_1 rfl fl_X3_35 ⟨by decide, by decide, rfl⟩ (by first | decide | exact kd_bal (by assumption) | exact kd_let (by assumption) | assumption) ?_
  refine WE.aload_n (n := 5) dX3_take_4 rfl rfl ?_
  refine WE.getI (n := 8) dX3_take_5 rfl fl_X3_32 ⟨by decide, by decide, rfl⟩ (by first | decide | exact kd_bal (by assumption) | exact kd_let (by assumption) | assumption) ?_
  refine WE.icmp_ge (n := 11) (tgt := 36) dX3_take_8 rfl (by decide) (fun h8 => ?_) (fun h8 => ?_)
  · skip
    have hp : ¬ p < n := by rw [h.2.1, h.1] at h8; have := ge_t (by have := h.2.2.1; omega) (by omega) h8; omega
    refine WE.iconst (n := 37) (nI 0) dX3_take_36 rfl (by decide) ?_
    refine WE.iret (ty := .boolean) dX3_take_37 rfl (by first | rfl | exact b2i_nar _ | decide) ⟨by decide, by decide⟩ ?_
    have hq : ¬ (p < n ∧ c0 390 p = x) := fun q => by first | exact hp q.1 | exact h21 q.2
    exact PI.mk ⟨_, rfl, (b2i_f hq).symm, by rw [if_neg hq]; exact h, SB.rf _⟩
  · skip
    have hp : p < n := by rw [h.2.1, h.1] at h8; exact ge_f (by have := h.2.2.1; omega) (by omega) h8
    have eT : c 390 p = c0 390 p := congrFun h.T p
    refine WE.aload_n (n := 12) dX3_take_11 rfl rfl ?_
    refine WE.getR (n := 15) dX3_take_12 rfl fl_X3_9 ⟨by decide, by decide⟩ rfl (by first | decide | exact kd_bal (by assumption) | exact kd_let (by assumption) | assumption) ?_
    refine WE.aload_n (n := 16) dX3_take_15 rfl rfl ?_
    refine WE.getI (n := 19) dX3_take_16 rfl fl_X3_35 ⟨by decide, by decide, rfl⟩ (by first | decide | exact kd_bal (by assumption) | exact kd_let (by assumption) | assumption) ?_
    refine WE.cald (n := 20) p dX3_take_19 rfl (by first | decide | assumption) h.2.1 (by show _ < 60; omega) ?_
    refine WE.iload_n (n := 21) dX3_take_20 rfl rfl ?_
    refine WE.icmp_ne (n := 24) (tgt := 36) dX3_take_21 rfl (by decide) (fun h21 => ?_) (fun h21 => ?_)
    · skip
      rw [eT] at h21
      refine WE.iconst (n := 37) (nI 0) dX3_take_36 rfl (by decide) ?_
      refine WE.iret (ty := .boolean) dX3_take_37 rfl (by first | rfl | exact b2i_nar _ | decide) ⟨by decide, by decide⟩ ?_
      have hq : ¬ (p < n ∧ c0 390 p = x) := fun q => by first | exact hp q.1 | exact h21 q.2
      exact PI.mk ⟨_, rfl, (b2i_f hq).symm, by rw [if_neg hq]; exact h, SB.rf _⟩
    · skip
      rw [eT] at h21
      refine WE.aload_n (n := 25) dX3_take_24 rfl rfl ?_
      refine WE.dup (n := 26) dX3_take_25 rfl rfl ?_
      refine WE.getI (n := 29) dX3_take_26 rfl fl_X3_35 ⟨by decide, by decide, rfl⟩ (by first | decide | exact kd_bal (by assumption) | exact kd_let (by assumption) | assumption) ?_
      refine WE.iconst (n := 30) (nI 1) dX3_take_29 rfl (by decide) ?_
      refine WE.iadd (n := 31) dX3_take_30 rfl ?_
      refine WE.putI (n := 34) dX3_take_31 rfl fl_X3_35 ⟨by decide, by decide, rfl, rfl⟩ ⟨by first | rfl | decide, by first | rfl | decide⟩ (by first | decide | exact kd_bal (by assumption) | exact kd_let (by assumption) | assumption) ?_
      refine WE.iconst (n := 35) (nI 1) dX3_take_34 rfl (by decide) ?_
      refine WE.iret (ty := .boolean) dX3_take_35 rfl (by first | rfl | exact b2i_nar _ | decide) ⟨by decide, by decide⟩ ?_
      have hq : p < n ∧ c0 390 p = x := ⟨hp, by first | exact h21 | exact Classical.not_not.mp h21⟩
      exact PI.mk ⟨_, rfl, (b2i_t hq).symm, by rw [if_pos hq]; exact h.up hp, SB.go _ _⟩
set_option maxRecDepth 20000 in
set_option maxHeartbeats 1000000 in
theorem c_digit (od : Int64 × UInt64) {c0 c : CC} {n p o : Nat} (hn : n ≤ 60) (h : CT c0 c n p o) : CM mX3_digit [.ref 389] (c, od) (PRC c0 c od n o (pDig (c0 390) n p)) := by
  refine CM.of [(0, .ref 389)] rfl (by decide +kernel) rfl (Nat.le_of_ble_eq_true rfl) ?_
  refine WE.aload_n (n := 1) dX3_digit_0 rfl rfl ?_
  refine WE.getI (n := 4) dX3_digit_1 rfl fl_X3_35 ⟨by decide, by decide, rfl⟩ (by first | decide | exact kd_bal (by assumption) | exact kd_let (by assumption) | assumption) ?_
  refine WE.aload_n (n := 5) dX3_digit_4 rfl rfl ?_
  refine WE.getI (n := 8) dX3_digit_5 rfl fl_X3_32 ⟨by decide, by decide, rfl⟩ (by first | decide | exact kd_bal (by assumption) | exact kd_let (by assumption) | assumption) ?_
  refine WE.icmp_ge (n := 11) (tgt := 64) dX3_digit_8 rfl (by decide) (fun h8 => ?_) (fun h8 => ?_)
  · skip
    have hp : ¬ p < n := by rw [h.2.1, h.1] at h8; have := ge_t (by have := h.2.2.1; omega) (by omega) h8; omega
    refine WE.bipush (n := 66) ((-100 : Int32)) dX3_digit_64 rfl (by decide) ?_
    refine WE.iret (ty := .int) dX3_digit_66 rfl rfl ⟨by decide, by decide⟩ ?_
    have hq : ¬ isDg (c0 390) n p := by first | exact hq | exact fun q => hp q.1
    have e : pDig (c0 390) n p = (p, none) := if_neg hq
    refine PI.mk ⟨_, rfl, ?_, ?_, SB.rf _⟩
    · rw [e]
      rfl
    · rw [e]
      exact h
  · skip
    have hp : p < n := by rw [h.2.1, h.1] at h8; exact ge_f (by have := h.2.2.1; omega) (by omega) h8
    have eT : c 390 p = c0 390 p := congrFun h.T p
    refine WE.aload_n (n := 12) dX3_digit_11 rfl rfl ?_
    refine WE.getR (n := 15) dX3_digit_12 rfl fl_X3_9 ⟨by decide, by decide⟩ rfl (by first | decide | exact kd_bal (by assumption) | exact kd_let (by assumption) | assumption) ?_
    refine WE.aload_n (n := 16) dX3_digit_15 rfl rfl ?_
    refine WE.getI (n := 19) dX3_digit_16 rfl fl_X3_35 ⟨by decide, by decide, rfl⟩ (by first | decide | exact kd_bal (by assumption) | exact kd_let (by assumption) | assumption) ?_
    refine WE.cald (n := 20) p dX3_digit_19 rfl (by first | decide | assumption) h.2.1 (by show _ < 60; omega) ?_
    refine WE.bipush (n := 22) (nI 48) dX3_digit_20 rfl (by decide) ?_
    refine WE.icmp_lt (n := 25) (tgt := 64) dX3_digit_22 rfl (by decide) (fun h22 => ?_) (fun h22 => ?_)
    · skip
      rw [eT] at h22
      have hq : ¬ isDg (c0 390) n p := fun q => absurd q.2.1 (Int32.not_le.mpr h22)
      refine WE.bipush (n := 66) ((-100 : Int32)) dX3_digit_64 rfl (by decide) ?_
      refine WE.iret (ty := .int) dX3_digit_66 rfl rfl ⟨by decide, by decide⟩ ?_
      have hq : ¬ isDg (c0 390) n p := by first | exact hq | exact fun q => hp q.1
      have e : pDig (c0 390) n p = (p, none) := if_neg hq
      refine PI.mk ⟨_, rfl, ?_, ?_, SB.rf _⟩
      · rw [e]
        rfl
      · rw [e]
        exact h
    · skip
      rw [eT] at h22
      refine WE.aload_n (n := 26) dX3_digit_25 rfl rfl ?_
      refine WE.getR (n := 29) dX3_digit_26 rfl fl_X3_9 ⟨by decide, by decide⟩ rfl (by first | decide | exact kd_bal (by assumption) | exact kd_let (by assumption) | assumption) ?_
      refine WE.aload_n (n := 30) dX3_digit_29 rfl rfl ?_
      refine WE.getI (n := 33) dX3_digit_30 rfl fl_X3_35 ⟨by decide, by decide, rfl⟩ (by first | decide | exact kd_bal (by assumption) | exact kd_let (by assumption) | assumption) ?_
      refine WE.cald (n := 34) p dX3_digit_33 rfl (by first | decide | assumption) h.2.1 (by show _ < 60; omega) ?_
      refine WE.bipush (n := 36) (nI 57) dX3_digit_34 rfl (by decide) ?_
      refine WE.icmp_gt (n := 39) (tgt := 64) dX3_digit_36 rfl (by decide) (fun h36 => ?_) (fun h36 => ?_)
      · skip
        rw [eT] at h36
        have hq : ¬ isDg (c0 390) n p := fun q => absurd q.2.2 (Int32.not_le.mpr h36)
        refine WE.bipush (n := 66) ((-100 : Int32)) dX3_digit_64 rfl (by decide) ?_
        refine WE.iret (ty := .int) dX3_digit_66 rfl rfl ⟨by decide, by decide⟩ ?_
        have hq : ¬ isDg (c0 390) n p := by first | exact hq | exact fun q => hp q.1
        have e : pDig (c0 390) n p = (p, none) := if_neg hq
        refine PI.mk ⟨_, rfl, ?_, ?_, SB.rf _⟩
        · rw [e]
          rfl
        · rw [e]
          exact h
      · skip
        rw [eT] at h36
        have hq : isDg (c0 390) n p := ⟨hp, Int32.not_lt.mp h22, Int32.not_lt.mp h36⟩
        refine WE.aload_n (n := 40) dX3_digit_39 rfl rfl ?_
        refine WE.dup (n := 41) dX3_digit_40 rfl rfl ?_
        refine WE.getI (n := 44) dX3_digit_41 rfl fl_X3_35 ⟨by decide, by decide, rfl⟩ (by first | decide | exact kd_bal (by assumption) | exact kd_let (by assumption) | assumption) ?_
        refine WE.iconst (n := 45) (nI 1) dX3_digit_44 rfl (by decide) ?_
        refine WE.iadd (n := 46) dX3_digit_45 rfl ?_
        refine WE.putI (n := 49) dX3_digit_46 rfl fl_X3_35 ⟨by decide, by decide, rfl, rfl⟩ ⟨by first | rfl | decide, by first | rfl | decide⟩ (by first | decide | exact kd_bal (by assumption) | exact kd_let (by assumption) | assumption) ?_
        refine WE.aload_n (n := 50) dX3_digit_49 rfl rfl ?_
        refine WE.getR (n := 53) dX3_digit_50 rfl fl_X3_9 ⟨by decide, by decide⟩ rfl (by first | decide | exact kd_bal (by assumption) | exact kd_let (by assumption) | assumption) ?_
        refine WE.aload_n (n := 54) dX3_digit_53 rfl rfl ?_
        refine WE.getI (n := 57) dX3_digit_54 rfl fl_X3_35 ⟨by decide, by decide, rfl⟩ (by first | decide | exact kd_bal (by assumption) | exact kd_let (by assumption) | assumption) ?_
        refine WE.iconst (n := 58) (nI 1) dX3_digit_57 rfl (by decide) ?_
        refine WE.isub (n := 59) dX3_digit_58 rfl ?_
        refine WE.cald (n := 60) p dX3_digit_59 rfl (by first | decide | assumption) (by rw [u2_eq, h.2.1, m1m]) (by show _ < 60; omega) ?_
        refine WE.bipush (n := 62) (nI 48) dX3_digit_60 rfl (by decide) ?_
        refine WE.isub (n := 63) dX3_digit_62 rfl ?_
        refine WE.iret (ty := .int) dX3_digit_63 rfl rfl ⟨by decide, by decide⟩ ?_
        refine PI.mk ⟨_, rfl, ?_, ?_, SB.go _ _⟩
        · rw [pDig_p hq, u2_ne _ _ (by omega), eT]
          rfl
        · rw [pDig_p hq]
          exact h.up hp
theorem dg_of {T : NA} {n p : Nat} (h : isDg T n p) : ∃ d : Nat, d ≤ 9 ∧ T p - nI 48 = nI d := by
  obtain ⟨d, hd, hd2, e⟩ := in1_of (a := 48) (m := 57) (by decide) (by decide) ⟨h.2.1, h.2.2⟩
  exact ⟨d - 48, by omega, by rw [e, pk_sub hd]⟩
theorem nI_100 {d : Nat} (h : d ≤ 99) : ¬ nI d = (-100 : Int32) ∧ ¬ -nI d = (-100 : Int32) := by
  refine ⟨fun q => absurd (nI_pos' (show d < 2 ^ 31 by omega)) (by rw [q]; decide), fun q => ?_⟩
  have q2 : nI d = nI 100 := by
    have := congrArg (fun x : Int32 => -x) q
    simp only [Int32.neg_neg] at this
    exact this
  rw [nI_eq (by omega) (by decide)] at q2
  omega
theorem dig_s {T : NA} {n p : Nat} : ¬ (pDig T n p).2.getD (-100 : Int32) = (-100 : Int32) ↔ (pDig T n p).2.isSome = true := by
  by_cases h : isDg T n p
  · obtain ⟨d, hd, e⟩ := dg_of h
    rw [pDig_p h, e]
    exact ⟨fun _ => rfl, fun _ => (nI_100 (by omega)).1⟩
  · rw [show pDig T n p = (p, none) from if_neg h]
    exact ⟨fun q => absurd rfl q, fun q => absurd (show (false : Bool) = true from q) (by decide)⟩
theorem num_s {T : NA} {n p : Nat} : ¬ (pNum T n p).2.getD (-100 : Int32) = (-100 : Int32) ↔ (pNum T n p).2.isSome = true := by
  by_cases h : isDg T n p
  · obtain ⟨d, hd, e⟩ := dg_of h
    by_cases h2 : isDg T n (p + 1)
    · obtain ⟨d2, hd2, e2⟩ := dg_of h2
      rw [show pNum T n p = (p + 2, some (nI 10 * (T p - nI 48) + (T (p + 1) - nI 48))) by unfold pNum; rw [if_pos h, if_pos h2], e, e2, pk_mul, nI_add]
      exact ⟨fun _ => rfl, fun _ => (nI_100 (by omega)).1⟩
    · rw [show pNum T n p = (p + 1, some (T p - nI 48)) by unfold pNum; rw [if_pos h, if_neg h2], e]
      exact ⟨fun _ => rfl, fun _ => (nI_100 (by omega)).1⟩
  · rw [show pNum T n p = (p, none) from if_neg h]
    exact ⟨fun q => absurd rfl q, fun q => absurd (show (false : Bool) = true from q) (by decide)⟩
theorem sgn_s {T : NA} {n p : Nat} : ¬ (pSgn T n p).2.getD (-100 : Int32) = (-100 : Int32) ↔ (pSgn T n p).2.isSome = true := by
  unfold pSgn
  split
  · split
    · rename_i h h2
      obtain ⟨d2, hd2, e2⟩ := dg_of h2
      rw [e2]
      exact ⟨fun _ => rfl, fun _ => (nI_100 (by omega)).2⟩
    · exact ⟨fun q => absurd rfl q, fun q => absurd (show (false : Bool) = true from q) (by decide)⟩
  · exact dig_s
theorem pNum_of (T : NA) (n p : Nat) : pNum T n p = match (pDig T n p).2 with
  | none => (p, none)
  | some v => ((pDig T n (p + 1)).1, some (match (pDig T n (p + 1)).2 with
    | none => v
    | some w => nI 10 * v + w)) := by
  by_cases h : isDg T n p
  · by_cases h2 : isDg T n (p + 1)
    · rw [pDig_p h, pDig_p h2]
      unfold pNum
      rw [if_pos h, if_pos h2]
    · rw [pDig_p h, show pDig T n (p + 1) = (p + 1, none) from if_neg h2]
      unfold pNum
      rw [if_pos h, if_neg h2]
  · rw [show pDig T n p = (p, none) from if_neg h]
    unfold pNum
    rw [if_neg h]
set_option maxRecDepth 20000 in
set_option maxHeartbeats 1000000 in
theorem c_number (od : Int64 × UInt64) {c0 c : CC} {n p o : Nat} (hn : n ≤ 60) (h : CT c0 c n p o) : CM mX3_number [.ref 389] (c, od) (PRC c0 c od n o (pNum (c0 390) n p)) := by
  refine CM.of [(0, .ref 389)] rfl (by decide +kernel) rfl (Nat.le_of_ble_eq_true rfl) ?_
  refine WE.aload_n (n := 1) dX3_number_0 rfl rfl ?_
  refine WE.V0PI (M' := mX3_digit) (n := 4) dX3_number_1 rfl cv_X3_52 (by first | decide | exact kd_bal (by assumption) | exact kd_let (by assumption) | assumption) ⟨⟨by decide, by decide⟩, by decide, by decide⟩ (Nat.le_of_ble_eq_true rfl) (c_digit od hn h) (fun r1 σ1 q1 => ?_)
  obtain ⟨c1, rfl, rfl, A1, B1⟩ := q1
  refine WE.istore_n (n := 5) dX3_number_4 rfl (by decide) ?_
  refine WE.iload_n (n := 6) dX3_number_5 rfl rfl ?_
  refine WE.bipush (n := 8) ((-100 : Int32)) dX3_number_6 rfl (by decide) ?_
  refine WE.icmp_ne (n := 11) (tgt := 14) dX3_number_8 rfl (by decide) (fun h8 => ?_) (fun h8 => ?_)
  · skip
    have h8 := dig_s.mp h8
    obtain ⟨v, hv⟩ := Option.isSome_iff_exists.mp h8
    have hq := pDig_q hv
    have A1' : CT c0 c1 n (p + 1) o := by have := A1; rwa [hq.1] at this
    refine WE.aload_n (n := 15) dX3_number_14 rfl rfl ?_
    refine WE.V0PI (M' := mX3_digit) (n := 18) dX3_number_15 rfl cv_X3_52 (by first | decide | exact kd_bal (by assumption) | exact kd_let (by assumption) | assumption) ⟨⟨by decide, by decide⟩, by decide, by decide⟩ (Nat.le_of_ble_eq_true rfl) (c_digit od hn A1') (fun r15 σ15 q15 => ?_)
    obtain ⟨c15, rfl, rfl, A15, B15⟩ := q15
    refine WE.istore_n (n := 19) dX3_number_18 rfl (by decide) ?_
    refine WE.iload_n (n := 20) dX3_number_19 rfl rfl ?_
    refine WE.bipush (n := 22) ((-100 : Int32)) dX3_number_20 rfl (by decide) ?_
    refine WE.icmp_ne (n := 25) (tgt := 29) dX3_number_22 rfl (by decide) (fun h22 => ?_) (fun h22 => ?_)
    · skip
      have h22 := dig_s.mp h22
      obtain ⟨w, hw⟩ := Option.isSome_iff_exists.mp h22
      refine WE.bipush (n := 31) (nI 10) dX3_number_29 rfl (by decide) ?_
      refine WE.iload_n (n := 32) dX3_number_31 rfl rfl ?_
      refine WE.imul (n := 33) dX3_number_32 rfl ?_
      refine WE.iload_n (n := 34) dX3_number_33 rfl rfl ?_
      refine WE.iadd (n := 35) dX3_number_34 rfl ?_
      refine WE.iret (ty := .int) dX3_number_35 rfl rfl ⟨by decide, by decide⟩ ?_
      refine PI.mk ⟨_, rfl, ?_, ?_, B1.tr B15⟩
      · rw [pNum_of, hv, hw]
        try rfl
      · rw [pNum_of, hv, hw]
        exact A15
    · skip
      have h22 : ¬ (pDig (c0 390) n (p + 1)).2.isSome = true := fun q => dig_s.mpr q h22
      have hw : (pDig (c0 390) n (p + 1)).2 = none := by simpa using h22
      refine WE.iload_n (n := 26) dX3_number_25 rfl rfl ?_
      refine WE.goto (tgt := 35) dX3_number_26 (by decide) ?_
      refine WE.iret (ty := .int) dX3_number_35 rfl rfl ⟨by decide, by decide⟩ ?_
      refine PI.mk ⟨_, rfl, ?_, ?_, B1.tr B15⟩
      · rw [pNum_of, hv, hw]
        try rfl
      · rw [pNum_of, hv, hw]
        exact A15
  · skip
    have h8 : ¬ (pDig (c0 390) n p).2.isSome = true := fun q => dig_s.mpr q h8
    refine WE.bipush (n := 13) ((-100 : Int32)) dX3_number_11 rfl (by decide) ?_
    refine WE.iret (ty := .int) dX3_number_13 rfl rfl ⟨by decide, by decide⟩ ?_
    have e : pNum (c0 390) n p = (p, none) := by rw [pNum_of, show (pDig (c0 390) n p).2 = none by simpa using h8]
    have A1' : CT c0 c1 n p o := by have := A1; rwa [(pDig_f h8).2] at this
    refine PI.mk ⟨_, rfl, ?_, ?_, B1⟩
    · rw [e]
      rfl
    · rw [e]
      exact A1'
set_option maxRecDepth 20000 in
set_option maxHeartbeats 1000000 in
theorem c_signed (od : Int64 × UInt64) {c0 c : CC} {n p o : Nat} (hn : n ≤ 60) (h : CT c0 c n p o) : CM mX3_signedDigit [.ref 389] (c, od) (PRC c0 c od n o (pSgn (c0 390) n p)) := by
  refine CM.of [(0, .ref 389)] rfl (by decide +kernel) rfl (Nat.le_of_ble_eq_true rfl) ?_
  refine WE.aload_n (n := 1) dX3_signedDigit_0 rfl rfl ?_
  refine WE.bipush (n := 3) (nI 45) dX3_signedDigit_1 rfl (by decide) ?_
  refine WE.V1PI (M' := mX3_take) (n := 6) dX3_signedDigit_3 rfl cv_X3_48 (by first | decide | exact kd_bal (by assumption) | exact kd_let (by assumption) | assumption) ⟨⟨by decide, by decide⟩, by decide, by decide⟩ (Nat.le_of_ble_eq_true rfl) (c_take od hn h (nI 45)) (fun r3 σ3 q3 => ?_)
  obtain ⟨c3, rfl, rfl, A3, B3⟩ := q3
  by_cases hm : p < n ∧ c0 390 p = nI 45
  · have A3' : CT c0 c3 n (p + 1) o := by have := A3; rwa [if_pos hm] at this
    refine WE.istore_n (n := 7) dX3_signedDigit_6 rfl (by decide) ?_
    refine WE.aload_n (n := 8) dX3_signedDigit_7 rfl rfl ?_
    refine WE.V0PI (M' := mX3_digit) (n := 11) dX3_signedDigit_8 rfl cv_X3_52 (by first | decide | exact kd_bal (by assumption) | exact kd_let (by assumption) | assumption) ⟨⟨by decide, by decide⟩, by decide, by decide⟩ (Nat.le_of_ble_eq_true rfl) (c_digit od hn A3') (fun r8 σ8 q8 => ?_)
    obtain ⟨c8, rfl, rfl, A8, B8⟩ := q8
    refine WE.istore_n (n := 12) dX3_signedDigit_11 rfl (by decide) ?_
    refine WE.iload_n (n := 13) dX3_signedDigit_12 rfl rfl ?_
    refine WE.bipush (n := 15) ((-100 : Int32)) dX3_signedDigit_13 rfl (by decide) ?_
    refine WE.icmp_ne (n := 18) (tgt := 21) dX3_signedDigit_15 rfl (by decide) (fun h15 => ?_) (fun h15 => ?_)
    · skip
      have h15 := dig_s.mp h15
      obtain ⟨v, hv⟩ := Option.isSome_iff_exists.mp h15
      refine WE.iload_n (n := 22) dX3_signedDigit_21 rfl rfl ?_
      refine WE.if_eqB (n := 25) (tgt := 30) dX3_signedDigit_22 rfl (by decide) (fun h22 => ?_) (fun h22 => ?_)
      · skip
        exact absurd hm h22
      · skip
        refine WE.iload_n (n := 26) dX3_signedDigit_25 rfl rfl ?_
        refine WE.ineg (n := 27) dX3_signedDigit_26 rfl ?_
        refine WE.goto (tgt := 31) dX3_signedDigit_27 (by decide) ?_
        refine WE.iret (ty := .int) dX3_signedDigit_31 rfl rfl ⟨by decide, by decide⟩ ?_
        have hd := pDig_t h15
        have e : pSgn (c0 390) n p = (p + 2, some (-(c0 390 (p + 1) - nI 48))) := by unfold pSgn; rw [if_pos hm, if_pos hd]
        rw [pDig_p hd] at A8
        refine PI.mk ⟨_, rfl, ?_, ?_, B3.tr B8⟩
        · rw [e, pDig_p hd]
          rfl
        · rw [e]
          exact A8
    · skip
      have h15 : ¬ (pDig (c0 390) n (p + 1)).2.isSome = true := fun q => dig_s.mpr q h15
      refine WE.bipush (n := 20) ((-100 : Int32)) dX3_signedDigit_18 rfl (by decide) ?_
      refine WE.iret (ty := .int) dX3_signedDigit_20 rfl rfl ⟨by decide, by decide⟩ ?_
      have e : pSgn (c0 390) n p = (p + 1, none) := by unfold pSgn; rw [if_pos hm, if_neg (pDig_f h15).1]
      refine PI.mk ⟨_, rfl, ?_, ?_, B3.tr B8⟩
      · rw [e]
        rfl
      · rw [e]
        have := A8
        rwa [(pDig_f h15).2] at this
  · have A3' : CT c0 c3 n p o := by have := A3; rwa [if_neg hm] at this
    refine WE.istore_n (n := 7) dX3_signedDigit_6 rfl (by decide) ?_
    refine WE.aload_n (n := 8) dX3_signedDigit_7 rfl rfl ?_
    refine WE.V0PI (M' := mX3_digit) (n := 11) dX3_signedDigit_8 rfl cv_X3_52 (by first | decide | exact kd_bal (by assumption) | exact kd_let (by assumption) | assumption) ⟨⟨by decide, by decide⟩, by decide, by decide⟩ (Nat.le_of_ble_eq_true rfl) (c_digit od hn A3') (fun r8 σ8 q8 => ?_)
    obtain ⟨c8, rfl, rfl, A8, B8⟩ := q8
    refine WE.istore_n (n := 12) dX3_signedDigit_11 rfl (by decide) ?_
    refine WE.iload_n (n := 13) dX3_signedDigit_12 rfl rfl ?_
    refine WE.bipush (n := 15) ((-100 : Int32)) dX3_signedDigit_13 rfl (by decide) ?_
    refine WE.icmp_ne (n := 18) (tgt := 21) dX3_signedDigit_15 rfl (by decide) (fun h15 => ?_) (fun h15 => ?_)
    · skip
      have h15 := dig_s.mp h15
      obtain ⟨v, hv⟩ := Option.isSome_iff_exists.mp h15
      refine WE.iload_n (n := 22) dX3_signedDigit_21 rfl rfl ?_
      refine WE.if_eqB (n := 25) (tgt := 30) dX3_signedDigit_22 rfl (by decide) (fun h22 => ?_) (fun h22 => ?_)
      · skip
        refine WE.iload_n (n := 31) dX3_signedDigit_30 rfl rfl ?_
        refine WE.iret (ty := .int) dX3_signedDigit_31 rfl rfl ⟨by decide, by decide⟩ ?_
        have e : pSgn (c0 390) n p = pDig (c0 390) n p := by unfold pSgn; rw [if_neg hm]
        refine PI.mk ⟨_, rfl, ?_, ?_, B3.tr B8⟩
        · rw [e]
        · rw [e]
          exact A8
      · skip
        exact absurd h22 hm
    · skip
      have h15 : ¬ (pDig (c0 390) n p).2.isSome = true := fun q => dig_s.mpr q h15
      refine WE.bipush (n := 20) ((-100 : Int32)) dX3_signedDigit_18 rfl (by decide) ?_
      refine WE.iret (ty := .int) dX3_signedDigit_20 rfl rfl ⟨by decide, by decide⟩ ?_
      have e : pSgn (c0 390) n p = pDig (c0 390) n p := by unfold pSgn; rw [if_neg hm]
      refine PI.mk ⟨_, rfl, ?_, ?_, B3.tr B8⟩
      · rw [e, (pDig_f h15).2]
        rfl
      · rw [e]
        exact A8
  
set_option maxRecDepth 20000 in
set_option maxHeartbeats 1000000 in
theorem c_takeFirst (od : Int64 × UInt64) {c0 c : CC} {n p o : Nat} (h : CT c0 c n p o) (v : Int32) : CM mX3_takeFirst [.ref 389, .int v] (c, od) (RI (b2i (¬ v = (-100 : Int32))) (u2 c 392 o v, od)) := by
  refine CM.of [(0, .ref 389), (1, .int v)] rfl (by decide +kernel) rfl (Nat.le_of_ble_eq_true rfl) ?_
  refine WE.aload_n (n := 1) dX3_takeFirst_0 rfl rfl ?_
  refine WE.getR (n := 4) dX3_takeFirst_1 rfl fl_X3_19 ⟨by decide, by decide⟩ rfl (by first | decide | exact kd_bal (by assumption) | exact kd_let (by assumption) | assumption) ?_
  refine WE.aload_n (n := 5) dX3_takeFirst_4 rfl rfl ?_
  refine WE.getI (n := 8) dX3_takeFirst_5 rfl fl_X3_38 ⟨by decide, by decide, rfl⟩ (by first | decide | exact kd_bal (by assumption) | exact kd_let (by assumption) | assumption) ?_
  refine WE.iload_n (n := 9) dX3_takeFirst_8 rfl rfl ?_
  refine WE.iast (n := 10) o dX3_takeFirst_9 rfl (by first | decide | assumption) h.2.2.2.1 (by show _ < 20; exact h.2.2.2.2.1) ?_
  refine WE.iload_n (n := 11) dX3_takeFirst_10 rfl rfl ?_
  refine WE.bipush (n := 13) ((-100 : Int32)) dX3_takeFirst_11 rfl (by decide) ?_
  refine WE.icmp_eq (n := 16) (tgt := 20) dX3_takeFirst_13 rfl (by decide) (fun h13 => ?_) (fun h13 => ?_)
  · skip
    refine WE.iconst (n := 21) (nI 0) dX3_takeFirst_20 rfl (by decide) ?_
    refine WE.iret (ty := .boolean) dX3_takeFirst_21 rfl (by first | rfl | exact b2i_nar _ | decide) ⟨by decide, by decide⟩ ?_
    first | exact RI.mk (b2i_t (by first | exact h13 | exact fun q => h13 q)).symm rfl | exact RI.mk (b2i_f (fun q => q (by first | exact h13 | exact Classical.not_not.mp h13))).symm rfl
  · skip
    refine WE.iconst (n := 17) (nI 1) dX3_takeFirst_16 rfl (by decide) ?_
    refine WE.goto (tgt := 21) dX3_takeFirst_17 (by decide) ?_
    refine WE.iret (ty := .boolean) dX3_takeFirst_21 rfl (by first | rfl | exact b2i_nar _ | decide) ⟨by decide, by decide⟩ ?_
    first | exact RI.mk (b2i_t (by first | exact h13 | exact fun q => h13 q)).symm rfl | exact RI.mk (b2i_f (fun q => q (by first | exact h13 | exact Classical.not_not.mp h13))).symm rfl
set_option maxRecDepth 20000 in
set_option maxHeartbeats 1000000 in
theorem c_takeSecond (od : Int64 × UInt64) {c0 c : CC} {n p o : Nat} (h : CT c0 c n p o) (v : Int32) : CM mX3_takeSecond [.ref 389, .int v] (c, od) (RI (b2i (¬ v = (-100 : Int32))) (u2 c 393 o v, od)) := by
  refine CM.of [(0, .ref 389), (1, .int v)] rfl (by decide +kernel) rfl (Nat.le_of_ble_eq_true rfl) ?_
  refine WE.aload_n (n := 1) dX3_takeSecond_0 rfl rfl ?_
  refine WE.getR (n := 4) dX3_takeSecond_1 rfl fl_X3_22 ⟨by decide, by decide⟩ rfl (by first | decide | exact kd_bal (by assumption) | exact kd_let (by assumption) | assumption) ?_
  refine WE.aload_n (n := 5) dX3_takeSecond_4 rfl rfl ?_
  refine WE.getI (n := 8) dX3_takeSecond_5 rfl fl_X3_38 ⟨by decide, by decide, rfl⟩ (by first | decide | exact kd_bal (by assumption) | exact kd_let (by assumption) | assumption) ?_
  refine WE.iload_n (n := 9) dX3_takeSecond_8 rfl rfl ?_
  refine WE.iast (n := 10) o dX3_takeSecond_9 rfl (by first | decide | assumption) h.2.2.2.1 (by show _ < 20; exact h.2.2.2.2.1) ?_
  refine WE.iload_n (n := 11) dX3_takeSecond_10 rfl rfl ?_
  refine WE.bipush (n := 13) ((-100 : Int32)) dX3_takeSecond_11 rfl (by decide) ?_
  refine WE.icmp_eq (n := 16) (tgt := 20) dX3_takeSecond_13 rfl (by decide) (fun h13 => ?_) (fun h13 => ?_)
  · skip
    refine WE.iconst (n := 21) (nI 0) dX3_takeSecond_20 rfl (by decide) ?_
    refine WE.iret (ty := .boolean) dX3_takeSecond_21 rfl (by first | rfl | exact b2i_nar _ | decide) ⟨by decide, by decide⟩ ?_
    first | exact RI.mk (b2i_t (by first | exact h13 | exact fun q => h13 q)).symm rfl | exact RI.mk (b2i_f (fun q => q (by first | exact h13 | exact Classical.not_not.mp h13))).symm rfl
  · skip
    refine WE.iconst (n := 17) (nI 1) dX3_takeSecond_16 rfl (by decide) ?_
    refine WE.goto (tgt := 21) dX3_takeSecond_17 (by decide) ?_
    refine WE.iret (ty := .boolean) dX3_takeSecond_21 rfl (by first | rfl | exact b2i_nar _ | decide) ⟨by decide, by decide⟩ ?_
    first | exact RI.mk (b2i_t (by first | exact h13 | exact fun q => h13 q)).symm rfl | exact RI.mk (b2i_f (fun q => q (by first | exact h13 | exact Classical.not_not.mp h13))).symm rfl
set_option maxRecDepth 20000 in
set_option maxHeartbeats 1000000 in
theorem c_takeThird (od : Int64 × UInt64) {c0 c : CC} {n p o : Nat} (h : CT c0 c n p o) (v : Int32) : CM mX3_takeThird [.ref 389, .int v] (c, od) (RI (b2i (¬ v = (-100 : Int32))) (u2 c 394 o v, od)) := by
  refine CM.of [(0, .ref 389), (1, .int v)] rfl (by decide +kernel) rfl (Nat.le_of_ble_eq_true rfl) ?_
  refine WE.aload_n (n := 1) dX3_takeThird_0 rfl rfl ?_
  refine WE.getR (n := 4) dX3_takeThird_1 rfl fl_X3_25 ⟨by decide, by decide⟩ rfl (by first | decide | exact kd_bal (by assumption) | exact kd_let (by assumption) | assumption) ?_
  refine WE.aload_n (n := 5) dX3_takeThird_4 rfl rfl ?_
  refine WE.getI (n := 8) dX3_takeThird_5 rfl fl_X3_38 ⟨by decide, by decide, rfl⟩ (by first | decide | exact kd_bal (by assumption) | exact kd_let (by assumption) | assumption) ?_
  refine WE.iload_n (n := 9) dX3_takeThird_8 rfl rfl ?_
  refine WE.iast (n := 10) o dX3_takeThird_9 rfl (by first | decide | assumption) h.2.2.2.1 (by show _ < 20; exact h.2.2.2.2.1) ?_
  refine WE.iload_n (n := 11) dX3_takeThird_10 rfl rfl ?_
  refine WE.bipush (n := 13) ((-100 : Int32)) dX3_takeThird_11 rfl (by decide) ?_
  refine WE.icmp_eq (n := 16) (tgt := 20) dX3_takeThird_13 rfl (by decide) (fun h13 => ?_) (fun h13 => ?_)
  · skip
    refine WE.iconst (n := 21) (nI 0) dX3_takeThird_20 rfl (by decide) ?_
    refine WE.iret (ty := .boolean) dX3_takeThird_21 rfl (by first | rfl | exact b2i_nar _ | decide) ⟨by decide, by decide⟩ ?_
    first | exact RI.mk (b2i_t (by first | exact h13 | exact fun q => h13 q)).symm rfl | exact RI.mk (b2i_f (fun q => q (by first | exact h13 | exact Classical.not_not.mp h13))).symm rfl
  · skip
    refine WE.iconst (n := 17) (nI 1) dX3_takeThird_16 rfl (by decide) ?_
    refine WE.goto (tgt := 21) dX3_takeThird_17 (by decide) ?_
    refine WE.iret (ty := .boolean) dX3_takeThird_21 rfl (by first | rfl | exact b2i_nar _ | decide) ⟨by decide, by decide⟩ ?_
    first | exact RI.mk (b2i_t (by first | exact h13 | exact fun q => h13 q)).symm rfl | exact RI.mk (b2i_f (fun q => q (by first | exact h13 | exact Classical.not_not.mp h13))).symm rfl
def OrdC (c : CC) (o : Nat) (r : Ord) : Prop := c 391 o = r.1 ∧ c 392 o = r.2.1 ∧ (¬ (r.1 = nI 117 ∨ r.1 = nI 104) → c 393 o = r.2.2.1) ∧ (r.1 = nI 119 → c 394 o = r.2.2.2)
def POC (c0 : CC) (od : Int64 × UInt64) (n p o : Nat) : AO → SS → Prop := PI fun r σ => ∃ c', σ = (c', od) ∧ r = b2i ((pOrd (c0 390) n p).2.isSome = true) ∧ CT c0 c' n (pOrd (c0 390) n p).1 o ∧ ∀ q, (pOrd (c0 390) n p).2 = some q → OrdC c' o q
theorem POC.no {c0 c' : CC} {od : Int64 × UInt64} {n p o q : Nat} (e : pOrd (c0 390) n p = (q, none)) (h : CT c0 c' n q o) : POC c0 od n p o (.inl (some (.int (nI 0)))) (c', od) := by
  refine ⟨_, rfl, c', rfl, ?_, ?_, ?_⟩
  · rw [e]; rfl
  · rw [e]; exact h
  · rw [e]; intro o h; cases h
theorem POC.yes {c0 c' : CC} {od : Int64 × UInt64} {n p o q : Nat} {r : Ord} (e : pOrd (c0 390) n p = (q, some r)) (h : CT c0 c' n q o) (ho : OrdC c' o r) : POC c0 od n p o (.inl (some (.int (nI 1)))) (c', od) := by
  refine ⟨_, rfl, c', rfl, ?_, ?_, ?_⟩
  · rw [e]; rfl
  · rw [e]; exact h
  · rw [e]; intro o h; cases h; exact ho
theorem POC.one {c0 c' : CC} {od : Int64 × UInt64} {n p o : Nat} {R : PR} {k : Int32} (e : pOrd (c0 390) n p = oOne k R) (hk : k = nI 117 ∨ k = nI 104) (h : CT c0 c' n R.1 o) (h1 : c' 391 o = k) (h2 : c' 392 o = R.2.getD (-100 : Int32)) (hs : ¬ R.2.getD (-100 : Int32) = (-100 : Int32) ↔ R.2.isSome = true) : POC c0 od n p o (.inl (some (.int (b2i (¬ R.2.getD (-100 : Int32) = (-100 : Int32)))))) (c', od) := by
  refine ⟨_, rfl, c', rfl, ?_, ?_, ?_⟩
  · rw [e]
    by_cases q : R.2.isSome = true
    · rw [b2i_t (hs.mpr q), b2i_t (by simpa [oOne] using q)]
    · rw [b2i_f (fun z => q (hs.mp z)), b2i_f (by simpa [oOne] using q)]
  · rw [e]; exact h
  · rw [e]
    intro r hr
    obtain ⟨q, v⟩ := R
    cases v with
    | none => cases hr
    | some v =>
      cases hr
      refine ⟨h1, h2, fun q => absurd hk q, fun q => ?_⟩
      exfalso
      rcases hk with rfl | rfl
      · exact absurd (show nI 117 = nI 119 from q) (by decide)
      · exact absurd (show nI 104 = nI 119 from q) (by decide)
theorem getD_s {x : Option Int32} (h : x.isSome = true) : x.getD (-100 : Int32) = x.getD (nI 0) := by
  cases x with
  | none => cases h
  | some v => rfl
theorem CT.tr {c0 c : CC} {n p o : Nat} {x : Int32} (h : CT c0 c n (if p < n ∧ c0 390 p = x then p + 1 else p) o) (q : p < n ∧ c0 390 p = x) : CT c0 c n (p + 1) o := by
  rw [if_pos q] at h
  exact h
theorem CT.fl {c0 c : CC} {n p o : Nat} {x : Int32} (h : CT c0 c n (if p < n ∧ c0 390 p = x then p + 1 else p) o) (q : ¬ (p < n ∧ c0 390 p = x)) : CT c0 c n p o := by
  rw [if_neg q] at h
  exact h
set_option maxRecDepth 20000 in
set_option maxHeartbeats 1000000 in
theorem c_takeOrder (od : Int64 × UInt64) {c0 c : CC} {n p o : Nat} (hn : n ≤ 60) (h : CT c0 c n p o) : CM mX3_takeOrder [.ref 389] (c, od) (POC c0 od n p o) := by
  refine CM.of [(0, .ref 389)] rfl (by decide +kernel) rfl (Nat.le_of_ble_eq_true rfl) ?_
  refine WE.aload_n (n := 1) dX3_takeOrder_0 rfl rfl ?_
  refine WE.getI (n := 4) dX3_takeOrder_1 rfl fl_X3_35 ⟨by decide, by decide, rfl⟩ (by first | decide | exact kd_bal (by assumption) | exact kd_let (by assumption) | assumption) ?_
  refine WE.aload_n (n := 5) dX3_takeOrder_4 rfl rfl ?_
  refine WE.getI (n := 8) dX3_takeOrder_5 rfl fl_X3_32 ⟨by decide, by decide, rfl⟩ (by first | decide | exact kd_bal (by assumption) | exact kd_let (by assumption) | assumption) ?_
  refine WE.icmp_lt (n := 11) (tgt := 13) dX3_takeOrder_8 rfl (by decide) (fun h8 => ?_) (fun h8 => ?_)
  · skip
    have hp : p < n := by rw [h.2.1, h.1] at h8; rw [nI_ltI (by have := h.2.2.1; omega) (by omega)] at h8; exact h8
    refine WE.aload_n (n := 14) dX3_takeOrder_13 rfl rfl ?_
    refine WE.getR (n := 17) dX3_takeOrder_14 rfl fl_X3_9 ⟨by decide, by decide⟩ rfl (by first | decide | exact kd_bal (by assumption) | exact kd_let (by assumption) | assumption) ?_
    refine WE.aload_n (n := 18) dX3_takeOrder_17 rfl rfl ?_
    refine WE.getI (n := 21) dX3_takeOrder_18 rfl fl_X3_35 ⟨by decide, by decide, rfl⟩ (by first | decide | exact kd_bal (by assumption) | exact kd_let (by assumption) | assumption) ?_
    refine WE.cald (n := 22) p dX3_takeOrder_21 rfl (by first | decide | assumption) h.2.1 (by show _ < 60; omega) ?_
    refine WE.istore_n (n := 23) dX3_takeOrder_22 rfl (by decide) ?_
    refine WE.aload_n (n := 24) dX3_takeOrder_23 rfl rfl ?_
    refine WE.getR (n := 27) dX3_takeOrder_24 rfl fl_X3_15 ⟨by decide, by decide⟩ rfl (by first | decide | exact kd_bal (by assumption) | exact kd_let (by assumption) | assumption) ?_
    refine WE.aload_n (n := 28) dX3_takeOrder_27 rfl rfl ?_
    refine WE.getI (n := 31) dX3_takeOrder_28 rfl fl_X3_38 ⟨by decide, by decide, rfl⟩ (by first | decide | exact kd_bal (by assumption) | exact kd_let (by assumption) | assumption) ?_
    refine WE.iload_n (n := 32) dX3_takeOrder_31 rfl rfl ?_
    refine WE.iast (n := 33) o dX3_takeOrder_32 rfl (by first | decide | assumption) h.2.2.2.1 (by show _ < 20; exact h.2.2.2.2.1) ?_
    refine WE.iload_n (n := 34) dX3_takeOrder_33 rfl rfl ?_
    have hx0 : c 390 p = c0 390 p := congrFun h.T p
    by_cases hr : nI 98 ≤ c 390 p ∧ c 390 p ≤ nI 119
    · obtain ⟨k, hk1, hk2, hk⟩ := in1_of (by decide) (by decide) hr
      rcases (show k = 98 ∨ k = 99 ∨ k = 100 ∨ k = 101 ∨ k = 102 ∨ k = 103 ∨ k = 104 ∨ k = 105 ∨ k = 106 ∨ k = 107 ∨ k = 108 ∨ k = 109 ∨ k = 110 ∨ k = 111 ∨ k = 112 ∨ k = 113 ∨ k = 114 ∨ k = 115 ∨ k = 116 ∨ k = 117 ∨ k = 118 ∨ k = 119 by omega) with rfl | rfl | rfl | rfl | rfl | rfl | rfl | rfl | rfl | rfl | rfl | rfl | rfl | rfl | rfl | rfl | rfl | rfl | rfl | rfl | rfl | rfl
      · have hx : c0 390 p = nI 98 := hx0.symm.trans hk
        refine WE.tsw (tgt := 183) dX3_takeOrder_34 98 (by show (c 390 p).toInt = _; rw [hk]; decide) (by decide) (by decide) rfl (by decide) ?_
        refine WE.aload_n (n := 184) dX3_takeOrder_183 rfl rfl ?_
        refine WE.dup (n := 185) dX3_takeOrder_184 rfl rfl ?_
        refine WE.getI (n := 188) dX3_takeOrder_185 rfl fl_X3_35 ⟨by decide, by decide, rfl⟩ (by first | decide | exact kd_bal (by assumption) | exact kd_let (by assumption) | assumption) ?_
        refine WE.iconst (n := 189) (nI 1) dX3_takeOrder_188 rfl (by decide) ?_
        refine WE.iadd (n := 190) dX3_takeOrder_189 rfl ?_
        refine WE.putI (n := 193) dX3_takeOrder_190 rfl fl_X3_35 ⟨by decide, by decide, rfl, rfl⟩ ⟨by first | rfl | decide, by first | rfl | decide⟩ (by first | decide | exact kd_bal (by assumption) | exact kd_let (by assumption) | assumption) ?_
        refine WE.aload_n (n := 194) dX3_takeOrder_193 rfl rfl ?_
        refine WE.aload_n (n := 195) dX3_takeOrder_194 rfl rfl ?_
        refine WE.V0PI (M' := mX3_digit) (n := 198) dX3_takeOrder_195 rfl cv_X3_52 (by first | decide | exact kd_bal (by assumption) | exact kd_let (by assumption) | assumption) ⟨⟨by decide, by decide⟩, by decide, by decide⟩ (Nat.le_of_ble_eq_true rfl) (c_digit od hn (CT.up (CT.st h (a := 391) (by decide) (c 390 p)) hp)) (fun r195 σ195 q195 => ?_)
        obtain ⟨c195, rfl, rfl, A195, B195⟩ := q195
        refine WE.V1I (M' := mX3_takeFirst) (n := 201) dX3_takeOrder_198 rfl cv_X3_56 (by first | decide | exact kd_bal (by assumption) | exact kd_let (by assumption) | assumption) ⟨⟨by decide, by decide⟩, by decide, by decide⟩ (Nat.le_of_ble_eq_true rfl) (c_takeFirst od A195 _) ?_
        refine WE.if_eqB (n := 204) (tgt := 228) dX3_takeOrder_201 rfl (by decide) (fun h201 => ?_) (fun h201 => ?_)
        · skip
          have h201 := mt dig_s.mpr h201
          refine WE.iconst (n := 229) (nI 0) dX3_takeOrder_228 rfl (by decide) ?_
          refine WE.iret (ty := .boolean) dX3_takeOrder_229 rfl (by first | rfl | exact b2i_nar _ | decide) ⟨by decide, by decide⟩ ?_
          first
            | exact POC.no (e := by simp only [pOrd, hp, hx, show ¬ nI 98 = nI 102 by decide, ↓reduceIte, oPair, pPair, h201, Option.map_some, Option.map_none, and_self, Bool.false_eq_true]) (A195.st (by decide) _)
            | exact POC.yes (r := (nI 98, (pDig (c0 390) n (p + 1)).2.getD (nI 0), (pNum (c0 390) n ((pDig (c0 390) n (p + 1)).1 + 1)).2.getD (nI 0), nI 0)) (e := by simp only [pOrd, hp, hx, show ¬ nI 98 = nI 102 by decide, ↓reduceIte, oPair, pPair, h201, Option.map_some, Option.map_none, and_self, Bool.false_eq_true]) (A215.st (by decide) _) ⟨by rw [u2_ne _ _ (by omega), B215 _ _ (by omega), B207 _ _ (by omega), u2_ne _ _ (by omega), B195 _ _ (by omega), u2_ne _ _ (by omega), u2_eq, congrFun h.T p, hx], by rw [u2_ne _ _ (by omega), B215 _ _ (by omega), B207 _ _ (by omega), u2_eq, getD_s h201], fun _ => by rw [u2_eq, getD_s h221], fun q => absurd q (show ¬ nI 98 = nI 119 by decide)⟩
        · skip
          have h201 := dig_s.mp h201
          refine WE.aload_n (n := 205) dX3_takeOrder_204 rfl rfl ?_
          refine WE.bipush (n := 207) (nI 43) dX3_takeOrder_205 rfl (by decide) ?_
          refine WE.V1PI (M' := mX3_take) (n := 210) dX3_takeOrder_207 rfl cv_X3_48 (by first | decide | exact kd_bal (by assumption) | exact kd_let (by assumption) | assumption) ⟨⟨by decide, by decide⟩, by decide, by decide⟩ (Nat.le_of_ble_eq_true rfl) (c_take od hn (A195.st (a := 392) (by decide) _) (nI 43)) (fun r207 σ207 q207 => ?_)
          obtain ⟨c207, rfl, rfl, A207, B207⟩ := q207
          refine WE.if_eqB (n := 213) (tgt := 228) dX3_takeOrder_210 rfl (by decide) (fun h210 => ?_) (fun h210 => ?_)
          · skip
            refine WE.iconst (n := 229) (nI 0) dX3_takeOrder_228 rfl (by decide) ?_
            refine WE.iret (ty := .boolean) dX3_takeOrder_229 rfl (by first | rfl | exact b2i_nar _ | decide) ⟨by decide, by decide⟩ ?_
            first
              | exact POC.no (e := by simp only [pOrd, hp, hx, show ¬ nI 98 = nI 102 by decide, ↓reduceIte, oPair, pPair, h201, h210, Option.map_some, Option.map_none, and_self, Bool.false_eq_true]) (A207.fl h210)
              | exact POC.yes (r := (nI 98, (pDig (c0 390) n (p + 1)).2.getD (nI 0), (pNum (c0 390) n ((pDig (c0 390) n (p + 1)).1 + 1)).2.getD (nI 0), nI 0)) (e := by simp only [pOrd, hp, hx, show ¬ nI 98 = nI 102 by decide, ↓reduceIte, oPair, pPair, h201, h210, Option.map_some, Option.map_none, and_self, Bool.false_eq_true]) (A215.st (by decide) _) ⟨by rw [u2_ne _ _ (by omega), B215 _ _ (by omega), B207 _ _ (by omega), u2_ne _ _ (by omega), B195 _ _ (by omega), u2_ne _ _ (by omega), u2_eq, congrFun h.T p, hx], by rw [u2_ne _ _ (by omega), B215 _ _ (by omega), B207 _ _ (by omega), u2_eq, getD_s h201], fun _ => by rw [u2_eq, getD_s h221], fun q => absurd q (show ¬ nI 98 = nI 119 by decide)⟩
          · skip
            refine WE.aload_n (n := 214) dX3_takeOrder_213 rfl rfl ?_
            refine WE.aload_n (n := 215) dX3_takeOrder_214 rfl rfl ?_
            refine WE.V0PI (M' := mX3_number) (n := 218) dX3_takeOrder_215 rfl cv_X3_60 (by first | decide | exact kd_bal (by assumption) | exact kd_let (by assumption) | assumption) ⟨⟨by decide, by decide⟩, by decide, by decide⟩ (Nat.le_of_ble_eq_true rfl) (c_number od hn (A207.tr h210)) (fun r215 σ215 q215 => ?_)
            obtain ⟨c215, rfl, rfl, A215, B215⟩ := q215
            refine WE.V1I (M' := mX3_takeSecond) (n := 221) dX3_takeOrder_218 rfl cv_X3_63 (by first | decide | exact kd_bal (by assumption) | exact kd_let (by assumption) | assumption) ⟨⟨by decide, by decide⟩, by decide, by decide⟩ (Nat.le_of_ble_eq_true rfl) (c_takeSecond od A215 _) ?_
            refine WE.if_eqB (n := 224) (tgt := 228) dX3_takeOrder_221 rfl (by decide) (fun h221 => ?_) (fun h221 => ?_)
            · skip
              have h221 := mt num_s.mpr h221
              refine WE.iconst (n := 229) (nI 0) dX3_takeOrder_228 rfl (by decide) ?_
              refine WE.iret (ty := .boolean) dX3_takeOrder_229 rfl (by first | rfl | exact b2i_nar _ | decide) ⟨by decide, by decide⟩ ?_
              first
                | exact POC.no (e := by simp only [pOrd, hp, hx, show ¬ nI 98 = nI 102 by decide, ↓reduceIte, oPair, pPair, h201, h210, h221, Option.map_some, Option.map_none, and_self, Bool.false_eq_true]) (A215.st (by decide) _)
                | exact POC.yes (r := (nI 98, (pDig (c0 390) n (p + 1)).2.getD (nI 0), (pNum (c0 390) n ((pDig (c0 390) n (p + 1)).1 + 1)).2.getD (nI 0), nI 0)) (e := by simp only [pOrd, hp, hx, show ¬ nI 98 = nI 102 by decide, ↓reduceIte, oPair, pPair, h201, h210, h221, Option.map_some, Option.map_none, and_self, Bool.false_eq_true]) (A215.st (by decide) _) ⟨by rw [u2_ne _ _ (by omega), B215 _ _ (by omega), B207 _ _ (by omega), u2_ne _ _ (by omega), B195 _ _ (by omega), u2_ne _ _ (by omega), u2_eq, congrFun h.T p, hx], by rw [u2_ne _ _ (by omega), B215 _ _ (by omega), B207 _ _ (by omega), u2_eq, getD_s h201], fun _ => by rw [u2_eq, getD_s h221], fun q => absurd q (show ¬ nI 98 = nI 119 by decide)⟩
            · skip
              have h221 := num_s.mp h221
              refine WE.iconst (n := 225) (nI 1) dX3_takeOrder_224 rfl (by decide) ?_
              refine WE.goto (tgt := 229) dX3_takeOrder_225 (by decide) ?_
              refine WE.iret (ty := .boolean) dX3_takeOrder_229 rfl (by first | rfl | exact b2i_nar _ | decide) ⟨by decide, by decide⟩ ?_
              first
                | exact POC.no (e := by simp only [pOrd, hp, hx, show ¬ nI 98 = nI 102 by decide, ↓reduceIte, oPair, pPair, h201, h210, h221, Option.map_some, Option.map_none, and_self, Bool.false_eq_true]) (A215.st (by decide) _)
                | exact POC.yes (r := (nI 98, (pDig (c0 390) n (p + 1)).2.getD (nI 0), (pNum (c0 390) n ((pDig (c0 390) n (p + 1)).1 + 1)).2.getD (nI 0), nI 0)) (e := by simp only [pOrd, hp, hx, show ¬ nI 98 = nI 102 by decide, ↓reduceIte, oPair, pPair, h201, h210, h221, Option.map_some, Option.map_none, and_self, Bool.false_eq_true]) (A215.st (by decide) _) ⟨by rw [u2_ne _ _ (by omega), B215 _ _ (by omega), B207 _ _ (by omega), u2_ne _ _ (by omega), B195 _ _ (by omega), u2_ne _ _ (by omega), u2_eq, congrFun h.T p, hx], by rw [u2_ne _ _ (by omega), B215 _ _ (by omega), B207 _ _ (by omega), u2_eq, getD_s h201], fun _ => by rw [u2_eq, getD_s h221], fun q => absurd q (show ¬ nI 98 = nI 119 by decide)⟩
      · have hx : c0 390 p = nI 99 := hx0.symm.trans hk
        refine WE.tsw (tgt := 429) dX3_takeOrder_34 99 (by show (c 390 p).toInt = _; rw [hk]; decide) (by decide) (by decide) rfl (by decide) ?_
        refine WE.iconst (n := 430) (nI 0) dX3_takeOrder_429 rfl (by decide) ?_
        refine WE.iret (ty := .boolean) dX3_takeOrder_430 rfl (by first | rfl | exact b2i_nar _ | decide) ⟨by decide, by decide⟩ ?_
        exact POC.no (e := by simp only [pOrd, hp, hx, show ¬ nI 99 = nI 102 by decide, show ¬ nI 99 = nI 98 by decide, show ¬ nI 99 = nI 100 by decide, show ¬ nI 99 = nI 108 by decide, show ¬ nI 99 = nI 117 by decide, show ¬ nI 99 = nI 104 by decide, show ¬ nI 99 = nI 119 by decide, ↓reduceIte]) (h.st (by decide) _)
      · have hx : c0 390 p = nI 100 := hx0.symm.trans hk
        refine WE.tsw (tgt := 230) dX3_takeOrder_34 100 (by show (c 390 p).toInt = _; rw [hk]; decide) (by decide) (by decide) rfl (by decide) ?_
        refine WE.aload_n (n := 231) dX3_takeOrder_230 rfl rfl ?_
        refine WE.dup (n := 232) dX3_takeOrder_231 rfl rfl ?_
        refine WE.getI (n := 235) dX3_takeOrder_232 rfl fl_X3_35 ⟨by decide, by decide, rfl⟩ (by first | decide | exact kd_bal (by assumption) | exact kd_let (by assumption) | assumption) ?_
        refine WE.iconst (n := 236) (nI 1) dX3_takeOrder_235 rfl (by decide) ?_
        refine WE.iadd (n := 237) dX3_takeOrder_236 rfl ?_
        refine WE.putI (n := 240) dX3_takeOrder_237 rfl fl_X3_35 ⟨by decide, by decide, rfl, rfl⟩ ⟨by first | rfl | decide, by first | rfl | decide⟩ (by first | decide | exact kd_bal (by assumption) | exact kd_let (by assumption) | assumption) ?_
        refine WE.aload_n (n := 241) dX3_takeOrder_240 rfl rfl ?_
        refine WE.aload_n (n := 242) dX3_takeOrder_241 rfl rfl ?_
        refine WE.V0PI (M' := mX3_digit) (n := 245) dX3_takeOrder_242 rfl cv_X3_52 (by first | decide | exact kd_bal (by assumption) | exact kd_let (by assumption) | assumption) ⟨⟨by decide, by decide⟩, by decide, by decide⟩ (Nat.le_of_ble_eq_true rfl) (c_digit od hn (CT.up (CT.st h (a := 391) (by decide) (c 390 p)) hp)) (fun r242 σ242 q242 => ?_)
        obtain ⟨c242, rfl, rfl, A242, B242⟩ := q242
        refine WE.V1I (M' := mX3_takeFirst) (n := 248) dX3_takeOrder_245 rfl cv_X3_56 (by first | decide | exact kd_bal (by assumption) | exact kd_let (by assumption) | assumption) ⟨⟨by decide, by decide⟩, by decide, by decide⟩ (Nat.le_of_ble_eq_true rfl) (c_takeFirst od A242 _) ?_
        refine WE.if_eqB (n := 251) (tgt := 275) dX3_takeOrder_248 rfl (by decide) (fun h248 => ?_) (fun h248 => ?_)
        · skip
          have h248 := mt dig_s.mpr h248
          refine WE.iconst (n := 276) (nI 0) dX3_takeOrder_275 rfl (by decide) ?_
          refine WE.iret (ty := .boolean) dX3_takeOrder_276 rfl (by first | rfl | exact b2i_nar _ | decide) ⟨by decide, by decide⟩ ?_
          first
            | exact POC.no (e := by simp only [pOrd, hp, hx, show ¬ nI 100 = nI 102 by decide, show ¬ nI 100 = nI 98 by decide, ↓reduceIte, oPair, pPair, h248, Option.map_some, Option.map_none, and_self, Bool.false_eq_true]) (A242.st (by decide) _)
            | exact POC.yes (r := (nI 100, (pDig (c0 390) n (p + 1)).2.getD (nI 0), (pNum (c0 390) n ((pDig (c0 390) n (p + 1)).1 + 1)).2.getD (nI 0), nI 0)) (e := by simp only [pOrd, hp, hx, show ¬ nI 100 = nI 102 by decide, show ¬ nI 100 = nI 98 by decide, ↓reduceIte, oPair, pPair, h248, Option.map_some, Option.map_none, and_self, Bool.false_eq_true]) (A262.st (by decide) _) ⟨by rw [u2_ne _ _ (by omega), B262 _ _ (by omega), B254 _ _ (by omega), u2_ne _ _ (by omega), B242 _ _ (by omega), u2_ne _ _ (by omega), u2_eq, congrFun h.T p, hx], by rw [u2_ne _ _ (by omega), B262 _ _ (by omega), B254 _ _ (by omega), u2_eq, getD_s h248], fun _ => by rw [u2_eq, getD_s h268], fun q => absurd q (show ¬ nI 100 = nI 119 by decide)⟩
        · skip
          have h248 := dig_s.mp h248
          refine WE.aload_n (n := 252) dX3_takeOrder_251 rfl rfl ?_
          refine WE.bipush (n := 254) (nI 45) dX3_takeOrder_252 rfl (by decide) ?_
          refine WE.V1PI (M' := mX3_take) (n := 257) dX3_takeOrder_254 rfl cv_X3_48 (by first | decide | exact kd_bal (by assumption) | exact kd_let (by assumption) | assumption) ⟨⟨by decide, by decide⟩, by decide, by decide⟩ (Nat.le_of_ble_eq_true rfl) (c_take od hn (A242.st (a := 392) (by decide) _) (nI 45)) (fun r254 σ254 q254 => ?_)
          obtain ⟨c254, rfl, rfl, A254, B254⟩ := q254
          refine WE.if_eqB (n := 260) (tgt := 275) dX3_takeOrder_257 rfl (by decide) (fun h257 => ?_) (fun h257 => ?_)
          · skip
            refine WE.iconst (n := 276) (nI 0) dX3_takeOrder_275 rfl (by decide) ?_
            refine WE.iret (ty := .boolean) dX3_takeOrder_276 rfl (by first | rfl | exact b2i_nar _ | decide) ⟨by decide, by decide⟩ ?_
            first
              | exact POC.no (e := by simp only [pOrd, hp, hx, show ¬ nI 100 = nI 102 by decide, show ¬ nI 100 = nI 98 by decide, ↓reduceIte, oPair, pPair, h248, h257, Option.map_some, Option.map_none, and_self, Bool.false_eq_true]) (A254.fl h257)
              | exact POC.yes (r := (nI 100, (pDig (c0 390) n (p + 1)).2.getD (nI 0), (pNum (c0 390) n ((pDig (c0 390) n (p + 1)).1 + 1)).2.getD (nI 0), nI 0)) (e := by simp only [pOrd, hp, hx, show ¬ nI 100 = nI 102 by decide, show ¬ nI 100 = nI 98 by decide, ↓reduceIte, oPair, pPair, h248, h257, Option.map_some, Option.map_none, and_self, Bool.false_eq_true]) (A262.st (by decide) _) ⟨by rw [u2_ne _ _ (by omega), B262 _ _ (by omega), B254 _ _ (by omega), u2_ne _ _ (by omega), B242 _ _ (by omega), u2_ne _ _ (by omega), u2_eq, congrFun h.T p, hx], by rw [u2_ne _ _ (by omega), B262 _ _ (by omega), B254 _ _ (by omega), u2_eq, getD_s h248], fun _ => by rw [u2_eq, getD_s h268], fun q => absurd q (show ¬ nI 100 = nI 119 by decide)⟩
          · skip
            refine WE.aload_n (n := 261) dX3_takeOrder_260 rfl rfl ?_
            refine WE.aload_n (n := 262) dX3_takeOrder_261 rfl rfl ?_
            refine WE.V0PI (M' := mX3_number) (n := 265) dX3_takeOrder_262 rfl cv_X3_60 (by first | decide | exact kd_bal (by assumption) | exact kd_let (by assumption) | assumption) ⟨⟨by decide, by decide⟩, by decide, by decide⟩ (Nat.le_of_ble_eq_true rfl) (c_number od hn (A254.tr h257)) (fun r262 σ262 q262 => ?_)
            obtain ⟨c262, rfl, rfl, A262, B262⟩ := q262
            refine WE.V1I (M' := mX3_takeSecond) (n := 268) dX3_takeOrder_265 rfl cv_X3_63 (by first | decide | exact kd_bal (by assumption) | exact kd_let (by assumption) | assumption) ⟨⟨by decide, by decide⟩, by decide, by decide⟩ (Nat.le_of_ble_eq_true rfl) (c_takeSecond od A262 _) ?_
            refine WE.if_eqB (n := 271) (tgt := 275) dX3_takeOrder_268 rfl (by decide) (fun h268 => ?_) (fun h268 => ?_)
            · skip
              have h268 := mt num_s.mpr h268
              refine WE.iconst (n := 276) (nI 0) dX3_takeOrder_275 rfl (by decide) ?_
              refine WE.iret (ty := .boolean) dX3_takeOrder_276 rfl (by first | rfl | exact b2i_nar _ | decide) ⟨by decide, by decide⟩ ?_
              first
                | exact POC.no (e := by simp only [pOrd, hp, hx, show ¬ nI 100 = nI 102 by decide, show ¬ nI 100 = nI 98 by decide, ↓reduceIte, oPair, pPair, h248, h257, h268, Option.map_some, Option.map_none, and_self, Bool.false_eq_true]) (A262.st (by decide) _)
                | exact POC.yes (r := (nI 100, (pDig (c0 390) n (p + 1)).2.getD (nI 0), (pNum (c0 390) n ((pDig (c0 390) n (p + 1)).1 + 1)).2.getD (nI 0), nI 0)) (e := by simp only [pOrd, hp, hx, show ¬ nI 100 = nI 102 by decide, show ¬ nI 100 = nI 98 by decide, ↓reduceIte, oPair, pPair, h248, h257, h268, Option.map_some, Option.map_none, and_self, Bool.false_eq_true]) (A262.st (by decide) _) ⟨by rw [u2_ne _ _ (by omega), B262 _ _ (by omega), B254 _ _ (by omega), u2_ne _ _ (by omega), B242 _ _ (by omega), u2_ne _ _ (by omega), u2_eq, congrFun h.T p, hx], by rw [u2_ne _ _ (by omega), B262 _ _ (by omega), B254 _ _ (by omega), u2_eq, getD_s h248], fun _ => by rw [u2_eq, getD_s h268], fun q => absurd q (show ¬ nI 100 = nI 119 by decide)⟩
            · skip
              have h268 := num_s.mp h268
              refine WE.iconst (n := 272) (nI 1) dX3_takeOrder_271 rfl (by decide) ?_
              refine WE.goto (tgt := 276) dX3_takeOrder_272 (by decide) ?_
              refine WE.iret (ty := .boolean) dX3_takeOrder_276 rfl (by first | rfl | exact b2i_nar _ | decide) ⟨by decide, by decide⟩ ?_
              first
                | exact POC.no (e := by simp only [pOrd, hp, hx, show ¬ nI 100 = nI 102 by decide, show ¬ nI 100 = nI 98 by decide, ↓reduceIte, oPair, pPair, h248, h257, h268, Option.map_some, Option.map_none, and_self, Bool.false_eq_true]) (A262.st (by decide) _)
                | exact POC.yes (r := (nI 100, (pDig (c0 390) n (p + 1)).2.getD (nI 0), (pNum (c0 390) n ((pDig (c0 390) n (p + 1)).1 + 1)).2.getD (nI 0), nI 0)) (e := by simp only [pOrd, hp, hx, show ¬ nI 100 = nI 102 by decide, show ¬ nI 100 = nI 98 by decide, ↓reduceIte, oPair, pPair, h248, h257, h268, Option.map_some, Option.map_none, and_self, Bool.false_eq_true]) (A262.st (by decide) _) ⟨by rw [u2_ne _ _ (by omega), B262 _ _ (by omega), B254 _ _ (by omega), u2_ne _ _ (by omega), B242 _ _ (by omega), u2_ne _ _ (by omega), u2_eq, congrFun h.T p, hx], by rw [u2_ne _ _ (by omega), B262 _ _ (by omega), B254 _ _ (by omega), u2_eq, getD_s h248], fun _ => by rw [u2_eq, getD_s h268], fun q => absurd q (show ¬ nI 100 = nI 119 by decide)⟩
      · have hx : c0 390 p = nI 101 := hx0.symm.trans hk
        refine WE.tsw (tgt := 429) dX3_takeOrder_34 101 (by show (c 390 p).toInt = _; rw [hk]; decide) (by decide) (by decide) rfl (by decide) ?_
        refine WE.iconst (n := 430) (nI 0) dX3_takeOrder_429 rfl (by decide) ?_
        refine WE.iret (ty := .boolean) dX3_takeOrder_430 rfl (by first | rfl | exact b2i_nar _ | decide) ⟨by decide, by decide⟩ ?_
        exact POC.no (e := by simp only [pOrd, hp, hx, show ¬ nI 101 = nI 102 by decide, show ¬ nI 101 = nI 98 by decide, show ¬ nI 101 = nI 100 by decide, show ¬ nI 101 = nI 108 by decide, show ¬ nI 101 = nI 117 by decide, show ¬ nI 101 = nI 104 by decide, show ¬ nI 101 = nI 119 by decide, ↓reduceIte]) (h.st (by decide) _)
      · have hx : c0 390 p = nI 102 := hx0.symm.trans hk
        refine WE.tsw (tgt := 136) dX3_takeOrder_34 102 (by show (c 390 p).toInt = _; rw [hk]; decide) (by decide) (by decide) rfl (by decide) ?_
        refine WE.aload_n (n := 137) dX3_takeOrder_136 rfl rfl ?_
        refine WE.dup (n := 138) dX3_takeOrder_137 rfl rfl ?_
        refine WE.getI (n := 141) dX3_takeOrder_138 rfl fl_X3_35 ⟨by decide, by decide, rfl⟩ (by first | decide | exact kd_bal (by assumption) | exact kd_let (by assumption) | assumption) ?_
        refine WE.iconst (n := 142) (nI 1) dX3_takeOrder_141 rfl (by decide) ?_
        refine WE.iadd (n := 143) dX3_takeOrder_142 rfl ?_
        refine WE.putI (n := 146) dX3_takeOrder_143 rfl fl_X3_35 ⟨by decide, by decide, rfl, rfl⟩ ⟨by first | rfl | decide, by first | rfl | decide⟩ (by first | decide | exact kd_bal (by assumption) | exact kd_let (by assumption) | assumption) ?_
        refine WE.aload_n (n := 147) dX3_takeOrder_146 rfl rfl ?_
        refine WE.aload_n (n := 148) dX3_takeOrder_147 rfl rfl ?_
        refine WE.V0PI (M' := mX3_digit) (n := 151) dX3_takeOrder_148 rfl cv_X3_52 (by first | decide | exact kd_bal (by assumption) | exact kd_let (by assumption) | assumption) ⟨⟨by decide, by decide⟩, by decide, by decide⟩ (Nat.le_of_ble_eq_true rfl) (c_digit od hn (CT.up (CT.st h (a := 391) (by decide) (c 390 p)) hp)) (fun r148 σ148 q148 => ?_)
        obtain ⟨c148, rfl, rfl, A148, B148⟩ := q148
        refine WE.V1I (M' := mX3_takeFirst) (n := 154) dX3_takeOrder_151 rfl cv_X3_56 (by first | decide | exact kd_bal (by assumption) | exact kd_let (by assumption) | assumption) ⟨⟨by decide, by decide⟩, by decide, by decide⟩ (Nat.le_of_ble_eq_true rfl) (c_takeFirst od A148 _) ?_
        refine WE.if_eqB (n := 157) (tgt := 181) dX3_takeOrder_154 rfl (by decide) (fun h154 => ?_) (fun h154 => ?_)
        · skip
          have h154 := mt dig_s.mpr h154
          refine WE.iconst (n := 182) (nI 0) dX3_takeOrder_181 rfl (by decide) ?_
          refine WE.iret (ty := .boolean) dX3_takeOrder_182 rfl (by first | rfl | exact b2i_nar _ | decide) ⟨by decide, by decide⟩ ?_
          first
            | exact POC.no (e := by simp only [pOrd, hp, hx, ↓reduceIte, oPair, pPair, h154, Option.map_some, Option.map_none, and_self, Bool.false_eq_true]) (A148.st (by decide) _)
            | exact POC.yes (r := (nI 102, (pDig (c0 390) n (p + 1)).2.getD (nI 0), (pNum (c0 390) n ((pDig (c0 390) n (p + 1)).1 + 1)).2.getD (nI 0), nI 0)) (e := by simp only [pOrd, hp, hx, ↓reduceIte, oPair, pPair, h154, Option.map_some, Option.map_none, and_self, Bool.false_eq_true]) (A168.st (by decide) _) ⟨by rw [u2_ne _ _ (by omega), B168 _ _ (by omega), B160 _ _ (by omega), u2_ne _ _ (by omega), B148 _ _ (by omega), u2_ne _ _ (by omega), u2_eq, congrFun h.T p, hx], by rw [u2_ne _ _ (by omega), B168 _ _ (by omega), B160 _ _ (by omega), u2_eq, getD_s h154], fun _ => by rw [u2_eq, getD_s h174], fun q => absurd q (show ¬ nI 102 = nI 119 by decide)⟩
        · skip
          have h154 := dig_s.mp h154
          refine WE.aload_n (n := 158) dX3_takeOrder_157 rfl rfl ?_
          refine WE.bipush (n := 160) (nI 61) dX3_takeOrder_158 rfl (by decide) ?_
          refine WE.V1PI (M' := mX3_take) (n := 163) dX3_takeOrder_160 rfl cv_X3_48 (by first | decide | exact kd_bal (by assumption) | exact kd_let (by assumption) | assumption) ⟨⟨by decide, by decide⟩, by decide, by decide⟩ (Nat.le_of_ble_eq_true rfl) (c_take od hn (A148.st (a := 392) (by decide) _) (nI 61)) (fun r160 σ160 q160 => ?_)
          obtain ⟨c160, rfl, rfl, A160, B160⟩ := q160
          refine WE.if_eqB (n := 166) (tgt := 181) dX3_takeOrder_163 rfl (by decide) (fun h163 => ?_) (fun h163 => ?_)
          · skip
            refine WE.iconst (n := 182) (nI 0) dX3_takeOrder_181 rfl (by decide) ?_
            refine WE.iret (ty := .boolean) dX3_takeOrder_182 rfl (by first | rfl | exact b2i_nar _ | decide) ⟨by decide, by decide⟩ ?_
            first
              | exact POC.no (e := by simp only [pOrd, hp, hx, ↓reduceIte, oPair, pPair, h154, h163, Option.map_some, Option.map_none, and_self, Bool.false_eq_true]) (A160.fl h163)
              | exact POC.yes (r := (nI 102, (pDig (c0 390) n (p + 1)).2.getD (nI 0), (pNum (c0 390) n ((pDig (c0 390) n (p + 1)).1 + 1)).2.getD (nI 0), nI 0)) (e := by simp only [pOrd, hp, hx, ↓reduceIte, oPair, pPair, h154, h163, Option.map_some, Option.map_none, and_self, Bool.false_eq_true]) (A168.st (by decide) _) ⟨by rw [u2_ne _ _ (by omega), B168 _ _ (by omega), B160 _ _ (by omega), u2_ne _ _ (by omega), B148 _ _ (by omega), u2_ne _ _ (by omega), u2_eq, congrFun h.T p, hx], by rw [u2_ne _ _ (by omega), B168 _ _ (by omega), B160 _ _ (by omega), u2_eq, getD_s h154], fun _ => by rw [u2_eq, getD_s h174], fun q => absurd q (show ¬ nI 102 = nI 119 by decide)⟩
          · skip
            refine WE.aload_n (n := 167) dX3_takeOrder_166 rfl rfl ?_
            refine WE.aload_n (n := 168) dX3_takeOrder_167 rfl rfl ?_
            refine WE.V0PI (M' := mX3_number) (n := 171) dX3_takeOrder_168 rfl cv_X3_60 (by first | decide | exact kd_bal (by assumption) | exact kd_let (by assumption) | assumption) ⟨⟨by decide, by decide⟩, by decide, by decide⟩ (Nat.le_of_ble_eq_true rfl) (c_number od hn (A160.tr h163)) (fun r168 σ168 q168 => ?_)
            obtain ⟨c168, rfl, rfl, A168, B168⟩ := q168
            refine WE.V1I (M' := mX3_takeSecond) (n := 174) dX3_takeOrder_171 rfl cv_X3_63 (by first | decide | exact kd_bal (by assumption) | exact kd_let (by assumption) | assumption) ⟨⟨by decide, by decide⟩, by decide, by decide⟩ (Nat.le_of_ble_eq_true rfl) (c_takeSecond od A168 _) ?_
            refine WE.if_eqB (n := 177) (tgt := 181) dX3_takeOrder_174 rfl (by decide) (fun h174 => ?_) (fun h174 => ?_)
            · skip
              have h174 := mt num_s.mpr h174
              refine WE.iconst (n := 182) (nI 0) dX3_takeOrder_181 rfl (by decide) ?_
              refine WE.iret (ty := .boolean) dX3_takeOrder_182 rfl (by first | rfl | exact b2i_nar _ | decide) ⟨by decide, by decide⟩ ?_
              first
                | exact POC.no (e := by simp only [pOrd, hp, hx, ↓reduceIte, oPair, pPair, h154, h163, h174, Option.map_some, Option.map_none, and_self, Bool.false_eq_true]) (A168.st (by decide) _)
                | exact POC.yes (r := (nI 102, (pDig (c0 390) n (p + 1)).2.getD (nI 0), (pNum (c0 390) n ((pDig (c0 390) n (p + 1)).1 + 1)).2.getD (nI 0), nI 0)) (e := by simp only [pOrd, hp, hx, ↓reduceIte, oPair, pPair, h154, h163, h174, Option.map_some, Option.map_none, and_self, Bool.false_eq_true]) (A168.st (by decide) _) ⟨by rw [u2_ne _ _ (by omega), B168 _ _ (by omega), B160 _ _ (by omega), u2_ne _ _ (by omega), B148 _ _ (by omega), u2_ne _ _ (by omega), u2_eq, congrFun h.T p, hx], by rw [u2_ne _ _ (by omega), B168 _ _ (by omega), B160 _ _ (by omega), u2_eq, getD_s h154], fun _ => by rw [u2_eq, getD_s h174], fun q => absurd q (show ¬ nI 102 = nI 119 by decide)⟩
            · skip
              have h174 := num_s.mp h174
              refine WE.iconst (n := 178) (nI 1) dX3_takeOrder_177 rfl (by decide) ?_
              refine WE.goto (tgt := 182) dX3_takeOrder_178 (by decide) ?_
              refine WE.iret (ty := .boolean) dX3_takeOrder_182 rfl (by first | rfl | exact b2i_nar _ | decide) ⟨by decide, by decide⟩ ?_
              first
                | exact POC.no (e := by simp only [pOrd, hp, hx, ↓reduceIte, oPair, pPair, h154, h163, h174, Option.map_some, Option.map_none, and_self, Bool.false_eq_true]) (A168.st (by decide) _)
                | exact POC.yes (r := (nI 102, (pDig (c0 390) n (p + 1)).2.getD (nI 0), (pNum (c0 390) n ((pDig (c0 390) n (p + 1)).1 + 1)).2.getD (nI 0), nI 0)) (e := by simp only [pOrd, hp, hx, ↓reduceIte, oPair, pPair, h154, h163, h174, Option.map_some, Option.map_none, and_self, Bool.false_eq_true]) (A168.st (by decide) _) ⟨by rw [u2_ne _ _ (by omega), B168 _ _ (by omega), B160 _ _ (by omega), u2_ne _ _ (by omega), B148 _ _ (by omega), u2_ne _ _ (by omega), u2_eq, congrFun h.T p, hx], by rw [u2_ne _ _ (by omega), B168 _ _ (by omega), B160 _ _ (by omega), u2_eq, getD_s h154], fun _ => by rw [u2_eq, getD_s h174], fun q => absurd q (show ¬ nI 102 = nI 119 by decide)⟩
      · have hx : c0 390 p = nI 103 := hx0.symm.trans hk
        refine WE.tsw (tgt := 429) dX3_takeOrder_34 103 (by show (c 390 p).toInt = _; rw [hk]; decide) (by decide) (by decide) rfl (by decide) ?_
        refine WE.iconst (n := 430) (nI 0) dX3_takeOrder_429 rfl (by decide) ?_
        refine WE.iret (ty := .boolean) dX3_takeOrder_430 rfl (by first | rfl | exact b2i_nar _ | decide) ⟨by decide, by decide⟩ ?_
        exact POC.no (e := by simp only [pOrd, hp, hx, show ¬ nI 103 = nI 102 by decide, show ¬ nI 103 = nI 98 by decide, show ¬ nI 103 = nI 100 by decide, show ¬ nI 103 = nI 108 by decide, show ¬ nI 103 = nI 117 by decide, show ¬ nI 103 = nI 104 by decide, show ¬ nI 103 = nI 119 by decide, ↓reduceIte]) (h.st (by decide) _)
      · have hx : c0 390 p = nI 104 := hx0.symm.trans hk
        refine WE.tsw (tgt := 343) dX3_takeOrder_34 104 (by show (c 390 p).toInt = _; rw [hk]; decide) (by decide) (by decide) rfl (by decide) ?_
        refine WE.aload_n (n := 344) dX3_takeOrder_343 rfl rfl ?_
        refine WE.dup (n := 345) dX3_takeOrder_344 rfl rfl ?_
        refine WE.getI (n := 348) dX3_takeOrder_345 rfl fl_X3_35 ⟨by decide, by decide, rfl⟩ (by first | decide | exact kd_bal (by assumption) | exact kd_let (by assumption) | assumption) ?_
        refine WE.iconst (n := 349) (nI 1) dX3_takeOrder_348 rfl (by decide) ?_
        refine WE.iadd (n := 350) dX3_takeOrder_349 rfl ?_
        refine WE.putI (n := 353) dX3_takeOrder_350 rfl fl_X3_35 ⟨by decide, by decide, rfl, rfl⟩ ⟨by first | rfl | decide, by first | rfl | decide⟩ (by first | decide | exact kd_bal (by assumption) | exact kd_let (by assumption) | assumption) ?_
        refine WE.aload_n (n := 354) dX3_takeOrder_353 rfl rfl ?_
        refine WE.aload_n (n := 355) dX3_takeOrder_354 rfl rfl ?_
        refine WE.V0PI (M' := mX3_number) (n := 358) dX3_takeOrder_355 rfl cv_X3_60 (by first | decide | exact kd_bal (by assumption) | exact kd_let (by assumption) | assumption) ⟨⟨by decide, by decide⟩, by decide, by decide⟩ (Nat.le_of_ble_eq_true rfl) (c_number od hn (CT.up (CT.st h (a := 391) (by decide) (c 390 p)) hp)) (fun r355 σ355 q355 => ?_)
        obtain ⟨c355, rfl, rfl, A355, B355⟩ := q355
        refine WE.V1I (M' := mX3_takeFirst) (n := 361) dX3_takeOrder_358 rfl cv_X3_56 (by first | decide | exact kd_bal (by assumption) | exact kd_let (by assumption) | assumption) ⟨⟨by decide, by decide⟩, by decide, by decide⟩ (Nat.le_of_ble_eq_true rfl) (c_takeFirst od A355 _) ?_
        refine WE.iret (ty := .boolean) dX3_takeOrder_361 rfl (by first | rfl | exact b2i_nar _ | decide) ⟨by decide, by decide⟩ ?_
        exact POC.one (k := nI 104) (e := by simp only [pOrd, hp, hx, show ¬ nI 104 = nI 102 by decide, show ¬ nI 104 = nI 98 by decide, show ¬ nI 104 = nI 100 by decide, show ¬ nI 104 = nI 108 by decide, show ¬ nI 104 = nI 117 by decide, ↓reduceIte]) (by first | exact Or.inl rfl | exact Or.inr rfl) (A355.st (by decide) _) (by rw [u2_ne _ _ (by omega), B355 _ _ (by omega), u2_ne _ _ (by omega), u2_eq, congrFun h.T p, hx]) (u2_eq _ _ _ _) num_s
      · have hx : c0 390 p = nI 105 := hx0.symm.trans hk
        refine WE.tsw (tgt := 429) dX3_takeOrder_34 105 (by show (c 390 p).toInt = _; rw [hk]; decide) (by decide) (by decide) rfl (by decide) ?_
        refine WE.iconst (n := 430) (nI 0) dX3_takeOrder_429 rfl (by decide) ?_
        refine WE.iret (ty := .boolean) dX3_takeOrder_430 rfl (by first | rfl | exact b2i_nar _ | decide) ⟨by decide, by decide⟩ ?_
        exact POC.no (e := by simp only [pOrd, hp, hx, show ¬ nI 105 = nI 102 by decide, show ¬ nI 105 = nI 98 by decide, show ¬ nI 105 = nI 100 by decide, show ¬ nI 105 = nI 108 by decide, show ¬ nI 105 = nI 117 by decide, show ¬ nI 105 = nI 104 by decide, show ¬ nI 105 = nI 119 by decide, ↓reduceIte]) (h.st (by decide) _)
      · have hx : c0 390 p = nI 106 := hx0.symm.trans hk
        refine WE.tsw (tgt := 429) dX3_takeOrder_34 106 (by show (c 390 p).toInt = _; rw [hk]; decide) (by decide) (by decide) rfl (by decide) ?_
        refine WE.iconst (n := 430) (nI 0) dX3_takeOrder_429 rfl (by decide) ?_
        refine WE.iret (ty := .boolean) dX3_takeOrder_430 rfl (by first | rfl | exact b2i_nar _ | decide) ⟨by decide, by decide⟩ ?_
        exact POC.no (e := by simp only [pOrd, hp, hx, show ¬ nI 106 = nI 102 by decide, show ¬ nI 106 = nI 98 by decide, show ¬ nI 106 = nI 100 by decide, show ¬ nI 106 = nI 108 by decide, show ¬ nI 106 = nI 117 by decide, show ¬ nI 106 = nI 104 by decide, show ¬ nI 106 = nI 119 by decide, ↓reduceIte]) (h.st (by decide) _)
      · have hx : c0 390 p = nI 107 := hx0.symm.trans hk
        refine WE.tsw (tgt := 429) dX3_takeOrder_34 107 (by show (c 390 p).toInt = _; rw [hk]; decide) (by decide) (by decide) rfl (by decide) ?_
        refine WE.iconst (n := 430) (nI 0) dX3_takeOrder_429 rfl (by decide) ?_
        refine WE.iret (ty := .boolean) dX3_takeOrder_430 rfl (by first | rfl | exact b2i_nar _ | decide) ⟨by decide, by decide⟩ ?_
        exact POC.no (e := by simp only [pOrd, hp, hx, show ¬ nI 107 = nI 102 by decide, show ¬ nI 107 = nI 98 by decide, show ¬ nI 107 = nI 100 by decide, show ¬ nI 107 = nI 108 by decide, show ¬ nI 107 = nI 117 by decide, show ¬ nI 107 = nI 104 by decide, show ¬ nI 107 = nI 119 by decide, ↓reduceIte]) (h.st (by decide) _)
      · have hx : c0 390 p = nI 108 := hx0.symm.trans hk
        refine WE.tsw (tgt := 277) dX3_takeOrder_34 108 (by show (c 390 p).toInt = _; rw [hk]; decide) (by decide) (by decide) rfl (by decide) ?_
        refine WE.aload_n (n := 278) dX3_takeOrder_277 rfl rfl ?_
        refine WE.dup (n := 279) dX3_takeOrder_278 rfl rfl ?_
        refine WE.getI (n := 282) dX3_takeOrder_279 rfl fl_X3_35 ⟨by decide, by decide, rfl⟩ (by first | decide | exact kd_bal (by assumption) | exact kd_let (by assumption) | assumption) ?_
        refine WE.iconst (n := 283) (nI 1) dX3_takeOrder_282 rfl (by decide) ?_
        refine WE.iadd (n := 284) dX3_takeOrder_283 rfl ?_
        refine WE.putI (n := 287) dX3_takeOrder_284 rfl fl_X3_35 ⟨by decide, by decide, rfl, rfl⟩ ⟨by first | rfl | decide, by first | rfl | decide⟩ (by first | decide | exact kd_bal (by assumption) | exact kd_let (by assumption) | assumption) ?_
        refine WE.aload_n (n := 288) dX3_takeOrder_287 rfl rfl ?_
        refine WE.aload_n (n := 289) dX3_takeOrder_288 rfl rfl ?_
        refine WE.V0PI (M' := mX3_number) (n := 292) dX3_takeOrder_289 rfl cv_X3_60 (by first | decide | exact kd_bal (by assumption) | exact kd_let (by assumption) | assumption) ⟨⟨by decide, by decide⟩, by decide, by decide⟩ (Nat.le_of_ble_eq_true rfl) (c_number od hn (CT.up (CT.st h (a := 391) (by decide) (c 390 p)) hp)) (fun r289 σ289 q289 => ?_)
        obtain ⟨c289, rfl, rfl, A289, B289⟩ := q289
        refine WE.V1I (M' := mX3_takeFirst) (n := 295) dX3_takeOrder_292 rfl cv_X3_56 (by first | decide | exact kd_bal (by assumption) | exact kd_let (by assumption) | assumption) ⟨⟨by decide, by decide⟩, by decide, by decide⟩ (Nat.le_of_ble_eq_true rfl) (c_takeFirst od A289 _) ?_
        refine WE.if_eqB (n := 298) (tgt := 322) dX3_takeOrder_295 rfl (by decide) (fun h295 => ?_) (fun h295 => ?_)
        · skip
          have h295 := mt num_s.mpr h295
          refine WE.iconst (n := 323) (nI 0) dX3_takeOrder_322 rfl (by decide) ?_
          refine WE.iret (ty := .boolean) dX3_takeOrder_323 rfl (by first | rfl | exact b2i_nar _ | decide) ⟨by decide, by decide⟩ ?_
          first
            | exact POC.no (e := by simp only [pOrd, hp, hx, show ¬ nI 108 = nI 102 by decide, show ¬ nI 108 = nI 98 by decide, show ¬ nI 108 = nI 100 by decide, ↓reduceIte, oPair, pPair, h295, Option.map_some, Option.map_none, and_self, Bool.false_eq_true]) (A289.st (by decide) _)
            | exact POC.yes (r := (nI 108, (pNum (c0 390) n (p + 1)).2.getD (nI 0), (pDig (c0 390) n ((pNum (c0 390) n (p + 1)).1 + 1)).2.getD (nI 0), nI 0)) (e := by simp only [pOrd, hp, hx, show ¬ nI 108 = nI 102 by decide, show ¬ nI 108 = nI 98 by decide, show ¬ nI 108 = nI 100 by decide, ↓reduceIte, oPair, pPair, h295, Option.map_some, Option.map_none, and_self, Bool.false_eq_true]) (A309.st (by decide) _) ⟨by rw [u2_ne _ _ (by omega), B309 _ _ (by omega), B301 _ _ (by omega), u2_ne _ _ (by omega), B289 _ _ (by omega), u2_ne _ _ (by omega), u2_eq, congrFun h.T p, hx], by rw [u2_ne _ _ (by omega), B309 _ _ (by omega), B301 _ _ (by omega), u2_eq, getD_s h295], fun _ => by rw [u2_eq, getD_s h315], fun q => absurd q (show ¬ nI 108 = nI 119 by decide)⟩
        · skip
          have h295 := num_s.mp h295
          refine WE.aload_n (n := 299) dX3_takeOrder_298 rfl rfl ?_
          refine WE.bipush (n := 301) (nI 64) dX3_takeOrder_299 rfl (by decide) ?_
          refine WE.V1PI (M' := mX3_take) (n := 304) dX3_takeOrder_301 rfl cv_X3_48 (by first | decide | exact kd_bal (by assumption) | exact kd_let (by assumption) | assumption) ⟨⟨by decide, by decide⟩, by decide, by decide⟩ (Nat.le_of_ble_eq_true rfl) (c_take od hn (A289.st (a := 392) (by decide) _) (nI 64)) (fun r301 σ301 q301 => ?_)
          obtain ⟨c301, rfl, rfl, A301, B301⟩ := q301
          refine WE.if_eqB (n := 307) (tgt := 322) dX3_takeOrder_304 rfl (by decide) (fun h304 => ?_) (fun h304 => ?_)
          · skip
            refine WE.iconst (n := 323) (nI 0) dX3_takeOrder_322 rfl (by decide) ?_
            refine WE.iret (ty := .boolean) dX3_takeOrder_323 rfl (by first | rfl | exact b2i_nar _ | decide) ⟨by decide, by decide⟩ ?_
            first
              | exact POC.no (e := by simp only [pOrd, hp, hx, show ¬ nI 108 = nI 102 by decide, show ¬ nI 108 = nI 98 by decide, show ¬ nI 108 = nI 100 by decide, ↓reduceIte, oPair, pPair, h295, h304, Option.map_some, Option.map_none, and_self, Bool.false_eq_true]) (A301.fl h304)
              | exact POC.yes (r := (nI 108, (pNum (c0 390) n (p + 1)).2.getD (nI 0), (pDig (c0 390) n ((pNum (c0 390) n (p + 1)).1 + 1)).2.getD (nI 0), nI 0)) (e := by simp only [pOrd, hp, hx, show ¬ nI 108 = nI 102 by decide, show ¬ nI 108 = nI 98 by decide, show ¬ nI 108 = nI 100 by decide, ↓reduceIte, oPair, pPair, h295, h304, Option.map_some, Option.map_none, and_self, Bool.false_eq_true]) (A309.st (by decide) _) ⟨by rw [u2_ne _ _ (by omega), B309 _ _ (by omega), B301 _ _ (by omega), u2_ne _ _ (by omega), B289 _ _ (by omega), u2_ne _ _ (by omega), u2_eq, congrFun h.T p, hx], by rw [u2_ne _ _ (by omega), B309 _ _ (by omega), B301 _ _ (by omega), u2_eq, getD_s h295], fun _ => by rw [u2_eq, getD_s h315], fun q => absurd q (show ¬ nI 108 = nI 119 by decide)⟩
          · skip
            refine WE.aload_n (n := 308) dX3_takeOrder_307 rfl rfl ?_
            refine WE.aload_n (n := 309) dX3_takeOrder_308 rfl rfl ?_
            refine WE.V0PI (M' := mX3_digit) (n := 312) dX3_takeOrder_309 rfl cv_X3_52 (by first | decide | exact kd_bal (by assumption) | exact kd_let (by assumption) | assumption) ⟨⟨by decide, by decide⟩, by decide, by decide⟩ (Nat.le_of_ble_eq_true rfl) (c_digit od hn (A301.tr h304)) (fun r309 σ309 q309 => ?_)
            obtain ⟨c309, rfl, rfl, A309, B309⟩ := q309
            refine WE.V1I (M' := mX3_takeSecond) (n := 315) dX3_takeOrder_312 rfl cv_X3_63 (by first | decide | exact kd_bal (by assumption) | exact kd_let (by assumption) | assumption) ⟨⟨by decide, by decide⟩, by decide, by decide⟩ (Nat.le_of_ble_eq_true rfl) (c_takeSecond od A309 _) ?_
            refine WE.if_eqB (n := 318) (tgt := 322) dX3_takeOrder_315 rfl (by decide) (fun h315 => ?_) (fun h315 => ?_)
            · skip
              have h315 := mt dig_s.mpr h315
              refine WE.iconst (n := 323) (nI 0) dX3_takeOrder_322 rfl (by decide) ?_
              refine WE.iret (ty := .boolean) dX3_takeOrder_323 rfl (by first | rfl | exact b2i_nar _ | decide) ⟨by decide, by decide⟩ ?_
              first
                | exact POC.no (e := by simp only [pOrd, hp, hx, show ¬ nI 108 = nI 102 by decide, show ¬ nI 108 = nI 98 by decide, show ¬ nI 108 = nI 100 by decide, ↓reduceIte, oPair, pPair, h295, h304, h315, Option.map_some, Option.map_none, and_self, Bool.false_eq_true]) (A309.st (by decide) _)
                | exact POC.yes (r := (nI 108, (pNum (c0 390) n (p + 1)).2.getD (nI 0), (pDig (c0 390) n ((pNum (c0 390) n (p + 1)).1 + 1)).2.getD (nI 0), nI 0)) (e := by simp only [pOrd, hp, hx, show ¬ nI 108 = nI 102 by decide, show ¬ nI 108 = nI 98 by decide, show ¬ nI 108 = nI 100 by decide, ↓reduceIte, oPair, pPair, h295, h304, h315, Option.map_some, Option.map_none, and_self, Bool.false_eq_true]) (A309.st (by decide) _) ⟨by rw [u2_ne _ _ (by omega), B309 _ _ (by omega), B301 _ _ (by omega), u2_ne _ _ (by omega), B289 _ _ (by omega), u2_ne _ _ (by omega), u2_eq, congrFun h.T p, hx], by rw [u2_ne _ _ (by omega), B309 _ _ (by omega), B301 _ _ (by omega), u2_eq, getD_s h295], fun _ => by rw [u2_eq, getD_s h315], fun q => absurd q (show ¬ nI 108 = nI 119 by decide)⟩
            · skip
              have h315 := dig_s.mp h315
              refine WE.iconst (n := 319) (nI 1) dX3_takeOrder_318 rfl (by decide) ?_
              refine WE.goto (tgt := 323) dX3_takeOrder_319 (by decide) ?_
              refine WE.iret (ty := .boolean) dX3_takeOrder_323 rfl (by first | rfl | exact b2i_nar _ | decide) ⟨by decide, by decide⟩ ?_
              first
                | exact POC.no (e := by simp only [pOrd, hp, hx, show ¬ nI 108 = nI 102 by decide, show ¬ nI 108 = nI 98 by decide, show ¬ nI 108 = nI 100 by decide, ↓reduceIte, oPair, pPair, h295, h304, h315, Option.map_some, Option.map_none, and_self, Bool.false_eq_true]) (A309.st (by decide) _)
                | exact POC.yes (r := (nI 108, (pNum (c0 390) n (p + 1)).2.getD (nI 0), (pDig (c0 390) n ((pNum (c0 390) n (p + 1)).1 + 1)).2.getD (nI 0), nI 0)) (e := by simp only [pOrd, hp, hx, show ¬ nI 108 = nI 102 by decide, show ¬ nI 108 = nI 98 by decide, show ¬ nI 108 = nI 100 by decide, ↓reduceIte, oPair, pPair, h295, h304, h315, Option.map_some, Option.map_none, and_self, Bool.false_eq_true]) (A309.st (by decide) _) ⟨by rw [u2_ne _ _ (by omega), B309 _ _ (by omega), B301 _ _ (by omega), u2_ne _ _ (by omega), B289 _ _ (by omega), u2_ne _ _ (by omega), u2_eq, congrFun h.T p, hx], by rw [u2_ne _ _ (by omega), B309 _ _ (by omega), B301 _ _ (by omega), u2_eq, getD_s h295], fun _ => by rw [u2_eq, getD_s h315], fun q => absurd q (show ¬ nI 108 = nI 119 by decide)⟩
      · have hx : c0 390 p = nI 109 := hx0.symm.trans hk
        refine WE.tsw (tgt := 429) dX3_takeOrder_34 109 (by show (c 390 p).toInt = _; rw [hk]; decide) (by decide) (by decide) rfl (by decide) ?_
        refine WE.iconst (n := 430) (nI 0) dX3_takeOrder_429 rfl (by decide) ?_
        refine WE.iret (ty := .boolean) dX3_takeOrder_430 rfl (by first | rfl | exact b2i_nar _ | decide) ⟨by decide, by decide⟩ ?_
        exact POC.no (e := by simp only [pOrd, hp, hx, show ¬ nI 109 = nI 102 by decide, show ¬ nI 109 = nI 98 by decide, show ¬ nI 109 = nI 100 by decide, show ¬ nI 109 = nI 108 by decide, show ¬ nI 109 = nI 117 by decide, show ¬ nI 109 = nI 104 by decide, show ¬ nI 109 = nI 119 by decide, ↓reduceIte]) (h.st (by decide) _)
      · have hx : c0 390 p = nI 110 := hx0.symm.trans hk
        refine WE.tsw (tgt := 429) dX3_takeOrder_34 110 (by show (c 390 p).toInt = _; rw [hk]; decide) (by decide) (by decide) rfl (by decide) ?_
        refine WE.iconst (n := 430) (nI 0) dX3_takeOrder_429 rfl (by decide) ?_
        refine WE.iret (ty := .boolean) dX3_takeOrder_430 rfl (by first | rfl | exact b2i_nar _ | decide) ⟨by decide, by decide⟩ ?_
        exact POC.no (e := by simp only [pOrd, hp, hx, show ¬ nI 110 = nI 102 by decide, show ¬ nI 110 = nI 98 by decide, show ¬ nI 110 = nI 100 by decide, show ¬ nI 110 = nI 108 by decide, show ¬ nI 110 = nI 117 by decide, show ¬ nI 110 = nI 104 by decide, show ¬ nI 110 = nI 119 by decide, ↓reduceIte]) (h.st (by decide) _)
      · have hx : c0 390 p = nI 111 := hx0.symm.trans hk
        refine WE.tsw (tgt := 429) dX3_takeOrder_34 111 (by show (c 390 p).toInt = _; rw [hk]; decide) (by decide) (by decide) rfl (by decide) ?_
        refine WE.iconst (n := 430) (nI 0) dX3_takeOrder_429 rfl (by decide) ?_
        refine WE.iret (ty := .boolean) dX3_takeOrder_430 rfl (by first | rfl | exact b2i_nar _ | decide) ⟨by decide, by decide⟩ ?_
        exact POC.no (e := by simp only [pOrd, hp, hx, show ¬ nI 111 = nI 102 by decide, show ¬ nI 111 = nI 98 by decide, show ¬ nI 111 = nI 100 by decide, show ¬ nI 111 = nI 108 by decide, show ¬ nI 111 = nI 117 by decide, show ¬ nI 111 = nI 104 by decide, show ¬ nI 111 = nI 119 by decide, ↓reduceIte]) (h.st (by decide) _)
      · have hx : c0 390 p = nI 112 := hx0.symm.trans hk
        refine WE.tsw (tgt := 429) dX3_takeOrder_34 112 (by show (c 390 p).toInt = _; rw [hk]; decide) (by decide) (by decide) rfl (by decide) ?_
        refine WE.iconst (n := 430) (nI 0) dX3_takeOrder_429 rfl (by decide) ?_
        refine WE.iret (ty := .boolean) dX3_takeOrder_430 rfl (by first | rfl | exact b2i_nar _ | decide) ⟨by decide, by decide⟩ ?_
        exact POC.no (e := by simp only [pOrd, hp, hx, show ¬ nI 112 = nI 102 by decide, show ¬ nI 112 = nI 98 by decide, show ¬ nI 112 = nI 100 by decide, show ¬ nI 112 = nI 108 by decide, show ¬ nI 112 = nI 117 by decide, show ¬ nI 112 = nI 104 by decide, show ¬ nI 112 = nI 119 by decide, ↓reduceIte]) (h.st (by decide) _)
      · have hx : c0 390 p = nI 113 := hx0.symm.trans hk
        refine WE.tsw (tgt := 429) dX3_takeOrder_34 113 (by show (c 390 p).toInt = _; rw [hk]; decide) (by decide) (by decide) rfl (by decide) ?_
        refine WE.iconst (n := 430) (nI 0) dX3_takeOrder_429 rfl (by decide) ?_
        refine WE.iret (ty := .boolean) dX3_takeOrder_430 rfl (by first | rfl | exact b2i_nar _ | decide) ⟨by decide, by decide⟩ ?_
        exact POC.no (e := by simp only [pOrd, hp, hx, show ¬ nI 113 = nI 102 by decide, show ¬ nI 113 = nI 98 by decide, show ¬ nI 113 = nI 100 by decide, show ¬ nI 113 = nI 108 by decide, show ¬ nI 113 = nI 117 by decide, show ¬ nI 113 = nI 104 by decide, show ¬ nI 113 = nI 119 by decide, ↓reduceIte]) (h.st (by decide) _)
      · have hx : c0 390 p = nI 114 := hx0.symm.trans hk
        refine WE.tsw (tgt := 429) dX3_takeOrder_34 114 (by show (c 390 p).toInt = _; rw [hk]; decide) (by decide) (by decide) rfl (by decide) ?_
        refine WE.iconst (n := 430) (nI 0) dX3_takeOrder_429 rfl (by decide) ?_
        refine WE.iret (ty := .boolean) dX3_takeOrder_430 rfl (by first | rfl | exact b2i_nar _ | decide) ⟨by decide, by decide⟩ ?_
        exact POC.no (e := by simp only [pOrd, hp, hx, show ¬ nI 114 = nI 102 by decide, show ¬ nI 114 = nI 98 by decide, show ¬ nI 114 = nI 100 by decide, show ¬ nI 114 = nI 108 by decide, show ¬ nI 114 = nI 117 by decide, show ¬ nI 114 = nI 104 by decide, show ¬ nI 114 = nI 119 by decide, ↓reduceIte]) (h.st (by decide) _)
      · have hx : c0 390 p = nI 115 := hx0.symm.trans hk
        refine WE.tsw (tgt := 429) dX3_takeOrder_34 115 (by show (c 390 p).toInt = _; rw [hk]; decide) (by decide) (by decide) rfl (by decide) ?_
        refine WE.iconst (n := 430) (nI 0) dX3_takeOrder_429 rfl (by decide) ?_
        refine WE.iret (ty := .boolean) dX3_takeOrder_430 rfl (by first | rfl | exact b2i_nar _ | decide) ⟨by decide, by decide⟩ ?_
        exact POC.no (e := by simp only [pOrd, hp, hx, show ¬ nI 115 = nI 102 by decide, show ¬ nI 115 = nI 98 by decide, show ¬ nI 115 = nI 100 by decide, show ¬ nI 115 = nI 108 by decide, show ¬ nI 115 = nI 117 by decide, show ¬ nI 115 = nI 104 by decide, show ¬ nI 115 = nI 119 by decide, ↓reduceIte]) (h.st (by decide) _)
      · have hx : c0 390 p = nI 116 := hx0.symm.trans hk
        refine WE.tsw (tgt := 429) dX3_takeOrder_34 116 (by show (c 390 p).toInt = _; rw [hk]; decide) (by decide) (by decide) rfl (by decide) ?_
        refine WE.iconst (n := 430) (nI 0) dX3_takeOrder_429 rfl (by decide) ?_
        refine WE.iret (ty := .boolean) dX3_takeOrder_430 rfl (by first | rfl | exact b2i_nar _ | decide) ⟨by decide, by decide⟩ ?_
        exact POC.no (e := by simp only [pOrd, hp, hx, show ¬ nI 116 = nI 102 by decide, show ¬ nI 116 = nI 98 by decide, show ¬ nI 116 = nI 100 by decide, show ¬ nI 116 = nI 108 by decide, show ¬ nI 116 = nI 117 by decide, show ¬ nI 116 = nI 104 by decide, show ¬ nI 116 = nI 119 by decide, ↓reduceIte]) (h.st (by decide) _)
      · have hx : c0 390 p = nI 117 := hx0.symm.trans hk
        refine WE.tsw (tgt := 324) dX3_takeOrder_34 117 (by show (c 390 p).toInt = _; rw [hk]; decide) (by decide) (by decide) rfl (by decide) ?_
        refine WE.aload_n (n := 325) dX3_takeOrder_324 rfl rfl ?_
        refine WE.dup (n := 326) dX3_takeOrder_325 rfl rfl ?_
        refine WE.getI (n := 329) dX3_takeOrder_326 rfl fl_X3_35 ⟨by decide, by decide, rfl⟩ (by first | decide | exact kd_bal (by assumption) | exact kd_let (by assumption) | assumption) ?_
        refine WE.iconst (n := 330) (nI 1) dX3_takeOrder_329 rfl (by decide) ?_
        refine WE.iadd (n := 331) dX3_takeOrder_330 rfl ?_
        refine WE.putI (n := 334) dX3_takeOrder_331 rfl fl_X3_35 ⟨by decide, by decide, rfl, rfl⟩ ⟨by first | rfl | decide, by first | rfl | decide⟩ (by first | decide | exact kd_bal (by assumption) | exact kd_let (by assumption) | assumption) ?_
        refine WE.aload_n (n := 335) dX3_takeOrder_334 rfl rfl ?_
        refine WE.aload_n (n := 336) dX3_takeOrder_335 rfl rfl ?_
        refine WE.V0PI (M' := mX3_digit) (n := 339) dX3_takeOrder_336 rfl cv_X3_52 (by first | decide | exact kd_bal (by assumption) | exact kd_let (by assumption) | assumption) ⟨⟨by decide, by decide⟩, by decide, by decide⟩ (Nat.le_of_ble_eq_true rfl) (c_digit od hn (CT.up (CT.st h (a := 391) (by decide) (c 390 p)) hp)) (fun r336 σ336 q336 => ?_)
        obtain ⟨c336, rfl, rfl, A336, B336⟩ := q336
        refine WE.V1I (M' := mX3_takeFirst) (n := 342) dX3_takeOrder_339 rfl cv_X3_56 (by first | decide | exact kd_bal (by assumption) | exact kd_let (by assumption) | assumption) ⟨⟨by decide, by decide⟩, by decide, by decide⟩ (Nat.le_of_ble_eq_true rfl) (c_takeFirst od A336 _) ?_
        refine WE.iret (ty := .boolean) dX3_takeOrder_342 rfl (by first | rfl | exact b2i_nar _ | decide) ⟨by decide, by decide⟩ ?_
        exact POC.one (k := nI 117) (e := by simp only [pOrd, hp, hx, show ¬ nI 117 = nI 102 by decide, show ¬ nI 117 = nI 98 by decide, show ¬ nI 117 = nI 100 by decide, show ¬ nI 117 = nI 108 by decide, ↓reduceIte]) (by first | exact Or.inl rfl | exact Or.inr rfl) (A336.st (by decide) _) (by rw [u2_ne _ _ (by omega), B336 _ _ (by omega), u2_ne _ _ (by omega), u2_eq, congrFun h.T p, hx]) (u2_eq _ _ _ _) dig_s
      · have hx : c0 390 p = nI 118 := hx0.symm.trans hk
        refine WE.tsw (tgt := 429) dX3_takeOrder_34 118 (by show (c 390 p).toInt = _; rw [hk]; decide) (by decide) (by decide) rfl (by decide) ?_
        refine WE.iconst (n := 430) (nI 0) dX3_takeOrder_429 rfl (by decide) ?_
        refine WE.iret (ty := .boolean) dX3_takeOrder_430 rfl (by first | rfl | exact b2i_nar _ | decide) ⟨by decide, by decide⟩ ?_
        exact POC.no (e := by simp only [pOrd, hp, hx, show ¬ nI 118 = nI 102 by decide, show ¬ nI 118 = nI 98 by decide, show ¬ nI 118 = nI 100 by decide, show ¬ nI 118 = nI 108 by decide, show ¬ nI 118 = nI 117 by decide, show ¬ nI 118 = nI 104 by decide, show ¬ nI 118 = nI 119 by decide, ↓reduceIte]) (h.st (by decide) _)
      · have hx : c0 390 p = nI 119 := hx0.symm.trans hk
        refine WE.tsw (tgt := 362) dX3_takeOrder_34 119 (by show (c 390 p).toInt = _; rw [hk]; decide) (by decide) (by decide) rfl (by decide) ?_
        refine WE.aload_n (n := 363) dX3_takeOrder_362 rfl rfl ?_
        refine WE.dup (n := 364) dX3_takeOrder_363 rfl rfl ?_
        refine WE.getI (n := 367) dX3_takeOrder_364 rfl fl_X3_35 ⟨by decide, by decide, rfl⟩ (by first | decide | exact kd_bal (by assumption) | exact kd_let (by assumption) | assumption) ?_
        refine WE.iconst (n := 368) (nI 1) dX3_takeOrder_367 rfl (by decide) ?_
        refine WE.iadd (n := 369) dX3_takeOrder_368 rfl ?_
        refine WE.putI (n := 372) dX3_takeOrder_369 rfl fl_X3_35 ⟨by decide, by decide, rfl, rfl⟩ ⟨by first | rfl | decide, by first | rfl | decide⟩ (by first | decide | exact kd_bal (by assumption) | exact kd_let (by assumption) | assumption) ?_
        refine WE.aload_n (n := 373) dX3_takeOrder_372 rfl rfl ?_
        refine WE.aload_n (n := 374) dX3_takeOrder_373 rfl rfl ?_
        refine WE.V0PI (M' := mX3_digit) (n := 377) dX3_takeOrder_374 rfl cv_X3_52 (by first | decide | exact kd_bal (by assumption) | exact kd_let (by assumption) | assumption) ⟨⟨by decide, by decide⟩, by decide, by decide⟩ (Nat.le_of_ble_eq_true rfl) (c_digit od hn (CT.up (CT.st h (a := 391) (by decide) (c 390 p)) hp)) (fun r374 σ374 q374 => ?_)
        obtain ⟨c374, rfl, rfl, A374, B374⟩ := q374
        refine WE.V1I (M' := mX3_takeFirst) (n := 380) dX3_takeOrder_377 rfl cv_X3_56 (by first | decide | exact kd_bal (by assumption) | exact kd_let (by assumption) | assumption) ⟨⟨by decide, by decide⟩, by decide, by decide⟩ (Nat.le_of_ble_eq_true rfl) (c_takeFirst od A374 _) ?_
        refine WE.if_eqB (n := 383) (tgt := 427) dX3_takeOrder_380 rfl (by decide) (fun h380 => ?_) (fun h380 => ?_)
        · skip
          have h380 := mt dig_s.mpr h380
          refine WE.iconst (n := 428) (nI 0) dX3_takeOrder_427 rfl (by decide) ?_
          refine WE.iret (ty := .boolean) dX3_takeOrder_428 rfl (by first | rfl | exact b2i_nar _ | decide) ⟨by decide, by decide⟩ ?_
          first
            | exact POC.no (e := by simp only [pOrd, hp, hx, show ¬ nI 119 = nI 102 by decide, show ¬ nI 119 = nI 98 by decide, show ¬ nI 119 = nI 100 by decide, show ¬ nI 119 = nI 108 by decide, show ¬ nI 119 = nI 117 by decide, show ¬ nI 119 = nI 104 by decide, ↓reduceIte, pWind, pPair, h380, Option.isSome_some, Option.isSome_none, Option.getD_some, Bool.false_eq_true, and_self]) (A374.st (by decide) _)
            | exact POC.yes (r := (nI 119, (pDig (c0 390) n (p + 1)).2.getD (nI 0), (pSgn (c0 390) n ((pDig (c0 390) n (p + 1)).1 + 1)).2.getD (nI 0), (pSgn (c0 390) n ((pSgn (c0 390) n ((pDig (c0 390) n (p + 1)).1 + 1)).1 + 1)).2.getD (nI 0))) (e := by simp only [pOrd, hp, hx, show ¬ nI 119 = nI 102 by decide, show ¬ nI 119 = nI 98 by decide, show ¬ nI 119 = nI 100 by decide, show ¬ nI 119 = nI 108 by decide, show ¬ nI 119 = nI 117 by decide, show ¬ nI 119 = nI 104 by decide, ↓reduceIte, pWind, pPair, h380, Option.isSome_some, Option.isSome_none, Option.getD_some, Bool.false_eq_true, and_self]) (A414.st (by decide) _) ⟨by rw [u2_ne _ _ (by omega), B414 _ _ (by omega), B406 _ _ (by omega), u2_ne _ _ (by omega), B394 _ _ (by omega), B386 _ _ (by omega), u2_ne _ _ (by omega), B374 _ _ (by omega), u2_ne _ _ (by omega), u2_eq, congrFun h.T p, hx], by rw [u2_ne _ _ (by omega), B414 _ _ (by omega), B406 _ _ (by omega), u2_ne _ _ (by omega), B394 _ _ (by omega), B386 _ _ (by omega), u2_eq, getD_s h380], fun _ => by rw [u2_ne _ _ (by omega), B414 _ _ (by omega), B406 _ _ (by omega), u2_eq, getD_s h400], fun _ => by rw [u2_eq, getD_s h420]⟩
        · skip
          have h380 := dig_s.mp h380
          refine WE.aload_n (n := 384) dX3_takeOrder_383 rfl rfl ?_
          refine WE.bipush (n := 386) (nI 58) dX3_takeOrder_384 rfl (by decide) ?_
          refine WE.V1PI (M' := mX3_take) (n := 389) dX3_takeOrder_386 rfl cv_X3_48 (by first | decide | exact kd_bal (by assumption) | exact kd_let (by assumption) | assumption) ⟨⟨by decide, by decide⟩, by decide, by decide⟩ (Nat.le_of_ble_eq_true rfl) (c_take od hn (A374.st (a := 392) (by decide) _) (nI 58)) (fun r386 σ386 q386 => ?_)
          obtain ⟨c386, rfl, rfl, A386, B386⟩ := q386
          refine WE.if_eqB (n := 392) (tgt := 427) dX3_takeOrder_389 rfl (by decide) (fun h389 => ?_) (fun h389 => ?_)
          · skip
            refine WE.iconst (n := 428) (nI 0) dX3_takeOrder_427 rfl (by decide) ?_
            refine WE.iret (ty := .boolean) dX3_takeOrder_428 rfl (by first | rfl | exact b2i_nar _ | decide) ⟨by decide, by decide⟩ ?_
            first
              | exact POC.no (e := by simp only [pOrd, hp, hx, show ¬ nI 119 = nI 102 by decide, show ¬ nI 119 = nI 98 by decide, show ¬ nI 119 = nI 100 by decide, show ¬ nI 119 = nI 108 by decide, show ¬ nI 119 = nI 117 by decide, show ¬ nI 119 = nI 104 by decide, ↓reduceIte, pWind, pPair, h380, h389, Option.isSome_some, Option.isSome_none, Option.getD_some, Bool.false_eq_true, and_self]) (A386.fl h389)
              | exact POC.yes (r := (nI 119, (pDig (c0 390) n (p + 1)).2.getD (nI 0), (pSgn (c0 390) n ((pDig (c0 390) n (p + 1)).1 + 1)).2.getD (nI 0), (pSgn (c0 390) n ((pSgn (c0 390) n ((pDig (c0 390) n (p + 1)).1 + 1)).1 + 1)).2.getD (nI 0))) (e := by simp only [pOrd, hp, hx, show ¬ nI 119 = nI 102 by decide, show ¬ nI 119 = nI 98 by decide, show ¬ nI 119 = nI 100 by decide, show ¬ nI 119 = nI 108 by decide, show ¬ nI 119 = nI 117 by decide, show ¬ nI 119 = nI 104 by decide, ↓reduceIte, pWind, pPair, h380, h389, Option.isSome_some, Option.isSome_none, Option.getD_some, Bool.false_eq_true, and_self]) (A414.st (by decide) _) ⟨by rw [u2_ne _ _ (by omega), B414 _ _ (by omega), B406 _ _ (by omega), u2_ne _ _ (by omega), B394 _ _ (by omega), B386 _ _ (by omega), u2_ne _ _ (by omega), B374 _ _ (by omega), u2_ne _ _ (by omega), u2_eq, congrFun h.T p, hx], by rw [u2_ne _ _ (by omega), B414 _ _ (by omega), B406 _ _ (by omega), u2_ne _ _ (by omega), B394 _ _ (by omega), B386 _ _ (by omega), u2_eq, getD_s h380], fun _ => by rw [u2_ne _ _ (by omega), B414 _ _ (by omega), B406 _ _ (by omega), u2_eq, getD_s h400], fun _ => by rw [u2_eq, getD_s h420]⟩
          · skip
            refine WE.aload_n (n := 393) dX3_takeOrder_392 rfl rfl ?_
            refine WE.aload_n (n := 394) dX3_takeOrder_393 rfl rfl ?_
            refine WE.V0PI (M' := mX3_signedDigit) (n := 397) dX3_takeOrder_394 rfl cv_X3_66 (by first | decide | exact kd_bal (by assumption) | exact kd_let (by assumption) | assumption) ⟨⟨by decide, by decide⟩, by decide, by decide⟩ (Nat.le_of_ble_eq_true rfl) (c_signed od hn (A386.tr h389)) (fun r394 σ394 q394 => ?_)
            obtain ⟨c394, rfl, rfl, A394, B394⟩ := q394
            refine WE.V1I (M' := mX3_takeSecond) (n := 400) dX3_takeOrder_397 rfl cv_X3_63 (by first | decide | exact kd_bal (by assumption) | exact kd_let (by assumption) | assumption) ⟨⟨by decide, by decide⟩, by decide, by decide⟩ (Nat.le_of_ble_eq_true rfl) (c_takeSecond od A394 _) ?_
            refine WE.if_eqB (n := 403) (tgt := 427) dX3_takeOrder_400 rfl (by decide) (fun h400 => ?_) (fun h400 => ?_)
            · skip
              have h400 := mt sgn_s.mpr h400
              refine WE.iconst (n := 428) (nI 0) dX3_takeOrder_427 rfl (by decide) ?_
              refine WE.iret (ty := .boolean) dX3_takeOrder_428 rfl (by first | rfl | exact b2i_nar _ | decide) ⟨by decide, by decide⟩ ?_
              first
                | exact POC.no (e := by simp only [pOrd, hp, hx, show ¬ nI 119 = nI 102 by decide, show ¬ nI 119 = nI 98 by decide, show ¬ nI 119 = nI 100 by decide, show ¬ nI 119 = nI 108 by decide, show ¬ nI 119 = nI 117 by decide, show ¬ nI 119 = nI 104 by decide, ↓reduceIte, pWind, pPair, h380, h389, h400, Option.isSome_some, Option.isSome_none, Option.getD_some, Bool.false_eq_true, and_self]) (A394.st (by decide) _)
                | exact POC.yes (r := (nI 119, (pDig (c0 390) n (p + 1)).2.getD (nI 0), (pSgn (c0 390) n ((pDig (c0 390) n (p + 1)).1 + 1)).2.getD (nI 0), (pSgn (c0 390) n ((pSgn (c0 390) n ((pDig (c0 390) n (p + 1)).1 + 1)).1 + 1)).2.getD (nI 0))) (e := by simp only [pOrd, hp, hx, show ¬ nI 119 = nI 102 by decide, show ¬ nI 119 = nI 98 by decide, show ¬ nI 119 = nI 100 by decide, show ¬ nI 119 = nI 108 by decide, show ¬ nI 119 = nI 117 by decide, show ¬ nI 119 = nI 104 by decide, ↓reduceIte, pWind, pPair, h380, h389, h400, Option.isSome_some, Option.isSome_none, Option.getD_some, Bool.false_eq_true, and_self]) (A414.st (by decide) _) ⟨by rw [u2_ne _ _ (by omega), B414 _ _ (by omega), B406 _ _ (by omega), u2_ne _ _ (by omega), B394 _ _ (by omega), B386 _ _ (by omega), u2_ne _ _ (by omega), B374 _ _ (by omega), u2_ne _ _ (by omega), u2_eq, congrFun h.T p, hx], by rw [u2_ne _ _ (by omega), B414 _ _ (by omega), B406 _ _ (by omega), u2_ne _ _ (by omega), B394 _ _ (by omega), B386 _ _ (by omega), u2_eq, getD_s h380], fun _ => by rw [u2_ne _ _ (by omega), B414 _ _ (by omega), B406 _ _ (by omega), u2_eq, getD_s h400], fun _ => by rw [u2_eq, getD_s h420]⟩
            · skip
              have h400 := sgn_s.mp h400
              refine WE.aload_n (n := 404) dX3_takeOrder_403 rfl rfl ?_
              refine WE.bipush (n := 406) (nI 44) dX3_takeOrder_404 rfl (by decide) ?_
              refine WE.V1PI (M' := mX3_take) (n := 409) dX3_takeOrder_406 rfl cv_X3_48 (by first | decide | exact kd_bal (by assumption) | exact kd_let (by assumption) | assumption) ⟨⟨by decide, by decide⟩, by decide, by decide⟩ (Nat.le_of_ble_eq_true rfl) (c_take od hn (A394.st (a := 393) (by decide) _) (nI 44)) (fun r406 σ406 q406 => ?_)
              obtain ⟨c406, rfl, rfl, A406, B406⟩ := q406
              refine WE.if_eqB (n := 412) (tgt := 427) dX3_takeOrder_409 rfl (by decide) (fun h409 => ?_) (fun h409 => ?_)
              · skip
                refine WE.iconst (n := 428) (nI 0) dX3_takeOrder_427 rfl (by decide) ?_
                refine WE.iret (ty := .boolean) dX3_takeOrder_428 rfl (by first | rfl | exact b2i_nar _ | decide) ⟨by decide, by decide⟩ ?_
                first
                  | exact POC.no (e := by simp only [pOrd, hp, hx, show ¬ nI 119 = nI 102 by decide, show ¬ nI 119 = nI 98 by decide, show ¬ nI 119 = nI 100 by decide, show ¬ nI 119 = nI 108 by decide, show ¬ nI 119 = nI 117 by decide, show ¬ nI 119 = nI 104 by decide, ↓reduceIte, pWind, pPair, h380, h389, h400, h409, Option.isSome_some, Option.isSome_none, Option.getD_some, Bool.false_eq_true, and_self]) (A406.fl h409)
                  | exact POC.yes (r := (nI 119, (pDig (c0 390) n (p + 1)).2.getD (nI 0), (pSgn (c0 390) n ((pDig (c0 390) n (p + 1)).1 + 1)).2.getD (nI 0), (pSgn (c0 390) n ((pSgn (c0 390) n ((pDig (c0 390) n (p + 1)).1 + 1)).1 + 1)).2.getD (nI 0))) (e := by simp only [pOrd, hp, hx, show ¬ nI 119 = nI 102 by decide, show ¬ nI 119 = nI 98 by decide, show ¬ nI 119 = nI 100 by decide, show ¬ nI 119 = nI 108 by decide, show ¬ nI 119 = nI 117 by decide, show ¬ nI 119 = nI 104 by decide, ↓reduceIte, pWind, pPair, h380, h389, h400, h409, Option.isSome_some, Option.isSome_none, Option.getD_some, Bool.false_eq_true, and_self]) (A414.st (by decide) _) ⟨by rw [u2_ne _ _ (by omega), B414 _ _ (by omega), B406 _ _ (by omega), u2_ne _ _ (by omega), B394 _ _ (by omega), B386 _ _ (by omega), u2_ne _ _ (by omega), B374 _ _ (by omega), u2_ne _ _ (by omega), u2_eq, congrFun h.T p, hx], by rw [u2_ne _ _ (by omega), B414 _ _ (by omega), B406 _ _ (by omega), u2_ne _ _ (by omega), B394 _ _ (by omega), B386 _ _ (by omega), u2_eq, getD_s h380], fun _ => by rw [u2_ne _ _ (by omega), B414 _ _ (by omega), B406 _ _ (by omega), u2_eq, getD_s h400], fun _ => by rw [u2_eq, getD_s h420]⟩
              · skip
                refine WE.aload_n (n := 413) dX3_takeOrder_412 rfl rfl ?_
                refine WE.aload_n (n := 414) dX3_takeOrder_413 rfl rfl ?_
                refine WE.V0PI (M' := mX3_signedDigit) (n := 417) dX3_takeOrder_414 rfl cv_X3_66 (by first | decide | exact kd_bal (by assumption) | exact kd_let (by assumption) | assumption) ⟨⟨by decide, by decide⟩, by decide, by decide⟩ (Nat.le_of_ble_eq_true rfl) (c_signed od hn (A406.tr h409)) (fun r414 σ414 q414 => ?_)
                obtain ⟨c414, rfl, rfl, A414, B414⟩ := q414
                refine WE.V1I (M' := mX3_takeThird) (n := 420) dX3_takeOrder_417 rfl cv_X3_69 (by first | decide | exact kd_bal (by assumption) | exact kd_let (by assumption) | assumption) ⟨⟨by decide, by decide⟩, by decide, by decide⟩ (Nat.le_of_ble_eq_true rfl) (c_takeThird od A414 _) ?_
                refine WE.if_eqB (n := 423) (tgt := 427) dX3_takeOrder_420 rfl (by decide) (fun h420 => ?_) (fun h420 => ?_)
                · skip
                  have h420 := mt sgn_s.mpr h420
                  refine WE.iconst (n := 428) (nI 0) dX3_takeOrder_427 rfl (by decide) ?_
                  refine WE.iret (ty := .boolean) dX3_takeOrder_428 rfl (by first | rfl | exact b2i_nar _ | decide) ⟨by decide, by decide⟩ ?_
                  first
                    | exact POC.no (e := by simp only [pOrd, hp, hx, show ¬ nI 119 = nI 102 by decide, show ¬ nI 119 = nI 98 by decide, show ¬ nI 119 = nI 100 by decide, show ¬ nI 119 = nI 108 by decide, show ¬ nI 119 = nI 117 by decide, show ¬ nI 119 = nI 104 by decide, ↓reduceIte, pWind, pPair, h380, h389, h400, h409, h420, Option.isSome_some, Option.isSome_none, Option.getD_some, Bool.false_eq_true, and_self]) (A414.st (by decide) _)
                    | exact POC.yes (r := (nI 119, (pDig (c0 390) n (p + 1)).2.getD (nI 0), (pSgn (c0 390) n ((pDig (c0 390) n (p + 1)).1 + 1)).2.getD (nI 0), (pSgn (c0 390) n ((pSgn (c0 390) n ((pDig (c0 390) n (p + 1)).1 + 1)).1 + 1)).2.getD (nI 0))) (e := by simp only [pOrd, hp, hx, show ¬ nI 119 = nI 102 by decide, show ¬ nI 119 = nI 98 by decide, show ¬ nI 119 = nI 100 by decide, show ¬ nI 119 = nI 108 by decide, show ¬ nI 119 = nI 117 by decide, show ¬ nI 119 = nI 104 by decide, ↓reduceIte, pWind, pPair, h380, h389, h400, h409, h420, Option.isSome_some, Option.isSome_none, Option.getD_some, Bool.false_eq_true, and_self]) (A414.st (by decide) _) ⟨by rw [u2_ne _ _ (by omega), B414 _ _ (by omega), B406 _ _ (by omega), u2_ne _ _ (by omega), B394 _ _ (by omega), B386 _ _ (by omega), u2_ne _ _ (by omega), B374 _ _ (by omega), u2_ne _ _ (by omega), u2_eq, congrFun h.T p, hx], by rw [u2_ne _ _ (by omega), B414 _ _ (by omega), B406 _ _ (by omega), u2_ne _ _ (by omega), B394 _ _ (by omega), B386 _ _ (by omega), u2_eq, getD_s h380], fun _ => by rw [u2_ne _ _ (by omega), B414 _ _ (by omega), B406 _ _ (by omega), u2_eq, getD_s h400], fun _ => by rw [u2_eq, getD_s h420]⟩
                · skip
                  have h420 := sgn_s.mp h420
                  refine WE.iconst (n := 424) (nI 1) dX3_takeOrder_423 rfl (by decide) ?_
                  refine WE.goto (tgt := 428) dX3_takeOrder_424 (by decide) ?_
                  refine WE.iret (ty := .boolean) dX3_takeOrder_428 rfl (by first | rfl | exact b2i_nar _ | decide) ⟨by decide, by decide⟩ ?_
                  first
                    | exact POC.no (e := by simp only [pOrd, hp, hx, show ¬ nI 119 = nI 102 by decide, show ¬ nI 119 = nI 98 by decide, show ¬ nI 119 = nI 100 by decide, show ¬ nI 119 = nI 108 by decide, show ¬ nI 119 = nI 117 by decide, show ¬ nI 119 = nI 104 by decide, ↓reduceIte, pWind, pPair, h380, h389, h400, h409, h420, Option.isSome_some, Option.isSome_none, Option.getD_some, Bool.false_eq_true, and_self]) (A414.st (by decide) _)
                    | exact POC.yes (r := (nI 119, (pDig (c0 390) n (p + 1)).2.getD (nI 0), (pSgn (c0 390) n ((pDig (c0 390) n (p + 1)).1 + 1)).2.getD (nI 0), (pSgn (c0 390) n ((pSgn (c0 390) n ((pDig (c0 390) n (p + 1)).1 + 1)).1 + 1)).2.getD (nI 0))) (e := by simp only [pOrd, hp, hx, show ¬ nI 119 = nI 102 by decide, show ¬ nI 119 = nI 98 by decide, show ¬ nI 119 = nI 100 by decide, show ¬ nI 119 = nI 108 by decide, show ¬ nI 119 = nI 117 by decide, show ¬ nI 119 = nI 104 by decide, ↓reduceIte, pWind, pPair, h380, h389, h400, h409, h420, Option.isSome_some, Option.isSome_none, Option.getD_some, Bool.false_eq_true, and_self]) (A414.st (by decide) _) ⟨by rw [u2_ne _ _ (by omega), B414 _ _ (by omega), B406 _ _ (by omega), u2_ne _ _ (by omega), B394 _ _ (by omega), B386 _ _ (by omega), u2_ne _ _ (by omega), B374 _ _ (by omega), u2_ne _ _ (by omega), u2_eq, congrFun h.T p, hx], by rw [u2_ne _ _ (by omega), B414 _ _ (by omega), B406 _ _ (by omega), u2_ne _ _ (by omega), B394 _ _ (by omega), B386 _ _ (by omega), u2_eq, getD_s h380], fun _ => by rw [u2_ne _ _ (by omega), B414 _ _ (by omega), B406 _ _ (by omega), u2_eq, getD_s h400], fun _ => by rw [u2_eq, getD_s h420]⟩
    · refine WE.tswO (tgt := 429) dX3_takeOrder_34 (sw_out1 (by decide) (by decide) hr) (by decide) ?_
      have n102 : ¬ c0 390 p = nI 102 := fun q => hr (by rw [hx0, q]; decide)
      have n98 : ¬ c0 390 p = nI 98 := fun q => hr (by rw [hx0, q]; decide)
      have n100 : ¬ c0 390 p = nI 100 := fun q => hr (by rw [hx0, q]; decide)
      have n108 : ¬ c0 390 p = nI 108 := fun q => hr (by rw [hx0, q]; decide)
      have n117 : ¬ c0 390 p = nI 117 := fun q => hr (by rw [hx0, q]; decide)
      have n104 : ¬ c0 390 p = nI 104 := fun q => hr (by rw [hx0, q]; decide)
      have n119 : ¬ c0 390 p = nI 119 := fun q => hr (by rw [hx0, q]; decide)
      refine WE.iconst (n := 430) (nI 0) dX3_takeOrder_429 rfl (by decide) ?_
      refine WE.iret (ty := .boolean) dX3_takeOrder_430 rfl (by first | rfl | exact b2i_nar _ | decide) ⟨by decide, by decide⟩ ?_
      exact POC.no (e := by simp only [pOrd, hp, n102, n98, n100, n108, n117, n104, n119, ↓reduceIte]) (h.st (by decide) _)
  · skip
    have hp : ¬ p < n := fun q => h8 (by rw [h.2.1, h.1]; exact nI_lt q (by omega))
    refine WE.iconst (n := 12) (nI 0) dX3_takeOrder_11 rfl (by decide) ?_
    refine WE.iret (ty := .boolean) dX3_takeOrder_12 rfl (by first | rfl | exact b2i_nar _ | decide) ⟨by decide, by decide⟩ ?_
    exact POC.no (e := by simp only [pOrd, hp, ↓reduceIte]) h
