/-- the letters below n that wait with rank r -/
def FL (N : NA) (r n : Nat) : List Nat := (List.range n).filter fun l => decide (N (88 + 4 * l + 2) = 0 ∧ N (88 + 4 * l + 1) = nI r)
theorem FL_0 (N : NA) (r : Nat) : FL N r 0 = [] := rfl
theorem FL_t {N : NA} {r n : Nat} (h : N (88 + 4 * n + 2) = 0 ∧ N (88 + 4 * n + 1) = nI r) : FL N r (n + 1) = FL N r n ++ [n] := by
  simp [FL, List.range_succ, List.filter_append, h]
theorem FL_f {N : NA} {r n : Nat} (h : ¬ (N (88 + 4 * n + 2) = 0 ∧ N (88 + 4 * n + 1) = nI r)) : FL N r (n + 1) = FL N r n := by
  simp only [FL, List.range_succ, List.filter_append]
  rw [show List.filter (fun l => decide (N (88 + 4 * l + 2) = 0 ∧ N (88 + 4 * l + 1) = nI r)) [n] = [] by simp [h]]
  exact List.append_nil _
theorem FL_split (N : NA) (r i : Nat) : ∀ n, i ≤ n → ∃ t, FL N r n = FL N r i ++ t
  | 0, h => by
    have : i = 0 := by omega
    subst this
    exact ⟨[], (List.append_nil _).symm⟩
  | n + 1, h => by
    by_cases e : i = n + 1
    · subst e
      exact ⟨[], (List.append_nil _).symm⟩
    · obtain ⟨t, ht⟩ := FL_split N r i n (by omega)
      by_cases hp : N (88 + 4 * n + 2) = 0 ∧ N (88 + 4 * n + 1) = nI r
      · exact ⟨t ++ [n], by rw [FL_t hp, ht, List.append_assoc]⟩
      · exact ⟨t, by rw [FL_f hp, ht]⟩
theorem FL_len (N : NA) (r : Nat) : ∀ n, (FL N r n).length ≤ n
  | 0 => Nat.le_refl _
  | n + 1 => by
    by_cases hp : N (88 + 4 * n + 2) = 0 ∧ N (88 + 4 * n + 1) = nI r
    · rw [FL_t hp, List.length_append]
      have := FL_len N r n
      simp
      omega
    · rw [FL_f hp]
      have := FL_len N r n
      omega
/-- the letters that wait, in their order -/
def WL (N : NA) (nl : Nat) : List Nat := FL N 2 nl ++ (FL N 1 nl ++ FL N 0 nl)
def wres (o : Option Nat) : Int32 := match o with
  | some l => nI l
  | none => (-1 : Int32)
theorem FL_at {N : NA} {r i nl : Nat} (pre post : List Nat) (hi : i < nl) (h : N (88 + 4 * i + 2) = 0 ∧ N (88 + 4 * i + 1) = nI r) : (pre ++ (FL N r nl ++ post))[pre.length + (FL N r i).length]? = some i := by
  obtain ⟨t, ht⟩ := FL_split N r (i + 1) nl hi
  rw [ht, FL_t h]
  simp
theorem nI_dec {p q : Nat} (h : q + 1 ≤ p) : nI (p - q) + Int32.ofInt (-1) = nI (p - (q + 1)) := by
  rw [show p - q = (p - (q + 1)) + 1 by omega]
  exact pk_m1 _
set_option maxRecDepth 20000 in
set_option maxHeartbeats 1000000 in
theorem m_waits_loop {G : GT} (c : CC) (od : Int64 × UInt64) (nl : Nat) (hnl : nl ≤ 24) (hc4 : c 396 4 = nI nl) (p q r : Nat) (hp : p < 2 ^ 31) (hq : q ≤ p)
    (kr : ∀ i : Nat, i < nl → (c 396 (88 + 4 * i + 2) = 0 ∧ c 396 (88 + 4 * i + 1) = nI r) → q + (FL (c 396) r i).length = p → WE mX6_waits 64 [(4, .int (nI i))] [] (c, od) 0 0 G)
    (ke : q + (FL (c 396) r nl).length ≤ p → WE mX6_waits 76 [(0, .ref 395), (2, .int (nI (p - (q + (FL (c 396) r nl).length)))), (3, .int (nI r)), (4, .int (nI nl))] [] (c, od) 0 0 G) :
    WE mX6_waits 11 [(0, .ref 395), (2, .int (nI (p - q))), (3, .int (nI r)), (4, .int (nI 0))] [] (c, od) 0 0 G := by
  suffices H : ∀ n i : Nat, i ≤ nl → nl < i + n → q + (FL (c 396) r i).length ≤ p → WE mX6_waits 11 [(0, .ref 395), (2, .int (nI (p - (q + (FL (c 396) r i).length)))), (3, .int (nI r)), (4, .int (nI i))] [] (c, od) 0 0 G from WE.ofA (L' := [(0, .ref 395), (2, .int (nI (p - (q + (FL (c 396) r 0).length)))), (3, .int (nI r)), (4, .int (nI 0))]) ⟨rfl, rfl, rfl, rfl, trivial⟩ (H (nl + 1) 0 (Nat.zero_le _) (by omega) hq)
  intro n
  induction n with
  | zero =>
    intro i h1 h2
    exact absurd h2 (by omega)
  | succ n ih =>
    intro i hi hn hQ
    refine WE.iload (n := 13) dX6_waits_11 rfl rfl ?_
    refine WE.aload_n (n := 14) dX6_waits_13 rfl rfl ?_
    refine WE.getR (n := 17) dX6_waits_14 rfl fl_X6_9 ⟨by decide, by decide⟩ rfl (by first | decide | exact kd_bal (by assumption) | exact kd_let (by assumption) | assumption) ?_
    refine WE.iconst (n := 18) (nI 4) dX6_waits_17 rfl (by decide) ?_
    refine WE.iald (n := 19) 4 dX6_waits_18 rfl (by first | decide | assumption) rfl (by show _ < 184; omega) ?_
    refine WE.icmp_ge (n := 22) (tgt := 76) dX6_waits_19 rfl (by decide) (fun h19 => ?_) (fun h19 => ?_)
    · skip
      rw [hc4] at h19
      have hx : i = nl := by have := ge_t (by omega) (by omega) h19; omega
      subst hx
      exact ke hQ
    · skip
      rw [hc4] at h19
      have hlt : i < nl := ge_f (by omega) (by omega) h19
      refine WE.aload_n (n := 23) dX6_waits_22 rfl rfl ?_
      refine WE.getR (n := 26) dX6_waits_23 rfl fl_X6_9 ⟨by decide, by decide⟩ rfl (by first | decide | exact kd_bal (by assumption) | exact kd_let (by assumption) | assumption) ?_
      refine WE.bipush (n := 28) (nI 88) dX6_waits_26 rfl (by decide) ?_
      refine WE.iconst (n := 29) (nI 4) dX6_waits_28 rfl (by decide) ?_
      refine WE.iload (n := 31) dX6_waits_29 rfl rfl ?_
      refine WE.imul (n := 32) dX6_waits_31 rfl ?_
      refine WE.iadd (n := 33) dX6_waits_32 rfl ?_
      refine WE.iconst (n := 34) (nI 2) dX6_waits_33 rfl (by decide) ?_
      refine WE.iadd (n := 35) dX6_waits_34 rfl ?_
      refine WE.iald (n := 36) (88 + 4 * i + 2) dX6_waits_35 rfl (by first | decide | assumption) (by first | rfl | simp only [pk_mul, nI_add]) (by show _ < 184; omega) ?_
      refine WE.if_ne (n := 39) (tgt := 70) dX6_waits_36 rfl (by decide) (fun h36 => ?_) (fun h36 => ?_)
      · skip
        have hm : ¬ (c 396 (88 + 4 * i + 2) = 0 ∧ c 396 (88 + 4 * i + 1) = nI r) := fun z => h36 z.1
        refine WE.iincV (n := 73) (nI (i + 1)) dX6_waits_70 rfl rfl (by decide) (nI_inc i) ?_
        refine WE.goto (tgt := 11) dX6_waits_73 (by decide) ?_
        exact WE.ofA (L' := [(0, .ref 395), (2, .int (nI (p - (q + (FL (c 396) r (i + 1)).length)))), (3, .int (nI r)), (4, .int (nI (i + 1)))]) ⟨rfl, (by rw [FL_f hm]; rfl), rfl, rfl, trivial⟩ (ih (i + 1) (by omega) (by omega) (by rw [FL_f hm]; omega))
      · skip
        refine WE.aload_n (n := 40) dX6_waits_39 rfl rfl ?_
        refine WE.getR (n := 43) dX6_waits_40 rfl fl_X6_9 ⟨by decide, by decide⟩ rfl (by first | decide | exact kd_bal (by assumption) | exact kd_let (by assumption) | assumption) ?_
        refine WE.bipush (n := 45) (nI 88) dX6_waits_43 rfl (by decide) ?_
        refine WE.iconst (n := 46) (nI 4) dX6_waits_45 rfl (by decide) ?_
        refine WE.iload (n := 48) dX6_waits_46 rfl rfl ?_
        refine WE.imul (n := 49) dX6_waits_48 rfl ?_
        refine WE.iadd (n := 50) dX6_waits_49 rfl ?_
        refine WE.iconst (n := 51) (nI 1) dX6_waits_50 rfl (by decide) ?_
        refine WE.iadd (n := 52) dX6_waits_51 rfl ?_
        refine WE.iald (n := 53) (88 + 4 * i + 1) dX6_waits_52 rfl (by first | decide | assumption) (by first | rfl | simp only [pk_mul, nI_add]) (by show _ < 184; omega) ?_
        refine WE.iload_n (n := 54) dX6_waits_53 rfl rfl ?_
        refine WE.icmp_eq (n := 57) (tgt := 60) dX6_waits_54 rfl (by decide) (fun h54 => ?_) (fun h54 => ?_)
        · skip
          have hm : c 396 (88 + 4 * i + 2) = 0 ∧ c 396 (88 + 4 * i + 1) = nI r := ⟨h36, h54⟩
          refine WE.iload_n (n := 61) dX6_waits_60 rfl rfl ?_
          refine WE.if_ne (n := 64) (tgt := 67) dX6_waits_61 rfl (by decide) (fun h61 => ?_) (fun h61 => ?_)
          · skip
            have hq2 : q + (FL (c 396) r i).length + 1 ≤ p := by
              have : p - (q + (FL (c 396) r i).length) ≠ 0 := fun z => h61 (by rw [z]; rfl)
              omega
            refine WE.iincV (n := 70) (nI (p - (q + (FL (c 396) r i).length + 1))) dX6_waits_67 rfl rfl (by decide) (nI_dec hq2) ?_
            refine WE.iincV (n := 73) (nI (i + 1)) dX6_waits_70 rfl rfl (by decide) (nI_inc i) ?_
            refine WE.goto (tgt := 11) dX6_waits_73 (by decide) ?_
            exact WE.ofA (L' := [(0, .ref 395), (2, .int (nI (p - (q + (FL (c 396) r (i + 1)).length)))), (3, .int (nI r)), (4, .int (nI (i + 1)))]) ⟨rfl, (by rw [FL_t hm]; simp only [List.length_append, List.length_singleton, ← Nat.add_assoc]; rfl), rfl, rfl, trivial⟩ (ih (i + 1) (by omega) (by omega) (by rw [FL_t hm]; simp only [List.length_append, List.length_singleton]; omega))
          · skip
            have hq2 : q + (FL (c 396) r i).length = p := by
              have h61 : nI (p - (q + (FL (c 396) r i).length)) = nI 0 := h61
              rw [nI_eq (by omega) (by decide)] at h61
              omega
            exact WE.ofA (L' := [(4, .int (nI i))]) ⟨rfl, trivial⟩ (kr i hlt hm hq2)
        · skip
          have hm : ¬ (c 396 (88 + 4 * i + 2) = 0 ∧ c 396 (88 + 4 * i + 1) = nI r) := fun z => h54 z.2
          refine WE.goto (tgt := 70) dX6_waits_57 (by decide) ?_
          refine WE.iincV (n := 73) (nI (i + 1)) dX6_waits_70 rfl rfl (by decide) (nI_inc i) ?_
          refine WE.goto (tgt := 11) dX6_waits_73 (by decide) ?_
          exact WE.ofA (L' := [(0, .ref 395), (2, .int (nI (p - (q + (FL (c 396) r (i + 1)).length)))), (3, .int (nI r)), (4, .int (nI (i + 1)))]) ⟨rfl, (by rw [FL_f hm]; rfl), rfl, rfl, trivial⟩ (ih (i + 1) (by omega) (by omega) (by rw [FL_f hm]; omega))
set_option maxRecDepth 20000 in
set_option maxHeartbeats 1000000 in
theorem m_waits (c : CC) (od : Int64 × UInt64) (nl : Nat) (hnl : nl ≤ 24) (hc4 : c 396 4 = nI nl) (p : Nat) (hp : p < 2 ^ 31) : CM mX6_waits [.ref 395, .int (nI p)] (c, od) (RI (wres (WL (c 396) nl)[p]?) (c, od)) := by
  refine CM.of [(0, .ref 395), (1, .int (nI p))] rfl (by decide +kernel) rfl (Nat.le_of_ble_eq_true rfl) ?_
  refine WE.iload_n (n := 1) dX6_waits_0 rfl rfl ?_
  refine WE.istore_n (n := 2) dX6_waits_1 rfl (by decide) ?_
  refine WE.iconst (n := 3) (nI 2) dX6_waits_2 rfl (by decide) ?_
  refine WE.istore_n (n := 4) dX6_waits_3 rfl (by decide) ?_
  refine WE.iload_n (n := 5) dX6_waits_4 rfl rfl ?_
  refine WE.if_lt (n := 8) (tgt := 82) dX6_waits_5 rfl (by decide) (fun h => absurd h (by decide)) (fun _ => ?_)
  refine WE.iconst (n := 9) (nI 0) dX6_waits_8 rfl (by decide) ?_
  refine WE.istore (n := 11) dX6_waits_9 rfl (by decide) ?_
  refine WE.ofA (L' := [(0, .ref 395), (2, .int (nI (p - (0)))), (3, .int (nI 2)), (4, .int (nI 0))]) ⟨rfl, rfl, rfl, rfl, trivial⟩ (m_waits_loop c od nl hnl hc4 p (0) 2 hp (by omega) (fun i hi hm hlen => ?_) (fun hq2 => ?_))
  · skip
    refine WE.iload (n := 66) dX6_waits_64 rfl rfl ?_
    refine WE.iret (ty := .int) dX6_waits_66 rfl rfl ⟨by decide, by decide⟩ ?_
    refine RI.mk ?_ rfl
    have e := FL_at (N := c 396) (r := 2) ([]) ((FL (c 396) 1 nl) ++ (FL (c 396) 0 nl)) hi hm
    rw [show ([]).length + (FL (c 396) 2 i).length = p by simpa [Nat.add_assoc] using hlen] at e
    rw [show WL (c 396) nl = [] ++ (FL (c 396) 2 nl ++ ((FL (c 396) 1 nl) ++ (FL (c 396) 0 nl))) by simp [WL], e]
    rfl
  refine WE.iincV (n := 79) (nI 1) dX6_waits_76 rfl rfl (by decide) (by decide) ?_
  refine WE.goto (tgt := 4) dX6_waits_79 (by decide) ?_
  refine WE.iload_n (n := 5) dX6_waits_4 rfl rfl ?_
  refine WE.if_lt (n := 8) (tgt := 82) dX6_waits_5 rfl (by decide) (fun h => absurd h (by decide)) (fun _ => ?_)
  refine WE.iconst (n := 9) (nI 0) dX6_waits_8 rfl (by decide) ?_
  refine WE.istore (n := 11) dX6_waits_9 rfl (by decide) ?_
  refine WE.ofA (L' := [(0, .ref 395), (2, .int (nI (p - (0 + (FL (c 396) 2 nl).length)))), (3, .int (nI 1)), (4, .int (nI 0))]) ⟨rfl, rfl, rfl, rfl, trivial⟩ (m_waits_loop c od nl hnl hc4 p (0 + (FL (c 396) 2 nl).length) 1 hp (by omega) (fun i hi hm hlen => ?_) (fun hq1 => ?_))
  · skip
    refine WE.iload (n := 66) dX6_waits_64 rfl rfl ?_
    refine WE.iret (ty := .int) dX6_waits_66 rfl rfl ⟨by decide, by decide⟩ ?_
    refine RI.mk ?_ rfl
    have e := FL_at (N := c 396) (r := 1) ((FL (c 396) 2 nl)) ((FL (c 396) 0 nl)) hi hm
    rw [show ((FL (c 396) 2 nl)).length + (FL (c 396) 1 i).length = p by simpa [Nat.add_assoc] using hlen] at e
    rw [show WL (c 396) nl = (FL (c 396) 2 nl) ++ (FL (c 396) 1 nl ++ ((FL (c 396) 0 nl))) by simp [WL], e]
    rfl
  refine WE.iincV (n := 79) (nI 0) dX6_waits_76 rfl rfl (by decide) (by decide) ?_
  refine WE.goto (tgt := 4) dX6_waits_79 (by decide) ?_
  refine WE.iload_n (n := 5) dX6_waits_4 rfl rfl ?_
  refine WE.if_lt (n := 8) (tgt := 82) dX6_waits_5 rfl (by decide) (fun h => absurd h (by decide)) (fun _ => ?_)
  refine WE.iconst (n := 9) (nI 0) dX6_waits_8 rfl (by decide) ?_
  refine WE.istore (n := 11) dX6_waits_9 rfl (by decide) ?_
  refine WE.ofA (L' := [(0, .ref 395), (2, .int (nI (p - (0 + (FL (c 396) 2 nl).length + (FL (c 396) 1 nl).length)))), (3, .int (nI 0)), (4, .int (nI 0))]) ⟨rfl, rfl, rfl, rfl, trivial⟩ (m_waits_loop c od nl hnl hc4 p (0 + (FL (c 396) 2 nl).length + (FL (c 396) 1 nl).length) 0 hp (by omega) (fun i hi hm hlen => ?_) (fun hq0 => ?_))
  · skip
    refine WE.iload (n := 66) dX6_waits_64 rfl rfl ?_
    refine WE.iret (ty := .int) dX6_waits_66 rfl rfl ⟨by decide, by decide⟩ ?_
    refine RI.mk ?_ rfl
    have e := FL_at (N := c 396) (r := 0) (((FL (c 396) 2 nl) ++ (FL (c 396) 1 nl))) ([]) hi hm
    rw [show (((FL (c 396) 2 nl) ++ (FL (c 396) 1 nl))).length + (FL (c 396) 0 i).length = p by simpa [Nat.add_assoc] using hlen] at e
    rw [show WL (c 396) nl = ((FL (c 396) 2 nl) ++ (FL (c 396) 1 nl)) ++ (FL (c 396) 0 nl ++ ([])) by simp [WL], e]
    rfl
  refine WE.iincV (n := 79) ((-1 : Int32)) dX6_waits_76 rfl rfl (by decide) (by decide) ?_
  refine WE.goto (tgt := 4) dX6_waits_79 (by decide) ?_
  refine WE.iload_n (n := 5) dX6_waits_4 rfl rfl ?_
  refine WE.if_lt (n := 8) (tgt := 82) dX6_waits_5 rfl (by decide) (fun _ => ?_) (fun h => absurd (by decide) h)
  refine WE.iconst (n := 83) (-1 : Int32) dX6_waits_82 rfl (by decide) ?_
  refine WE.iret (ty := .int) dX6_waits_83 rfl rfl ⟨by decide, by decide⟩ ?_
  refine RI.mk ?_ rfl
  rw [List.getElem?_eq_none (by simp only [WL, List.length_append]; omega)]
  rfl
