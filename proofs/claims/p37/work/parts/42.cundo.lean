def OA (c : CC) (od : Int64 × UInt64) (p : AO → CC → Prop) : AO → SS → Prop := fun o st => ∃ c', st = (c', od) ∧ (∀ a k, 395 ≤ a → c' a k = c a k) ∧ p o c'
theorem CH.frame {c c' : CC} {h : List NA} (H : CH c h) (hk : ∀ a k, 36 ≤ a → a < 353 → c' a k = c a k) : CH c' h := by
  obtain ⟨h1, h2, nx, hn, hx, hr⟩ := H
  exact CH.still h1 h2 hn hx hr (fun a k q1 q2 _ => hk a k q1 q2)
theorem upN_u2 (c : CC) (a k : Nat) (x : Int32) : u2 c a k x a = upN (c a) k x := by
  funext j
  by_cases e : j = k
  · rw [e, u2_eq, upN_eq]
  · rw [u2_ne _ _ (by omega), upN_ne _ _ _ e]
set_option maxRecDepth 20000 in
set_option maxHeartbeats 1000000 in
theorem c_add (c : CC) (od : Int64 × UInt64) (n : Nat) (hn : n ≤ 60) (hl : c 389 5 = nI n) (x : Int32) (hx : vp_nar .char x = x) : CM mX3_add [.ref 389, .int x] (c, od) (PI fun v σ => if n < 60 then v = nI 1 ∧ σ = (u2 (u2 c 390 n x) 389 5 (nI (n + 1)), od) else v = nI 0 ∧ σ = (c, od)) := by
  refine CM.of [(0, .ref 389), (1, .int x)] rfl (by decide +kernel) rfl (Nat.le_of_ble_eq_true rfl) ?_
  refine WE.aload_n (n := 1) dX3_add_0 rfl rfl ?_
  refine WE.getI (n := 4) dX3_add_1 rfl fl_X3_32 ⟨by decide, by decide, rfl⟩ (by first | decide | exact kd_bal (by assumption) | exact kd_let (by assumption) | assumption) ?_
  refine WE.bipush (n := 6) (nI 60) dX3_add_4 rfl (by decide) ?_
  refine WE.icmp_lt (n := 9) (tgt := 11) dX3_add_6 rfl (by decide) (fun h6 => ?_) (fun h6 => ?_)
  · skip
    have hlt : n < 60 := by rw [hl] at h6; have h6 : nI n < nI 60 := h6; rw [nI_ltI (by omega) (by decide)] at h6; exact h6
    refine WE.aload_n (n := 12) dX3_add_11 rfl rfl ?_
    refine WE.getR (n := 15) dX3_add_12 rfl fl_X3_9 ⟨by decide, by decide⟩ rfl (by first | decide | exact kd_bal (by assumption) | exact kd_let (by assumption) | assumption) ?_
    refine WE.aload_n (n := 16) dX3_add_15 rfl rfl ?_
    refine WE.getI (n := 19) dX3_add_16 rfl fl_X3_32 ⟨by decide, by decide, rfl⟩ (by first | decide | exact kd_bal (by assumption) | exact kd_let (by assumption) | assumption) ?_
    refine WE.iload_n (n := 20) dX3_add_19 rfl rfl ?_
    refine WE.cast (n := 21) n dX3_add_20 rfl (by first | decide | assumption) (by rw [hl]) (by show _ < 60; omega) hx ?_
    refine WE.aload_n (n := 22) dX3_add_21 rfl rfl ?_
    refine WE.dup (n := 23) dX3_add_22 rfl rfl ?_
    refine WE.getI (n := 26) dX3_add_23 rfl fl_X3_32 ⟨by decide, by decide, rfl⟩ (by first | decide | exact kd_bal (by assumption) | exact kd_let (by assumption) | assumption) ?_
    refine WE.iconst (n := 27) (nI 1) dX3_add_26 rfl (by decide) ?_
    refine WE.iadd (n := 28) dX3_add_27 rfl ?_
    refine WE.putI (n := 31) dX3_add_28 rfl fl_X3_32 ⟨by decide, by decide, rfl, rfl⟩ ⟨by first | rfl | decide, by first | rfl | decide⟩ (by first | decide | exact kd_bal (by assumption) | exact kd_let (by assumption) | assumption) ?_
    refine WE.iconst (n := 32) (nI 1) dX3_add_31 rfl (by decide) ?_
    refine WE.iret (ty := .boolean) dX3_add_32 rfl (by first | rfl | exact b2i_nar _ | decide) ⟨by decide, by decide⟩ ?_
    refine PI.mk ?_
    rw [if_pos hlt]
    refine ⟨rfl, ?_⟩
    rw [u2_ne _ _ (by omega), hl, nI_s1]
  · skip
    have hlt : ¬ n < 60 := fun q => h6 (by rw [hl]; exact nI_lt q (by decide))
    refine WE.iconst (n := 10) (nI 0) dX3_add_9 rfl (by decide) ?_
    refine WE.iret (ty := .boolean) dX3_add_10 rfl (by first | rfl | exact b2i_nar _ | decide) ⟨by decide, by decide⟩ ?_
    refine PI.mk ?_
    rw [if_neg hlt]
    exact ⟨rfl, rfl⟩
set_option maxRecDepth 20000 in
set_option maxHeartbeats 1000000 in
theorem p_append (c : CC) (od : Int64 × UInt64) (N : NA) (h : List NA) (s : Option NA) (n : Nat) (t : NA) (e : Int32) (w : Int32 × Int32) (H : CR c N h s n t e w) (x : Int32) (hx : vp_nar .char x = x) : CM mX5_append [.ref 0, .int x] (c, od) (OA c od fun o c' => if n < 60 then o = .inl (some (.int (nI (n + 1)))) ∧ CR c' N h s (n + 1) (upN t n x) e w else o = .inr isE ∧ CR c' N h s n t e w) := by
  refine CM.of [(0, .ref 0), (1, .int x)] rfl (by decide +kernel) rfl (Nat.le_of_ble_eq_true rfl) ?_
  refine WE.aload_n (n := 1) dX5_append_0 rfl rfl ?_
  refine WE.getR (n := 4) dX5_append_1 rfl fl_X5_36 ⟨by decide, by decide⟩ rfl (by first | decide | exact kd_bal (by assumption) | exact kd_let (by assumption) | assumption) ?_
  refine WE.iload_n (n := 5) dX5_append_4 rfl rfl ?_
  refine WE.V1PI (M' := mX3_add) (n := 8) dX5_append_5 rfl cv_X5_183 (by first | decide | exact kd_bal (by assumption) | exact kd_let (by assumption) | assumption) ⟨⟨by decide, by decide⟩, by decide, by decide⟩ (Nat.le_of_ble_eq_true rfl) (c_add c od n H.2.2.2.2.1 H.2.2.2.2.2.1 x hx) (fun r5 σ5 q5 => ?_)
  by_cases hlt : n < 60
  · rw [if_pos hlt] at q5
    obtain ⟨rfl, rfl⟩ := q5
    refine WE.if_ne (n := 11) (tgt := 21) dX5_append_8 rfl (by decide) (fun h8 => ?_) (fun h8 => ?_)
    · skip
      refine WE.aload_n (n := 22) dX5_append_21 rfl rfl ?_
      refine WE.getR (n := 25) dX5_append_22 rfl fl_X5_36 ⟨by decide, by decide⟩ rfl (by first | decide | exact kd_bal (by assumption) | exact kd_let (by assumption) | assumption) ?_
      refine WE.getI (n := 28) dX5_append_25 rfl fl_X5_192 ⟨by decide, by decide, rfl⟩ (by first | decide | exact kd_bal (by assumption) | exact kd_let (by assumption) | assumption) ?_
      refine WE.iret (ty := .int) dX5_append_28 rfl rfl ⟨by decide, by decide⟩ ?_
      refine ⟨_, rfl, fun a k ha => by rw [u2_ne _ _ (by omega), u2_ne _ _ (by omega)], ?_⟩
      show ite (n < 60) _ _
      rw [if_pos hlt]
      refine ⟨by rw [u2_eq], ?_⟩
      obtain ⟨i1, i2, i3, i4, i5, i6, i7, i8, i9, i10⟩ := H
      have k : ∀ a k, a ≠ 390 → ¬ (a = 389 ∧ k = 5) → u2 (u2 c 390 n x) 389 5 (nI (n + 1)) a k = c a k := fun a k q1 q2 => by rw [u2_ne _ _ q2, u2_ne _ _ (by omega)]
      refine ⟨i1, i2.frame i1.cn.1 i1.cn.2.2.1 (fun a h1 h2 q h3 => k a q (by omega) (by omega)), i3.frame (fun a q q1 q2 => k a q (by omega) (by omega)), ?_, by omega, u2_eq _ _ _ _, ?_, (k _ _ (by omega) (by omega)).trans i8, (k _ _ (by omega) (by omega)).trans i9, (k _ _ (by omega) (by omega)).trans i10⟩
      · cases s with
        | none => exact (k _ _ (by omega) (by omega)).trans i4
        | some S => exact ⟨(k _ _ (by omega) (by omega)).trans i4.1, i4.2.1, i4.2.2.frame i4.2.1.cn.1 i4.2.1.cn.2.2.1 (fun a h1 h2 q h3 => k a q (by omega) (by omega))⟩
      · rw [u2_o _ _ _ (by decide), upN_u2, i7]
    · skip
      exact absurd h8 (by decide)
  · rw [if_neg hlt] at q5
    obtain ⟨rfl, rfl⟩ := q5
    refine WE.if_ne (n := 11) (tgt := 21) dX5_append_8 rfl (by decide) (fun h8 => ?_) (fun h8 => ?_)
    · skip
      exact absurd rfl h8
    · skip
      refine WE.throwS (tx := "the input is full") "java/lang/IllegalStateException" dX5_append_11 dX5_append_14 dX5_append_15 dX5_append_17 dX5_append_20 xl_X5_187_191 (by decide +kernel) rfl ⟨by decide, by decide⟩ ⟨by decide, by decide⟩ ?_
      exact ⟨_, rfl, fun _ _ _ => rfl, by show ite (n < 60) _ _; rw [if_neg hlt]; exact ⟨rfl, H⟩⟩
  
set_option maxRecDepth 20000 in
set_option maxHeartbeats 1000000 in
theorem p_undo (c : CC) (od : Int64 × UInt64) (N : NA) (h : List NA) (s : Option NA) (n : Nat) (t : NA) (e : Int32) (w : Int32 × Int32) (H : CR c N h s n t e w) : CM mX5_undo [.ref 0] (c, od) (OA c od fun o c' => match h with | [] => o = .inr isE ∧ CR c' N [] s n t e w | S :: r => o = .inl (some (.int (nI r.length))) ∧ CR c' S r s n t e w) := by
  refine CM.of [(0, .ref 0)] rfl (by decide +kernel) rfl (Nat.le_of_ble_eq_true rfl) ?_
  obtain ⟨hl8, hu, nx, hn, hx, hr⟩ := H.2.2.1
  refine WE.aload_n (n := 1) dX5_undo_0 rfl rfl ?_
  refine WE.getR (n := 4) dX5_undo_1 rfl fl_X5_19 ⟨by decide, by decide⟩ rfl (by first | decide | exact kd_bal (by assumption) | exact kd_let (by assumption) | assumption) ?_
  refine WE.aload_n (n := 5) dX5_undo_4 rfl rfl ?_
  refine WE.getR (n := 8) dX5_undo_5 rfl fl_X5_10 ⟨by decide, by decide⟩ rfl (by first | decide | exact kd_bal (by assumption) | exact kd_let (by assumption) | assumption) ?_
  refine WE.V1PI (M' := mX1_stepBack) (n := 11) dX5_undo_8 rfl cv_X5_260 (by first | decide | exact kd_bal (by assumption) | exact kd_let (by assumption) | assumption) ⟨⟨by decide, by decide⟩, by decide, by decide⟩ (Nat.le_of_ble_eq_true rfl) (c_stepBack c od nx h.length hn hx hl8 hu) (fun r8 σ8 q8 => ?_)
  obtain ⟨c1, rfl, m⟩ := q8
  cases h with
  | nil =>
    rw [if_pos (show ([] : List NA).length = 0 from rfl)] at m
    obtain ⟨rfl, rfl⟩ := m
    refine WE.if_ne (n := 14) (tgt := 25) dX5_undo_11 rfl (by decide) (fun h11 => ?_) (fun h11 => ?_)
    · skip
      exact absurd rfl h11
    · skip
      refine WE.throwSW (tx := "no change can be undone") "java/lang/IllegalStateException" dX5_undo_14 dX5_undo_17 dX5_undo_18 dX5_undo_21 dX5_undo_24 xl_X5_187_191 (by decide +kernel) rfl ⟨by decide, by decide⟩ ⟨by decide, by decide⟩ ?_
      exact ⟨_, rfl, fun _ _ _ => rfl, rfl, H⟩
  | cons S r =>
    rw [if_neg (show ¬ (S :: r).length = 0 by simp)] at m
    obtain ⟨rfl, c0, hc0, P⟩ := m
    refine WE.if_ne (n := 14) (tgt := 25) dX5_undo_11 rfl (by decide) (fun h11 => ?_) (fun h11 => ?_)
    · skip
      refine WE.aload_n (n := 26) dX5_undo_25 rfl rfl ?_
      refine WE.getR (n := 29) dX5_undo_26 rfl fl_X5_19 ⟨by decide, by decide⟩ rfl (by first | decide | exact kd_bal (by assumption) | exact kd_let (by assumption) | assumption) ?_
      refine WE.getI (n := 32) dX5_undo_29 rfl fl_X5_225 ⟨by decide, by decide, rfl⟩ (by first | decide | exact kd_bal (by assumption) | exact kd_let (by assumption) | assumption) ?_
      refine WE.iret (ty := .int) dX5_undo_32 rfl rfl ⟨by decide, by decide⟩ ?_
      have hnx2 : (if 0 < nx then nx - 1 else 8) < 9 := by split <;> omega
      have eo : ∀ a k, a ≠ 36 → ¬ (1 ≤ a ∧ a ≤ 35) → c1 a k = c a k := fun a k q1 q2 => by rw [P.2.2.2.2 a k (Or.inl (by omega)), hc0, u2_ne _ _ (by omega), u2_ne _ _ (by omega)]
      have h36 : ∀ k, c1 36 k = c0 36 k := fun k => P.2.2.2.2 36 k (Or.inl (by omega))
      have g0 := hr 0 S rfl
      rw [back_nx hn] at g0
      have g0' : RelT c0 (38 + 35 * (if 0 < nx then nx - 1 else 8)) S := g0.2.frame g0.1.cn.1 g0.1.cn.2.2.1 (fun a h1 h2 k h3 => by rw [hc0, u2_ne _ _ (by omega), u2_ne _ _ (by omega)])
      have hw14 : c1 1 14 = c 1 14 := by rw [P.2.2.2.2 1 14 (Or.inr ⟨rfl, by decide⟩), hc0, u2_ne _ _ (by omega), u2_ne _ _ (by omega)]
      have hw15 : c1 1 15 = c 1 15 := by rw [P.2.2.2.2 1 15 (Or.inr ⟨rfl, by decide⟩), hc0, u2_ne _ _ (by omega), u2_ne _ _ (by omega)]
      have e36 : c1 36 2 = nI r.length := by rw [h36, hc0, u2_eq]; rfl
      obtain ⟨i1, i2, i3, i4, i5, i6, i7, i8, i9, i10⟩ := H
      refine ⟨_, rfl, fun a k ha => eo a k (by omega) (by omega), by rw [e36], g0.1, P.rel g0.1.cn g0', ⟨by simp only [List.length_cons] at hl8; omega, e36, _, hnx2, by rw [h36, hc0, u2_ne _ _ (by decide), u2_eq], fun a A hA => ?_⟩, ?_, i5, (eo _ _ (by omega) (by omega)).trans i6, ?_, (eo _ _ (by omega) (by omega)).trans i8, hw14.trans i9, hw15.trans i10⟩
      · have ha : a < r.length := (List.getElem?_eq_some_iff.mp hA).1
        have g := hr (a + 1) A hA
        have hl : r.length + 1 ≤ 8 := hl8
        have er : ((if 0 < nx then nx - 1 else 8) + 8 - a) % 9 = (nx + 8 - (a + 1)) % 9 := by split <;> omega
        rw [er]
        have hlt : (nx + 8 - (a + 1)) % 9 < 9 := Nat.mod_lt _ (by decide)
        exact ⟨g.1, g.2.frame g.1.cn.1 g.1.cn.2.2.1 (fun x h1 h2 k h3 => eo x k (by omega) (by omega))⟩
      · cases s with
        | none => exact (eo _ _ (by omega) (by omega)).trans i4
        | some S => exact ⟨(eo _ _ (by omega) (by omega)).trans i4.1, i4.2.1, i4.2.2.frame i4.2.1.cn.1 i4.2.1.cn.2.2.1 (fun a h1 h2 q h3 => eo a q (by omega) (by omega))⟩
      · rw [← i7]
        exact funext fun q => eo _ _ (by omega) (by omega)
    · skip
      exact absurd h11 (by decide)
  
set_option maxRecDepth 20000 in
set_option maxHeartbeats 1000000 in
theorem p_save (c : CC) (od : Int64 × UInt64) (N : NA) (h : List NA) (s : Option NA) (n : Nat) (t : NA) (e : Int32) (w : Int32 × Int32) (H : CR c N h s n t e w) : CM mX5_save [.ref 0] (c, od) (OA c od fun o c' => o = .inl (some (.int (N 3))) ∧ CR c' N h (some N) n t e w) := by
  refine CM.of [(0, .ref 0)] rfl (by decide +kernel) rfl (Nat.le_of_ble_eq_true rfl) ?_
  refine WE.aload_n (n := 1) dX5_save_0 rfl rfl ?_
  refine WE.getR (n := 4) dX5_save_1 rfl fl_X5_23 ⟨by decide, by decide⟩ rfl (by first | decide | exact TT.snap.k0 | assumption) ?_
  refine WE.aload_n (n := 5) dX5_save_4 rfl rfl ?_
  refine WE.getR (n := 8) dX5_save_5 rfl fl_X5_10 ⟨by decide, by decide⟩ rfl (by first | decide | exact TT.snap.k0 | assumption) ?_
  refine WE.V1PV (M' := mX4_copyFrom) (n := 11) dX5_save_8 rfl cv_X5_266 (by first | decide | exact TT.snap.k0 | assumption) ⟨⟨by decide, by decide⟩, by decide, by decide⟩ (Nat.le_of_ble_eq_true rfl) (c_copyT c od 353 1 TT.snap TT.one (by unfold DJ; omega)) (fun σ8 q8 => ?_)
  obtain ⟨c1, rfl, P⟩ := q8
  refine WE.aload_n (n := 12) dX5_save_11 rfl rfl ?_
  refine WE.iconst (n := 13) (nI 1) dX5_save_12 rfl (by decide) ?_
  refine WE.putI (n := 16) dX5_save_13 rfl fl_X5_269 ⟨by decide, by decide, rfl, rfl⟩ ⟨by first | rfl | decide, by first | rfl | decide⟩ (by first | decide | exact TT.snap.k0 | assumption) ?_
  refine WE.aload_n (n := 17) dX5_save_16 rfl rfl ?_
  refine WE.getR (n := 20) dX5_save_17 rfl fl_X5_10 ⟨by decide, by decide⟩ rfl (by first | decide | exact TT.snap.k0 | assumption) ?_
  refine WE.getI (n := 23) dX5_save_20 rfl fl_X5_273 ⟨by decide, by decide, rfl⟩ (by first | decide | exact TT.snap.k0 | assumption) ?_
  refine WE.iret (ty := .int) dX5_save_23 rfl rfl ⟨by decide, by decide⟩ ?_
  have eo : ∀ a k, ¬ (353 ≤ a ∧ a < 388) → ¬ (a = 0 ∧ k = 5) → u2 c1 0 5 (nI 1) a k = c a k := fun a k q1 q2 => by rw [u2_ne _ _ q2, P.2.2.2.2 a k (Or.inl (by omega))]
  obtain ⟨i1, i2, i3, i4, i5, i6, i7, i8, i9, i10⟩ := H
  refine ⟨_, rfl, fun a k ha => eo a k (by omega) (by omega), ?_, i1, i2.frame i1.cn.1 i1.cn.2.2.1 (fun a h1 h2 q h3 => eo a q (by omega) (by omega)), i3.frame (fun a q q1 q2 => eo a q (by omega) (by omega)), ⟨u2_eq _ _ _ _, i1, ?_⟩, i5, (eo _ _ (by omega) (by omega)).trans i6, ?_, (eo _ _ (by omega) (by omega)).trans i8, (eo _ _ (by omega) (by omega)).trans i9, (eo _ _ (by omega) (by omega)).trans i10⟩
  · rw [eo _ _ (by omega) (by omega)]
    exact congrArg (fun x => (Sum.inl (some (Value.int x)) : AO)) (i2.s (4, 3) (by decide))
  · exact (P.rel i1.cn i2).frame i1.cn.1 i1.cn.2.2.1 (fun a h1 h2 q h3 => u2_ne _ _ (by omega))
  · rw [← i7]
    exact funext fun q => eo _ _ (by omega) (by omega)
set_option maxRecDepth 20000 in
set_option maxHeartbeats 1000000 in
theorem p_restore (c : CC) (od : Int64 × UInt64) (N : NA) (h : List NA) (s : Option NA) (n : Nat) (t : NA) (e : Int32) (w : Int32 × Int32) (H : CR c N h s n t e w) : CM mX5_restore [.ref 0] (c, od) (OA c od fun o c' => match s with | none => o = .inr isE ∧ CR c' N h none n t e w | some S => o = .inl (some (.int (S 3))) ∧ CR c' S [] (some S) n t e w) := by
  refine CM.of [(0, .ref 0)] rfl (by decide +kernel) rfl (Nat.le_of_ble_eq_true rfl) ?_
  refine WE.aload_n (n := 1) dX5_restore_0 rfl rfl ?_
  refine WE.getI (n := 4) dX5_restore_1 rfl fl_X5_269 ⟨by decide, by decide, rfl⟩ (by first | decide | exact TT.snap.k0 | assumption) ?_
  refine WE.if_ne (n := 7) (tgt := 18) dX5_restore_4 rfl (by decide) (fun h4 => ?_) (fun h4 => ?_)
  · skip
    cases s with
    | none => exact absurd H.2.2.2.1 h4
    | some S =>
      refine WE.aload_n (n := 19) dX5_restore_18 rfl rfl ?_
      refine WE.getR (n := 22) dX5_restore_19 rfl fl_X5_10 ⟨by decide, by decide⟩ rfl (by first | decide | exact TT.snap.k0 | assumption) ?_
      refine WE.aload_n (n := 23) dX5_restore_22 rfl rfl ?_
      refine WE.getR (n := 26) dX5_restore_23 rfl fl_X5_23 ⟨by decide, by decide⟩ rfl (by first | decide | exact TT.snap.k0 | assumption) ?_
      refine WE.V1PV (M' := mX4_copyFrom) (n := 29) dX5_restore_26 rfl cv_X5_266 (by first | decide | exact TT.snap.k0 | assumption) ⟨⟨by decide, by decide⟩, by decide, by decide⟩ (Nat.le_of_ble_eq_true rfl) (c_copyT c od 1 353 TT.one TT.snap (by unfold DJ; omega)) (fun σ26 q26 => ?_)
      obtain ⟨c1, rfl, P⟩ := q26
      refine WE.aload_n (n := 30) dX5_restore_29 rfl rfl ?_
      refine WE.getR (n := 33) dX5_restore_30 rfl fl_X5_19 ⟨by decide, by decide⟩ rfl (by first | decide | exact TT.snap.k0 | assumption) ?_
      refine WE.V0V (M' := mX1_forget) (n := 36) dX5_restore_33 rfl cv_X5_278 (by first | decide | exact TT.snap.k0 | assumption) ⟨⟨by decide, by decide⟩, by decide, by decide⟩ (Nat.le_of_ble_eq_true rfl) (c_forget c1 od) ?_
      refine WE.aload_n (n := 37) dX5_restore_36 rfl rfl ?_
      refine WE.getR (n := 40) dX5_restore_37 rfl fl_X5_10 ⟨by decide, by decide⟩ rfl (by first | decide | exact TT.snap.k0 | assumption) ?_
      refine WE.getI (n := 43) dX5_restore_40 rfl fl_X5_273 ⟨by decide, by decide, rfl⟩ (by first | decide | exact TT.snap.k0 | assumption) ?_
      refine WE.iret (ty := .int) dX5_restore_43 rfl rfl ⟨by decide, by decide⟩ ?_
      have eo : ∀ a k, ¬ (1 ≤ a ∧ a ≤ 35) → ¬ (a = 36 ∧ k = 2) → u2 c1 36 2 (nI 0) a k = c a k := fun a k q1 q2 => by rw [u2_ne _ _ q2, P.2.2.2.2 a k (Or.inl (by omega))]
      have hw14 : u2 c1 36 2 (nI 0) 1 14 = c 1 14 := by rw [u2_ne _ _ (by omega), P.2.2.2.2 1 14 (Or.inr ⟨rfl, by decide⟩)]
      have hw15 : u2 c1 36 2 (nI 0) 1 15 = c 1 15 := by rw [u2_ne _ _ (by omega), P.2.2.2.2 1 15 (Or.inr ⟨rfl, by decide⟩)]
      obtain ⟨i1, i2, i3, i4, i5, i6, i7, i8, i9, i10⟩ := H
      obtain ⟨hl8, hu, nx, hn, hx, hr⟩ := i3
      have r1 : RelT (u2 c1 36 2 (nI 0)) 1 S := (P.rel i4.2.1.cn i4.2.2).frame i4.2.1.cn.1 i4.2.1.cn.2.2.1 (fun a h1 h2 q h3 => u2_ne _ _ (by omega))
      refine ⟨_, rfl, fun a k ha => eo a k (by omega) (by omega), congrArg (fun x => (Sum.inl (some (Value.int x)) : AO)) (r1.s (4, 3) (by decide)), i4.2.1, r1, ⟨Nat.zero_le _, u2_eq _ _ _ _, nx, hn, (eo _ _ (by omega) (by omega)).trans hx, fun a A hA => ?_⟩, ⟨(eo _ _ (by omega) (by omega)).trans i4.1, i4.2.1, i4.2.2.frame i4.2.1.cn.1 i4.2.1.cn.2.2.1 (fun a h1 h2 q h3 => eo a q (by omega) (by omega))⟩, i5, (eo _ _ (by omega) (by omega)).trans i6, ?_, (eo _ _ (by omega) (by omega)).trans i8, hw14.trans i9, hw15.trans i10⟩
      · cases hA
      · rw [← i7]
        exact funext fun q => eo _ _ (by omega) (by omega)
  · skip
    cases s with
    | some S => exact absurd (H.2.2.2.1.1.symm.trans h4) (by decide)
    | none =>
      refine WE.throwSW (tx := "there is no snapshot") "java/lang/IllegalStateException" dX5_restore_7 dX5_restore_10 dX5_restore_11 dX5_restore_14 dX5_restore_17 xl_X5_187_191 (by decide +kernel) rfl ⟨by decide, by decide⟩ ⟨by decide, by decide⟩ ?_
      exact ⟨_, rfl, fun _ _ _ => rfl, rfl, H⟩
