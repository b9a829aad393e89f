/-- the towns ahead of the latest changes, the newest first, in the ring of rows -/
def CH (c : CC) (h : List NA) : Prop := h.length ≤ 8 ∧ c 36 2 = nI h.length ∧ ∃ nx : Nat, nx < 9 ∧ c 36 1 = nI nx ∧ ∀ t (S : NA), h[t]? = some S → IN S ∧ RelT c (38 + 35 * ((nx + 8 - t) % 9)) S
def CSn (c : CC) (s : Option NA) : Prop := match s with
  | none => c 0 5 = nI 0
  | some S => c 0 5 = nI 1 ∧ IN S ∧ RelT c 353 S
/-- what the object of the given class holds -/
def CR (c : CC) (N : NA) (h : List NA) (s : Option NA) (n : Nat) (t : NA) (e : Int32) (w : Int32 × Int32) : Prop :=
  IN N ∧ RelT c 1 N ∧ CH c h ∧ CSn c s ∧ n ≤ 60 ∧ c 389 5 = nI n ∧ c 390 = t ∧ c 389 7 = e ∧ c 1 14 = w.1 ∧ c 1 15 = w.2
/-- what stays where the town alone, the row ahead and the balloon ahead change -/
def CK (c c' : CC) : Prop := ∀ a k, ¬ (1 ≤ a ∧ a ≤ 35) → ¬ (38 ≤ a ∧ a < 353) → a ≠ 388 → a ≠ 36 → c' a k = c a k
theorem CSn.keep {c c' : CC} {s : Option NA} (h : CSn c s) (hk : ∀ a k, ¬ (1 ≤ a ∧ a ≤ 35) → ¬ (38 ≤ a ∧ a < 353) → a ≠ 388 → a ≠ 36 → c' a k = c a k) : CSn c' s := by
  cases s with
  | none => exact (hk 0 5 (by omega) (by omega) (by omega) (by omega)).trans h
  | some S => exact ⟨(hk 0 5 (by omega) (by omega) (by omega) (by omega)).trans h.1, h.2.1, h.2.2.frame h.2.1.cn.1 h.2.1.cn.2.2.1 (fun a h1 h2 k h3 => hk a k (by omega) (by omega) (by omega) (by omega))⟩
theorem TT.one : TT 1 := Or.inl rfl
theorem TT.row {r : Nat} (h : r < 9) : TT (38 + 35 * r) := Or.inr ⟨r, by omega, rfl⟩
theorem TT.snap : TT 353 := Or.inr ⟨9, by decide, rfl⟩
/-- the row ahead is none of those kept -/
theorem ring_ne {nx t : Nat} (hn : nx < 9) (ht : t < 8) : (nx + 8 - t) % 9 ≠ nx := by omega
theorem ring_s {nx t : Nat} (hn : nx < 9) (ht : t < 8) : ((if nx < 8 then nx + 1 else 0) + 8 - (t + 1)) % 9 = (nx + 8 - t) % 9 := by
  split <;> omega
theorem ring_0 {nx : Nat} (hn : nx < 9) : ((if nx < 8 then nx + 1 else 0) + 8 - 0) % 9 = nx := by
  split <;> omega
/-- the ring behind a change that is kept: the town ahead of it stands in the row ahead -/
def kpS (c : CC) (nx u : Nat) : CC := u2 (u2 c 36 1 (nI (if nx < 8 then nx + 1 else 0))) 36 2 (nI (if u < 8 then u + 1 else 8))
theorem CH.keep {c c' : CC} {h : List NA} {N : NA} {nx : Nat} (hl : h.length ≤ 8) (hn : nx < 9) (hr : ∀ t (S : NA), h[t]? = some S → IN S ∧ RelT c (38 + 35 * ((nx + 8 - t) % 9)) S) (hI : IN N) (hN : RelT c' (38 + 35 * nx) N) (hk : ∀ a k, 38 ≤ a → a < 353 → ¬ (38 + 35 * nx ≤ a ∧ a < 38 + 35 * nx + 35) → c' a k = c a k) : CH (kpS c' nx h.length) ((N :: h).take 8) := by
  have hk2 : ∀ a k, a ≠ 36 → kpS c' nx h.length a k = c' a k := fun a k ha => by unfold kpS; rw [u2_ne _ _ (by omega), u2_ne _ _ (by omega)]
  have hlen : ((N :: h).take 8).length = if h.length < 8 then h.length + 1 else 8 := by
    rw [List.length_take, List.length_cons]
    split <;> omega
  refine ⟨?_, ?_, (if nx < 8 then nx + 1 else 0), ?_, ?_, fun t S hS => ?_⟩
  · rw [hlen]
    split <;> omega
  · rw [hlen]
    unfold kpS
    rw [u2_eq]
  · split <;> omega
  · unfold kpS
    rw [u2_ne _ _ (by omega), u2_eq]
  · have ht : t < 8 := by
      have := (List.getElem?_eq_some_iff.mp hS).1
      rw [List.length_take] at this
      omega
    rw [List.getElem?_take_of_lt ht] at hS
    cases t with
    | zero =>
      rw [ring_0 hn]
      have hS : some N = some S := hS
      cases hS
      exact ⟨hI, hN.frame hI.cn.1 hI.cn.2.2.1 (fun a h1 h2 k h3 => hk2 a k (by omega))⟩
    | succ t =>
      rw [ring_s hn (by omega)]
      have hS : h[t]? = some S := hS
      have g := hr t S hS
      have hne := ring_ne (nx := nx) (t := t) hn (by omega)
      have hlt : (nx + 8 - t) % 9 < 9 := Nat.mod_lt _ (by decide)
      exact ⟨g.1, g.2.frame g.1.cn.1 g.1.cn.2.2.1 (fun a h1 h2 k h3 => by rw [hk2 a k (by omega), hk a k (by omega) (by omega) (by omega)])⟩
theorem CH.still {c c' : CC} {h : List NA} {nx : Nat} (hl : h.length ≤ 8) (hu : c 36 2 = nI h.length) (hn : nx < 9) (hx : c 36 1 = nI nx) (hr : ∀ t (S : NA), h[t]? = some S → IN S ∧ RelT c (38 + 35 * ((nx + 8 - t) % 9)) S) (hk : ∀ a k, 36 ≤ a → a < 353 → ¬ (38 + 35 * nx ≤ a ∧ a < 38 + 35 * nx + 35) → c' a k = c a k) : CH c' h := by
  refine ⟨hl, (hk 36 2 (by omega) (by omega) (by omega)).trans hu, nx, hn, (hk 36 1 (by omega) (by omega) (by omega)).trans hx, fun t S hS => ?_⟩
  have g := hr t S hS
  have ht : t < 8 := by
    have := (List.getElem?_eq_some_iff.mp hS).1
    omega
  have hne := ring_ne (nx := nx) (t := t) hn ht
  have hlt : (nx + 8 - t) % 9 < 9 := Nat.mod_lt _ (by decide)
  exact ⟨g.1, g.2.frame g.1.cn.1 g.1.cn.2.2.1 (fun a h1 h2 k h3 => hk a k (by omega) (by omega) (by omega))⟩
set_option maxRecDepth 20000 in
set_option maxHeartbeats 1000000 in
theorem c_prepare (c : CC) (od : Int64 × UInt64) (nx : Nat) (hn : nx < 9) (hx : c 36 1 = nI nx) : CM mX1_prepare [.ref 36, .ref 1] (c, od) (PV fun σ => ∃ c', σ = (c', od) ∧ CPT c c' (38 + 35 * nx) 1) := by
  refine CM.of [(0, .ref 36), (1, .ref 1)] rfl (by decide +kernel) rfl (Nat.le_of_ble_eq_true rfl) ?_
  refine WE.aload_n (n := 1) dX1_prepare_0 rfl rfl ?_
  refine WE.getR (n := 4) dX1_prepare_1 rfl fl_X1_11 ⟨by decide, by decide⟩ rfl (by first | decide | exact (TT.row hn).k0 | assumption) ?_
  refine WE.aload_n (n := 5) dX1_prepare_4 rfl rfl ?_
  refine WE.getI (n := 8) dX1_prepare_5 rfl fl_X1_18 ⟨by decide, by decide, rfl⟩ (by first | decide | exact (TT.row hn).k0 | assumption) ?_
  refine WE.aald (n := 9) 14 nx dX1_prepare_8 rfl (by first | decide | assumption) (by decide) (by rw [hx]) (by show _ < 9; omega) rfl ?_
  refine WE.aload_n (n := 10) dX1_prepare_9 rfl rfl ?_
  refine WE.V1PV (M' := mX4_copyFrom) (n := 13) dX1_prepare_10 rfl cv_X1_22 (by first | decide | exact (TT.row hn).k0 | assumption) ⟨⟨by decide, by decide⟩, by decide, by decide⟩ (Nat.le_of_ble_eq_true rfl) (c_copyT c od (38 + 35 * nx) 1 (TT.row hn) TT.one (by unfold DJ; omega)) (fun σ10 q10 => ?_)
  obtain ⟨c1, rfl, P1⟩ := q10
  refine WE.vret dX1_prepare_13 rfl ⟨by decide, by decide⟩ ?_
  exact PV.mk ⟨_, rfl, P1⟩
set_option maxRecDepth 20000 in
set_option maxHeartbeats 1000000 in
theorem c_takeBack (c : CC) (od : Int64 × UInt64) (nx : Nat) (hn : nx < 9) (hx : c 36 1 = nI nx) : CM mX1_takeBack [.ref 36, .ref 1] (c, od) (PV fun σ => ∃ c', σ = (c', od) ∧ CPT c c' 1 (38 + 35 * nx)) := by
  refine CM.of [(0, .ref 36), (1, .ref 1)] rfl (by decide +kernel) rfl (Nat.le_of_ble_eq_true rfl) ?_
  refine WE.aload_n (n := 1) dX1_takeBack_0 rfl rfl ?_
  refine WE.aload_n (n := 2) dX1_takeBack_1 rfl rfl ?_
  refine WE.getR (n := 5) dX1_takeBack_2 rfl fl_X1_11 ⟨by decide, by decide⟩ rfl (by first | decide | exact (TT.row hn).k0 | assumption) ?_
  refine WE.aload_n (n := 6) dX1_takeBack_5 rfl rfl ?_
  refine WE.getI (n := 9) dX1_takeBack_6 rfl fl_X1_18 ⟨by decide, by decide, rfl⟩ (by first | decide | exact (TT.row hn).k0 | assumption) ?_
  refine WE.aald (n := 10) 14 nx dX1_takeBack_9 rfl (by first | decide | assumption) (by decide) (by rw [hx]) (by show _ < 9; omega) rfl ?_
  refine WE.V1PV (M' := mX4_copyFrom) (n := 13) dX1_takeBack_10 rfl cv_X1_22 (by first | decide | exact (TT.row hn).k0 | assumption) ⟨⟨by decide, by decide⟩, by decide, by decide⟩ (Nat.le_of_ble_eq_true rfl) (c_copyT c od 1 (38 + 35 * nx) TT.one (TT.row hn) (by unfold DJ; omega)) (fun σ10 q10 => ?_)
  obtain ⟨c1, rfl, P1⟩ := q10
  refine WE.vret dX1_takeBack_13 rfl ⟨by decide, by decide⟩ ?_
  exact PV.mk ⟨_, rfl, P1⟩
theorem u2_self (c : CC) (a k : Nat) {x : Int32} (h : c a k = x) : u2 c a k x = c := by
  funext i j
  by_cases e : i = a ∧ j = k
  · obtain ⟨rfl, rfl⟩ := e
    rw [u2_eq, h]
  · rw [u2_ne _ _ e]
set_option maxRecDepth 20000 in
set_option maxHeartbeats 1000000 in
theorem c_keep (c : CC) (od : Int64 × UInt64) (nx u : Nat) (hn : nx < 9) (hx : c 36 1 = nI nx) (hu8 : u ≤ 8) (hu : c 36 2 = nI u) : CM mX1_keep [.ref 36] (c, od) (RV (kpS c nx u, od)) := by
  refine CM.of [(0, .ref 36)] rfl (by decide +kernel) rfl (Nat.le_of_ble_eq_true rfl) ?_
  refine WE.aload_n (n := 1) dX1_keep_0 rfl rfl ?_
  refine WE.aload_n (n := 2) dX1_keep_1 rfl rfl ?_
  refine WE.getI (n := 5) dX1_keep_2 rfl fl_X1_18 ⟨by decide, by decide, rfl⟩ (by first | decide | exact kd_bal (by assumption) | exact kd_let (by assumption) | assumption) ?_
  refine WE.bipush (n := 7) (nI 8) dX1_keep_5 rfl (by decide) ?_
  refine WE.icmp_ge (n := 10) (tgt := 19) dX1_keep_7 rfl (by decide) (fun h7 => ?_) (fun h7 => ?_)
  · skip
    rw [hx] at h7
    have h7 : ¬ nx < 8 := by have := ge_t (by omega) (by omega) h7; omega
    refine WE.iconst (n := 20) (nI 0) dX1_keep_19 rfl (by decide) ?_
    refine WE.putI (n := 23) dX1_keep_20 rfl fl_X1_18 ⟨by decide, by decide, rfl, rfl⟩ ⟨by first | rfl | decide, by first | rfl | decide⟩ (by first | decide | exact kd_bal (by assumption) | exact kd_let (by assumption) | assumption) ?_
    refine WE.aload_n (n := 24) dX1_keep_23 rfl rfl ?_
    refine WE.getI (n := 27) dX1_keep_24 rfl fl_X1_26 ⟨by decide, by decide, rfl⟩ (by first | decide | exact kd_bal (by assumption) | exact kd_let (by assumption) | assumption) ?_
    refine WE.bipush (n := 29) (nI 8) dX1_keep_27 rfl (by decide) ?_
    refine WE.icmp_ge (n := 32) (tgt := 42) dX1_keep_29 rfl (by decide) (fun h29 => ?_) (fun h29 => ?_)
    · skip
      rw [u2_ne _ _ (by decide), hu] at h29
      have h29 : ¬ u < 8 := by have := ge_t (by omega) (by omega) h29; omega
      refine WE.vret dX1_keep_42 rfl ⟨by decide, by decide⟩ ?_
      refine RV.mk ?_
      unfold kpS
      rw [if_neg h7, if_neg h29]
      rw [u2_self _ 36 2 (by rw [u2_ne _ _ (by decide), hu, show u = 8 by omega])]
    · skip
      rw [u2_ne _ _ (by decide), hu] at h29
      have h29 : u < 8 := ge_f (by omega) (by omega) h29
      refine WE.aload_n (n := 33) dX1_keep_32 rfl rfl ?_
      refine WE.dup (n := 34) dX1_keep_33 rfl rfl ?_
      refine WE.getI (n := 37) dX1_keep_34 rfl fl_X1_26 ⟨by decide, by decide, rfl⟩ (by first | decide | exact kd_bal (by assumption) | exact kd_let (by assumption) | assumption) ?_
      refine WE.iconst (n := 38) (nI 1) dX1_keep_37 rfl (by decide) ?_
      refine WE.iadd (n := 39) dX1_keep_38 rfl ?_
      refine WE.putI (n := 42) dX1_keep_39 rfl fl_X1_26 ⟨by decide, by decide, rfl, rfl⟩ ⟨by first | rfl | decide, by first | rfl | decide⟩ (by first | decide | exact kd_bal (by assumption) | exact kd_let (by assumption) | assumption) ?_
      refine WE.vret dX1_keep_42 rfl ⟨by decide, by decide⟩ ?_
      refine RV.mk ?_
      unfold kpS
      rw [if_neg h7, if_pos h29]
      rw [u2_ne _ _ (by decide), hu, nI_s1]
  · skip
    rw [hx] at h7
    have h7 : nx < 8 := ge_f (by omega) (by omega) h7
    refine WE.aload_n (n := 11) dX1_keep_10 rfl rfl ?_
    refine WE.getI (n := 14) dX1_keep_11 rfl fl_X1_18 ⟨by decide, by decide, rfl⟩ (by first | decide | exact kd_bal (by assumption) | exact kd_let (by assumption) | assumption) ?_
    refine WE.iconst (n := 15) (nI 1) dX1_keep_14 rfl (by decide) ?_
    refine WE.iadd (n := 16) dX1_keep_15 rfl ?_
    refine WE.goto (tgt := 20) dX1_keep_16 (by decide) ?_
    refine WE.putI (n := 23) dX1_keep_20 rfl fl_X1_18 ⟨by decide, by decide, rfl, rfl⟩ ⟨by first | rfl | decide, by first | rfl | decide⟩ (by first | decide | exact kd_bal (by assumption) | exact kd_let (by assumption) | assumption) ?_
    refine WE.aload_n (n := 24) dX1_keep_23 rfl rfl ?_
    refine WE.getI (n := 27) dX1_keep_24 rfl fl_X1_26 ⟨by decide, by decide, rfl⟩ (by first | decide | exact kd_bal (by assumption) | exact kd_let (by assumption) | assumption) ?_
    refine WE.bipush (n := 29) (nI 8) dX1_keep_27 rfl (by decide) ?_
    refine WE.icmp_ge (n := 32) (tgt := 42) dX1_keep_29 rfl (by decide) (fun h29 => ?_) (fun h29 => ?_)
    · skip
      rw [u2_ne _ _ (by decide), hu] at h29
      have h29 : ¬ u < 8 := by have := ge_t (by omega) (by omega) h29; omega
      refine WE.vret dX1_keep_42 rfl ⟨by decide, by decide⟩ ?_
      refine RV.mk ?_
      unfold kpS
      rw [if_pos h7, if_neg h29]
      rw [u2_self _ 36 2 (by rw [u2_ne _ _ (by decide), hu, show u = 8 by omega])]
      rw [hx, nI_s1]
    · skip
      rw [u2_ne _ _ (by decide), hu] at h29
      have h29 : u < 8 := ge_f (by omega) (by omega) h29
      refine WE.aload_n (n := 33) dX1_keep_32 rfl rfl ?_
      refine WE.dup (n := 34) dX1_keep_33 rfl rfl ?_
      refine WE.getI (n := 37) dX1_keep_34 rfl fl_X1_26 ⟨by decide, by decide, rfl⟩ (by first | decide | exact kd_bal (by assumption) | exact kd_let (by assumption) | assumption) ?_
      refine WE.iconst (n := 38) (nI 1) dX1_keep_37 rfl (by decide) ?_
      refine WE.iadd (n := 39) dX1_keep_38 rfl ?_
      refine WE.putI (n := 42) dX1_keep_39 rfl fl_X1_26 ⟨by decide, by decide, rfl, rfl⟩ ⟨by first | rfl | decide, by first | rfl | decide⟩ (by first | decide | exact kd_bal (by assumption) | exact kd_let (by assumption) | assumption) ?_
      refine WE.vret dX1_keep_42 rfl ⟨by decide, by decide⟩ ?_
      refine RV.mk ?_
      unfold kpS
      rw [if_pos h7, if_pos h29]
      rw [u2_ne _ _ (by decide), hu, nI_s1]
      rw [hx, nI_s1]
set_option maxRecDepth 20000 in
set_option maxHeartbeats 1000000 in
theorem c_forget (c : CC) (od : Int64 × UInt64) : CM mX1_forget [.ref 36] (c, od) (RV (u2 c 36 2 (nI 0), od)) := by
  refine CM.of [(0, .ref 36)] rfl (by decide +kernel) rfl (Nat.le_of_ble_eq_true rfl) ?_
  refine WE.aload_n (n := 1) dX1_forget_0 rfl rfl ?_
  refine WE.iconst (n := 2) (nI 0) dX1_forget_1 rfl (by decide) ?_
  refine WE.putI (n := 5) dX1_forget_2 rfl fl_X1_26 ⟨by decide, by decide, rfl, rfl⟩ ⟨by first | rfl | decide, by first | rfl | decide⟩ (by first | decide | exact kd_bal (by assumption) | exact kd_let (by assumption) | assumption) ?_
  refine WE.vret dX1_forget_5 rfl ⟨by decide, by decide⟩ ?_
  exact RV.mk rfl
theorem back_nx {nx : Nat} (h : nx < 9) : (nx + 8 - 0) % 9 = if 0 < nx then nx - 1 else 8 := by
  split <;> omega
set_option maxRecDepth 20000 in
set_option maxHeartbeats 1000000 in
theorem c_stepBack (c : CC) (od : Int64 × UInt64) (nx u : Nat) (hn : nx < 9) (hx : c 36 1 = nI nx) (hu8 : u ≤ 8) (hu : c 36 2 = nI u) : CM mX1_stepBack [.ref 36, .ref 1] (c, od) (PI fun v σ => ∃ c', σ = (c', od) ∧ if u = 0 then v = nI 0 ∧ c' = c else v = nI 1 ∧ ∃ c0 : CC, c0 = u2 (u2 c 36 1 (nI (if 0 < nx then nx - 1 else 8))) 36 2 (nI (u - 1)) ∧ CPT c0 c' 1 (38 + 35 * (if 0 < nx then nx - 1 else 8))) := by
  refine CM.of [(0, .ref 36), (1, .ref 1)] rfl (by decide +kernel) rfl (Nat.le_of_ble_eq_true rfl) ?_
  refine WE.aload_n (n := 1) dX1_stepBack_0 rfl rfl ?_
  refine WE.getI (n := 4) dX1_stepBack_1 rfl fl_X1_26 ⟨by decide, by decide, rfl⟩ (by first | decide | exact (TT.row (by split <;> omega)).k0 | assumption) ?_
  refine WE.if_ne (n := 7) (tgt := 9) dX1_stepBack_4 rfl (by decide) (fun h4 => ?_) (fun h4 => ?_)
  · skip
    rw [hu] at h4
    have hu0 : 0 < u := by
      by_cases e : u = 0
      · exact absurd (by rw [e]; rfl) h4
      · omega
    refine WE.aload_n (n := 10) dX1_stepBack_9 rfl rfl ?_
    refine WE.aload_n (n := 11) dX1_stepBack_10 rfl rfl ?_
    refine WE.getI (n := 14) dX1_stepBack_11 rfl fl_X1_18 ⟨by decide, by decide, rfl⟩ (by first | decide | exact (TT.row (by split <;> omega)).k0 | assumption) ?_
    refine WE.if_le (n := 17) (tgt := 26) dX1_stepBack_14 rfl (by decide) (fun h14 => ?_) (fun h14 => ?_)
    · skip
      rw [hx] at h14
      have h14 : ¬ 0 < nx := by have h14 : nI nx ≤ nI 0 := h14; rw [nI_leI (by omega) (by decide)] at h14; omega
      refine WE.bipush (n := 28) (nI 8) dX1_stepBack_26 rfl (by decide) ?_
      refine WE.putI (n := 31) dX1_stepBack_28 rfl fl_X1_18 ⟨by decide, by decide, rfl, rfl⟩ ⟨by first | rfl | decide, by first | rfl | decide⟩ (by first | decide | exact (TT.row (by split <;> omega)).k0 | assumption) ?_
      refine WE.aload_n (n := 32) dX1_stepBack_31 rfl rfl ?_
      refine WE.dup (n := 33) dX1_stepBack_32 rfl rfl ?_
      refine WE.getI (n := 36) dX1_stepBack_33 rfl fl_X1_26 ⟨by decide, by decide, rfl⟩ (by first | decide | exact (TT.row (by split <;> omega)).k0 | assumption) ?_
      refine WE.iconst (n := 37) (nI 1) dX1_stepBack_36 rfl (by decide) ?_
      refine WE.isub (n := 38) dX1_stepBack_37 rfl ?_
      refine WE.putI (n := 41) dX1_stepBack_38 rfl fl_X1_26 ⟨by decide, by decide, rfl, rfl⟩ ⟨by first | rfl | decide, by first | rfl | decide⟩ (by first | decide | exact (TT.row (by split <;> omega)).k0 | assumption) ?_
      refine WE.aload_n (n := 42) dX1_stepBack_41 rfl rfl ?_
      refine WE.aload_n (n := 43) dX1_stepBack_42 rfl rfl ?_
      refine WE.getR (n := 46) dX1_stepBack_43 rfl fl_X1_11 ⟨by decide, by decide⟩ rfl (by first | decide | exact (TT.row (by split <;> omega)).k0 | assumption) ?_
      refine WE.aload_n (n := 47) dX1_stepBack_46 rfl rfl ?_
      refine WE.getI (n := 50) dX1_stepBack_47 rfl fl_X1_18 ⟨by decide, by decide, rfl⟩ (by first | decide | exact (TT.row (by split <;> omega)).k0 | assumption) ?_
      refine WE.aald (n := 51) 14 (if 0 < nx then nx - 1 else 8) dX1_stepBack_50 rfl (by first | decide | assumption) (by decide) (by rw [u2_ne _ _ (by decide), u2_eq]; first | (rw [if_pos h14, hx, pk_sub (by omega)]) | (rw [if_neg h14])) (by show _ < 9; split <;> omega) rfl ?_
      refine WE.V1PV (M' := mX4_copyFrom) (n := 54) dX1_stepBack_51 rfl cv_X1_22 (by first | decide | exact (TT.row (by split <;> omega)).k0 | assumption) ⟨⟨by decide, by decide⟩, by decide, by decide⟩ (Nat.le_of_ble_eq_true rfl) (c_copyT _ od 1 (38 + 35 * (if 0 < nx then nx - 1 else 8)) TT.one (TT.row (by split <;> omega)) (by unfold DJ; omega)) (fun σ51 q51 => ?_)
      obtain ⟨c1, rfl, P1⟩ := q51
      refine WE.iconst (n := 55) (nI 1) dX1_stepBack_54 rfl (by decide) ?_
      refine WE.iret (ty := .boolean) dX1_stepBack_55 rfl (by first | rfl | exact b2i_nar _ | decide) ⟨by decide, by decide⟩ ?_
      refine PI.mk ⟨_, rfl, ?_⟩
      rw [if_neg (by omega)]
      refine ⟨rfl, _, ?_, P1⟩
      first | rw [if_pos h14] | rw [if_neg h14]
      rw [u2_ne _ _ (by decide), hu, pk_sub (by omega)]
      try rw [hx, pk_sub (by omega)]
    · skip
      rw [hx] at h14
      have h14 : 0 < nx := by have h14 : ¬ nI nx ≤ nI 0 := h14; rw [nI_leI (by omega) (by decide)] at h14; omega
      refine WE.aload_n (n := 18) dX1_stepBack_17 rfl rfl ?_
      refine WE.getI (n := 21) dX1_stepBack_18 rfl fl_X1_18 ⟨by decide, by decide, rfl⟩ (by first | decide | exact (TT.row (by split <;> omega)).k0 | assumption) ?_
      refine WE.iconst (n := 22) (nI 1) dX1_stepBack_21 rfl (by decide) ?_
      refine WE.isub (n := 23) dX1_stepBack_22 rfl ?_
      refine WE.goto (tgt := 28) dX1_stepBack_23 (by decide) ?_
      refine WE.putI (n := 31) dX1_stepBack_28 rfl fl_X1_18 ⟨by decide, by decide, rfl, rfl⟩ ⟨by first | rfl | decide, by first | rfl | decide⟩ (by first | decide | exact (TT.row (by split <;> omega)).k0 | assumption) ?_
      refine WE.aload_n (n := 32) dX1_stepBack_31 rfl rfl ?_
      refine WE.dup (n := 33) dX1_stepBack_32 rfl rfl ?_
      refine WE.getI (n := 36) dX1_stepBack_33 rfl fl_X1_26 ⟨by decide, by decide, rfl⟩ (by first | decide | exact (TT.row (by split <;> omega)).k0 | assumption) ?_
      refine WE.iconst (n := 37) (nI 1) dX1_stepBack_36 rfl (by decide) ?_
      refine WE.isub (n := 38) dX1_stepBack_37 rfl ?_
      refine WE.putI (n := 41) dX1_stepBack_38 rfl fl_X1_26 ⟨by decide, by decide, rfl, rfl⟩ ⟨by first | rfl | decide, by first | rfl | decide⟩ (by first | decide | exact (TT.row (by split <;> omega)).k0 | assumption) ?_
      refine WE.aload_n (n := 42) dX1_stepBack_41 rfl rfl ?_
      refine WE.aload_n (n := 43) dX1_stepBack_42 rfl rfl ?_
      refine WE.getR (n := 46) dX1_stepBack_43 rfl fl_X1_11 ⟨by decide, by decide⟩ rfl (by first | decide | exact (TT.row (by split <;> omega)).k0 | assumption) ?_
      refine WE.aload_n (n := 47) dX1_stepBack_46 rfl rfl ?_
      refine WE.getI (n := 50) dX1_stepBack_47 rfl fl_X1_18 ⟨by decide, by decide, rfl⟩ (by first | decide | exact (TT.row (by split <;> omega)).k0 | assumption) ?_
      refine WE.aald (n := 51) 14 (if 0 < nx then nx - 1 else 8) dX1_stepBack_50 rfl (by first | decide | assumption) (by decide) (by rw [u2_ne _ _ (by decide), u2_eq]; first | (rw [if_pos h14, hx, pk_sub (by omega)]) | (rw [if_neg h14])) (by show _ < 9; split <;> omega) rfl ?_
      refine WE.V1PV (M' := mX4_copyFrom) (n := 54) dX1_stepBack_51 rfl cv_X1_22 (by first | decide | exact (TT.row (by split <;> omega)).k0 | assumption) ⟨⟨by decide, by decide⟩, by decide, by decide⟩ (Nat.le_of_ble_eq_true rfl) (c_copyT _ od 1 (38 + 35 * (if 0 < nx then nx - 1 else 8)) TT.one (TT.row (by split <;> omega)) (by unfold DJ; omega)) (fun σ51 q51 => ?_)
      obtain ⟨c1, rfl, P1⟩ := q51
      refine WE.iconst (n := 55) (nI 1) dX1_stepBack_54 rfl (by decide) ?_
      refine WE.iret (ty := .boolean) dX1_stepBack_55 rfl (by first | rfl | exact b2i_nar _ | decide) ⟨by decide, by decide⟩ ?_
      refine PI.mk ⟨_, rfl, ?_⟩
      rw [if_neg (by omega)]
      refine ⟨rfl, _, ?_, P1⟩
      first | rw [if_pos h14] | rw [if_neg h14]
      rw [u2_ne _ _ (by decide), hu, pk_sub (by omega)]
      try rw [hx, pk_sub (by omega)]
  · skip
    rw [hu] at h4
    have hu0 : u = 0 := (nI_eq (by omega) (by decide)).mp h4
    refine WE.iconst (n := 8) (nI 0) dX1_stepBack_7 rfl (by decide) ?_
    refine WE.iret (ty := .boolean) dX1_stepBack_8 rfl (by first | rfl | exact b2i_nar _ | decide) ⟨by decide, by decide⟩ ?_
    refine PI.mk ⟨_, rfl, ?_⟩
    rw [if_pos hu0]
    exact ⟨rfl, rfl⟩
theorem NF.out {v : Int32} (h : NF v) : v.toInt < (-103 : Int) ∨ (-101 : Int) < v.toInt := by
  obtain ⟨h1, h2, h3⟩ := h
  have e1 : ¬ v.toInt = -101 := fun q => h1 (Int32.toInt_inj.mp (q.trans (by decide)))
  have e2 : ¬ v.toInt = -102 := fun q => h2 (Int32.toInt_inj.mp (q.trans (by decide)))
  have e3 : ¬ v.toInt = -103 := fun q => h3 (Int32.toInt_inj.mp (q.trans (by decide)))
  omega
set_option maxRecDepth 20000 in
set_option maxHeartbeats 1000000 in
theorem c_answer (c : CC) (od : Int64 × UInt64) (nx u : Nat) (hn : nx < 9) (hx : c 36 1 = nI nx) (hu8 : u ≤ 8) (hu : c 36 2 = nI u) (v : Int32) (hv : NF v) : CM mX5_answerOf [.ref 0, .int v] (c, od) (RI v (kpS c nx u, od)) := by
  refine CM.of [(0, .ref 0), (1, .int v)] rfl (by decide +kernel) rfl (Nat.le_of_ble_eq_true rfl) ?_
  refine WE.iload_n (n := 1) dX5_answerOf_0 rfl rfl ?_
  refine WE.tswO (tgt := 61) dX5_answerOf_1 hv.out (by decide) ?_
  refine WE.aload_n (n := 62) dX5_answerOf_61 rfl rfl ?_
  refine WE.getR (n := 65) dX5_answerOf_62 rfl fl_X5_19 ⟨by decide, by decide⟩ rfl (by first | decide | exact kd_bal (by assumption) | exact kd_let (by assumption) | assumption) ?_
  refine WE.V0V (M' := mX1_keep) (n := 68) dX5_answerOf_65 rfl cv_X5_297 (by first | decide | exact kd_bal (by assumption) | exact kd_let (by assumption) | assumption) ⟨⟨by decide, by decide⟩, by decide, by decide⟩ (Nat.le_of_ble_eq_true rfl) (c_keep c od nx u hn hx hu8 hu) ?_
  refine WE.iload_n (n := 69) dX5_answerOf_68 rfl rfl ?_
  refine WE.iret (ty := .int) dX5_answerOf_69 rfl rfl ⟨by decide, by decide⟩ ?_
  exact RI.mk rfl rfl
set_option maxRecDepth 20000 in
set_option maxHeartbeats 1000000 in
theorem c_ans103 (c : CC) (od : Int64 × UInt64) : CM mX5_answerOf [.ref 0, .int (-103 : Int32)] (c, od) (RX "java/lang/UnsupportedOperationException" (c, od)) := by
  refine CM.of [(0, .ref 0), (1, .int (-103 : Int32))] rfl (by decide +kernel) rfl (Nat.le_of_ble_eq_true rfl) ?_
  refine WE.iload_n (n := 1) dX5_answerOf_0 rfl rfl ?_
  refine WE.tsw (tgt := 50) dX5_answerOf_1 (-103) (by decide) (by decide) (by decide) rfl (by decide) ?_
  refine WE.throwSW (tx := "refused, refusal tells the reason") "java/lang/UnsupportedOperationException" dX5_answerOf_50 dX5_answerOf_53 dX5_answerOf_54 dX5_answerOf_57 dX5_answerOf_60 xl_X5_292_296 (by decide +kernel) rfl ⟨by decide, by decide⟩ ⟨by decide, by decide⟩ ?_
  exact ⟨rfl, rfl⟩
set_option maxRecDepth 20000 in
set_option maxHeartbeats 1000000 in
theorem c_ans102 (c : CC) (od : Int64 × UInt64) : CM mX5_answerOf [.ref 0, .int (-102 : Int32)] (c, od) (RX "java/lang/IllegalArgumentException" (c, od)) := by
  refine CM.of [(0, .ref 0), (1, .int (-102 : Int32))] rfl (by decide +kernel) rfl (Nat.le_of_ble_eq_true rfl) ?_
  refine WE.iload_n (n := 1) dX5_answerOf_0 rfl rfl ?_
  refine WE.tsw (tgt := 39) dX5_answerOf_1 (-102) (by decide) (by decide) (by decide) rfl (by decide) ?_
  refine WE.throwSW (tx := "a number is out of range") "java/lang/IllegalArgumentException" dX5_answerOf_39 dX5_answerOf_42 dX5_answerOf_43 dX5_answerOf_46 dX5_answerOf_49 xl_X5_97_101 (by decide +kernel) rfl ⟨by decide, by decide⟩ ⟨by decide, by decide⟩ ?_
  exact ⟨rfl, rfl⟩
set_option maxRecDepth 20000 in
set_option maxHeartbeats 1000000 in
theorem c_ans101 (c : CC) (od : Int64 × UInt64) : CM mX5_answerOf [.ref 0, .int (-101 : Int32)] (c, od) (RX "java/lang/IndexOutOfBoundsException" (c, od)) := by
  refine CM.of [(0, .ref 0), (1, .int (-101 : Int32))] rfl (by decide +kernel) rfl (Nat.le_of_ble_eq_true rfl) ?_
  refine WE.iload_n (n := 1) dX5_answerOf_0 rfl rfl ?_
  refine WE.tsw (tgt := 28) dX5_answerOf_1 (-101) (by decide) (by decide) (by decide) rfl (by decide) ?_
  refine WE.throwSW (tx := "there is no such balloon, letter or height") "java/lang/IndexOutOfBoundsException" dX5_answerOf_28 dX5_answerOf_31 dX5_answerOf_32 dX5_answerOf_35 dX5_answerOf_38 xl_X5_115_119 (by decide +kernel) rfl ⟨by decide, by decide⟩ ⟨by decide, by decide⟩ ?_
  exact ⟨rfl, rfl⟩
