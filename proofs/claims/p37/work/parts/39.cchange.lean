def uoE : String := "java/lang/UnsupportedOperationException"
def iaE : String := "java/lang/IllegalArgumentException"
def ioE : String := "java/lang/IndexOutOfBoundsException"
def exE (v : Int32) : String := if v = (-101 : Int32) then ioE else iaE
theorem c_ansA (c : CC) (od : Int64 × UInt64) (k : Nat) : CM mX5_answerOf [.ref 0, .int (eA k)] (c, od) (RX (exE (eA k)) (c, od)) := by
  unfold eA
  split
  · exact c_ans101 c od
  · exact c_ans102 c od
theorem c_ansB (c : CC) (od : Int64 × UInt64) (k : Nat) : CM mX5_answerOf [.ref 0, .int (eB k)] (c, od) (RX (exE (eB k)) (c, od)) := c_ans102 c od
theorem c_ansC (c : CC) (od : Int64 × UInt64) (k : Nat) : CM mX5_answerOf [.ref 0, .int (eC k)] (c, od) (RX (exE (eC k)) (c, od)) := c_ans101 c od
/-- a change of the given class, against what the reference's comes to -/
def CO (c : CC) (od : Int64 × UInt64) (N : NA) (h : List NA) (s : Option NA) (n : Nat) (t : NA) (e : Int32) (w : Int32 × Int32) (ec : Nat → Int32) (r : OR) : AO → SS → Prop := fun o st => ∃ c', st = (c', od) ∧ (∀ a k, 395 ≤ a → c' a k = c a k) ∧ match r with
  | .inl q => o = .inl (some (.int q.1)) ∧ CR c' q.2 ((N :: h).take 8) s n t e w
  | .inr (.inl q) => o = .inr uoE ∧ CR c' N h s n t e q
  | .inr (.inr k) => o = .inr (exE (ec k)) ∧ CR c' N h s n t e w
section CRS
variable {c c1 c2 : CC} {N M : NA} {h : List NA} {s : Option NA} {n : Nat} {t : NA} {e : Int32} {w q : Int32 × Int32} {nx : Nat}
theorem CR.hi (H : CR c N h s n t e w) : IN N := H.1
theorem CR.rel (H : CR c N h s n t e w) : RelT c 1 N := H.2.1
theorem row_o (hn : nx < 9) {a k : Nat} (P : CPT c c1 (38 + 35 * nx) 1) (ha : ¬ (38 + 35 * nx ≤ a ∧ a < 38 + 35 * nx + 35)) : c1 a k = c a k := P.2.2.2.2 a k (Or.inl ha)
theorem CR.prep (H : CR c N h s n t e w) (hn : nx < 9) (P : CPT c c1 (38 + 35 * nx) 1) : RelT c1 1 N := H.rel.frame H.hi.cn.1 H.hi.cn.2.2.1 (fun a h1 h2 k h3 => row_o hn P (by omega))
theorem CR.ref (H : CR c N h s n t e w) (hn : nx < 9) (hx : c 36 1 = nI nx) (hr : ∀ t (S : NA), h[t]? = some S → IN S ∧ RelT c (38 + 35 * ((nx + 8 - t) % 9)) S) (P : CPT c c1 (38 + 35 * nx) 1) (f : ∀ a k, ¬ (1 ≤ a ∧ a ≤ 35) → c2 a k = c1 a k) (R : RelT c2 1 N) (h14 : c2 1 14 = q.1) (h15 : c2 1 15 = q.2) : CR c2 N h s n t e q := by
  have k : ∀ a k, ¬ (1 ≤ a ∧ a ≤ 35) → ¬ (38 + 35 * nx ≤ a ∧ a < 38 + 35 * nx + 35) → c2 a k = c a k := fun a k q1 q2 => (f a k q1).trans (row_o hn P q2)
  obtain ⟨i1, i2, i3, i4, i5, i6, i7, i8, i9, i10⟩ := H
  refine ⟨i1, R, CH.still i3.1 i3.2.1 hn hx hr (fun a q q1 q2 q3 => k a q (by omega) q3), i4.keep (fun a q q1 q2 q3 q4 => k a q q1 (by omega)), i5, (k _ _ (by omega) (by omega)).trans i6, ?_, (k _ _ (by omega) (by omega)).trans i8, h14, h15⟩
  rw [← i7]
  exact funext fun q => k _ _ (by omega) (by omega)
theorem CR.no (H : CR c N h s n t e w) (hn : nx < 9) (hx : c 36 1 = nI nx) (hr : ∀ t (S : NA), h[t]? = some S → IN S ∧ RelT c (38 + 35 * ((nx + 8 - t) % 9)) S) (P : CPT c c1 (38 + 35 * nx) 1) : CR c1 N h s n t e w := by
  have h14 : c1 1 14 = w.1 := (row_o hn P (by omega)).trans H.2.2.2.2.2.2.2.2.1
  have h15 : c1 1 15 = w.2 := (row_o hn P (by omega)).trans H.2.2.2.2.2.2.2.2.2
  exact H.ref hn hx hr P (fun _ _ _ => rfl) (H.prep hn P) h14 h15
theorem CR.ok (H : CR c N h s n t e w) (hn : nx < 9) (hr : ∀ t (S : NA), h[t]? = some S → IN S ∧ RelT c (38 + 35 * ((nx + 8 - t) % 9)) S) (P : CPT c c1 (38 + 35 * nx) 1) (f : ∀ a k, ¬ (1 ≤ a ∧ a ≤ 35) → c2 a k = c1 a k) (hM : IN M) (R : RelT c2 1 M) (h14 : c2 1 14 = c1 1 14) (h15 : c2 1 15 = c1 1 15) : CR (kpS c2 nx h.length) M ((N :: h).take 8) s n t e w := by
  have k : ∀ a k, ¬ (1 ≤ a ∧ a ≤ 35) → ¬ (38 + 35 * nx ≤ a ∧ a < 38 + 35 * nx + 35) → c2 a k = c a k := fun a k q1 q2 => (f a k q1).trans (row_o hn P q2)
  have k2 : ∀ a k, a ≠ 36 → kpS c2 nx h.length a k = c2 a k := fun a k ha => by unfold kpS; rw [u2_ne _ _ (by omega), u2_ne _ _ (by omega)]
  obtain ⟨i1, i2, i3, i4, i5, i6, i7, i8, i9, i10⟩ := H
  have hrow : RelT c2 (38 + 35 * nx) N := (P.rel i1.cn i2).frame i1.cn.1 i1.cn.2.2.1 (fun a h1 h2 k h3 => f a k (by omega))
  refine ⟨hM, R.frame hM.cn.1 hM.cn.2.2.1 (fun a h1 h2 k h3 => k2 a k (by omega)), CH.keep i3.1 hn hr i1 hrow (fun a q q1 q2 q3 => k a q (by omega) q3), i4.keep (fun a q q1 q2 q3 q4 => (k2 a q q4).trans (k a q q1 (by omega))), i5, ?_, ?_, ?_, ?_, ?_⟩
  · rw [k2 _ _ (by omega), k _ _ (by omega) (by omega)]
    exact i6
  · rw [← i7]
    exact funext fun q => (k2 _ _ (by omega)).trans (k _ _ (by omega) (by omega))
  · rw [k2 _ _ (by omega), k _ _ (by omega) (by omega)]
    exact i8
  · rw [k2 _ _ (by omega), h14, row_o hn P (by omega)]
    exact i9
  · rw [k2 _ _ (by omega), h15, row_o hn P (by omega)]
    exact i10
end CRS
set_option maxRecDepth 20000 in
set_option maxHeartbeats 1000000 in
theorem p_ring (c : CC) (od : Int64 × UInt64) (N : NA) (h : List NA) (s : Option NA) (n : Nat) (t : NA) (e : Int32) (w : Int32 × Int32) (H : CR c N h s n t e w) (x : Int32) : CM mX5_ring [.ref 0, .int x] (c, od) (CO c od N h s n t e w eB (S_ring N x)) := by
  refine CM.of [(0, .ref 0), (1, .int x)] rfl (by decide +kernel) rfl (Nat.le_of_ble_eq_true rfl) ?_
  obtain ⟨hl8, hu, nx, hn, hx, hr⟩ := H.2.2.1
  refine WE.aload_n (n := 1) dX5_ring_0 rfl rfl ?_
  refine WE.getR (n := 4) dX5_ring_1 rfl fl_X5_19 ⟨by decide, by decide⟩ rfl (by first | decide | exact kd_bal (by assumption) | exact kd_let (by assumption) | assumption) ?_
  refine WE.aload_n (n := 5) dX5_ring_4 rfl rfl ?_
  refine WE.getR (n := 8) dX5_ring_5 rfl fl_X5_10 ⟨by decide, by decide⟩ rfl (by first | decide | exact kd_bal (by assumption) | exact kd_let (by assumption) | assumption) ?_
  refine WE.V1PV (M' := mX1_prepare) (n := 11) dX5_ring_8 rfl cv_X5_40 (by first | decide | exact kd_bal (by assumption) | exact kd_let (by assumption) | assumption) ⟨⟨by decide, by decide⟩, by decide, by decide⟩ (Nat.le_of_ble_eq_true rfl) (c_prepare c od nx hn hx) (fun σ8 q8 => ?_)
  obtain ⟨c1, rfl, P⟩ := q8
  have hR1 := H.prep hn P
  refine WE.aload_n (n := 12) dX5_ring_11 rfl rfl ?_
  refine WE.aload_n (n := 13) dX5_ring_12 rfl rfl ?_
  refine WE.getR (n := 16) dX5_ring_13 rfl fl_X5_10 ⟨by decide, by decide⟩ rfl (by first | decide | exact kd_bal (by assumption) | exact kd_let (by assumption) | assumption) ?_
  refine WE.iload_n (n := 17) dX5_ring_16 rfl rfl ?_
  refine WE.V1PI (M' := mX4_setRing) (n := 20) dX5_ring_17 rfl cv_X5_44 (by first | decide | exact kd_bal (by assumption) | exact kd_let (by assumption) | assumption) ⟨⟨by decide, by decide⟩, by decide, by decide⟩ (Nat.le_of_ble_eq_true rfl) (c_setRing c1 od N hR1 H.hi.cn x) (fun v17 σ17 q17 => ?_)
  obtain ⟨c2, rfl, f2, m2⟩ := q17
  rcases hS : S_ring N x with q | q | k
  · rw [hS] at m2
    obtain ⟨rfl, m3, m4, m5⟩ := m2
    have hok := ok_ring H.hi x q hS
    refine WE.V1I (M' := mX5_answerOf) (n := 23) dX5_ring_20 rfl cv_X5_48 (by first | decide | exact kd_bal (by assumption) | exact kd_let (by assumption) | assumption) ⟨⟨by decide, by decide⟩, by decide, by decide⟩ (Nat.le_of_ble_eq_true rfl) (c_answer c2 od nx h.length hn ((f2 _ _ (by omega)).trans ((row_o hn P (by omega)).trans hx)) hl8 ((f2 _ _ (by omega)).trans ((row_o hn P (by omega)).trans hu)) q.1 hok.2) ?_
    refine WE.iret (ty := .int) dX5_ring_23 rfl rfl ⟨by decide, by decide⟩ ?_
    exact ⟨_, rfl, fun a k ha => by unfold kpS; rw [u2_ne _ _ (by omega), u2_ne _ _ (by omega), f2 _ _ (by omega), row_o hn P (by omega)], ⟨rfl, H.ok hn hr P f2 hok.1 m3 m4 m5⟩⟩
  · rw [hS] at m2
    obtain ⟨rfl, m3, m4, m5⟩ := m2
    refine WE.V1G (M' := mX5_answerOf) (n := 23) dX5_ring_20 rfl cv_X5_48 (by decide) ⟨⟨by decide, by decide⟩, by decide, by decide⟩ (Nat.le_of_ble_eq_true rfl) (c_ans103 c2 od) (fun v σ' q0 => ?_) (fun E σ' q0 => ?_)
    · exact absurd q0.1 (by intro z; cases z)
    · obtain ⟨q1, rfl⟩ := q0
      cases q1
      exact WX.out rfl ⟨by decide, by decide⟩ ⟨_, rfl, fun a k ha => by rw [f2 _ _ (by omega), row_o hn P (by omega)], ⟨rfl, H.ref hn hx hr P f2 m3 m4 m5⟩⟩
  · rw [hS] at m2
    obtain ⟨rfl, rfl⟩ := m2
    refine WE.V1G (M' := mX5_answerOf) (n := 23) dX5_ring_20 rfl cv_X5_48 (by decide) ⟨⟨by decide, by decide⟩, by decide, by decide⟩ (Nat.le_of_ble_eq_true rfl) (c_ansB c2 od k) (fun v σ' q0 => ?_) (fun E σ' q0 => ?_)
    · exact absurd q0.1 (by intro z; cases z)
    · obtain ⟨q1, rfl⟩ := q0
      cases q1
      exact WX.out rfl ⟨by decide, by decide⟩ ⟨_, rfl, fun a k ha => by rw [row_o hn P (by omega)], ⟨rfl, H.no hn hx hr P⟩⟩
set_option maxRecDepth 20000 in
set_option maxHeartbeats 1000000 in
theorem p_wind (c : CC) (od : Int64 × UInt64) (N : NA) (h : List NA) (s : Option NA) (n : Nat) (t : NA) (e : Int32) (w : Int32 × Int32) (H : CR c N h s n t e w) (x y z : Int32) : CM mX5_wind [.ref 0, .int x, .int y, .int z] (c, od) (CO c od N h s n t e w eA (S_blows N x y z)) := by
  refine CM.of [(0, .ref 0), (1, .int x), (2, .int y), (3, .int z)] rfl (by decide +kernel) rfl (Nat.le_of_ble_eq_true rfl) ?_
  obtain ⟨hl8, hu, nx, hn, hx, hr⟩ := H.2.2.1
  refine WE.aload_n (n := 1) dX5_wind_0 rfl rfl ?_
  refine WE.getR (n := 4) dX5_wind_1 rfl fl_X5_19 ⟨by decide, by decide⟩ rfl (by first | decide | exact kd_bal (by assumption) | exact kd_let (by assumption) | assumption) ?_
  refine WE.aload_n (n := 5) dX5_wind_4 rfl rfl ?_
  refine WE.getR (n := 8) dX5_wind_5 rfl fl_X5_10 ⟨by decide, by decide⟩ rfl (by first | decide | exact kd_bal (by assumption) | exact kd_let (by assumption) | assumption) ?_
  refine WE.V1PV (M' := mX1_prepare) (n := 11) dX5_wind_8 rfl cv_X5_40 (by first | decide | exact kd_bal (by assumption) | exact kd_let (by assumption) | assumption) ⟨⟨by decide, by decide⟩, by decide, by decide⟩ (Nat.le_of_ble_eq_true rfl) (c_prepare c od nx hn hx) (fun σ8 q8 => ?_)
  obtain ⟨c1, rfl, P⟩ := q8
  have hR1 := H.prep hn P
  refine WE.aload_n (n := 12) dX5_wind_11 rfl rfl ?_
  refine WE.aload_n (n := 13) dX5_wind_12 rfl rfl ?_
  refine WE.getR (n := 16) dX5_wind_13 rfl fl_X5_10 ⟨by decide, by decide⟩ rfl (by first | decide | exact kd_bal (by assumption) | exact kd_let (by assumption) | assumption) ?_
  refine WE.iload_n (n := 17) dX5_wind_16 rfl rfl ?_
  refine WE.iload_n (n := 18) dX5_wind_17 rfl rfl ?_
  refine WE.iload_n (n := 19) dX5_wind_18 rfl rfl ?_
  refine WE.V3PI (M' := mX4_setWind) (n := 22) dX5_wind_19 rfl cv_X5_51 (by first | decide | exact kd_bal (by assumption) | exact kd_let (by assumption) | assumption) ⟨⟨by decide, by decide⟩, by decide, by decide⟩ (Nat.le_of_ble_eq_true rfl) (c_setWind c1 od N hR1 H.hi.cn x y z) (fun v19 σ19 q19 => ?_)
  obtain ⟨c2, rfl, f2, m2⟩ := q19
  rcases hS : S_blows N x y z with q | q | k
  · rw [hS] at m2
    obtain ⟨rfl, m3, m4, m5⟩ := m2
    have hok := ok_blows H.hi x y z q hS
    refine WE.V1I (M' := mX5_answerOf) (n := 25) dX5_wind_22 rfl cv_X5_48 (by first | decide | exact kd_bal (by assumption) | exact kd_let (by assumption) | assumption) ⟨⟨by decide, by decide⟩, by decide, by decide⟩ (Nat.le_of_ble_eq_true rfl) (c_answer c2 od nx h.length hn ((f2 _ _ (by omega)).trans ((row_o hn P (by omega)).trans hx)) hl8 ((f2 _ _ (by omega)).trans ((row_o hn P (by omega)).trans hu)) q.1 hok.2) ?_
    refine WE.iret (ty := .int) dX5_wind_25 rfl rfl ⟨by decide, by decide⟩ ?_
    exact ⟨_, rfl, fun a k ha => by unfold kpS; rw [u2_ne _ _ (by omega), u2_ne _ _ (by omega), f2 _ _ (by omega), row_o hn P (by omega)], ⟨rfl, H.ok hn hr P f2 hok.1 m3 m4 m5⟩⟩
  · rw [hS] at m2
    obtain ⟨rfl, m3, m4, m5⟩ := m2
    refine WE.V1G (M' := mX5_answerOf) (n := 25) dX5_wind_22 rfl cv_X5_48 (by decide) ⟨⟨by decide, by decide⟩, by decide, by decide⟩ (Nat.le_of_ble_eq_true rfl) (c_ans103 c2 od) (fun v σ' q0 => ?_) (fun E σ' q0 => ?_)
    · exact absurd q0.1 (by intro z; cases z)
    · obtain ⟨q1, rfl⟩ := q0
      cases q1
      exact WX.out rfl ⟨by decide, by decide⟩ ⟨_, rfl, fun a k ha => by rw [f2 _ _ (by omega), row_o hn P (by omega)], ⟨rfl, H.ref hn hx hr P f2 m3 m4 m5⟩⟩
  · rw [hS] at m2
    obtain ⟨rfl, rfl⟩ := m2
    refine WE.V1G (M' := mX5_answerOf) (n := 25) dX5_wind_22 rfl cv_X5_48 (by decide) ⟨⟨by decide, by decide⟩, by decide, by decide⟩ (Nat.le_of_ble_eq_true rfl) (c_ansA c2 od k) (fun v σ' q0 => ?_) (fun E σ' q0 => ?_)
    · exact absurd q0.1 (by intro z; cases z)
    · obtain ⟨q1, rfl⟩ := q0
      cases q1
      exact WX.out rfl ⟨by decide, by decide⟩ ⟨_, rfl, fun a k ha => by rw [row_o hn P (by omega)], ⟨rfl, H.no hn hx hr P⟩⟩
set_option maxRecDepth 20000 in
set_option maxHeartbeats 1000000 in
theorem p_gas (c : CC) (od : Int64 × UInt64) (N : NA) (h : List NA) (s : Option NA) (n : Nat) (t : NA) (e : Int32) (w : Int32 × Int32) (H : CR c N h s n t e w) (x : Int32) : CM mX5_gas [.ref 0, .int x] (c, od) (CO c od N h s n t e w eB (S_gas N x)) := by
  refine CM.of [(0, .ref 0), (1, .int x)] rfl (by decide +kernel) rfl (Nat.le_of_ble_eq_true rfl) ?_
  obtain ⟨hl8, hu, nx, hn, hx, hr⟩ := H.2.2.1
  refine WE.aload_n (n := 1) dX5_gas_0 rfl rfl ?_
  refine WE.getR (n := 4) dX5_gas_1 rfl fl_X5_19 ⟨by decide, by decide⟩ rfl (by first | decide | exact kd_bal (by assumption) | exact kd_let (by assumption) | assumption) ?_
  refine WE.aload_n (n := 5) dX5_gas_4 rfl rfl ?_
  refine WE.getR (n := 8) dX5_gas_5 rfl fl_X5_10 ⟨by decide, by decide⟩ rfl (by first | decide | exact kd_bal (by assumption) | exact kd_let (by assumption) | assumption) ?_
  refine WE.V1PV (M' := mX1_prepare) (n := 11) dX5_gas_8 rfl cv_X5_40 (by first | decide | exact kd_bal (by assumption) | exact kd_let (by assumption) | assumption) ⟨⟨by decide, by decide⟩, by decide, by decide⟩ (Nat.le_of_ble_eq_true rfl) (c_prepare c od nx hn hx) (fun σ8 q8 => ?_)
  obtain ⟨c1, rfl, P⟩ := q8
  have hR1 := H.prep hn P
  refine WE.aload_n (n := 12) dX5_gas_11 rfl rfl ?_
  refine WE.aload_n (n := 13) dX5_gas_12 rfl rfl ?_
  refine WE.getR (n := 16) dX5_gas_13 rfl fl_X5_10 ⟨by decide, by decide⟩ rfl (by first | decide | exact kd_bal (by assumption) | exact kd_let (by assumption) | assumption) ?_
  refine WE.iload_n (n := 17) dX5_gas_16 rfl rfl ?_
  refine WE.V1PI (M' := mX4_makeGas) (n := 20) dX5_gas_17 rfl cv_X5_55 (by first | decide | exact kd_bal (by assumption) | exact kd_let (by assumption) | assumption) ⟨⟨by decide, by decide⟩, by decide, by decide⟩ (Nat.le_of_ble_eq_true rfl) (c_makeGas c1 od N hR1 H.hi.cn x) (fun v17 σ17 q17 => ?_)
  obtain ⟨c2, rfl, f2, m2⟩ := q17
  rcases hS : S_gas N x with q | q | k
  · rw [hS] at m2
    obtain ⟨rfl, m3, m4, m5⟩ := m2
    have hok := ok_gas H.hi x q hS
    refine WE.V1I (M' := mX5_answerOf) (n := 23) dX5_gas_20 rfl cv_X5_48 (by first | decide | exact kd_bal (by assumption) | exact kd_let (by assumption) | assumption) ⟨⟨by decide, by decide⟩, by decide, by decide⟩ (Nat.le_of_ble_eq_true rfl) (c_answer c2 od nx h.length hn ((f2 _ _ (by omega)).trans ((row_o hn P (by omega)).trans hx)) hl8 ((f2 _ _ (by omega)).trans ((row_o hn P (by omega)).trans hu)) q.1 hok.2) ?_
    refine WE.iret (ty := .int) dX5_gas_23 rfl rfl ⟨by decide, by decide⟩ ?_
    exact ⟨_, rfl, fun a k ha => by unfold kpS; rw [u2_ne _ _ (by omega), u2_ne _ _ (by omega), f2 _ _ (by omega), row_o hn P (by omega)], ⟨rfl, H.ok hn hr P f2 hok.1 m3 m4 m5⟩⟩
  · rw [hS] at m2
    obtain ⟨rfl, m3, m4, m5⟩ := m2
    refine WE.V1G (M' := mX5_answerOf) (n := 23) dX5_gas_20 rfl cv_X5_48 (by decide) ⟨⟨by decide, by decide⟩, by decide, by decide⟩ (Nat.le_of_ble_eq_true rfl) (c_ans103 c2 od) (fun v σ' q0 => ?_) (fun E σ' q0 => ?_)
    · exact absurd q0.1 (by intro z; cases z)
    · obtain ⟨q1, rfl⟩ := q0
      cases q1
      exact WX.out rfl ⟨by decide, by decide⟩ ⟨_, rfl, fun a k ha => by rw [f2 _ _ (by omega), row_o hn P (by omega)], ⟨rfl, H.ref hn hx hr P f2 m3 m4 m5⟩⟩
  · rw [hS] at m2
    obtain ⟨rfl, rfl⟩ := m2
    refine WE.V1G (M' := mX5_answerOf) (n := 23) dX5_gas_20 rfl cv_X5_48 (by decide) ⟨⟨by decide, by decide⟩, by decide, by decide⟩ (Nat.le_of_ble_eq_true rfl) (c_ansB c2 od k) (fun v σ' q0 => ?_) (fun E σ' q0 => ?_)
    · exact absurd q0.1 (by intro z; cases z)
    · obtain ⟨q1, rfl⟩ := q0
      cases q1
      exact WX.out rfl ⟨by decide, by decide⟩ ⟨_, rfl, fun a k ha => by rw [row_o hn P (by omega)], ⟨rfl, H.no hn hx hr P⟩⟩
set_option maxRecDepth 20000 in
set_option maxHeartbeats 1000000 in
theorem p_balloon (c : CC) (od : Int64 × UInt64) (N : NA) (h : List NA) (s : Option NA) (n : Nat) (t : NA) (e : Int32) (w : Int32 × Int32) (H : CR c N h s n t e w) (x : Int32) : CM mX5_balloon [.ref 0, .int x] (c, od) (CO c od N h s n t e w eB (S_balloon N x)) := by
  refine CM.of [(0, .ref 0), (1, .int x)] rfl (by decide +kernel) rfl (Nat.le_of_ble_eq_true rfl) ?_
  obtain ⟨hl8, hu, nx, hn, hx, hr⟩ := H.2.2.1
  refine WE.aload_n (n := 1) dX5_balloon_0 rfl rfl ?_
  refine WE.getR (n := 4) dX5_balloon_1 rfl fl_X5_19 ⟨by decide, by decide⟩ rfl (by first | decide | exact kd_bal (by assumption) | exact kd_let (by assumption) | assumption) ?_
  refine WE.aload_n (n := 5) dX5_balloon_4 rfl rfl ?_
  refine WE.getR (n := 8) dX5_balloon_5 rfl fl_X5_10 ⟨by decide, by decide⟩ rfl (by first | decide | exact kd_bal (by assumption) | exact kd_let (by assumption) | assumption) ?_
  refine WE.V1PV (M' := mX1_prepare) (n := 11) dX5_balloon_8 rfl cv_X5_40 (by first | decide | exact kd_bal (by assumption) | exact kd_let (by assumption) | assumption) ⟨⟨by decide, by decide⟩, by decide, by decide⟩ (Nat.le_of_ble_eq_true rfl) (c_prepare c od nx hn hx) (fun σ8 q8 => ?_)
  obtain ⟨c1, rfl, P⟩ := q8
  have hR1 := H.prep hn P
  refine WE.aload_n (n := 12) dX5_balloon_11 rfl rfl ?_
  refine WE.aload_n (n := 13) dX5_balloon_12 rfl rfl ?_
  refine WE.getR (n := 16) dX5_balloon_13 rfl fl_X5_10 ⟨by decide, by decide⟩ rfl (by first | decide | exact kd_bal (by assumption) | exact kd_let (by assumption) | assumption) ?_
  refine WE.iload_n (n := 17) dX5_balloon_16 rfl rfl ?_
  refine WE.V1PI (M' := mX4_addBalloon) (n := 20) dX5_balloon_17 rfl cv_X5_58 (by first | decide | exact kd_bal (by assumption) | exact kd_let (by assumption) | assumption) ⟨⟨by decide, by decide⟩, by decide, by decide⟩ (Nat.le_of_ble_eq_true rfl) (c_addBalloon c1 od N hR1 H.hi.cn (fun l hl => H.hi.free (Nat.le_refl _) (by have := H.hi.cn.1; omega) hl) x) (fun v17 σ17 q17 => ?_)
  obtain ⟨c2, rfl, f2, m2⟩ := q17
  rcases hS : S_balloon N x with q | q | k
  · rw [hS] at m2
    obtain ⟨rfl, m3, m4, m5⟩ := m2
    have hok := ok_balloon H.hi x q hS
    refine WE.V1I (M' := mX5_answerOf) (n := 23) dX5_balloon_20 rfl cv_X5_48 (by first | decide | exact kd_bal (by assumption) | exact kd_let (by assumption) | assumption) ⟨⟨by decide, by decide⟩, by decide, by decide⟩ (Nat.le_of_ble_eq_true rfl) (c_answer c2 od nx h.length hn ((f2 _ _ (by omega)).trans ((row_o hn P (by omega)).trans hx)) hl8 ((f2 _ _ (by omega)).trans ((row_o hn P (by omega)).trans hu)) q.1 hok.2) ?_
    refine WE.iret (ty := .int) dX5_balloon_23 rfl rfl ⟨by decide, by decide⟩ ?_
    exact ⟨_, rfl, fun a k ha => by unfold kpS; rw [u2_ne _ _ (by omega), u2_ne _ _ (by omega), f2 _ _ (by omega), row_o hn P (by omega)], ⟨rfl, H.ok hn hr P f2 hok.1 m3 m4 m5⟩⟩
  · rw [hS] at m2
    obtain ⟨rfl, m3, m4, m5⟩ := m2
    refine WE.V1G (M' := mX5_answerOf) (n := 23) dX5_balloon_20 rfl cv_X5_48 (by decide) ⟨⟨by decide, by decide⟩, by decide, by decide⟩ (Nat.le_of_ble_eq_true rfl) (c_ans103 c2 od) (fun v σ' q0 => ?_) (fun E σ' q0 => ?_)
    · exact absurd q0.1 (by intro z; cases z)
    · obtain ⟨q1, rfl⟩ := q0
      cases q1
      exact WX.out rfl ⟨by decide, by decide⟩ ⟨_, rfl, fun a k ha => by rw [f2 _ _ (by omega), row_o hn P (by omega)], ⟨rfl, H.ref hn hx hr P f2 m3 m4 m5⟩⟩
  · rw [hS] at m2
    obtain ⟨rfl, rfl⟩ := m2
    refine WE.V1G (M' := mX5_answerOf) (n := 23) dX5_balloon_20 rfl cv_X5_48 (by decide) ⟨⟨by decide, by decide⟩, by decide, by decide⟩ (Nat.le_of_ble_eq_true rfl) (c_ansB c2 od k) (fun v σ' q0 => ?_) (fun E σ' q0 => ?_)
    · exact absurd q0.1 (by intro z; cases z)
    · obtain ⟨q1, rfl⟩ := q0
      cases q1
      exact WX.out rfl ⟨by decide, by decide⟩ ⟨_, rfl, fun a k ha => by rw [row_o hn P (by omega)], ⟨rfl, H.no hn hx hr P⟩⟩
set_option maxRecDepth 20000 in
set_option maxHeartbeats 1000000 in
theorem p_fill (c : CC) (od : Int64 × UInt64) (N : NA) (h : List NA) (s : Option NA) (n : Nat) (t : NA) (e : Int32) (w : Int32 × Int32) (H : CR c N h s n t e w) (x y : Int32) : CM mX5_fill [.ref 0, .int x, .int y] (c, od) (CO c od N h s n t e w eA (S_fills N x y)) := by
  refine CM.of [(0, .ref 0), (1, .int x), (2, .int y)] rfl (by decide +kernel) rfl (Nat.le_of_ble_eq_true rfl) ?_
  obtain ⟨hl8, hu, nx, hn, hx, hr⟩ := H.2.2.1
  refine WE.aload_n (n := 1) dX5_fill_0 rfl rfl ?_
  refine WE.getR (n := 4) dX5_fill_1 rfl fl_X5_19 ⟨by decide, by decide⟩ rfl (by first | decide | exact kd_bal (by assumption) | exact kd_let (by assumption) | assumption) ?_
  refine WE.aload_n (n := 5) dX5_fill_4 rfl rfl ?_
  refine WE.getR (n := 8) dX5_fill_5 rfl fl_X5_10 ⟨by decide, by decide⟩ rfl (by first | decide | exact kd_bal (by assumption) | exact kd_let (by assumption) | assumption) ?_
  refine WE.V1PV (M' := mX1_prepare) (n := 11) dX5_fill_8 rfl cv_X5_40 (by first | decide | exact kd_bal (by assumption) | exact kd_let (by assumption) | assumption) ⟨⟨by decide, by decide⟩, by decide, by decide⟩ (Nat.le_of_ble_eq_true rfl) (c_prepare c od nx hn hx) (fun σ8 q8 => ?_)
  obtain ⟨c1, rfl, P⟩ := q8
  have hR1 := H.prep hn P
  refine WE.aload_n (n := 12) dX5_fill_11 rfl rfl ?_
  refine WE.aload_n (n := 13) dX5_fill_12 rfl rfl ?_
  refine WE.getR (n := 16) dX5_fill_13 rfl fl_X5_10 ⟨by decide, by decide⟩ rfl (by first | decide | exact kd_bal (by assumption) | exact kd_let (by assumption) | assumption) ?_
  refine WE.iload_n (n := 17) dX5_fill_16 rfl rfl ?_
  refine WE.iload_n (n := 18) dX5_fill_17 rfl rfl ?_
  refine WE.V2PI (M' := mX4_fillBalloon) (n := 21) dX5_fill_18 rfl cv_X5_61 (by first | decide | exact kd_bal (by assumption) | exact kd_let (by assumption) | assumption) ⟨⟨by decide, by decide⟩, by decide, by decide⟩ (Nat.le_of_ble_eq_true rfl) (c_fillBalloon c1 od N hR1 H.hi.cn x y) (fun v18 σ18 q18 => ?_)
  obtain ⟨c2, rfl, f2, m2⟩ := q18
  rcases hS : S_fills N x y with q | q | k
  · rw [hS] at m2
    obtain ⟨rfl, m3, m4, m5⟩ := m2
    have hok := ok_fills H.hi x y q hS
    refine WE.V1I (M' := mX5_answerOf) (n := 24) dX5_fill_21 rfl cv_X5_48 (by first | decide | exact kd_bal (by assumption) | exact kd_let (by assumption) | assumption) ⟨⟨by decide, by decide⟩, by decide, by decide⟩ (Nat.le_of_ble_eq_true rfl) (c_answer c2 od nx h.length hn ((f2 _ _ (by omega)).trans ((row_o hn P (by omega)).trans hx)) hl8 ((f2 _ _ (by omega)).trans ((row_o hn P (by omega)).trans hu)) q.1 hok.2) ?_
    refine WE.iret (ty := .int) dX5_fill_24 rfl rfl ⟨by decide, by decide⟩ ?_
    exact ⟨_, rfl, fun a k ha => by unfold kpS; rw [u2_ne _ _ (by omega), u2_ne _ _ (by omega), f2 _ _ (by omega), row_o hn P (by omega)], ⟨rfl, H.ok hn hr P f2 hok.1 m3 m4 m5⟩⟩
  · rw [hS] at m2
    obtain ⟨rfl, m3, m4, m5⟩ := m2
    refine WE.V1G (M' := mX5_answerOf) (n := 24) dX5_fill_21 rfl cv_X5_48 (by decide) ⟨⟨by decide, by decide⟩, by decide, by decide⟩ (Nat.le_of_ble_eq_true rfl) (c_ans103 c2 od) (fun v σ' q0 => ?_) (fun E σ' q0 => ?_)
    · exact absurd q0.1 (by intro z; cases z)
    · obtain ⟨q1, rfl⟩ := q0
      cases q1
      exact WX.out rfl ⟨by decide, by decide⟩ ⟨_, rfl, fun a k ha => by rw [f2 _ _ (by omega), row_o hn P (by omega)], ⟨rfl, H.ref hn hx hr P f2 m3 m4 m5⟩⟩
  · rw [hS] at m2
    obtain ⟨rfl, rfl⟩ := m2
    refine WE.V1G (M' := mX5_answerOf) (n := 24) dX5_fill_21 rfl cv_X5_48 (by decide) ⟨⟨by decide, by decide⟩, by decide, by decide⟩ (Nat.le_of_ble_eq_true rfl) (c_ansA c2 od k) (fun v σ' q0 => ?_) (fun E σ' q0 => ?_)
    · exact absurd q0.1 (by intro z; cases z)
    · obtain ⟨q1, rfl⟩ := q0
      cases q1
      exact WX.out rfl ⟨by decide, by decide⟩ ⟨_, rfl, fun a k ha => by rw [row_o hn P (by omega)], ⟨rfl, H.no hn hx hr P⟩⟩
set_option maxRecDepth 20000 in
set_option maxHeartbeats 1000000 in
theorem p_ballast (c : CC) (od : Int64 × UInt64) (N : NA) (h : List NA) (s : Option NA) (n : Nat) (t : NA) (e : Int32) (w : Int32 × Int32) (H : CR c N h s n t e w) (x y : Int32) : CM mX5_ballast [.ref 0, .int x, .int y] (c, od) (CO c od N h s n t e w eA (S_lays N x y)) := by
  refine CM.of [(0, .ref 0), (1, .int x), (2, .int y)] rfl (by decide +kernel) rfl (Nat.le_of_ble_eq_true rfl) ?_
  obtain ⟨hl8, hu, nx, hn, hx, hr⟩ := H.2.2.1
  refine WE.aload_n (n := 1) dX5_ballast_0 rfl rfl ?_
  refine WE.getR (n := 4) dX5_ballast_1 rfl fl_X5_19 ⟨by decide, by decide⟩ rfl (by first | decide | exact kd_bal (by assumption) | exact kd_let (by assumption) | assumption) ?_
  refine WE.aload_n (n := 5) dX5_ballast_4 rfl rfl ?_
  refine WE.getR (n := 8) dX5_ballast_5 rfl fl_X5_10 ⟨by decide, by decide⟩ rfl (by first | decide | exact kd_bal (by assumption) | exact kd_let (by assumption) | assumption) ?_
  refine WE.V1PV (M' := mX1_prepare) (n := 11) dX5_ballast_8 rfl cv_X5_40 (by first | decide | exact kd_bal (by assumption) | exact kd_let (by assumption) | assumption) ⟨⟨by decide, by decide⟩, by decide, by decide⟩ (Nat.le_of_ble_eq_true rfl) (c_prepare c od nx hn hx) (fun σ8 q8 => ?_)
  obtain ⟨c1, rfl, P⟩ := q8
  have hR1 := H.prep hn P
  refine WE.aload_n (n := 12) dX5_ballast_11 rfl rfl ?_
  refine WE.aload_n (n := 13) dX5_ballast_12 rfl rfl ?_
  refine WE.getR (n := 16) dX5_ballast_13 rfl fl_X5_10 ⟨by decide, by decide⟩ rfl (by first | decide | exact kd_bal (by assumption) | exact kd_let (by assumption) | assumption) ?_
  refine WE.iload_n (n := 17) dX5_ballast_16 rfl rfl ?_
  refine WE.iload_n (n := 18) dX5_ballast_17 rfl rfl ?_
  refine WE.V2PI (M' := mX4_layBallast) (n := 21) dX5_ballast_18 rfl cv_X5_65 (by first | decide | exact kd_bal (by assumption) | exact kd_let (by assumption) | assumption) ⟨⟨by decide, by decide⟩, by decide, by decide⟩ (Nat.le_of_ble_eq_true rfl) (c_layBallast c1 od N hR1 H.hi.cn x y) (fun v18 σ18 q18 => ?_)
  obtain ⟨c2, rfl, f2, m2⟩ := q18
  rcases hS : S_lays N x y with q | q | k
  · rw [hS] at m2
    obtain ⟨rfl, m3, m4, m5⟩ := m2
    have hok := ok_lays H.hi x y q hS
    refine WE.V1I (M' := mX5_answerOf) (n := 24) dX5_ballast_21 rfl cv_X5_48 (by first | decide | exact kd_bal (by assumption) | exact kd_let (by assumption) | assumption) ⟨⟨by decide, by decide⟩, by decide, by decide⟩ (Nat.le_of_ble_eq_true rfl) (c_answer c2 od nx h.length hn ((f2 _ _ (by omega)).trans ((row_o hn P (by omega)).trans hx)) hl8 ((f2 _ _ (by omega)).trans ((row_o hn P (by omega)).trans hu)) q.1 hok.2) ?_
    refine WE.iret (ty := .int) dX5_ballast_24 rfl rfl ⟨by decide, by decide⟩ ?_
    exact ⟨_, rfl, fun a k ha => by unfold kpS; rw [u2_ne _ _ (by omega), u2_ne _ _ (by omega), f2 _ _ (by omega), row_o hn P (by omega)], ⟨rfl, H.ok hn hr P f2 hok.1 m3 m4 m5⟩⟩
  · rw [hS] at m2
    obtain ⟨rfl, m3, m4, m5⟩ := m2
    refine WE.V1G (M' := mX5_answerOf) (n := 24) dX5_ballast_21 rfl cv_X5_48 (by decide) ⟨⟨by decide, by decide⟩, by decide, by decide⟩ (Nat.le_of_ble_eq_true rfl) (c_ans103 c2 od) (fun v σ' q0 => ?_) (fun E σ' q0 => ?_)
    · exact absurd q0.1 (by intro z; cases z)
    · obtain ⟨q1, rfl⟩ := q0
      cases q1
      exact WX.out rfl ⟨by decide, by decide⟩ ⟨_, rfl, fun a k ha => by rw [f2 _ _ (by omega), row_o hn P (by omega)], ⟨rfl, H.ref hn hx hr P f2 m3 m4 m5⟩⟩
  · rw [hS] at m2
    obtain ⟨rfl, rfl⟩ := m2
    refine WE.V1G (M' := mX5_answerOf) (n := 24) dX5_ballast_21 rfl cv_X5_48 (by decide) ⟨⟨by decide, by decide⟩, by decide, by decide⟩ (Nat.le_of_ble_eq_true rfl) (c_ansA c2 od k) (fun v σ' q0 => ?_) (fun E σ' q0 => ?_)
    · exact absurd q0.1 (by intro z; cases z)
    · obtain ⟨q1, rfl⟩ := q0
      cases q1
      exact WX.out rfl ⟨by decide, by decide⟩ ⟨_, rfl, fun a k ha => by rw [row_o hn P (by omega)], ⟨rfl, H.no hn hx hr P⟩⟩
set_option maxRecDepth 20000 in
set_option maxHeartbeats 1000000 in
theorem p_courier (c : CC) (od : Int64 × UInt64) (N : NA) (h : List NA) (s : Option NA) (n : Nat) (t : NA) (e : Int32) (w : Int32 × Int32) (H : CR c N h s n t e w) (x y : Int32) : CM mX5_courier [.ref 0, .int x, .int y] (c, od) (CO c od N h s n t e w eA (S_courier N x y)) := by
  refine CM.of [(0, .ref 0), (1, .int x), (2, .int y)] rfl (by decide +kernel) rfl (Nat.le_of_ble_eq_true rfl) ?_
  obtain ⟨hl8, hu, nx, hn, hx, hr⟩ := H.2.2.1
  refine WE.aload_n (n := 1) dX5_courier_0 rfl rfl ?_
  refine WE.getR (n := 4) dX5_courier_1 rfl fl_X5_19 ⟨by decide, by decide⟩ rfl (by first | decide | exact kd_bal (by assumption) | exact kd_let (by assumption) | assumption) ?_
  refine WE.aload_n (n := 5) dX5_courier_4 rfl rfl ?_
  refine WE.getR (n := 8) dX5_courier_5 rfl fl_X5_10 ⟨by decide, by decide⟩ rfl (by first | decide | exact kd_bal (by assumption) | exact kd_let (by assumption) | assumption) ?_
  refine WE.V1PV (M' := mX1_prepare) (n := 11) dX5_courier_8 rfl cv_X5_40 (by first | decide | exact kd_bal (by assumption) | exact kd_let (by assumption) | assumption) ⟨⟨by decide, by decide⟩, by decide, by decide⟩ (Nat.le_of_ble_eq_true rfl) (c_prepare c od nx hn hx) (fun σ8 q8 => ?_)
  obtain ⟨c1, rfl, P⟩ := q8
  have hR1 := H.prep hn P
  refine WE.aload_n (n := 12) dX5_courier_11 rfl rfl ?_
  refine WE.aload_n (n := 13) dX5_courier_12 rfl rfl ?_
  refine WE.getR (n := 16) dX5_courier_13 rfl fl_X5_10 ⟨by decide, by decide⟩ rfl (by first | decide | exact kd_bal (by assumption) | exact kd_let (by assumption) | assumption) ?_
  refine WE.iload_n (n := 17) dX5_courier_16 rfl rfl ?_
  refine WE.iload_n (n := 18) dX5_courier_17 rfl rfl ?_
  refine WE.V2PI (M' := mX4_addCourier) (n := 21) dX5_courier_18 rfl cv_X5_68 (by first | decide | exact kd_bal (by assumption) | exact kd_let (by assumption) | assumption) ⟨⟨by decide, by decide⟩, by decide, by decide⟩ (Nat.le_of_ble_eq_true rfl) (c_addCourier c1 od N hR1 H.hi.cn (fun j hj => by obtain ⟨k, _, hk, _, e, _⟩ := (H.hi.b hj).2.2.1; exact ⟨k, hk, e⟩) x y) (fun v18 σ18 q18 => ?_)
  obtain ⟨c2, rfl, f2, m2⟩ := q18
  rcases hS : S_courier N x y with q | q | k
  · rw [hS] at m2
    obtain ⟨rfl, m3, m4, m5⟩ := m2
    have hok := ok_courier H.hi x y q hS
    refine WE.V1I (M' := mX5_answerOf) (n := 24) dX5_courier_21 rfl cv_X5_48 (by first | decide | exact kd_bal (by assumption) | exact kd_let (by assumption) | assumption) ⟨⟨by decide, by decide⟩, by decide, by decide⟩ (Nat.le_of_ble_eq_true rfl) (c_answer c2 od nx h.length hn ((f2 _ _ (by omega)).trans ((row_o hn P (by omega)).trans hx)) hl8 ((f2 _ _ (by omega)).trans ((row_o hn P (by omega)).trans hu)) q.1 hok.2) ?_
    refine WE.iret (ty := .int) dX5_courier_24 rfl rfl ⟨by decide, by decide⟩ ?_
    exact ⟨_, rfl, fun a k ha => by unfold kpS; rw [u2_ne _ _ (by omega), u2_ne _ _ (by omega), f2 _ _ (by omega), row_o hn P (by omega)], ⟨rfl, H.ok hn hr P f2 hok.1 m3 m4 m5⟩⟩
  · rw [hS] at m2
    obtain ⟨rfl, m3, m4, m5⟩ := m2
    refine WE.V1G (M' := mX5_answerOf) (n := 24) dX5_courier_21 rfl cv_X5_48 (by decide) ⟨⟨by decide, by decide⟩, by decide, by decide⟩ (Nat.le_of_ble_eq_true rfl) (c_ans103 c2 od) (fun v σ' q0 => ?_) (fun E σ' q0 => ?_)
    · exact absurd q0.1 (by intro z; cases z)
    · obtain ⟨q1, rfl⟩ := q0
      cases q1
      exact WX.out rfl ⟨by decide, by decide⟩ ⟨_, rfl, fun a k ha => by rw [f2 _ _ (by omega), row_o hn P (by omega)], ⟨rfl, H.ref hn hx hr P f2 m3 m4 m5⟩⟩
  · rw [hS] at m2
    obtain ⟨rfl, rfl⟩ := m2
    refine WE.V1G (M' := mX5_answerOf) (n := 24) dX5_courier_21 rfl cv_X5_48 (by decide) ⟨⟨by decide, by decide⟩, by decide, by decide⟩ (Nat.le_of_ble_eq_true rfl) (c_ansA c2 od k) (fun v σ' q0 => ?_) (fun E σ' q0 => ?_)
    · exact absurd q0.1 (by intro z; cases z)
    · obtain ⟨q1, rfl⟩ := q0
      cases q1
      exact WX.out rfl ⟨by decide, by decide⟩ ⟨_, rfl, fun a k ha => by rw [row_o hn P (by omega)], ⟨rfl, H.no hn hx hr P⟩⟩
set_option maxRecDepth 20000 in
set_option maxHeartbeats 1000000 in
theorem p_letter (c : CC) (od : Int64 × UInt64) (N : NA) (h : List NA) (s : Option NA) (n : Nat) (t : NA) (e : Int32) (w : Int32 × Int32) (H : CR c N h s n t e w) (x y : Int32) : CM mX5_letter [.ref 0, .int x, .int y] (c, od) (CO c od N h s n t e w eB (S_letter N x y)) := by
  refine CM.of [(0, .ref 0), (1, .int x), (2, .int y)] rfl (by decide +kernel) rfl (Nat.le_of_ble_eq_true rfl) ?_
  obtain ⟨hl8, hu, nx, hn, hx, hr⟩ := H.2.2.1
  refine WE.aload_n (n := 1) dX5_letter_0 rfl rfl ?_
  refine WE.getR (n := 4) dX5_letter_1 rfl fl_X5_19 ⟨by decide, by decide⟩ rfl (by first | decide | exact kd_bal (by assumption) | exact kd_let (by assumption) | assumption) ?_
  refine WE.aload_n (n := 5) dX5_letter_4 rfl rfl ?_
  refine WE.getR (n := 8) dX5_letter_5 rfl fl_X5_10 ⟨by decide, by decide⟩ rfl (by first | decide | exact kd_bal (by assumption) | exact kd_let (by assumption) | assumption) ?_
  refine WE.V1PV (M' := mX1_prepare) (n := 11) dX5_letter_8 rfl cv_X5_40 (by first | decide | exact kd_bal (by assumption) | exact kd_let (by assumption) | assumption) ⟨⟨by decide, by decide⟩, by decide, by decide⟩ (Nat.le_of_ble_eq_true rfl) (c_prepare c od nx hn hx) (fun σ8 q8 => ?_)
  obtain ⟨c1, rfl, P⟩ := q8
  have hR1 := H.prep hn P
  refine WE.aload_n (n := 12) dX5_letter_11 rfl rfl ?_
  refine WE.aload_n (n := 13) dX5_letter_12 rfl rfl ?_
  refine WE.getR (n := 16) dX5_letter_13 rfl fl_X5_10 ⟨by decide, by decide⟩ rfl (by first | decide | exact kd_bal (by assumption) | exact kd_let (by assumption) | assumption) ?_
  refine WE.iload_n (n := 17) dX5_letter_16 rfl rfl ?_
  refine WE.iload_n (n := 18) dX5_letter_17 rfl rfl ?_
  refine WE.V2PI (M' := mX4_addLetter) (n := 21) dX5_letter_18 rfl cv_X5_71 (by first | decide | exact kd_bal (by assumption) | exact kd_let (by assumption) | assumption) ⟨⟨by decide, by decide⟩, by decide, by decide⟩ (Nat.le_of_ble_eq_true rfl) (c_addLetter c1 od N hR1 H.hi.cn x y) (fun v18 σ18 q18 => ?_)
  obtain ⟨c2, rfl, f2, m2⟩ := q18
  rcases hS : S_letter N x y with q | q | k
  · rw [hS] at m2
    obtain ⟨rfl, m3, m4, m5⟩ := m2
    have hok := ok_letter H.hi x y q hS
    refine WE.V1I (M' := mX5_answerOf) (n := 24) dX5_letter_21 rfl cv_X5_48 (by first | decide | exact kd_bal (by assumption) | exact kd_let (by assumption) | assumption) ⟨⟨by decide, by decide⟩, by decide, by decide⟩ (Nat.le_of_ble_eq_true rfl) (c_answer c2 od nx h.length hn ((f2 _ _ (by omega)).trans ((row_o hn P (by omega)).trans hx)) hl8 ((f2 _ _ (by omega)).trans ((row_o hn P (by omega)).trans hu)) q.1 hok.2) ?_
    refine WE.iret (ty := .int) dX5_letter_24 rfl rfl ⟨by decide, by decide⟩ ?_
    exact ⟨_, rfl, fun a k ha => by unfold kpS; rw [u2_ne _ _ (by omega), u2_ne _ _ (by omega), f2 _ _ (by omega), row_o hn P (by omega)], ⟨rfl, H.ok hn hr P f2 hok.1 m3 m4 m5⟩⟩
  · rw [hS] at m2
    obtain ⟨rfl, m3, m4, m5⟩ := m2
    refine WE.V1G (M' := mX5_answerOf) (n := 24) dX5_letter_21 rfl cv_X5_48 (by decide) ⟨⟨by decide, by decide⟩, by decide, by decide⟩ (Nat.le_of_ble_eq_true rfl) (c_ans103 c2 od) (fun v σ' q0 => ?_) (fun E σ' q0 => ?_)
    · exact absurd q0.1 (by intro z; cases z)
    · obtain ⟨q1, rfl⟩ := q0
      cases q1
      exact WX.out rfl ⟨by decide, by decide⟩ ⟨_, rfl, fun a k ha => by rw [f2 _ _ (by omega), row_o hn P (by omega)], ⟨rfl, H.ref hn hx hr P f2 m3 m4 m5⟩⟩
  · rw [hS] at m2
    obtain ⟨rfl, rfl⟩ := m2
    refine WE.V1G (M' := mX5_answerOf) (n := 24) dX5_letter_21 rfl cv_X5_48 (by decide) ⟨⟨by decide, by decide⟩, by decide, by decide⟩ (Nat.le_of_ble_eq_true rfl) (c_ansB c2 od k) (fun v σ' q0 => ?_) (fun E σ' q0 => ?_)
    · exact absurd q0.1 (by intro z; cases z)
    · obtain ⟨q1, rfl⟩ := q0
      cases q1
      exact WX.out rfl ⟨by decide, by decide⟩ ⟨_, rfl, fun a k ha => by rw [row_o hn P (by omega)], ⟨rfl, H.no hn hx hr P⟩⟩
set_option maxRecDepth 20000 in
set_option maxHeartbeats 1000000 in
theorem p_load (c : CC) (od : Int64 × UInt64) (N : NA) (h : List NA) (s : Option NA) (n : Nat) (t : NA) (e : Int32) (w : Int32 × Int32) (H : CR c N h s n t e w) (x y : Int32) : CM mX5_load [.ref 0, .int x, .int y] (c, od) (CO c od N h s n t e w eC (S_loads N x y)) := by
  refine CM.of [(0, .ref 0), (1, .int x), (2, .int y)] rfl (by decide +kernel) rfl (Nat.le_of_ble_eq_true rfl) ?_
  obtain ⟨hl8, hu, nx, hn, hx, hr⟩ := H.2.2.1
  refine WE.aload_n (n := 1) dX5_load_0 rfl rfl ?_
  refine WE.getR (n := 4) dX5_load_1 rfl fl_X5_19 ⟨by decide, by decide⟩ rfl (by first | decide | exact kd_bal (by assumption) | exact kd_let (by assumption) | assumption) ?_
  refine WE.aload_n (n := 5) dX5_load_4 rfl rfl ?_
  refine WE.getR (n := 8) dX5_load_5 rfl fl_X5_10 ⟨by decide, by decide⟩ rfl (by first | decide | exact kd_bal (by assumption) | exact kd_let (by assumption) | assumption) ?_
  refine WE.V1PV (M' := mX1_prepare) (n := 11) dX5_load_8 rfl cv_X5_40 (by first | decide | exact kd_bal (by assumption) | exact kd_let (by assumption) | assumption) ⟨⟨by decide, by decide⟩, by decide, by decide⟩ (Nat.le_of_ble_eq_true rfl) (c_prepare c od nx hn hx) (fun σ8 q8 => ?_)
  obtain ⟨c1, rfl, P⟩ := q8
  have hR1 := H.prep hn P
  refine WE.aload_n (n := 12) dX5_load_11 rfl rfl ?_
  refine WE.aload_n (n := 13) dX5_load_12 rfl rfl ?_
  refine WE.getR (n := 16) dX5_load_13 rfl fl_X5_10 ⟨by decide, by decide⟩ rfl (by first | decide | exact kd_bal (by assumption) | exact kd_let (by assumption) | assumption) ?_
  refine WE.iload_n (n := 17) dX5_load_16 rfl rfl ?_
  refine WE.iload_n (n := 18) dX5_load_17 rfl rfl ?_
  refine WE.V2PI (M' := mX4_loadLetter) (n := 21) dX5_load_18 rfl cv_X5_74 (by first | decide | exact kd_bal (by assumption) | exact kd_let (by assumption) | assumption) ⟨⟨by decide, by decide⟩, by decide, by decide⟩ (Nat.le_of_ble_eq_true rfl) (c_loadLetter c1 od N hR1 H.hi.cn (fun l hl => (H.hi.l hl).2.2.f H.hi.cn) x y) (fun v18 σ18 q18 => ?_)
  obtain ⟨c2, rfl, f2, m2⟩ := q18
  rcases hS : S_loads N x y with q | q | k
  · rw [hS] at m2
    obtain ⟨rfl, m3, m4, m5⟩ := m2
    have hok := ok_loads H.hi x y q hS
    refine WE.V1I (M' := mX5_answerOf) (n := 24) dX5_load_21 rfl cv_X5_48 (by first | decide | exact kd_bal (by assumption) | exact kd_let (by assumption) | assumption) ⟨⟨by decide, by decide⟩, by decide, by decide⟩ (Nat.le_of_ble_eq_true rfl) (c_answer c2 od nx h.length hn ((f2 _ _ (by omega)).trans ((row_o hn P (by omega)).trans hx)) hl8 ((f2 _ _ (by omega)).trans ((row_o hn P (by omega)).trans hu)) q.1 hok.2) ?_
    refine WE.iret (ty := .int) dX5_load_24 rfl rfl ⟨by decide, by decide⟩ ?_
    exact ⟨_, rfl, fun a k ha => by unfold kpS; rw [u2_ne _ _ (by omega), u2_ne _ _ (by omega), f2 _ _ (by omega), row_o hn P (by omega)], ⟨rfl, H.ok hn hr P f2 hok.1 m3 m4 m5⟩⟩
  · rw [hS] at m2
    obtain ⟨rfl, m3, m4, m5⟩ := m2
    refine WE.V1G (M' := mX5_answerOf) (n := 24) dX5_load_21 rfl cv_X5_48 (by decide) ⟨⟨by decide, by decide⟩, by decide, by decide⟩ (Nat.le_of_ble_eq_true rfl) (c_ans103 c2 od) (fun v σ' q0 => ?_) (fun E σ' q0 => ?_)
    · exact absurd q0.1 (by intro z; cases z)
    · obtain ⟨q1, rfl⟩ := q0
      cases q1
      exact WX.out rfl ⟨by decide, by decide⟩ ⟨_, rfl, fun a k ha => by rw [f2 _ _ (by omega), row_o hn P (by omega)], ⟨rfl, H.ref hn hx hr P f2 m3 m4 m5⟩⟩
  · rw [hS] at m2
    obtain ⟨rfl, rfl⟩ := m2
    refine WE.V1G (M' := mX5_answerOf) (n := 24) dX5_load_21 rfl cv_X5_48 (by decide) ⟨⟨by decide, by decide⟩, by decide, by decide⟩ (Nat.le_of_ble_eq_true rfl) (c_ansC c2 od k) (fun v σ' q0 => ?_) (fun E σ' q0 => ?_)
    · exact absurd q0.1 (by intro z; cases z)
    · obtain ⟨q1, rfl⟩ := q0
      cases q1
      exact WX.out rfl ⟨by decide, by decide⟩ ⟨_, rfl, fun a k ha => by rw [row_o hn P (by omega)], ⟨rfl, H.no hn hx hr P⟩⟩
set_option maxRecDepth 20000 in
set_option maxHeartbeats 1000000 in
theorem p_loadAll (c : CC) (od : Int64 × UInt64) (N : NA) (h : List NA) (s : Option NA) (n : Nat) (t : NA) (e : Int32) (w : Int32 × Int32) (H : CR c N h s n t e w) (x : Int32) : CM mX5_loadAll [.ref 0, .int x] (c, od) (CO c od N h s n t e w eC (S_loadAll N x)) := by
  refine CM.of [(0, .ref 0), (1, .int x)] rfl (by decide +kernel) rfl (Nat.le_of_ble_eq_true rfl) ?_
  obtain ⟨hl8, hu, nx, hn, hx, hr⟩ := H.2.2.1
  refine WE.aload_n (n := 1) dX5_loadAll_0 rfl rfl ?_
  refine WE.getR (n := 4) dX5_loadAll_1 rfl fl_X5_19 ⟨by decide, by decide⟩ rfl (by first | decide | exact kd_bal (by assumption) | exact kd_let (by assumption) | assumption) ?_
  refine WE.aload_n (n := 5) dX5_loadAll_4 rfl rfl ?_
  refine WE.getR (n := 8) dX5_loadAll_5 rfl fl_X5_10 ⟨by decide, by decide⟩ rfl (by first | decide | exact kd_bal (by assumption) | exact kd_let (by assumption) | assumption) ?_
  refine WE.V1PV (M' := mX1_prepare) (n := 11) dX5_loadAll_8 rfl cv_X5_40 (by first | decide | exact kd_bal (by assumption) | exact kd_let (by assumption) | assumption) ⟨⟨by decide, by decide⟩, by decide, by decide⟩ (Nat.le_of_ble_eq_true rfl) (c_prepare c od nx hn hx) (fun σ8 q8 => ?_)
  obtain ⟨c1, rfl, P⟩ := q8
  have hR1 := H.prep hn P
  refine WE.aload_n (n := 12) dX5_loadAll_11 rfl rfl ?_
  refine WE.aload_n (n := 13) dX5_loadAll_12 rfl rfl ?_
  refine WE.getR (n := 16) dX5_loadAll_13 rfl fl_X5_10 ⟨by decide, by decide⟩ rfl (by first | decide | exact kd_bal (by assumption) | exact kd_let (by assumption) | assumption) ?_
  refine WE.iload_n (n := 17) dX5_loadAll_16 rfl rfl ?_
  refine WE.V1PI (M' := mX4_loadWaiting) (n := 20) dX5_loadAll_17 rfl cv_X5_77 (by first | decide | exact kd_bal (by assumption) | exact kd_let (by assumption) | assumption) ⟨⟨by decide, by decide⟩, by decide, by decide⟩ (Nat.le_of_ble_eq_true rfl) (c_loadWaiting c1 od N hR1 H.hi x) (fun v17 σ17 q17 => ?_)
  obtain ⟨c2, rfl, f2, m2⟩ := q17
  rcases hS : S_loadAll N x with q | q | k
  · rw [hS] at m2
    obtain ⟨rfl, m3, m4, m5⟩ := m2
    have hok := ok_loadAll H.hi x q hS
    refine WE.V1I (M' := mX5_answerOf) (n := 23) dX5_loadAll_20 rfl cv_X5_48 (by first | decide | exact kd_bal (by assumption) | exact kd_let (by assumption) | assumption) ⟨⟨by decide, by decide⟩, by decide, by decide⟩ (Nat.le_of_ble_eq_true rfl) (c_answer c2 od nx h.length hn ((f2 _ _ (by omega)).trans ((row_o hn P (by omega)).trans hx)) hl8 ((f2 _ _ (by omega)).trans ((row_o hn P (by omega)).trans hu)) q.1 hok.2) ?_
    refine WE.iret (ty := .int) dX5_loadAll_23 rfl rfl ⟨by decide, by decide⟩ ?_
    exact ⟨_, rfl, fun a k ha => by unfold kpS; rw [u2_ne _ _ (by omega), u2_ne _ _ (by omega), f2 _ _ (by omega), row_o hn P (by omega)], ⟨rfl, H.ok hn hr P f2 hok.1 m3 m4 m5⟩⟩
  · rw [hS] at m2
    obtain ⟨rfl, m3, m4, m5⟩ := m2
    refine WE.V1G (M' := mX5_answerOf) (n := 23) dX5_loadAll_20 rfl cv_X5_48 (by decide) ⟨⟨by decide, by decide⟩, by decide, by decide⟩ (Nat.le_of_ble_eq_true rfl) (c_ans103 c2 od) (fun v σ' q0 => ?_) (fun E σ' q0 => ?_)
    · exact absurd q0.1 (by intro z; cases z)
    · obtain ⟨q1, rfl⟩ := q0
      cases q1
      exact WX.out rfl ⟨by decide, by decide⟩ ⟨_, rfl, fun a k ha => by rw [f2 _ _ (by omega), row_o hn P (by omega)], ⟨rfl, H.ref hn hx hr P f2 m3 m4 m5⟩⟩
  · rw [hS] at m2
    obtain ⟨rfl, rfl⟩ := m2
    refine WE.V1G (M' := mX5_answerOf) (n := 23) dX5_loadAll_20 rfl cv_X5_48 (by decide) ⟨⟨by decide, by decide⟩, by decide, by decide⟩ (Nat.le_of_ble_eq_true rfl) (c_ansC c2 od k) (fun v σ' q0 => ?_) (fun E σ' q0 => ?_)
    · exact absurd q0.1 (by intro z; cases z)
    · obtain ⟨q1, rfl⟩ := q0
      cases q1
      exact WX.out rfl ⟨by decide, by decide⟩ ⟨_, rfl, fun a k ha => by rw [row_o hn P (by omega)], ⟨rfl, H.no hn hx hr P⟩⟩
set_option maxRecDepth 20000 in
set_option maxHeartbeats 1000000 in
theorem p_launch (c : CC) (od : Int64 × UInt64) (N : NA) (h : List NA) (s : Option NA) (n : Nat) (t : NA) (e : Int32) (w : Int32 × Int32) (H : CR c N h s n t e w) (x : Int32) : CM mX5_launch [.ref 0, .int x] (c, od) (CO c od N h s n t e w eC (S_launches N x)) := by
  refine CM.of [(0, .ref 0), (1, .int x)] rfl (by decide +kernel) rfl (Nat.le_of_ble_eq_true rfl) ?_
  obtain ⟨hl8, hu, nx, hn, hx, hr⟩ := H.2.2.1
  refine WE.aload_n (n := 1) dX5_launch_0 rfl rfl ?_
  refine WE.getR (n := 4) dX5_launch_1 rfl fl_X5_19 ⟨by decide, by decide⟩ rfl (by first | decide | exact kd_bal (by assumption) | exact kd_let (by assumption) | assumption) ?_
  refine WE.aload_n (n := 5) dX5_launch_4 rfl rfl ?_
  refine WE.getR (n := 8) dX5_launch_5 rfl fl_X5_10 ⟨by decide, by decide⟩ rfl (by first | decide | exact kd_bal (by assumption) | exact kd_let (by assumption) | assumption) ?_
  refine WE.V1PV (M' := mX1_prepare) (n := 11) dX5_launch_8 rfl cv_X5_40 (by first | decide | exact kd_bal (by assumption) | exact kd_let (by assumption) | assumption) ⟨⟨by decide, by decide⟩, by decide, by decide⟩ (Nat.le_of_ble_eq_true rfl) (c_prepare c od nx hn hx) (fun σ8 q8 => ?_)
  obtain ⟨c1, rfl, P⟩ := q8
  have hR1 := H.prep hn P
  refine WE.aload_n (n := 12) dX5_launch_11 rfl rfl ?_
  refine WE.aload_n (n := 13) dX5_launch_12 rfl rfl ?_
  refine WE.getR (n := 16) dX5_launch_13 rfl fl_X5_10 ⟨by decide, by decide⟩ rfl (by first | decide | exact kd_bal (by assumption) | exact kd_let (by assumption) | assumption) ?_
  refine WE.iload_n (n := 17) dX5_launch_16 rfl rfl ?_
  refine WE.V1PI (M' := mX4_launchBalloon) (n := 20) dX5_launch_17 rfl cv_X5_80 (by first | decide | exact kd_bal (by assumption) | exact kd_let (by assumption) | assumption) ⟨⟨by decide, by decide⟩, by decide, by decide⟩ (Nat.le_of_ble_eq_true rfl) (c_launchBalloon c1 od N hR1 H.hi.cn x) (fun v17 σ17 q17 => ?_)
  obtain ⟨c2, rfl, f2, m2⟩ := q17
  rcases hS : S_launches N x with q | q | k
  · rw [hS] at m2
    obtain ⟨rfl, m3, m4, m5⟩ := m2
    have hok := ok_launches H.hi x q hS
    refine WE.V1I (M' := mX5_answerOf) (n := 23) dX5_launch_20 rfl cv_X5_48 (by first | decide | exact kd_bal (by assumption) | exact kd_let (by assumption) | assumption) ⟨⟨by decide, by decide⟩, by decide, by decide⟩ (Nat.le_of_ble_eq_true rfl) (c_answer c2 od nx h.length hn ((f2 _ _ (by omega)).trans ((row_o hn P (by omega)).trans hx)) hl8 ((f2 _ _ (by omega)).trans ((row_o hn P (by omega)).trans hu)) q.1 hok.2) ?_
    refine WE.iret (ty := .int) dX5_launch_23 rfl rfl ⟨by decide, by decide⟩ ?_
    exact ⟨_, rfl, fun a k ha => by unfold kpS; rw [u2_ne _ _ (by omega), u2_ne _ _ (by omega), f2 _ _ (by omega), row_o hn P (by omega)], ⟨rfl, H.ok hn hr P f2 hok.1 m3 m4 m5⟩⟩
  · rw [hS] at m2
    obtain ⟨rfl, m3, m4, m5⟩ := m2
    refine WE.V1G (M' := mX5_answerOf) (n := 23) dX5_launch_20 rfl cv_X5_48 (by decide) ⟨⟨by decide, by decide⟩, by decide, by decide⟩ (Nat.le_of_ble_eq_true rfl) (c_ans103 c2 od) (fun v σ' q0 => ?_) (fun E σ' q0 => ?_)
    · exact absurd q0.1 (by intro z; cases z)
    · obtain ⟨q1, rfl⟩ := q0
      cases q1
      exact WX.out rfl ⟨by decide, by decide⟩ ⟨_, rfl, fun a k ha => by rw [f2 _ _ (by omega), row_o hn P (by omega)], ⟨rfl, H.ref hn hx hr P f2 m3 m4 m5⟩⟩
  · rw [hS] at m2
    obtain ⟨rfl, rfl⟩ := m2
    refine WE.V1G (M' := mX5_answerOf) (n := 23) dX5_launch_20 rfl cv_X5_48 (by decide) ⟨⟨by decide, by decide⟩, by decide, by decide⟩ (Nat.le_of_ble_eq_true rfl) (c_ansC c2 od k) (fun v σ' q0 => ?_) (fun E σ' q0 => ?_)
    · exact absurd q0.1 (by intro z; cases z)
    · obtain ⟨q1, rfl⟩ := q0
      cases q1
      exact WX.out rfl ⟨by decide, by decide⟩ ⟨_, rfl, fun a k ha => by rw [row_o hn P (by omega)], ⟨rfl, H.no hn hx hr P⟩⟩
set_option maxRecDepth 20000 in
set_option maxHeartbeats 1000000 in
theorem p_drop (c : CC) (od : Int64 × UInt64) (N : NA) (h : List NA) (s : Option NA) (n : Nat) (t : NA) (e : Int32) (w : Int32 × Int32) (H : CR c N h s n t e w) (x y : Int32) : CM mX5_drop [.ref 0, .int x, .int y] (c, od) (CO c od N h s n t e w eA (S_drops N x y)) := by
  refine CM.of [(0, .ref 0), (1, .int x), (2, .int y)] rfl (by decide +kernel) rfl (Nat.le_of_ble_eq_true rfl) ?_
  obtain ⟨hl8, hu, nx, hn, hx, hr⟩ := H.2.2.1
  refine WE.aload_n (n := 1) dX5_drop_0 rfl rfl ?_
  refine WE.getR (n := 4) dX5_drop_1 rfl fl_X5_19 ⟨by decide, by decide⟩ rfl (by first | decide | exact kd_bal (by assumption) | exact kd_let (by assumption) | assumption) ?_
  refine WE.aload_n (n := 5) dX5_drop_4 rfl rfl ?_
  refine WE.getR (n := 8) dX5_drop_5 rfl fl_X5_10 ⟨by decide, by decide⟩ rfl (by first | decide | exact kd_bal (by assumption) | exact kd_let (by assumption) | assumption) ?_
  refine WE.V1PV (M' := mX1_prepare) (n := 11) dX5_drop_8 rfl cv_X5_40 (by first | decide | exact kd_bal (by assumption) | exact kd_let (by assumption) | assumption) ⟨⟨by decide, by decide⟩, by decide, by decide⟩ (Nat.le_of_ble_eq_true rfl) (c_prepare c od nx hn hx) (fun σ8 q8 => ?_)
  obtain ⟨c1, rfl, P⟩ := q8
  have hR1 := H.prep hn P
  refine WE.aload_n (n := 12) dX5_drop_11 rfl rfl ?_
  refine WE.aload_n (n := 13) dX5_drop_12 rfl rfl ?_
  refine WE.getR (n := 16) dX5_drop_13 rfl fl_X5_10 ⟨by decide, by decide⟩ rfl (by first | decide | exact kd_bal (by assumption) | exact kd_let (by assumption) | assumption) ?_
  refine WE.iload_n (n := 17) dX5_drop_16 rfl rfl ?_
  refine WE.iload_n (n := 18) dX5_drop_17 rfl rfl ?_
  refine WE.V2PI (M' := mX4_letBallastGo) (n := 21) dX5_drop_18 rfl cv_X5_83 (by first | decide | exact kd_bal (by assumption) | exact kd_let (by assumption) | assumption) ⟨⟨by decide, by decide⟩, by decide, by decide⟩ (Nat.le_of_ble_eq_true rfl) (c_letBallastGo c1 od N hR1 H.hi.cn x y) (fun v18 σ18 q18 => ?_)
  obtain ⟨c2, rfl, f2, m2⟩ := q18
  rcases hS : S_drops N x y with q | q | k
  · rw [hS] at m2
    obtain ⟨rfl, m3, m4, m5⟩ := m2
    have hok := ok_drops H.hi x y q hS
    refine WE.V1I (M' := mX5_answerOf) (n := 24) dX5_drop_21 rfl cv_X5_48 (by first | decide | exact kd_bal (by assumption) | exact kd_let (by assumption) | assumption) ⟨⟨by decide, by decide⟩, by decide, by decide⟩ (Nat.le_of_ble_eq_true rfl) (c_answer c2 od nx h.length hn ((f2 _ _ (by omega)).trans ((row_o hn P (by omega)).trans hx)) hl8 ((f2 _ _ (by omega)).trans ((row_o hn P (by omega)).trans hu)) q.1 hok.2) ?_
    refine WE.iret (ty := .int) dX5_drop_24 rfl rfl ⟨by decide, by decide⟩ ?_
    exact ⟨_, rfl, fun a k ha => by unfold kpS; rw [u2_ne _ _ (by omega), u2_ne _ _ (by omega), f2 _ _ (by omega), row_o hn P (by omega)], ⟨rfl, H.ok hn hr P f2 hok.1 m3 m4 m5⟩⟩
  · rw [hS] at m2
    obtain ⟨rfl, m3, m4, m5⟩ := m2
    refine WE.V1G (M' := mX5_answerOf) (n := 24) dX5_drop_21 rfl cv_X5_48 (by decide) ⟨⟨by decide, by decide⟩, by decide, by decide⟩ (Nat.le_of_ble_eq_true rfl) (c_ans103 c2 od) (fun v σ' q0 => ?_) (fun E σ' q0 => ?_)
    · exact absurd q0.1 (by intro z; cases z)
    · obtain ⟨q1, rfl⟩ := q0
      cases q1
      exact WX.out rfl ⟨by decide, by decide⟩ ⟨_, rfl, fun a k ha => by rw [f2 _ _ (by omega), row_o hn P (by omega)], ⟨rfl, H.ref hn hx hr P f2 m3 m4 m5⟩⟩
  · rw [hS] at m2
    obtain ⟨rfl, rfl⟩ := m2
    refine WE.V1G (M' := mX5_answerOf) (n := 24) dX5_drop_21 rfl cv_X5_48 (by decide) ⟨⟨by decide, by decide⟩, by decide, by decide⟩ (Nat.le_of_ble_eq_true rfl) (c_ansA c2 od k) (fun v σ' q0 => ?_) (fun E σ' q0 => ?_)
    · exact absurd q0.1 (by intro z; cases z)
    · obtain ⟨q1, rfl⟩ := q0
      cases q1
      exact WX.out rfl ⟨by decide, by decide⟩ ⟨_, rfl, fun a k ha => by rw [row_o hn P (by omega)], ⟨rfl, H.no hn hx hr P⟩⟩
set_option maxRecDepth 20000 in
set_option maxHeartbeats 1000000 in
theorem p_pass (c : CC) (od : Int64 × UInt64) (N : NA) (h : List NA) (s : Option NA) (n : Nat) (t : NA) (e : Int32) (w : Int32 × Int32) (H : CR c N h s n t e w) (x : Int32) : CM mX5_pass [.ref 0, .int x] (c, od) (CO c od N h s n t e w eB (S_passes N x)) := by
  refine CM.of [(0, .ref 0), (1, .int x)] rfl (by decide +kernel) rfl (Nat.le_of_ble_eq_true rfl) ?_
  obtain ⟨hl8, hu, nx, hn, hx, hr⟩ := H.2.2.1
  refine WE.aload_n (n := 1) dX5_pass_0 rfl rfl ?_
  refine WE.getR (n := 4) dX5_pass_1 rfl fl_X5_19 ⟨by decide, by decide⟩ rfl (by first | decide | exact kd_bal (by assumption) | exact kd_let (by assumption) | assumption) ?_
  refine WE.aload_n (n := 5) dX5_pass_4 rfl rfl ?_
  refine WE.getR (n := 8) dX5_pass_5 rfl fl_X5_10 ⟨by decide, by decide⟩ rfl (by first | decide | exact kd_bal (by assumption) | exact kd_let (by assumption) | assumption) ?_
  refine WE.V1PV (M' := mX1_prepare) (n := 11) dX5_pass_8 rfl cv_X5_40 (by first | decide | exact kd_bal (by assumption) | exact kd_let (by assumption) | assumption) ⟨⟨by decide, by decide⟩, by decide, by decide⟩ (Nat.le_of_ble_eq_true rfl) (c_prepare c od nx hn hx) (fun σ8 q8 => ?_)
  obtain ⟨c1, rfl, P⟩ := q8
  have hR1 := H.prep hn P
  refine WE.aload_n (n := 12) dX5_pass_11 rfl rfl ?_
  refine WE.aload_n (n := 13) dX5_pass_12 rfl rfl ?_
  refine WE.getR (n := 16) dX5_pass_13 rfl fl_X5_10 ⟨by decide, by decide⟩ rfl (by first | decide | exact kd_bal (by assumption) | exact kd_let (by assumption) | assumption) ?_
  refine WE.iload_n (n := 17) dX5_pass_16 rfl rfl ?_
  refine WE.V1PI (M' := mX4_letHoursGo) (n := 20) dX5_pass_17 rfl cv_X5_86 (by first | decide | exact kd_bal (by assumption) | exact kd_let (by assumption) | assumption) ⟨⟨by decide, by decide⟩, by decide, by decide⟩ (Nat.le_of_ble_eq_true rfl) (c_letHoursGo c1 od N hR1 H.hi.cn x) (fun v17 σ17 q17 => ?_)
  obtain ⟨c2, rfl, f2, m2⟩ := q17
  rcases hS : S_passes N x with q | q | k
  · rw [hS] at m2
    obtain ⟨rfl, m3, m4, m5⟩ := m2
    have hok := ok_passes H.hi x q hS
    refine WE.V1I (M' := mX5_answerOf) (n := 23) dX5_pass_20 rfl cv_X5_48 (by first | decide | exact kd_bal (by assumption) | exact kd_let (by assumption) | assumption) ⟨⟨by decide, by decide⟩, by decide, by decide⟩ (Nat.le_of_ble_eq_true rfl) (c_answer c2 od nx h.length hn ((f2 _ _ (by omega)).trans ((row_o hn P (by omega)).trans hx)) hl8 ((f2 _ _ (by omega)).trans ((row_o hn P (by omega)).trans hu)) q.1 hok.2) ?_
    refine WE.iret (ty := .int) dX5_pass_23 rfl rfl ⟨by decide, by decide⟩ ?_
    exact ⟨_, rfl, fun a k ha => by unfold kpS; rw [u2_ne _ _ (by omega), u2_ne _ _ (by omega), f2 _ _ (by omega), row_o hn P (by omega)], ⟨rfl, H.ok hn hr P f2 hok.1 m3 m4 m5⟩⟩
  · rw [hS] at m2
    obtain ⟨rfl, m3, m4, m5⟩ := m2
    refine WE.V1G (M' := mX5_answerOf) (n := 23) dX5_pass_20 rfl cv_X5_48 (by decide) ⟨⟨by decide, by decide⟩, by decide, by decide⟩ (Nat.le_of_ble_eq_true rfl) (c_ans103 c2 od) (fun v σ' q0 => ?_) (fun E σ' q0 => ?_)
    · exact absurd q0.1 (by intro z; cases z)
    · obtain ⟨q1, rfl⟩ := q0
      cases q1
      exact WX.out rfl ⟨by decide, by decide⟩ ⟨_, rfl, fun a k ha => by rw [f2 _ _ (by omega), row_o hn P (by omega)], ⟨rfl, H.ref hn hx hr P f2 m3 m4 m5⟩⟩
  · rw [hS] at m2
    obtain ⟨rfl, rfl⟩ := m2
    refine WE.V1G (M' := mX5_answerOf) (n := 23) dX5_pass_20 rfl cv_X5_48 (by decide) ⟨⟨by decide, by decide⟩, by decide, by decide⟩ (Nat.le_of_ble_eq_true rfl) (c_ansB c2 od k) (fun v σ' q0 => ?_) (fun E σ' q0 => ?_)
    · exact absurd q0.1 (by intro z; cases z)
    · obtain ⟨q1, rfl⟩ := q0
      cases q1
      exact WX.out rfl ⟨by decide, by decide⟩ ⟨_, rfl, fun a k ha => by rw [row_o hn P (by omega)], ⟨rfl, H.no hn hx hr P⟩⟩
