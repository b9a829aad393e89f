/-! doubles and floats: the two quotients, no NaN -/
theorem n64_of {x : UInt64} (h : FP.Core.dIsNaN x = false) : vf_n64 x := by
  unfold vf_n64
  rw [UInt64.le_iff_toNat_le, UInt64.toNat_and]
  have h1 : (0x7fffffffffffffff : UInt64).toNat = 2 ^ 63 - 1 := by decide
  have h2 : (0x7ff0000000000000 : UInt64).toNat = 9218868437227405312 := by decide
  rw [h1, h2, Nat.and_two_pow_sub_one_eq_mod]
  rw [← Bool.not_eq_true, FP.Core.isNaN_bits] at h
  omega
theorem n32_of {x : UInt32} (h : FP.Core.fIsNaN x = false) : vf_n32 x := by
  unfold vf_n32
  rw [UInt32.le_iff_toNat_le, UInt32.toNat_and]
  have h1 : (0x7fffffff : UInt32).toNat = 2 ^ 31 - 1 := by decide
  have h2 : (0x7f800000 : UInt32).toNat = 2139095040 := by decide
  rw [h1, h2, Nat.and_two_pow_sub_one_eq_mod]
  rw [← Bool.not_eq_true, FP.Core.isNaN_bits32] at h
  omega
def dqN (a b : Int32) : UInt64 := FP.ddiv (FP.i2d a) (FP.i2d b)
def fqN (a b : Int32) : UInt32 := FP.fdiv (FP.i2f a) (FP.i2f b)
theorem dq_no (a : Int32) {b : Int32} (h : ¬ b = 0) : FP.Core.dIsNaN (dqN a b) = false := FP.Core.ddiv_out (FP.Core.i2d_fin a).notNaN (FP.Core.i2d_fin b) (fun z => FP.Core.i2d_ne_zero h ((FP.Core.zero_bits2 _).mp z))
theorem fq_no (a : Int32) {b : Int32} (h : ¬ b = 0) : FP.Core.fIsNaN (fqN a b) = false := FP.Core.fdiv_out (FP.Core.i2f_fin a).notNaN (FP.Core.i2f_fin b) (fun z => FP.Core.i2f_ne_zero h ((FP.Core.zero_bits232 _).mp z))
section WED
variable {M : MT} {pc n : Nat} {L : List (Nat × Value)} {st : List Value} {σ : SS} {cu su : Nat} {G : GT}
theorem WE.i2d {x : Int32} (hd : decode (mtC M) pc = .ok (.i2d, 1)) (hn : pc + 1 = n) (k : WE M n L (.double (FP.i2d x) :: st) σ cu su G) : WE M pc L (.int x :: st) σ cu su G := by
  subst hn
  intro l D aC z p e s m args below meth c H locs ls C hP hS hl
  exact lv_i2d C.2.1 C.2.2.1 hd (k l D aC z p e s m args below meth c H locs ls C hP hS hl)
theorem WE.i2f {x : Int32} (hd : decode (mtC M) pc = .ok (.i2f, 1)) (hn : pc + 1 = n) (k : WE M n L (.float (FP.i2f x) :: st) σ cu su G) : WE M pc L (.int x :: st) σ cu su G := by
  subst hn
  intro l D aC z p e s m args below meth c H locs ls C hP hS hl
  exact lv_i2f C.2.1 C.2.2.1 hd (k l D aC z p e s m args below meth c H locs ls C hP hS hl)
theorem WE.ddiv {x y : UInt64} (hd : decode (mtC M) pc = .ok (.ddiv, 1)) (hn : pc + 1 = n) (hne : vf_n64 (FP.ddiv x y)) (k : WE M n L (.double (FP.ddiv x y) :: st) σ cu su G) : WE M pc L (.double y :: .double x :: st) σ cu su G := by
  subst hn
  intro l D aC z p e s m args below meth c H locs ls C hP hS hl
  exact lv_ddiv C.2.1 C.2.2.1 hd hne (k l D aC z p e s m args below meth c H locs ls C hP hS hl)
theorem WE.fdiv {x y : UInt32} (hd : decode (mtC M) pc = .ok (.fdiv, 1)) (hn : pc + 1 = n) (hne : vf_n32 (FP.fdiv x y)) (k : WE M n L (.float (FP.fdiv x y) :: st) σ cu su G) : WE M pc L (.float y :: .float x :: st) σ cu su G := by
  subst hn
  intro l D aC z p e s m args below meth c H locs ls C hP hS hl
  exact lv_fdiv C.2.1 C.2.2.1 hd hne (k l D aC z p e s m args below meth c H locs ls C hP hS hl)
end WED
def mdN (N : NA) : Int32 := ctL (fun n => N (22 + 11 * n + 5) = nI 2) (nbN N)
def l2N (N : NA) : Int32 := ctL (fun n => N (88 + 4 * n + 2) = nI 2) (nlN N)
def l3N (N : NA) : Int32 := ctL (fun n => N (88 + 4 * n + 2) = nI 3) (nlN N)
def DX (σ : SS) (n : Int32) (v : Value) : AO → SS → Prop := fun o st => st = σ ∧ o = (if n = 0 then .inr arE else .inl (some v))
theorem DX.no {σ : SS} {n : Int32} {v : Value} (h : n = 0) : DX σ n v (.inr arE) σ := ⟨rfl, by rw [if_pos h]⟩
theorem DX.yes {σ : SS} {n : Int32} {v w : Value} (h : ¬ n = 0) (e : w = v) : DX σ n v (.inl (some w)) σ := ⟨rfl, by rw [if_neg h, e]⟩
set_option maxRecDepth 20000 in
set_option maxHeartbeats 1000000 in
theorem p_meanDistance (c : CC) (od : Int64 × UInt64) (N : NA) (hR : RelT c 1 N) (hI : IN N) : CM mX5_meanDistance [.ref 0] (c, od) (DX (c, od) (mdN N) (.double (dqN (diN N (nbN N)) (mdN N)))) := by
  refine CM.of [(0, .ref 0)] rfl (by decide +kernel) rfl (Nat.le_of_ble_eq_true rfl) ?_
  refine WE.aload_n (n := 1) dX5_meanDistance_0 rfl rfl ?_
  refine WE.getR (n := 4) dX5_meanDistance_1 rfl fl_X5_10 ⟨by decide, by decide⟩ rfl (by first | decide | exact kd_bal (by assumption) | exact kd_let (by assumption) | assumption) ?_
  refine WE.iconst (n := 5) (nI 2) dX5_meanDistance_4 rfl (by decide) ?_
  refine WE.V1I (M' := mX4_balloonsIn) (n := 8) dX5_meanDistance_5 rfl cv_X5_244 (by first | decide | exact kd_bal (by assumption) | exact kd_let (by assumption) | assumption) ⟨⟨by decide, by decide⟩, by decide, by decide⟩ (Nat.le_of_ble_eq_true rfl) (c_balloonsIn c od N hR hI.cn (nI 2)) ?_
  refine WE.istore_n (n := 9) dX5_meanDistance_8 rfl (by decide) ?_
  refine WE.iload_n (n := 10) dX5_meanDistance_9 rfl rfl ?_
  refine WE.if_ne (n := 13) (tgt := 23) dX5_meanDistance_10 rfl (by decide) (fun h10 => ?_) (fun h10 => ?_)
  · skip
    refine WE.aload_n (n := 24) dX5_meanDistance_23 rfl rfl ?_
    refine WE.getR (n := 27) dX5_meanDistance_24 rfl fl_X5_10 ⟨by decide, by decide⟩ rfl (by first | decide | exact kd_bal (by assumption) | exact kd_let (by assumption) | assumption) ?_
    refine WE.V0I (M' := mX4_distancesOfLanded) (n := 30) dX5_meanDistance_27 rfl cv_X5_252 (by first | decide | exact kd_bal (by assumption) | exact kd_let (by assumption) | assumption) ⟨⟨by decide, by decide⟩, by decide, by decide⟩ (Nat.le_of_ble_eq_true rfl) (c_distancesOfLanded c od N hR hI.cn) ?_
    refine WE.i2d (n := 31) dX5_meanDistance_30 rfl ?_
    refine WE.iload_n (n := 32) dX5_meanDistance_31 rfl rfl ?_
    refine WE.i2d (n := 33) dX5_meanDistance_32 rfl ?_
    refine WE.ddiv (n := 34) dX5_meanDistance_33 rfl (n64_of (dq_no _ h10)) ?_
    refine WE.dret dX5_meanDistance_34 rfl ⟨by decide, by decide⟩ ?_
    exact DX.yes h10 rfl
  · skip
    refine WE.throwS (tx := "no balloon landed") "java/lang/ArithmeticException" dX5_meanDistance_13 dX5_meanDistance_16 dX5_meanDistance_17 dX5_meanDistance_19 dX5_meanDistance_22 xl_X5_247_251 (by decide +kernel) rfl ⟨by decide, by decide⟩ ⟨by decide, by decide⟩ ?_
    exact DX.no h10
set_option maxRecDepth 20000 in
set_option maxHeartbeats 1000000 in
theorem p_share (c : CC) (od : Int64 × UInt64) (N : NA) (hR : RelT c 1 N) (hI : IN N) : CM mX5_share [.ref 0] (c, od) (DX (c, od) (l2N N + l3N N) (.float (fqN (l2N N) (l2N N + l3N N)))) := by
  refine CM.of [(0, .ref 0)] rfl (by decide +kernel) rfl (Nat.le_of_ble_eq_true rfl) ?_
  refine WE.aload_n (n := 1) dX5_share_0 rfl rfl ?_
  refine WE.getR (n := 4) dX5_share_1 rfl fl_X5_10 ⟨by decide, by decide⟩ rfl (by first | decide | exact kd_bal (by assumption) | exact kd_let (by assumption) | assumption) ?_
  refine WE.iconst (n := 5) (nI 2) dX5_share_4 rfl (by decide) ?_
  refine WE.V1I (M' := mX4_lettersIn) (n := 8) dX5_share_5 rfl cv_X5_255 (by first | decide | exact kd_bal (by assumption) | exact kd_let (by assumption) | assumption) ⟨⟨by decide, by decide⟩, by decide, by decide⟩ (Nat.le_of_ble_eq_true rfl) (c_lettersIn c od N hR hI hI.cn (nI 2)) ?_
  refine WE.istore_n (n := 9) dX5_share_8 rfl (by decide) ?_
  refine WE.iload_n (n := 10) dX5_share_9 rfl rfl ?_
  refine WE.aload_n (n := 11) dX5_share_10 rfl rfl ?_
  refine WE.getR (n := 14) dX5_share_11 rfl fl_X5_10 ⟨by decide, by decide⟩ rfl (by first | decide | exact kd_bal (by assumption) | exact kd_let (by assumption) | assumption) ?_
  refine WE.iconst (n := 15) (nI 3) dX5_share_14 rfl (by decide) ?_
  refine WE.V1I (M' := mX4_lettersIn) (n := 18) dX5_share_15 rfl cv_X5_255 (by first | decide | exact kd_bal (by assumption) | exact kd_let (by assumption) | assumption) ⟨⟨by decide, by decide⟩, by decide, by decide⟩ (Nat.le_of_ble_eq_true rfl) (c_lettersIn c od N hR hI hI.cn (nI 3)) ?_
  refine WE.iadd (n := 19) dX5_share_18 rfl ?_
  refine WE.istore_n (n := 20) dX5_share_19 rfl (by decide) ?_
  refine WE.iload_n (n := 21) dX5_share_20 rfl rfl ?_
  refine WE.if_ne (n := 24) (tgt := 35) dX5_share_21 rfl (by decide) (fun h21 => ?_) (fun h21 => ?_)
  · skip
    refine WE.iload_n (n := 36) dX5_share_35 rfl rfl ?_
    refine WE.i2f (n := 37) dX5_share_36 rfl ?_
    refine WE.iload_n (n := 38) dX5_share_37 rfl rfl ?_
    refine WE.i2f (n := 39) dX5_share_38 rfl ?_
    refine WE.fdiv (n := 40) dX5_share_39 rfl (n32_of (fq_no _ h21)) ?_
    refine WE.fret dX5_share_40 rfl ⟨by decide, by decide⟩ ?_
    exact DX.yes h21 rfl
  · skip
    refine WE.throwSW (tx := "no letter was delivered or lost") "java/lang/ArithmeticException" dX5_share_24 dX5_share_27 dX5_share_28 dX5_share_31 dX5_share_34 xl_X5_247_251 (by decide +kernel) rfl ⟨by decide, by decide⟩ ⟨by decide, by decide⟩ ?_
    exact DX.no h21
set_option maxRecDepth 20000 in
set_option maxHeartbeats 1000000 in
theorem m_md_loop {G : GT} (c : CC) (od : Int64 × UInt64) (nb : Nat) (hnb : nb ≤ 6) (hc3 : c 396 3 = nI nb) (k : WE mX6_meanDistance 51 [(0, .ref 395), (1, .int (ctL (fun n => c 396 (22 + 11 * n + 5) = nI 2) nb)), (2, .int (diN (c 396) nb))] [] (c, od) 0 0 G) : WE mX6_meanDistance 11 [(0, .ref 395), (1, .int (nI 0)), (2, .int (nI 0)), (3, .int (nI 0))] [] (c, od) 0 0 G := by
  suffices H : ∀ n i : Nat, i ≤ nb → nb < i + n → WE mX6_meanDistance 11 [(0, .ref 395), (1, .int (ctL (fun n => c 396 (22 + 11 * n + 5) = nI 2) i)), (2, .int (diN (c 396) i)), (3, .int (nI i))] [] (c, od) 0 0 G from WE.ofA (L' := [(0, .ref 395), (1, .int (ctL (fun n => c 396 (22 + 11 * n + 5) = nI 2) 0)), (2, .int (diN (c 396) 0)), (3, .int (nI 0))]) ⟨rfl, rfl, rfl, rfl, trivial⟩ (H (nb + 1) 0 (Nat.zero_le _) (by omega))
  intro n
  induction n with
  | zero =>
    intro i h1 h2
    exact absurd h2 (by omega)
  | succ n ih =>
    intro i hi hn
    refine WE.iload_n (n := 12) dX6_meanDistance_11 rfl rfl ?_
    refine WE.aload_n (n := 13) dX6_meanDistance_12 rfl rfl ?_
    refine WE.getR (n := 16) dX6_meanDistance_13 rfl fl_X6_9 ⟨by decide, by decide⟩ rfl (by first | decide | exact kd_bal (by assumption) | exact kd_let (by assumption) | assumption) ?_
    refine WE.iconst (n := 17) (nI 3) dX6_meanDistance_16 rfl (by decide) ?_
    refine WE.iald (n := 18) 3 dX6_meanDistance_17 rfl (by first | decide | assumption) rfl (by show _ < 184; omega) ?_
    refine WE.icmp_ge (n := 21) (tgt := 51) dX6_meanDistance_18 rfl (by decide) (fun h18 => ?_) (fun h18 => ?_)
    · skip
      rw [hc3] at h18
      have hx : i = nb := by have := ge_t (by omega) (by omega) h18; omega
      subst hx
      exact WE.ofA (L' := [(0, .ref 395), (1, .int (ctL (fun n => c 396 (22 + 11 * n + 5) = nI 2) i)), (2, .int (diN (c 396) i))]) ⟨rfl, rfl, rfl, trivial⟩ k
    · skip
      rw [hc3] at h18
      have hlt : i < nb := ge_f (by omega) (by omega) h18
      refine WE.aload_n (n := 22) dX6_meanDistance_21 rfl rfl ?_
      refine WE.iload_n (n := 23) dX6_meanDistance_22 rfl rfl ?_
      refine WE.iconst (n := 24) (nI 5) dX6_meanDistance_23 rfl (by decide) ?_
      refine WE.V2I (M' := mX6_of) (n := 27) dX6_meanDistance_24 rfl cv_X6_71 (by first | decide | exact kd_bal (by assumption) | exact kd_let (by assumption) | assumption) ⟨⟨by decide, by decide⟩, by decide, by decide⟩ (Nat.le_of_ble_eq_true rfl) (m_of _ _ i 5 (by omega)) ?_
      refine WE.iconst (n := 28) (nI 2) dX6_meanDistance_27 rfl (by decide) ?_
      refine WE.icmp_eq (n := 31) (tgt := 34) dX6_meanDistance_28 rfl (by decide) (fun h28 => ?_) (fun h28 => ?_)
      · skip
        refine WE.iinc (n := 37) dX6_meanDistance_34 rfl rfl (by decide) ?_
        refine WE.iload_n (n := 38) dX6_meanDistance_37 rfl rfl ?_
        refine WE.aload_n (n := 39) dX6_meanDistance_38 rfl rfl ?_
        refine WE.iload_n (n := 40) dX6_meanDistance_39 rfl rfl ?_
        refine WE.V1I (M' := mX6_farOf) (n := 43) dX6_meanDistance_40 rfl cv_X6_134 (by first | decide | exact kd_bal (by assumption) | exact kd_let (by assumption) | assumption) ⟨⟨by decide, by decide⟩, by decide, by decide⟩ (Nat.le_of_ble_eq_true rfl) (m_farOf _ _ i (by omega)) ?_
        refine WE.iadd (n := 44) dX6_meanDistance_43 rfl ?_
        refine WE.istore_n (n := 45) dX6_meanDistance_44 rfl (by decide) ?_
        refine WE.iincV (n := 48) (nI (i + 1)) dX6_meanDistance_45 rfl rfl (by decide) (nI_inc i) ?_
        refine WE.goto (tgt := 11) dX6_meanDistance_48 (by decide) ?_
        exact WE.ofA (L' := [(0, .ref 395), (1, .int (ctL (fun n => c 396 (22 + 11 * n + 5) = nI 2) (i + 1))), (2, .int (diN (c 396) (i + 1))), (3, .int (nI (i + 1)))]) ⟨rfl, sI (by show _ = ite _ _ _; first | (rw [if_pos h28]; rfl) | (rw [if_neg h28])), sI (by show _ = ite _ _ _; first | (rw [if_pos h28]) | (rw [if_neg h28])), rfl, trivial⟩ (ih (i + 1) (by omega) (by omega))
      · skip
        refine WE.goto (tgt := 45) dX6_meanDistance_31 (by decide) ?_
        refine WE.iincV (n := 48) (nI (i + 1)) dX6_meanDistance_45 rfl rfl (by decide) (nI_inc i) ?_
        refine WE.goto (tgt := 11) dX6_meanDistance_48 (by decide) ?_
        exact WE.ofA (L' := [(0, .ref 395), (1, .int (ctL (fun n => c 396 (22 + 11 * n + 5) = nI 2) (i + 1))), (2, .int (diN (c 396) (i + 1))), (3, .int (nI (i + 1)))]) ⟨rfl, sI (by show _ = ite _ _ _; first | (rw [if_pos h28]; rfl) | (rw [if_neg h28])), sI (by show _ = ite _ _ _; first | (rw [if_pos h28]) | (rw [if_neg h28])), rfl, trivial⟩ (ih (i + 1) (by omega) (by omega))
/-- the reference's doubles: the answer, the class thrown, what stands behind -/
def RDP2 (c : CC) (od : Int64 × UInt64) (A : AS) (n : Int32) (v : Value) (kind : Value → Prop) : AO → SS → Prop := fun o σ => ∃ w c', o = .inl (some w) ∧ kind w ∧ σ = (c', od) ∧ (∀ a k, a < 395 → c' a k = c a k) ∧ c' 395 16 = nI (if n = 0 then 1 else 0) ∧ (¬ n = 0 → w = v) ∧ MA c' A
def isD (w : Value) : Prop := ∃ x, w = .double x
def isF (w : Value) : Prop := ∃ x, w = .float x
theorem RDP2.no {c : CC} {od : Int64 × UInt64} {A : AS} {n : Int32} {v w : Value} {kind : Value → Prop} (H : MA c A) (h : n = 0) (hk : kind w) : RDP2 c od A n v kind (.inl (some w)) (u2 (u2 c 395 16 (nI 0)) 395 16 (nI 1), od) := by
  have q := q_u2 (b := nI 0) (v := nI 0) H 1 (fun q => absurd q (by decide))
  exact ⟨w, _, rfl, hk, rfl, by rw [u2_u2]; exact q.1, by rw [if_pos h, u2_eq], fun z => absurd h z, by rw [u2_u2]; exact q.2.2.2⟩
theorem RDP2.yes {c : CC} {od : Int64 × UInt64} {A : AS} {n : Int32} {v w : Value} {kind : Value → Prop} (H : MA c A) (h : ¬ n = 0) (e : w = v) (hk : kind w) : RDP2 c od A n v kind (.inl (some w)) (u2 c 395 16 (nI 0), od) := by
  have q := q_u2 (b := nI 0) (v := nI 0) H 0 (fun q => rfl)
  exact ⟨w, _, rfl, hk, rfl, q.1, by rw [if_neg h, u2_eq], fun _ => e, q.2.2.2⟩
set_option maxRecDepth 20000 in
set_option maxHeartbeats 1000000 in
theorem r_meanDistance (c : CC) (od : Int64 × UInt64) (A : AS) (H : Pre c A) : CM mX6_meanDistance [.ref 395] (c, od) (RDP2 c od A (mdN A.1) (.double (dqN (diN A.1 (nbN A.1)) (mdN A.1))) isD) := by
  refine CM.of [(0, .ref 395)] rfl (by decide +kernel) rfl (Nat.le_of_ble_eq_true rfl) ?_
  have e6 : u2 c 395 16 (nI 0) 396 = A.1 := (u2_o _ _ _ (by decide)).trans H.2.1
  have e3 : u2 c 395 16 (nI 0) 396 3 = nI (nbN A.1) := by rw [e6]; exact H.2.2.1.cn.2.1
  have hd1 : ctL (fun n => u2 c 395 16 (nI 0) 396 (22 + 11 * n + 5) = nI 2) (nbN A.1) = mdN A.1 := by simp only [e6]; rfl
  have hd2 : diN (u2 c 395 16 (nI 0) 396) (nbN A.1) = diN A.1 (nbN A.1) := by rw [e6]
  refine WE.aload_n (n := 1) dX6_meanDistance_0 rfl rfl ?_
  refine WE.iconst (n := 2) (nI 0) dX6_meanDistance_1 rfl (by decide) ?_
  refine WE.putI (n := 5) dX6_meanDistance_2 rfl fl_X6_36 ⟨by decide, by decide, rfl, rfl⟩ ⟨by first | rfl | decide, by first | rfl | decide⟩ (by first | decide | exact kd_bal (by assumption) | exact kd_let (by assumption) | assumption) ?_
  refine WE.iconst (n := 6) (nI 0) dX6_meanDistance_5 rfl (by decide) ?_
  refine WE.istore_n (n := 7) dX6_meanDistance_6 rfl (by decide) ?_
  refine WE.iconst (n := 8) (nI 0) dX6_meanDistance_7 rfl (by decide) ?_
  refine WE.istore_n (n := 9) dX6_meanDistance_8 rfl (by decide) ?_
  refine WE.iconst (n := 10) (nI 0) dX6_meanDistance_9 rfl (by decide) ?_
  refine WE.istore_n (n := 11) dX6_meanDistance_10 rfl (by decide) ?_
  refine WE.ofA (L' := [(0, .ref 395), (1, .int (nI 0)), (2, .int (nI 0)), (3, .int (nI 0))]) ⟨rfl, rfl, rfl, rfl, trivial⟩ (m_md_loop _ od (nbN A.1) H.nb e3 ?_)
  refine WE.iload_n (n := 52) dX6_meanDistance_51 rfl rfl ?_
  refine WE.if_ne (n := 55) (tgt := 64) dX6_meanDistance_52 rfl (by decide) (fun h52 => ?_) (fun h52 => ?_)
  · skip
    refine WE.iload_n (n := 65) dX6_meanDistance_64 rfl rfl ?_
    refine WE.i2d (n := 66) dX6_meanDistance_65 rfl ?_
    refine WE.iload_n (n := 67) dX6_meanDistance_66 rfl rfl ?_
    refine WE.i2d (n := 68) dX6_meanDistance_67 rfl ?_
    refine WE.ddiv (n := 69) dX6_meanDistance_68 rfl (n64_of (dq_no _ h52)) ?_
    refine WE.dret dX6_meanDistance_69 rfl ⟨by decide, by decide⟩ ?_
    first | (exact RDP2.yes H.1 (by rw [← hd1]; exact h52) (by rw [← hd1, ← hd2]; rfl) ⟨_, rfl⟩) | (exact RDP2.no H.1 (by rw [← hd1]; exact h52) ⟨_, rfl⟩)
  · skip
    refine WE.aload_n (n := 56) dX6_meanDistance_55 rfl rfl ?_
    refine WE.iconst (n := 57) (nI 1) dX6_meanDistance_56 rfl (by decide) ?_
    refine WE.V1I (M' := mX6_raises) (n := 60) dX6_meanDistance_57 rfl cv_X6_55 (by first | decide | exact kd_bal (by assumption) | exact kd_let (by assumption) | assumption) ⟨⟨by decide, by decide⟩, by decide, by decide⟩ (Nat.le_of_ble_eq_true rfl) (m_raises _ _ _) ?_
    refine WE.i2d (n := 61) dX6_meanDistance_60 rfl ?_
    refine WE.goto (tgt := 69) dX6_meanDistance_61 (by decide) ?_
    refine WE.dret dX6_meanDistance_69 rfl ⟨by decide, by decide⟩ ?_
    first | (exact RDP2.yes H.1 (by rw [← hd1]; exact h52) (by rw [← hd1, ← hd2]; rfl) ⟨_, rfl⟩) | (exact RDP2.no H.1 (by rw [← hd1]; exact h52) ⟨_, rfl⟩)
set_option maxRecDepth 20000 in
set_option maxHeartbeats 1000000 in
theorem r_share (c : CC) (od : Int64 × UInt64) (A : AS) (H : Pre c A) : CM mX6_share [.ref 395] (c, od) (RDP2 c od A (l2N A.1 + l3N A.1) (.float (fqN (l2N A.1) (l2N A.1 + l3N A.1))) isF) := by
  refine CM.of [(0, .ref 395)] rfl (by decide +kernel) rfl (Nat.le_of_ble_eq_true rfl) ?_
  have e6 : u2 c 395 16 (nI 0) 396 = A.1 := (u2_o _ _ _ (by decide)).trans H.2.1
  have e4 : u2 c 395 16 (nI 0) 396 4 = nI (nlN A.1) := by rw [e6]; exact H.2.2.1.cn.2.2.2
  have hd1 : ctL (fun n => u2 c 395 16 (nI 0) 396 (88 + 4 * n + 2) = nI 2) (nlN A.1) = l2N A.1 := by simp only [e6]; rfl
  have hd2 : ctL (fun n => u2 c 395 16 (nI 0) 396 (88 + 4 * n + 2) = nI 3) (nlN A.1) = l3N A.1 := by simp only [e6]; rfl
  refine WE.aload_n (n := 1) dX6_share_0 rfl rfl ?_
  refine WE.iconst (n := 2) (nI 0) dX6_share_1 rfl (by decide) ?_
  refine WE.putI (n := 5) dX6_share_2 rfl fl_X6_36 ⟨by decide, by decide, rfl, rfl⟩ ⟨by first | rfl | decide, by first | rfl | decide⟩ (by first | decide | exact kd_bal (by assumption) | exact kd_let (by assumption) | assumption) ?_
  refine WE.aload_n (n := 6) dX6_share_5 rfl rfl ?_
  refine WE.iconst (n := 7) (nI 2) dX6_share_6 rfl (by decide) ?_
  refine WE.V1I (M' := mX6_lettersIn) (n := 10) dX6_share_7 rfl cv_X6_211 (by first | decide | exact kd_bal (by assumption) | exact kd_let (by assumption) | assumption) ⟨⟨by decide, by decide⟩, by decide, by decide⟩ (Nat.le_of_ble_eq_true rfl) (m_lettersIn _ od (nlN A.1) H.nl e4 (nI 2)) ?_
  refine WE.istore_n (n := 11) dX6_share_10 rfl (by decide) ?_
  refine WE.iload_n (n := 12) dX6_share_11 rfl rfl ?_
  refine WE.aload_n (n := 13) dX6_share_12 rfl rfl ?_
  refine WE.iconst (n := 14) (nI 3) dX6_share_13 rfl (by decide) ?_
  refine WE.V1I (M' := mX6_lettersIn) (n := 17) dX6_share_14 rfl cv_X6_211 (by first | decide | exact kd_bal (by assumption) | exact kd_let (by assumption) | assumption) ⟨⟨by decide, by decide⟩, by decide, by decide⟩ (Nat.le_of_ble_eq_true rfl) (m_lettersIn _ od (nlN A.1) H.nl e4 (nI 3)) ?_
  refine WE.iadd (n := 18) dX6_share_17 rfl ?_
  refine WE.istore_n (n := 19) dX6_share_18 rfl (by decide) ?_
  refine WE.iload_n (n := 20) dX6_share_19 rfl rfl ?_
  refine WE.if_ne (n := 23) (tgt := 32) dX6_share_20 rfl (by decide) (fun h20 => ?_) (fun h20 => ?_)
  · skip
    refine WE.iload_n (n := 33) dX6_share_32 rfl rfl ?_
    refine WE.i2f (n := 34) dX6_share_33 rfl ?_
    refine WE.iload_n (n := 35) dX6_share_34 rfl rfl ?_
    refine WE.i2f (n := 36) dX6_share_35 rfl ?_
    refine WE.fdiv (n := 37) dX6_share_36 rfl (n32_of (fq_no _ h20)) ?_
    refine WE.fret dX6_share_37 rfl ⟨by decide, by decide⟩ ?_
    first | (exact RDP2.yes H.1 (by rw [← hd1, ← hd2]; exact h20) (by rw [← hd1, ← hd2]; rfl) ⟨_, rfl⟩) | (exact RDP2.no H.1 (by rw [← hd1, ← hd2]; exact h20) ⟨_, rfl⟩)
  · skip
    refine WE.aload_n (n := 24) dX6_share_23 rfl rfl ?_
    refine WE.iconst (n := 25) (nI 1) dX6_share_24 rfl (by decide) ?_
    refine WE.V1I (M' := mX6_raises) (n := 28) dX6_share_25 rfl cv_X6_55 (by first | decide | exact kd_bal (by assumption) | exact kd_let (by assumption) | assumption) ⟨⟨by decide, by decide⟩, by decide, by decide⟩ (Nat.le_of_ble_eq_true rfl) (m_raises _ _ _) ?_
    refine WE.i2f (n := 29) dX6_share_28 rfl ?_
    refine WE.goto (tgt := 37) dX6_share_29 (by decide) ?_
    refine WE.fret dX6_share_37 rfl ⟨by decide, by decide⟩ ?_
    first | (exact RDP2.yes H.1 (by rw [← hd1, ← hd2]; exact h20) (by rw [← hd1, ← hd2]; rfl) ⟨_, rfl⟩) | (exact RDP2.no H.1 (by rw [← hd1, ← hd2]; exact h20) ⟨_, rfl⟩)
