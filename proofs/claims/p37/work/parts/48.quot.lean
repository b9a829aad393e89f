/-! doubles and floats: the two quotients, no NaN -/
theorem n64_of {x : UInt64} (h : FP.Core.dIsNaN x = false) : vf_n64 x := by
  unfold vf_n64
  rw [UInt64.le_iff_toNat_le, UInt64.toNat_and]
  have h1 : (0x7fffffffffffffff : UInt64).toNat = 2 ^ 63 - 1 := by decide
  have h2 : (0x7ff0000000000000 : UInt64).toNat = 9218868437227405312 := by decide
  rw [h1, h2, Nat.and_two_pow_sub_one_eq_mod]
  rw [← Bool.not_eq_true, FP.Core.isNaN_bits] at h
  omega
theorem n32_of {x : UInt32} (h : FP.Core.fIsNaN x = false) : vf_n32 x := by
  unfold vf_n32
  rw [UInt32.le_iff_toNat_le, UInt32.toNat_and]
  have h1 : (0x7fffffff : UInt32).toNat = 2 ^ 31 - 1 := by decide
  have h2 : (0x7f800000 : UInt32).toNat = 2139095040 := by decide
  rw [h1, h2, Nat.and_two_pow_sub_one_eq_mod]
  rw [← Bool.not_eq_true, FP.Core.isNaN_bits32] at h
  omega
def dqN (a b : Int32) : UInt64 := FP.ddiv (FP.i2d a) (FP.i2d b)
def fqN (a b : Int32) : UInt32 := FP.fdiv (FP.i2f a) (FP.i2f b)
theorem dq_no (a : Int32) {b : Int32} (h : ¬ b = 0) : FP.Core.dIsNaN (dqN a b) = false := FP.Core.ddiv_out (FP.Core.i2d_fin a).notNaN (FP.Core.i2d_fin b) (fun z => FP.Core.i2d_ne_zero h ((FP.Core.zero_bits2 _).mp z))
theorem fq_no (a : Int32) {b : Int32} (h : ¬ b = 0) : FP.Core.fIsNaN (fqN a b) = false := FP.Core.fdiv_out (FP.Core.i2f_fin a).notNaN (FP.Core.i2f_fin b) (fun z => FP.Core.i2f_ne_zero h ((FP.Core.zero_bits232 _).mp z))
section WED
variable {M : MT} {pc n : Nat} {L : List (Nat × Value)} {st : List Value} {σ : SS} {cu su : Nat} {G : GT}
theorem WE.i2d {x : Int32} (hd : decode (mtC M) pc = .ok (.i2d, 1)) (hn : pc + 1 = n) (k : WE M n L (.double (FP.i2d x) :: st) σ cu su G) : WE M pc L (.int x :: st) σ cu su G := by
  subst hn
  intro l D aC z p e s m args below meth c H locs ls C hP hS hl
  exact lv_i2d C.2.1 C.2.2.1 hd (k l D aC z p e s m args below meth c H locs ls C hP hS hl)
theorem WE.i2f {x : Int32} (hd : decode (mtC M) pc = .ok (.i2f, 1)) (hn : pc + 1 = n) (k : WE M n L (.float (FP.i2f x) :: st) σ cu su G) : WE M pc L (.int x :: st) σ cu su G := by
  subst hn
  intro l D aC z p e s m args below meth c H locs ls C hP hS hl
  exact lv_i2f C.2.1 C.2.2.1 hd (k l D aC z p e s m args below meth c H locs ls C hP hS hl)
theorem WE.ddiv {x y : UInt64} (hd : decode (mtC M) pc = .ok (.ddiv, 1)) (hn : pc + 1 = n) (hne : vf_n64 (FP.ddiv x y)) (k : WE M n L (.double (FP.ddiv x y) :: st) σ cu su G) : WE M pc L (.double y :: .double x :: st) σ cu su G := by
  subst hn
  intro l D aC z p e s m args below meth c H locs ls C hP hS hl
  exact lv_ddiv C.2.1 C.2.2.1 hd hne (k l D aC z p e s m args below meth c H locs ls C hP hS hl)
theorem WE.fdiv {x y : UInt32} (hd : decode (mtC M) pc = .ok (.fdiv, 1)) (hn : pc + 1 = n) (hne : vf_n32 (FP.fdiv x y)) (k : WE M n L (.float (FP.fdiv x y) :: st) σ cu su G) : WE M pc L (.float y :: .float x :: st) σ cu su G := by
  subst hn
  intro l D aC z p e s m args below meth c H locs ls C hP hS hl
  exact lv_fdiv C.2.1 C.2.2.1 hd hne (k l D aC z p e s m args below meth c H locs ls C hP hS hl)
end WED
def mdN (N : NA) : Int32 := ctL (fun n => N (22 + 11 * n + 5) = nI 2) (nbN N)
def l2N (N : NA) : Int32 := ctL (fun n => N (88 + 4 * n + 2) = nI 2) (nlN N)
def l3N (N : NA) : Int32 := ctL (fun n => N (88 + 4 * n + 2) = nI 3) (nlN N)
def DX (σ : SS) (n : Int32) (v : Value) : AO → SS → Prop := fun o st => st = σ ∧ o = (if n = 0 then .inr arE else .inl (some v))
theorem DX.no {σ : SS} {n : Int32} {v : Value} (h : n = 0) : DX σ n v (.inr arE) σ := ⟨rfl, by rw [if_pos h]⟩
theorem DX.yes {σ : SS} {n : Int32} {v w : Value} (h : ¬ n = 0) (e : w = v) : DX σ n v (.inl (some w)) σ := ⟨rfl, by rw [if_neg h, e]⟩
set_option maxRecDepth 20000 in
set_option maxHeartbeats 1000000 in
theorem p_meanDistance (c : CC) (od : Int64 × UInt64) (N : NA) (hR : RelT c 1 N) (hI : IN N) : CM mX5_meanDistance [.ref 0] (c, od) (DX (c, od) (mdN N) (.double (dqN (diN N (nbN N)) (mdN N)))) := by
  refine CM.of [(0, .ref 0)] rfl (by decide +kernel) rfl (Nat.le_of_ble_eq_true rfl) ?_
  refine WE.aload_n (n := 1) dX5_meanDistance_0 rfl rfl ?_
  refine WE.getR (n := 4) dX5_meanDistance_1 rfl fl_X5_10 ⟨by decide, by decide⟩ rfl (by first | decide | exact kd_bal (by assumption) | exact kd_let (by assumption) | assumption) ?_
  refine WE.iconst (n := 5) (nI 2) dX5_meanDistance_4 rfl (by decide) ?_
  refine WE.V1I (M' := mX4_balloonsIn) (n := 8) dX5_meanDistance_5 rfl cv_X5_244 (by first | decide | exact kd_bal (by assumption) | exact kd_let (by assumption) | assumption) ⟨⟨by decide, by decide⟩, by decide, by decide⟩ (Nat.le_of_ble_eq_true rfl) (c_balloonsIn c od N hR hI.cn (nI 2)) ?_
  refine WE.istore_n (n := 9) dX5_meanDistance_8 rfl (by decide) ?_
  refine WE.iload_n (n := 10) dX5_meanDistance_9 rfl rfl ?_
  refine WE.if_ne (n := 13) (tgt := 23) dX5_meanDistance_10 rfl (by decide) (fun h10 => ?_) (fun h10 => ?_)
  · skip
    refine WE.aload_n (n := 24) dX5_meanDistance_23 rfl rfl ?_
    refine WE.getR (n := 27) dX5_meanDistance_24 rfl fl_X5_10 ⟨by decide, by decide⟩ rfl (by first | decide | exact kd_bal (by assumption) | exact kd_let (by assumption) | assumption) ?_
    refine WE.V0I (M' := mX4_distancesOfLanded) (n := 30) dX5_meanDistance_27 rfl cv_X5_252 (by first | decide | exact kd_bal (by assumption) | exact kd_let (by assumption) | assumption) ⟨⟨by decide, by decide⟩, by decide, by decide⟩ (Nat.le_of_ble_eq_true rfl) (c_distancesOfLanded c od N hR hI.cn) ?_
    refine WE.i2d (n := 31) dX5_meanDistance_30 rfl ?_
    refine WE.iload_n (n := 32) dX5_meanDistance_31 rfl rfl ?_
    refine WE.i2d (n := 33) dX5_meanDistance_32 rfl ?_
    refine WE.ddiv (n := 34) dX5_meanDistance_33 rfl (n64_of (dq_no _ h10)) ?_
    refine WE.dret dX5_meanDistance_34 rfl ⟨by decide, by decide⟩ ?_
    exact DX.yes h10 rfl
  · skip
    refine WE.throwS (tx := "no balloon landed") "java/lang/ArithmeticException" dX5_meanDistance_13 dX5_meanDistance_16 dX5_meanDistance_17 dX5_meanDistance_19 dX5_meanDistance_22 xl_X5_247_251 (by decide +kernel) rfl ⟨by decide, by decide⟩ ⟨by decide, by decide⟩ ?_
    exact DX.no h10
set_option maxRecDepth 20000 in
set_option maxHeartbeats 1000000 in
theorem p_share (c : CC) (od : Int64 × UInt64) (N : NA) (hR : RelT c 1 N) (hI : IN N) : CM mX5_share [.ref 0] (c, od) (DX (c, od) (l2N N + l3N N) (.float (fqN (l2N N) (l2N N + l3N N)))) := by
  refine CM.of [(0, .ref 0)] rfl (by decide +kernel) rfl (Nat.le_of_ble_eq_true rfl) ?_
  refine WE.aload_n (n := 1) dX5_share_0 rfl rfl ?_
  refine WE.getR (n := 4) dX5_share_1 rfl fl_X5_10 ⟨by decide, by decide⟩ rfl (by first | decide | exact kd_bal (by assumption) | exact kd_let (by assumption) | assumption) ?_
  refine WE.iconst (n := 5) (nI 2) dX5_share_4 rfl (by decide) ?_
  refine WE.V1I (M' := mX4_lettersIn) (n := 8) dX5_share_5 rfl cv_X5_255 (by first | decide | exact kd_bal (by assumption) | exact kd_let (by assumption) | assumption) ⟨⟨by decide, by decide⟩, by decide, by decide⟩ (Nat.le_of_ble_eq_true rfl) (c_lettersIn c od N hR hI hI.cn (nI 2)) ?_
  refine WE.istore_n (n := 9) dX5_share_8 rfl (by decide) ?_
  refine WE.iload_n (n := 10) dX5_share_9 rfl rfl ?_
  refine WE.aload_n (n := 11) dX5_share_10 rfl rfl ?_
  refine WE.getR (n := 14) dX5_share_11 rfl fl_X5_10 ⟨by decide, by decide⟩ rfl (by first | decide | exact kd_bal (by assumption) | exact kd_let (by assumption) | assumption) ?_
  refine WE.iconst (n := 15) (nI 3) dX5_share_14 rfl (by decide) ?_
  refine WE.V1I (M' := mX4_lettersIn) (n := 18) dX5_share_15 rfl cv_X5_255 (by first | decide | exact kd_bal (by assumption) | exact kd_let (by assumption) | assumption) ⟨⟨by decide, by decide⟩, by decide, by decide⟩ (Nat.le_of_ble_eq_true rfl) (c_lettersIn c od N hR hI hI.cn (nI 3)) ?_
  refine WE.iadd (n := 19) dX5_share_18 rfl ?_
  refine WE.istore_n (n := 20) dX5_share_19 rfl (by decide) ?_
  refine WE.iload_n (n := 21) dX5_share_20 rfl rfl ?_
  refine WE.if_ne (n := 24) (tgt := 35) dX5_share_21 rfl (by decide) (fun h21 => ?_) (fun h21 => ?_)
  · skip
    refine WE.iload_n (n := 36) dX5_share_35 rfl rfl ?_
    refine WE.i2f (n := 37) dX5_share_36 rfl ?_
    refine WE.iload_n (n := 38) dX5_share_37 rfl rfl ?_
    refine WE.i2f (n := 39) dX5_share_38 rfl ?_
    refine WE.fdiv (n := 40) dX5_share_39 rfl (n32_of (fq_no _ h21)) ?_
    refine WE.fret dX5_share_40 rfl ⟨by decide, by decide⟩ ?_
    exact DX.yes h21 rfl
  · skip
    refine WE.throwSW (tx := "no letter was delivered or lost") "java/lang/ArithmeticException" dX5_share_24 dX5_share_27 dX5_share_28 dX5_share_31 dX5_share_34 xl_X5_247_251 (by decide +kernel) rfl ⟨by decide, by decide⟩ ⟨by decide, by decide⟩ ?_
    exact DX.no h21
