set_option maxRecDepth 20000 in
set_option maxHeartbeats 1000000 in
theorem c_isBetween (x a b : Int32) (σ : SS) : CM mX5_isBetween [.int x, .int a, .int b] σ (RI (b2i (a ≤ x ∧ x ≤ b)) σ) := by
  refine CM.of [(0, .int x), (1, .int a), (2, .int b)] rfl (by decide +kernel) rfl (Nat.le_of_ble_eq_true rfl) ?_
  refine WE.iload_n (n := 1) dX5_isBetween_0 rfl rfl ?_
  refine WE.iload_n (n := 2) dX5_isBetween_1 rfl rfl ?_
  refine WE.icmp_lt (n := 5) (tgt := 14) dX5_isBetween_2 rfl (by decide) (fun h2 => ?_) (fun h2 => ?_)
  · skip
    refine WE.iconst (n := 15) (nI 0) dX5_isBetween_14 rfl (by decide) ?_
    refine WE.iret (ty := .boolean) dX5_isBetween_15 rfl (by first | rfl | exact b2i_nar _ | decide) ⟨by decide, by decide⟩ ?_
    first | exact RI.mk (b2i_f (fun q => by simp only [Int32.lt_iff_toInt_lt, Int32.le_iff_toInt_le] at *; omega)).symm rfl | exact RI.mk (b2i_t (by simp only [Int32.lt_iff_toInt_lt, Int32.le_iff_toInt_le] at *; omega)).symm rfl
  · skip
    refine WE.iload_n (n := 6) dX5_isBetween_5 rfl rfl ?_
    refine WE.iload_n (n := 7) dX5_isBetween_6 rfl rfl ?_
    refine WE.icmp_gt (n := 10) (tgt := 14) dX5_isBetween_7 rfl (by decide) (fun h7 => ?_) (fun h7 => ?_)
    · skip
      refine WE.iconst (n := 15) (nI 0) dX5_isBetween_14 rfl (by decide) ?_
      refine WE.iret (ty := .boolean) dX5_isBetween_15 rfl (by first | rfl | exact b2i_nar _ | decide) ⟨by decide, by decide⟩ ?_
      first | exact RI.mk (b2i_f (fun q => by simp only [Int32.lt_iff_toInt_lt, Int32.le_iff_toInt_le] at *; omega)).symm rfl | exact RI.mk (b2i_t (by simp only [Int32.lt_iff_toInt_lt, Int32.le_iff_toInt_le] at *; omega)).symm rfl
    · skip
      refine WE.iconst (n := 11) (nI 1) dX5_isBetween_10 rfl (by decide) ?_
      refine WE.goto (tgt := 15) dX5_isBetween_11 (by decide) ?_
      refine WE.iret (ty := .boolean) dX5_isBetween_15 rfl (by first | rfl | exact b2i_nar _ | decide) ⟨by decide, by decide⟩ ?_
      first | exact RI.mk (b2i_f (fun q => by simp only [Int32.lt_iff_toInt_lt, Int32.le_iff_toInt_le] at *; omega)).symm rfl | exact RI.mk (b2i_t (by simp only [Int32.lt_iff_toInt_lt, Int32.le_iff_toInt_le] at *; omega)).symm rfl
set_option maxRecDepth 20000 in
set_option maxHeartbeats 1000000 in
theorem c_distanceFromTown (x y : Int32) (σ : SS) : CM mX5_distanceFromTown [.int x, .int y] σ (RI (far x y) σ) := by
  refine CM.of [(0, .int x), (1, .int y)] rfl (by decide +kernel) rfl (Nat.le_of_ble_eq_true rfl) ?_
  refine WE.iload_n (n := 1) dX5_distanceFromTown_0 rfl rfl ?_
  refine WE.bipush (n := 3) (nI 20) dX5_distanceFromTown_1 rfl (by decide) ?_
  refine WE.isub (n := 4) dX5_distanceFromTown_3 rfl ?_
  refine WE.mabs (n := 7) dX5_distanceFromTown_4 rfl ml_X5_313 ⟨by decide, Nat.le_of_ble_eq_true rfl, by decide, by decide⟩ ?_
  refine WE.iload_n (n := 8) dX5_distanceFromTown_7 rfl rfl ?_
  refine WE.bipush (n := 10) (nI 20) dX5_distanceFromTown_8 rfl (by decide) ?_
  refine WE.isub (n := 11) dX5_distanceFromTown_10 rfl ?_
  refine WE.mabs (n := 14) dX5_distanceFromTown_11 rfl ml_X5_313 ⟨by decide, Nat.le_of_ble_eq_true rfl, by decide, by decide⟩ ?_
  refine WE.mmax (n := 17) dX5_distanceFromTown_14 rfl ml_X5_318 ⟨by decide, Nat.le_of_ble_eq_true rfl, by decide, by decide⟩ ?_
  refine WE.iret (ty := .int) dX5_distanceFromTown_17 rfl rfl ⟨by decide, by decide⟩ ?_
  exact RI.mk rfl rfl
