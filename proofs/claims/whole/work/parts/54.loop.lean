/-! THE LAW'S LOOP -/
theorem law_head {b Ls : Nat} {xs : Nat → Int32} {Z : ZT} {σ : SS} {cu su : Nat} (i : Nat) (hi : i ≤ 2052) (hLs : Ls ≤ 2048) (hE : LE b Ls xs Z 2129 (LL i) [] σ cu su) (k : i + 4 ≤ Ls → LE b Ls xs Z 37 (LL i) [] σ cu su) : LE b Ls xs Z 28 (LL i) [] σ cu su := by
  refine LE.iload (n := 30) dL_law_28 rfl rfl ?_
  refine LE.len (n := 32) dL_law_30 dL_law_31 rfl ?_
  refine LE.iconst (n := 33) (nI 4) dL_law_32 rfl (by decide) ?_
  refine LE.isub (n := 34) dL_law_33 rfl ?_
  refine LE.icmp_gt (n := 37) (tgt := 2129) dL_law_34 rfl (by decide) (fun h => hE) (fun h => k ?_)
  by_cases h4 : 4 ≤ Ls
  · have e : nI Ls - nI 4 = nI (Ls - 4) := by
      rw [show Ls = (Ls - 4) + 4 by omega, ← nI_add, Int32.add_sub_cancel]
      congr 1
    rw [e, nI_ltI (by omega) (by omega)] at h
    omega
  · exfalso
    apply h
    rw [Int32.lt_iff_toInt_lt, nI_toInt (show i < 2 ^ 31 by omega)]
    rcases (show Ls = 0 ∨ Ls = 1 ∨ Ls = 2 ∨ Ls = 3 by omega) with rfl | rfl | rfl | rfl
    · have : (nI 0 - nI 4).toInt = -4 := by decide
      omega
    · have : (nI 1 - nI 4).toInt = -3 := by decide
      omega
    · have : (nI 2 - nI 4).toInt = -2 := by decide
      omega
    · have : (nI 3 - nI 4).toInt = -1 := by decide
      omega
set_option maxRecDepth 20000 in
set_option maxHeartbeats 1000000 in
theorem law_sw {b Ls : Nat} {xs : Nat → Int32} {Z : ZT} (i : Nat) (hi : i + 4 ≤ Ls ∧ Ls ≤ 2048) (c : CC) (od : Int64 × UInt64) (A : AS) (H : CA c A) (P : Pre c A) (cu su : Nat) (hc : cu + 3 ≤ 603072 ∧ su + 18 ≤ 7211114) (K : ∀ (c1 : CC) (od1 : Int64 × UInt64) (A1 : AS), CA c1 A1 → MA c1 A1 → LE b Ls xs Z 2123 (LL i) [] (c1, od1) (cu + 3) (su + 18)) : LE b Ls xs Z 37 (LL i) [] (c, od) cu su := by
  refine LE.arg0 (n := 41) (i := i) dL_law_37 dL_law_38 dL_law_40 rfl rfl ⟨by omega, hi.2⟩ ?_
  refine LE.bipush (n := 43) (nI 63) dL_law_41 rfl (by decide) ?_
  refine LE.iand (n := 44) dL_law_43 rfl ?_
  generalize xs i &&& nI 63 = v
  by_cases hv : 0 ≤ v.toInt ∧ v.toInt ≤ 33
  · obtain ⟨k, hk, rfl⟩ : ∃ k : Nat, k ≤ 33 ∧ v = nI k := ⟨v.toInt.toNat, by omega, Int32.toInt_inj.mp (by rw [nI_toInt (by omega)]; omega)⟩
    rcases (show k = 0 ∨ k = 1 ∨ k = 2 ∨ k = 3 ∨ k = 4 ∨ k = 5 ∨ k = 6 ∨ k = 7 ∨ k = 8 ∨ k = 9 ∨ k = 10 ∨ k = 11 ∨ k = 12 ∨ k = 13 ∨ k = 14 ∨ k = 15 ∨ k = 16 ∨ k = 17 ∨ k = 18 ∨ k = 19 ∨ k = 20 ∨ k = 21 ∨ k = 22 ∨ k = 23 ∨ k = 24 ∨ k = 25 ∨ k = 26 ∨ k = 27 ∨ k = 28 ∨ k = 29 ∨ k = 30 ∨ k = 31 ∨ k = 32 ∨ k = 33 by omega) with rfl | rfl | rfl | rfl | rfl | rfl | rfl | rfl | rfl | rfl | rfl | rfl | rfl | rfl | rfl | rfl | rfl | rfl | rfl | rfl | rfl | rfl | rfl | rfl | rfl | rfl | rfl | rfl | rfl | rfl | rfl | rfl | rfl | rfl
    · exact LE.tsw (tgt := 196) dL_law_44 0 (by decide) (by decide) (by decide) rfl (by decide) (k_ring i hi c od A H P cu su hc K)
    · exact LE.tsw (tgt := 252) dL_law_44 1 (by decide) (by decide) (by decide) rfl (by decide) (k_wind i hi c od A H P cu su hc K)
    · exact LE.tsw (tgt := 332) dL_law_44 2 (by decide) (by decide) (by decide) rfl (by decide) (k_gas i hi c od A H P cu su hc K)
    · exact LE.tsw (tgt := 388) dL_law_44 3 (by decide) (by decide) (by decide) rfl (by decide) (k_balloon i hi c od A H P cu su hc K)
    · exact LE.tsw (tgt := 444) dL_law_44 4 (by decide) (by decide) (by decide) rfl (by decide) (k_fill i hi c od A H P cu su hc K)
    · exact LE.tsw (tgt := 512) dL_law_44 5 (by decide) (by decide) (by decide) rfl (by decide) (k_ballast i hi c od A H P cu su hc K)
    · exact LE.tsw (tgt := 580) dL_law_44 6 (by decide) (by decide) (by decide) rfl (by decide) (k_courier i hi c od A H P cu su hc K)
    · exact LE.tsw (tgt := 648) dL_law_44 7 (by decide) (by decide) (by decide) rfl (by decide) (k_letter i hi c od A H P cu su hc K)
    · exact LE.tsw (tgt := 716) dL_law_44 8 (by decide) (by decide) (by decide) rfl (by decide) (k_load i hi c od A H P cu su hc K)
    · exact LE.tsw (tgt := 784) dL_law_44 9 (by decide) (by decide) (by decide) rfl (by decide) (k_loadAll i hi c od A H P cu su hc K)
    · exact LE.tsw (tgt := 840) dL_law_44 10 (by decide) (by decide) (by decide) rfl (by decide) (k_launch i hi c od A H P cu su hc K)
    · exact LE.tsw (tgt := 896) dL_law_44 11 (by decide) (by decide) (by decide) rfl (by decide) (k_drop i hi c od A H P cu su hc K)
    · exact LE.tsw (tgt := 964) dL_law_44 12 (by decide) (by decide) (by decide) rfl (by decide) (k_pass i hi c od A H P cu su hc K)
    · exact LE.tsw (tgt := 1020) dL_law_44 13 (by decide) (by decide) (by decide) rfl (by decide) (k_balloonOf i hi c od A H P cu su hc K)
    · exact LE.tsw (tgt := 1088) dL_law_44 14 (by decide) (by decide) (by decide) rfl (by decide) (k_letterOf i hi c od A H P cu su hc K)
    · exact LE.tsw (tgt := 1156) dL_law_44 15 (by decide) (by decide) (by decide) rfl (by decide) (k_weightAgain i hi c od A H P cu su hc K)
    · exact LE.tsw (tgt := 1212) dL_law_44 16 (by decide) (by decide) (by decide) rfl (by decide) (k_waiting i hi c od A H P cu su hc K)
    · exact LE.tsw (tgt := 1268) dL_law_44 17 (by decide) (by decide) (by decide) rfl (by decide) (k_word i hi c od A H P cu su hc K)
    · exact LE.tsw (tgt := 1324) dL_law_44 18 (by decide) (by decide) (by decide) rfl (by decide) (k_sign i hi c od A H P cu su hc K)
    · exact LE.tsw (tgt := 1380) dL_law_44 19 (by decide) (by decide) (by decide) rfl (by decide) (k_isWithin i hi c od A H P cu su hc K)
    · exact LE.tsw (tgt := 1455) dL_law_44 20 (by decide) (by decide) (by decide) rfl (by decide) (k_endsIn i hi c od A H P cu su hc K)
    · exact LE.tsw (tgt := 1511) dL_law_44 21 (by decide) (by decide) (by decide) rfl (by decide) (k_ends i hi c od A H P cu su hc K)
    · exact LE.tsw (tgt := 1579) dL_law_44 22 (by decide) (by decide) (by decide) rfl (by decide) (k_bestDrop i hi c od A H P cu su hc K)
    · exact LE.tsw (tgt := 1635) dL_law_44 23 (by decide) (by decide) (by decide) rfl (by decide) (k_append i hi c od A H P cu su hc K)
    · exact LE.tsw (tgt := 1693) dL_law_44 24 (by decide) (by decide) (by decide) rfl (by decide) (k_read i hi c od A H P cu su hc K)
    · exact LE.tsw (tgt := 1737) dL_law_44 25 (by decide) (by decide) (by decide) rfl (by decide) (k_errorPosition i hi c od A H P cu su hc K)
    · exact LE.tsw (tgt := 1750) dL_law_44 26 (by decide) (by decide) (by decide) rfl (by decide) (k_refusal i hi c od A H P cu su hc K)
    · exact LE.tsw (tgt := 1822) dL_law_44 27 (by decide) (by decide) (by decide) rfl (by decide) (k_account i hi c od A H P cu su hc K)
    · exact LE.tsw (tgt := 1878) dL_law_44 28 (by decide) (by decide) (by decide) rfl (by decide) (k_isWell i hi c od A H P cu su hc K)
    · exact LE.tsw (tgt := 1891) dL_law_44 29 (by decide) (by decide) (by decide) rfl (by decide) (k_meanDistance i hi c od A H P cu su hc K)
    · exact LE.tsw (tgt := 1956) dL_law_44 30 (by decide) (by decide) (by decide) rfl (by decide) (k_share i hi c od A H P cu su hc K)
    · exact LE.tsw (tgt := 2022) dL_law_44 31 (by decide) (by decide) (by decide) rfl (by decide) (k_undo i hi c od A H P cu su hc K)
    · exact LE.tsw (tgt := 2066) dL_law_44 32 (by decide) (by decide) (by decide) rfl (by decide) (k_save i hi c od A H P cu su hc K)
    · exact LE.tsw (tgt := 2079) dL_law_44 33 (by decide) (by decide) (by decide) rfl (by decide) (k_restore i hi c od A H P cu su hc K)
  · refine LE.tswO (tgt := 2123) dL_law_44 (by omega) (by decide) ?_
    exact LE.widen (by omega) (by omega) (K c od A H P.1)
set_option maxRecDepth 20000 in
set_option maxHeartbeats 1000000 in
theorem law_loop {b Ls : Nat} {xs : Nat → Int32} {Z : ZT} (hLs : Ls ≤ 2048) (hE : ∀ (L : List (Nat × Value)) (σ : SS) (cu su : Nat), cu ≤ 603072 → su ≤ 7211114 → LE b Ls xs Z 2129 L [] σ cu su) : ∀ (n i : Nat) (c : CC) (od : Int64 × UInt64) (A : AS), Ls < i + n → i ≤ 2052 → CA c A → MA c A → LE b Ls xs Z 28 (LL i) [] (c, od) (500 + 3 * i) (20000 + 18 * i) := by
  intro n
  induction n with
  | zero =>
    intro i c od A h1 h2 H M
    exact law_head i h2 hLs (hE _ _ _ _ (by omega) (by omega)) (fun h => absurd h (by omega))
  | succ n ih =>
    intro i c od A h1 h2 H M
    refine law_head i h2 hLs (hE _ _ _ _ (by omega) (by omega)) (fun h => ?_)
    refine LE.norm (N := A.1) (fun k hk => M.1 k hk) ?_
    have H' : CA (setN c A.1) A := H.frame (fun a k _ hl => by rw [setN_o _ _ (by omega)])
    have M' : MA (setN c A.1) A := M.same (fun k _ _ _ _ => by rw [setN_o _ _ (by decide)]) (fun k hk => by rw [setN_at]; exact (M.1 k hk).symm) (by rw [setN_o _ _ (by decide)]) (by rw [setN_o _ _ (by decide)]) (by rw [setN_o _ _ (by decide)])
    have P' : Pre (setN c A.1) A := ⟨M', setN_at _ _, H.1, H.2.2.1.1, H.2.2.2.2.1⟩
    refine law_sw i ⟨h, hLs⟩ (setN c A.1) od A H' P' _ _ ⟨by omega, by omega⟩ (fun c1 od1 A1 H1 M1 => ?_)
    have e4 : nI i + Int32.ofInt 4 = nI (i + 4) := by
      rw [← nI_add]
      congr 1
    refine LE.iincV (n := 2126) (nI (i + 4)) dL_law_2123 rfl rfl ⟨by decide, by decide⟩ e4 ?_
    refine LE.goto (tgt := 28) dL_law_2126 (by decide) ?_
    refine LE.ofA (L' := LL (i + 4)) ⟨rfl, rfl, rfl, rfl, rfl, trivial⟩ ?_
    exact LE.widen (by omega) (by omega) (ih (i + 4) c1 od1 A1 (by omega) (by omega) H1 M1)
