/-! pure facts of the law's second run: what makes, changes and refused come to on the numbers -/
theorem bmS {x : Int} (h1 : -2147483648 ≤ x) (h2 : x < 2147483648) : x.bmod (2 ^ 32) = x := by
  show (if x % ((2 ^ 32 : Nat) : Int) < (((2 ^ 32 : Nat) : Int) + 1) / 2 then x % ((2 ^ 32 : Nat) : Int) else x % ((2 ^ 32 : Nat) : Int) - ((2 ^ 32 : Nat) : Int)) = x
  have e : ((2 ^ 32 : Nat) : Int) = 4294967296 := rfl
  rw [e]
  split <;> omega
theorem smI_lt (v : Int32) {n : Nat} (h0 : 0 < n) (hn : n < 65536) : ∃ k, k < n ∧ smI v (nI n) = nI k := by
  have hN : (nI n).toInt = (n : Int) := nI_toInt (by omega)
  have hv1 : -2147483648 ≤ v.toInt := Int32.le_toInt v
  have hv2 : v.toInt < 2147483648 := Int32.toInt_lt v
  obtain ⟨m, hm, hs⟩ : ∃ m : Nat, m ≤ 2147483648 ∧ (v.toInt = (m : Int) ∨ v.toInt = -(m : Int)) := ⟨v.toInt.natAbs, by omega, by omega⟩
  have hq : m / n ≤ m := Nat.div_le_self m n
  have hqm : m / n * n + m % n = m := by rw [Nat.mul_comm]; exact Nat.div_add_mod m n
  have hr : m % n < n := Nat.mod_lt _ h0
  have ht : (m : Int).tdiv (n : Int) = ((m / n : Nat) : Int) := rfl
  have hmul : ((m / n : Nat) : Int) * (n : Int) = ((m / n * n : Nat) : Int) := (Int.natCast_mul _ _).symm
  generalize hQ : m / n = Q at *
  generalize hR : m % n = R at *
  generalize hP : Q * n = P at *
  have c0 : ∀ y : Int32, (0 ≤ y ↔ 0 ≤ y.toInt) := fun y => Int32.le_iff_toInt_le
  rcases hs with hs | hs
  · have e1 : (v / nI n).toInt = (Q : Int) := by rw [Int32.toInt_div, hN, hs, ht]; exact bmS (by omega) (by omega)
    have e2 : (v / nI n * nI n).toInt = (P : Int) := by rw [Int32.toInt_mul, e1, hN, hmul]; exact bmS (by omega) (by omega)
    have e3 : (v - v / nI n * nI n).toInt = (R : Int) := by
      rw [Int32.toInt_sub, hs, e2, show (m : Int) - (P : Int) = (R : Int) by omega]
      exact bmS (by omega) (by omega)
    refine ⟨R, hr, ?_⟩
    unfold smI
    rw [if_pos ((c0 _).mpr (by omega))]
    exact Int32.toInt_inj.mp (e3.trans (nI_toInt (by omega)).symm)
  · have e1 : (v / nI n).toInt = -(Q : Int) := by rw [Int32.toInt_div, hN, hs, Int.neg_tdiv, ht]; exact bmS (by omega) (by omega)
    have e2 : (v / nI n * nI n).toInt = -(P : Int) := by rw [Int32.toInt_mul, e1, hN, Int.neg_mul, hmul]; exact bmS (by omega) (by omega)
    have e3 : (v - v / nI n * nI n).toInt = -(R : Int) := by
      rw [Int32.toInt_sub, hs, e2, show -(m : Int) - -(P : Int) = -(R : Int) by omega]
      exact bmS (by omega) (by omega)
    unfold smI
    by_cases hz : R = 0
    · refine ⟨0, h0, ?_⟩
      rw [if_pos ((c0 _).mpr (by omega))]
      exact Int32.toInt_inj.mp (e3.trans (by rw [nI_toInt (by omega)]; omega))
    · refine ⟨n - R, by omega, ?_⟩
      rw [if_neg (fun q => by have := (c0 _).mp q; omega)]
      refine Int32.toInt_inj.mp ?_
      rw [Int32.toInt_add, e3, hN, nI_toInt (by omega), bmS (by omega) (by omega)]
      omega
/-- a change that comes off, as the contract of its helper -/
theorem HPc.ok {M : MT} {as : List Value} {σ : SS} {od : Int64 × UInt64} {A : AS} {r : OR} {n : Nat} {v : Int32} {N : NA} (h : CM M as σ (PI (HP od (stepC A r n)))) (e : r = .inl (v, N)) : CM M as σ (PI (QP od (N, (A.1 :: A.2.1).take 8, A.2.2) v)) := by
  subst e
  exact h.pi (fun k s q => q)
/-- a change refused by a reason -/
theorem HPc.no {M : MT} {as : List Value} {σ : SS} {od : Int64 × UInt64} {A : AS} {r : OR} {n : Nat} {w : Int32 × Int32} (h : CM M as σ (PI (HP od (stepC A r (n + 1))))) (e : r = .inr (.inl w)) : CM M as σ (PI (QP od (A.1, A.2.1, A.2.2.1, A.2.2.2.1, A.2.2.2.2.1, A.2.2.2.2.2.1, w) (cdI n))) := by
  subst e
  exact h.pi (fun k s q => q)
/-- an exception of another class -/
theorem HPc.thr {M : MT} {as : List Value} {σ : SS} {od : Int64 × UInt64} {A : AS} {r : OR} {n : Nat} (k : Nat) (h : CM M as σ (PI (HP od (stepC A r n)))) (e : r = .inr (.inr (k + 1))) : CM M as σ (PI (QP od A (cdI k))) := by
  subst e
  exact h.pi (fun k s q => q)
theorem HPq.thr {M : MT} {as : List Value} {σ : SS} {od : Int64 × UInt64} {A : AS} {q : QR} (k : Nat) (h : CM M as σ (PI (HP od (stepQ A q)))) (e : q = .inr (k + 1)) : CM M as σ (PI (QP od A (cdI k))) := by
  subst e
  exact h.pi (fun k s q => q)
theorem HPq.yes {M : MT} {as : List Value} {σ : SS} {od : Int64 × UInt64} {A : AS} {q : QR} {v : Int32} (h : CM M as σ (PI (HP od (stepQ A q)))) (e : q = .inl v) : CM M as σ (PI (QP od A v)) := by
  subst e
  exact h.pi (fun k s q => q)
theorem HPb.thr {M : MT} {as : List Value} {σ : SS} {od : Int64 × UInt64} {A : AS} {q : QR} (k : Nat) (hk : k < 2) (h : CM M as σ (PI (HP od (stepB A q)))) (e : q = .inr (k + 1)) : CM M as σ (PI (QP od A (cdI k))) := by
  subst e
  rcases (show k = 0 ∨ k = 1 by omega) with rfl | rfl
  · exact h.pi (fun k s q => q)
  · exact h.pi (fun k s q => q)
theorem HPb.thr3 {M : MT} {as : List Value} {σ : SS} {od : Int64 × UInt64} {A : AS} {q : QR} (h : CM M as σ (PI (HP od (stepB A q)))) (e : q = .inr 3) : CM M as σ (PI (QP od A (cdI 1))) := by
  subst e
  exact h.pi (fun k s q => q)
/-! makes -/
def MK1 (N : NA) (h : Nat) : Prop := N 2 = nI 700 ∧ N 3 = nI 0 ∧ N 4 = nI 0 ∧ ∀ q, h ≤ q → q < 6 → N (10 + 2 * q) = 0 ∧ N (10 + 2 * q + 1) = 0
def MK2 (N : NA) (b : Nat) : Prop := N 3 = nI b ∧ N 4 = nI 0 ∧ (∃ g : Nat, N 2 = nI g ∧ 700 ≤ g + 99 * b ∧ g ≤ 700) ∧ ∀ j, j < b → N (22 + 11 * j + 5) = 0
def MK3 (N : NA) (l : Nat) : Prop := N 3 = nI 4 ∧ N 4 = nI l ∧ ∀ j, j < 4 → N (22 + 11 * j + 5) = 0
def MK4 (N : NA) (b : Nat) : Prop := N 3 = nI 4 ∧ N 4 = nI 14 ∧ ∀ j, b ≤ j → j < 4 → N (22 + 11 * j + 5) = 0
theorem s_gas600 {N : NA} (h : N 2 = nI 100) : S_gas N (nI 600) = .inl (nI 700, upN N 2 (nI 700)) := by
  unfold S_gas
  rw [if_pos (by decide), h]
  rfl
theorem s_ring {N : NA} {r : Nat} (h1 : 1 ≤ r) (h2 : r ≤ 15) : S_ring N (nI r) = .inl (N 1, upN N 1 (nI r)) := by
  unfold S_ring
  rw [if_pos ⟨nI_le h1 (by omega), nI_le h2 (by decide)⟩]
theorem d3_in {k : Nat} (h : k < 7) : (-3 : Int32) ≤ nI k - nI 3 ∧ nI k - nI 3 ≤ nI 3 := by
  rcases (show k = 0 ∨ k = 1 ∨ k = 2 ∨ k = 3 ∨ k = 4 ∨ k = 5 ∨ k = 6 by omega) with rfl | rfl | rfl | rfl | rfl | rfl | rfl <;> decide
theorem s_wind {N : NA} {h : Nat} (hh : h < 6) {x y : Int32} (hx : (-3 : Int32) ≤ x ∧ x ≤ nI 3) (hy : (-3 : Int32) ≤ y ∧ y ≤ nI 3) : S_blows N (nI h) x y = .inl (nI 10 * N (10 + 2 * h) + N (10 + 2 * h + 1), upN (upN N (10 + 2 * h) x) (10 + 2 * h + 1) y) := by
  unfold S_blows
  rw [if_pos ⟨nI_le (Nat.zero_le _) (by omega), nI_le (by omega) (by decide)⟩, if_pos hx, if_pos hy, nI_clamp (by omega)]
theorem MK1.wind {N : NA} {h : Nat} (H : MK1 N h) (hh : h < 6) {x y : Int32} : nI 10 * N (10 + 2 * h) + N (10 + 2 * h + 1) = nI 0 ∧ MK1 (upN (upN N (10 + 2 * h) x) (10 + 2 * h + 1) y) (h + 1) := by
  obtain ⟨h2, h3, h4, hw⟩ := H
  obtain ⟨w1, w2⟩ := hw h (Nat.le_refl _) hh
  refine ⟨by rw [w1, w2]; decide, ?_, ?_, ?_, fun q hq hq6 => ?_⟩
  · rw [upN_ne _ _ _ (by omega), upN_ne _ _ _ (by omega), h2]
  · rw [upN_ne _ _ _ (by omega), upN_ne _ _ _ (by omega), h3]
  · rw [upN_ne _ _ _ (by omega), upN_ne _ _ _ (by omega), h4]
  · rw [upN_ne _ _ _ (by omega), upN_ne _ _ _ (by omega), upN_ne _ _ _ (by omega), upN_ne _ _ _ (by omega)]
    exact hw q (by omega) hq6
theorem MK1.to2 {N : NA} {h : Nat} (H : MK1 N h) : MK2 N 0 := ⟨H.2.1, H.2.2.1, ⟨700, H.1, by omega, by omega⟩, fun j hj => absurd hj (by omega)⟩
/-- a balloon made, filled, laden -/
theorem s_balloon {N : NA} {b s : Nat} (h3 : N 3 = nI b) (hb : b < 6) (h1 : 10 ≤ s) (h2 : s ≤ 99) : S_balloon N (nI s) = .inl (nI b, baN N b (nI s)) := by
  unfold S_balloon
  rw [if_pos ⟨nI_le h1 (by omega), nI_le h2 (by decide)⟩, h3, if_neg (nI_ne (by omega) (by decide) (by omega)), nI_clamp (by omega)]
theorem ba_lo {N : NA} {b : Nat} {s : Int32} {k : Nat} (h3 : k ≠ 3) (hk : k < 22 + 11 * b ∨ 22 + 11 * b + 11 ≤ k) : baN N b s k = N k := by
  unfold baN zeN
  rw [upN_ne _ _ _ (by omega), upN_ne _ _ _ (by omega), upN_ne _ _ _ (by omega), if_neg (by omega), upN_ne _ _ _ (by omega)]
theorem ba_3 {N : NA} {b : Nat} {s : Int32} : baN N b s 3 = N 3 + nI 1 := by
  unfold baN zeN
  rw [upN_ne _ _ _ (by omega), upN_ne _ _ _ (by omega), upN_ne _ _ _ (by omega), if_neg (by omega), upN_eq]
theorem ba_in {N : NA} {b : Nat} {s : Int32} {w : Nat} (hw : w < 11) (h6 : w ≠ 6) (h7 : w ≠ 7) (h0 : w ≠ 0) : baN N b s (22 + 11 * b + w) = nI 0 := by
  unfold baN zeN
  rw [upN_ne _ _ _ (by omega), upN_ne _ _ _ (by omega), upN_ne _ _ _ (by omega), if_pos (by omega)]
theorem ba_0 {N : NA} {b : Nat} {s : Int32} : baN N b s (22 + 11 * b + 0) = s := by
  unfold baN
  rw [upN_ne _ _ _ (by omega), upN_ne _ _ _ (by omega), upN_eq]
theorem isB_n {N : NA} {n b : Nat} (h3 : N 3 = nI n) (hn : n ≤ 6) (hb : b < n) : isBN N (nI b) := by
  refine ⟨nI_le (Nat.zero_le _) (by omega), ?_⟩
  rw [h3, pk_sub (by omega)]
  exact nI_le (by omega) (by omega)
/-- the numbers of a balloon on the ground, b of them made -/
def BG (N : NA) (b s g f a k : Nat) : Prop := N 3 = nI (b + 1) ∧ N (22 + 11 * b + 0) = nI s ∧ N 2 = nI g ∧ N (22 + 11 * b + 1) = nI f ∧ N (22 + 11 * b + 2) = nI a ∧ N (22 + 11 * b + 3) = nI k ∧ N (22 + 11 * b + 5) = 0
theorem BG.ba {N : NA} {b s g : Nat} (h3 : N 3 = nI b) (h2 : N 2 = nI g) : BG (baN N b (nI s)) b s g 0 0 0 := by
  refine ⟨?_, ba_0, ?_, ba_in (by decide) (by decide) (by decide) (by decide), ba_in (by decide) (by decide) (by decide) (by decide), ba_in (by decide) (by decide) (by decide) (by decide), ba_in (by decide) (by decide) (by decide) (by decide)⟩
  · rw [ba_3, h3, nI_add]
  · rw [ba_lo (by decide) (by omega), h2]
theorem BG.fill {N : NA} {b s g f a k x : Nat} (H : BG N b s g f a k) (hb : b < 6) (hx : 1 ≤ x) (hx2 : x ≤ 99) (hg : x ≤ g) (hg2 : g < 2 ^ 30) (hs : x + f ≤ s) (hs2 : s < 2 ^ 30) : S_fills N (nI b) (nI x) = .inl (nI (f + x), upN (upN N 2 (nI (g - x))) (22 + 11 * b + 1) (nI (f + x))) ∧ BG (upN (upN N 2 (nI (g - x))) (22 + 11 * b + 1) (nI (f + x))) b s (g - x) (f + x) a k := by
  obtain ⟨h3, h0, h2, h1, ha, hk, h5⟩ := H
  constructor
  · unfold S_fills bk
    rw [if_pos (isB_n h3 (by omega) (by omega)), if_pos ⟨nI_le hx (by omega), nI_le hx2 (by decide)⟩, nI_clamp (by omega), if_pos h5, h2, h0, h1, if_pos (nI_le hg (by omega)), pk_sub (by omega), if_pos (nI_le (by omega) (by omega)), nI_add, pk_sub hg]
  · refine ⟨?_, ?_, ?_, upN_eq _ _ _, ?_, ?_, ?_⟩
    · rw [upN_ne _ _ _ (by omega), upN_ne _ _ _ (by omega), h3]
    · rw [upN_ne _ _ _ (by omega), upN_ne _ _ _ (by omega), h0]
    · rw [upN_ne _ _ _ (by omega), upN_eq]
    · rw [upN_ne _ _ _ (by omega), upN_ne _ _ _ (by omega), ha]
    · rw [upN_ne _ _ _ (by omega), upN_ne _ _ _ (by omega), hk]
    · rw [upN_ne _ _ _ (by omega), upN_ne _ _ _ (by omega), h5]
theorem BG.lay {N : NA} {b s g f k x : Nat} (H : BG N b s g f 0 k) (hb : b < 6) (hx : 1 ≤ x) (hx2 : x ≤ 50) : S_lays N (nI b) (nI x) = .inl (nI x, upN (upN N (22 + 11 * b + 2) (nI x)) 5 (N 5 + nI x)) ∧ BG (upN (upN N (22 + 11 * b + 2) (nI x)) 5 (N 5 + nI x)) b s g f x k := by
  obtain ⟨h3, h0, h2, h1, ha, hk, h5⟩ := H
  constructor
  · unfold S_lays bk
    rw [if_pos (isB_n h3 (by omega) (by omega)), if_pos ⟨nI_le hx (by omega), nI_le hx2 (by decide)⟩, nI_clamp (by omega), if_pos h5, ha, pk_sub (by omega), if_pos (nI_le (by omega) (by omega)), nI_add, Nat.zero_add]
  · refine ⟨?_, ?_, ?_, ?_, ?_, ?_, ?_⟩
    · rw [upN_ne _ _ _ (by omega), upN_ne _ _ _ (by omega), h3]
    · rw [upN_ne _ _ _ (by omega), upN_ne _ _ _ (by omega), h0]
    · rw [upN_ne _ _ _ (by omega), upN_ne _ _ _ (by omega), h2]
    · rw [upN_ne _ _ _ (by omega), upN_ne _ _ _ (by omega), h1]
    · rw [upN_ne _ _ _ (by omega), upN_eq]
    · rw [upN_ne _ _ _ (by omega), upN_ne _ _ _ (by omega), hk]
    · rw [upN_ne _ _ _ (by omega), upN_ne _ _ _ (by omega), h5]
theorem BG.cou {N : NA} {b s g f a k x : Nat} (H : BG N b s g f a k) (hb : b < 6) (hk2 : k < 2) (hx : 5 ≤ x) (hx2 : x ≤ 12) : ∃ M : NA, S_courier N (nI b) (nI x) = .inl (nI (k + 1), M) ∧ BG M b s g f a (k + 1) ∧ ∀ i, i ≠ 22 + 11 * b + 3 → i ≠ 22 + 11 * b + 4 → M i = N i := by
  obtain ⟨h3, h0, h2, h1, ha, hk, h5⟩ := H
  refine ⟨upN (upN N (22 + 11 * b + 3) (nI (k + 1))) (22 + 11 * b + 4) (N (22 + 11 * b + 4) + nI x), ?_, ⟨?_, ?_, ?_, ?_, ?_, ?_, ?_⟩, fun i hi1 hi2 => by rw [upN_ne _ _ _ hi2, upN_ne _ _ _ hi1]⟩
  · unfold S_courier bk
    rw [if_pos (isB_n h3 (by omega) (by omega)), if_pos ⟨nI_le hx (by omega), nI_le hx2 (by decide)⟩, nI_clamp (by omega), if_pos h5, hk, if_neg (nI_ne (by omega) (by decide) (by omega)), nI_add]
  · rw [upN_ne _ _ _ (by omega), upN_ne _ _ _ (by omega), h3]
  · rw [upN_ne _ _ _ (by omega), upN_ne _ _ _ (by omega), h0]
  · rw [upN_ne _ _ _ (by omega), upN_ne _ _ _ (by omega), h2]
  · rw [upN_ne _ _ _ (by omega), upN_ne _ _ _ (by omega), h1]
  · rw [upN_ne _ _ _ (by omega), upN_ne _ _ _ (by omega), ha]
  · rw [upN_ne _ _ _ (by omega), upN_eq]
  · rw [upN_ne _ _ _ (by omega), upN_ne _ _ _ (by omega), h5]
/-- what of the numbers the balloon's making leaves -/
def BK (N M : NA) (b : Nat) : Prop := M 4 = N 4 ∧ ∀ j, j < b → M (22 + 11 * j + 5) = N (22 + 11 * j + 5)
theorem BK.ba {N : NA} {b : Nat} {s : Int32} : BK N (baN N b s) b := ⟨ba_lo (by decide) (by omega), fun j hj => ba_lo (by omega) (by omega)⟩
theorem BK.up2 {N M : NA} {b i k : Nat} {x y : Int32} (H : BK N M b) (hi : i < 22 ∨ 22 + 11 * b ≤ i) (hk : k < 22 ∨ 22 + 11 * b ≤ k) (hi4 : i ≠ 4 ∧ i < 88) (hk4 : k ≠ 4 ∧ k < 88) : BK N (upN (upN M i x) k y) b := by
  refine ⟨?_, fun j hj => ?_⟩
  · rw [upN_ne _ _ _ (by omega), upN_ne _ _ _ (by omega)]
    exact H.1
  · rw [upN_ne _ _ _ (by omega), upN_ne _ _ _ (by omega)]
    exact H.2 j hj
theorem BK.same {N M M' : NA} {b : Nat} (H : BK N M b) (hb : b < 6) (h : ∀ i, i ≠ 22 + 11 * b + 3 → i ≠ 22 + 11 * b + 4 → M' i = M i) : BK N M' b :=
  ⟨(h 4 (by omega) (by omega)).trans H.1, fun j hj => (h _ (by omega) (by omega)).trans (H.2 j hj)⟩
theorem MK2.next {N M : NA} {b s g f a k : Nat} (H : MK2 N b) (h : BG M b s g f a k) (hK : BK N M b) (hg : 700 ≤ g + 99 * (b + 1)) (hg2 : g ≤ 700) : MK2 M (b + 1) := by
  obtain ⟨h3, h4, -, hs⟩ := H
  refine ⟨h.1, hK.1.trans h4, ⟨g, h.2.2.1, hg, hg2⟩, fun j hj => ?_⟩
  by_cases e : j = b
  · subst e
    exact h.2.2.2.2.2.2
  · rw [hK.2 j (by omega)]
    exact hs j (by omega)
theorem MK2.to3 {N : NA} (H : MK2 N 4) : MK3 N 0 := ⟨H.1, H.2.1, H.2.2.2⟩
theorem s_letter {N : NA} {l s r : Nat} (h4 : N 4 = nI l) (hl : l < 24) (h1 : 1 ≤ s) (h2 : s ≤ 9) (hr : r ≤ 2) : S_letter N (nI s) (nI r) = .inl (nI l, leN N l (nI s) (nI r)) := by
  unfold S_letter
  rw [if_pos ⟨nI_le h1 (by omega), nI_le h2 (by decide)⟩, if_pos ⟨nI_le (Nat.zero_le _) (by omega), nI_le hr (by decide)⟩, h4, if_neg (nI_ne (by omega) (by decide) (by omega)), nI_clamp (by omega), nI_add, pk_sub (by omega), Nat.add_sub_cancel]
theorem le_lo {N : NA} {l : Nat} {s r : Int32} {k : Nat} (h4 : k ≠ 4) (hk : k < 88) : leN N l s r k = N k := by
  unfold leN
  rw [upN_ne _ _ _ (by omega), upN_ne _ _ _ (by omega), upN_ne _ _ _ (by omega), upN_ne _ _ _ (by omega), upN_ne _ _ _ (by omega)]
theorem le_4 {N : NA} {l : Nat} {s r : Int32} : leN N l s r 4 = N 4 + nI 1 := by
  unfold leN
  rw [upN_ne _ _ _ (by omega), upN_ne _ _ _ (by omega), upN_ne _ _ _ (by omega), upN_ne _ _ _ (by omega), upN_eq]
theorem MK3.next {N : NA} {l : Nat} {s r : Int32} (H : MK3 N l) : MK3 (leN N l s r) (l + 1) := by
  obtain ⟨h3, h4, hs⟩ := H
  exact ⟨by rw [le_lo (by decide) (by decide), h3], by rw [le_4, h4, nI_add], fun j hj => by rw [le_lo (by omega) (by omega)]; exact hs j hj⟩
theorem MK3.to4 {N : NA} (H : MK3 N 14) : MK4 N 0 := ⟨H.1, H.2.1, fun j _ hj => H.2.2 j hj⟩
/-! loadAll, launch, pass -/
theorem la_lo {j nl : Nat} {k : Nat} (hk : k < 88) : ∀ (ls : List Nat) (N : NA), (laF j nl N ls).1 k = N k
  | [], N => rfl
  | l :: ls, N => by
    unfold laF
    split
    · show (laF j nl (ldN N l (nI j)) ls).1 k = N k
      rw [la_lo hk ls]
      unfold ldN
      rw [upN_ne _ _ _ (by omega), upN_ne _ _ _ (by omega)]
    · exact la_lo hk ls N
theorem la_n {j nl : Nat} : ∀ (ls : List Nat) (N : NA), (laF j nl N ls).2 ≤ ls.length
  | [], N => Nat.le_refl _
  | l :: ls, N => by
    unfold laF
    split
    · show (laF j nl (ldN N l (nI j)) ls).2 + 1 ≤ ls.length + 1
      exact Nat.succ_le_succ (la_n ls _)
    · exact Nat.le_trans (la_n ls N) (Nat.le_succ _)
theorem MK4.load {N : NA} {b : Nat} (H : MK4 N b) (hb : b < 4) : ∃ (k : Nat) (M : NA), k ≤ 72 ∧ S_loadAll N (nI b) = .inl (nI k, M) ∧ MK4 M b := by
  obtain ⟨h3, h4, hs⟩ := H
  have hl : nlN N = 14 := by
    unfold nlN
    rw [h4]
    rfl
  refine ⟨(laF b (nlN N) N (WL N (nlN N))).2, (laF b (nlN N) N (WL N (nlN N))).1, ?_, ?_, ?_, ?_, fun j h1 h2 => ?_⟩
  · have h1 := la_n (j := b) (nl := nlN N) (WL N (nlN N)) N
    have h2 := WL_len N (nlN N)
    omega
  · unfold S_loadAll bk
    rw [if_pos (isB_n h3 (by decide) hb), nI_clamp (by omega), if_pos (hs b (Nat.le_refl _) hb)]
  · rw [la_lo (by decide), h3]
  · rw [la_lo (by decide), h4]
  · rw [la_lo (by omega)]
    exact hs j h1 h2
/-- launch answers what it bears, or refuses -/
theorem MK4.launch {N : NA} {b : Nat} (H : MK4 N b) (hb : b < 4) : (∃ (v : Int32) (M : NA), 0 ≤ v ∧ S_launches N (nI b) = .inl (v, M) ∧ MK4 M (b + 1)) ∨ ∃ w, S_launches N (nI b) = .inr (.inl w) := by
  obtain ⟨h3, h4, hs⟩ := H
  have e : S_launches N (nI b) = if 0 ≤ beN N b (nlN N) then .inl (beN N b (nlN N), upN N (22 + 11 * b + 5) (nI 1)) else .inr (.inl (nI 9, -(beN N b (nlN N)))) := by
    unfold S_launches bk
    rw [if_pos (isB_n h3 (by decide) hb), nI_clamp (by omega), if_pos (hs b (Nat.le_refl _) hb)]
  rw [e]
  by_cases h : 0 ≤ beN N b (nlN N)
  · refine Or.inl ⟨_, _, h, if_pos h, ?_, ?_, fun j h1 h2 => ?_⟩
    · rw [upN_ne _ _ _ (by omega), h3]
    · rw [upN_ne _ _ _ (by omega), h4]
    · rw [upN_ne _ _ _ (by omega)]
      exact hs j (by omega) h2
  · exact Or.inr ⟨_, if_neg h⟩
theorem MK4.weak {N : NA} {b : Nat} (H : MK4 N b) : MK4 N (b + 1) := ⟨H.1, H.2.1, fun j h1 h2 => H.2.2 j (by omega) h2⟩
/-- hours go by -/
theorem s_pass {N : NA} (hI : IN N) {h : Nat} (h1 : 1 ≤ h) (h2 : h ≤ 48) : ∃ (k : Nat) (M : NA), k ≤ 300 ∧ S_passes N (nI h) = .inl (nI k, M) ∧ IN M ∧ M 3 = N 3 ∧ M 4 = N 4 := by
  obtain ⟨i1, i2, i3, m, hm, em⟩ := ps_ok hI h
  refine ⟨m, (psL N (nbN N) (nlN N) h).1, by omega, ?_, i1, ?_, ?_⟩
  · unfold S_passes
    rw [if_pos ⟨nI_le h1 (by omega), nI_le h2 (by decide)⟩, nI_clamp (by omega)]
    show Sum.inl ((psL N (nbN N) (nlN N) h).2, _) = _
    rw [em]
    rfl
  · exact psL_lo N _ _ (by decide) (by decide) (by decide) (by decide) (by decide) h
  · exact psL_lo N _ _ (by decide) (by decide) (by decide) (by decide) (by decide) h
