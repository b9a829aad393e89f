def NF (v : Int32) : Prop := v ≠ (-101 : Int32) ∧ v ≠ (-102 : Int32) ∧ v ≠ (-103 : Int32)
theorem NF.ge {v : Int32} (h : (-100 : Int32) ≤ v) : NF v := by
  refine ⟨?_, ?_, ?_⟩ <;> (intro e; subst e; exact absurd h (by decide))
theorem NF.n {k : Nat} (h : k < 2 ^ 31) : NF (nI k) := NF.ge (by
  rw [Int32.le_iff_toInt_le, nI_toInt h]
  have : ((-100 : Int32)).toInt = -100 := by decide
  omega)
theorem NF.p {v : Int32} (h : 0 ≤ v) : NF v := NF.ge (by
  rw [Int32.le_iff_toInt_le] at h ⊢
  have h1 : ((-100 : Int32)).toInt = -100 := by decide
  have h2 : ((0 : Int32)).toInt = 0 := by decide
  omega)
def hv (N : NA) (j : Nat) : Int32 := if N (22 + 11 * j + 5) = 0 ∨ N (22 + 11 * j + 5) = nI 1 then N (22 + 11 * j + 2) else 0
theorem heN_s (N : NA) (n : Nat) : heN N (n + 1) = heN N n + hv N n := by
  show ite _ _ _ = _
  unfold hv
  split
  · rfl
  · exact (Int32.add_zero _).symm
theorem hv_congr {N M : NA} {j : Nat} (h2 : M (22 + 11 * j + 2) = N (22 + 11 * j + 2)) (h5 : M (22 + 11 * j + 5) = N (22 + 11 * j + 5)) : hv M j = hv N j := by
  unfold hv
  rw [h2, h5]
theorem heN_congr {N M : NA} : ∀ n, (∀ j, j < n → hv M j = hv N j) → heN M n = heN N n
  | 0, _ => rfl
  | n + 1, h => by rw [heN_s, heN_s, heN_congr n (fun j hj => h j (by omega)), h n (by omega)]
theorem heN_row {N M : NA} {j : Nat} : ∀ n, j < n → (∀ i, i < n → i ≠ j → hv M i = hv N i) → heN M n + hv N j = heN N n + hv M j
  | 0, h, _ => absurd h (by omega)
  | n + 1, h, hr => by
    rw [heN_s, heN_s]
    by_cases e : n = j
    · subst e
      rw [heN_congr n (fun i hi => hr i (by omega) (by omega)), Int32.add_assoc, Int32.add_assoc, Int32.add_comm (hv M n)]
    · have ih := heN_row (N := N) (M := M) (j := j) n (by omega) (fun i hi hne => hr i (by omega) hne)
      rw [hr n (by omega) e, Int32.add_assoc, Int32.add_comm (hv N n), ← Int32.add_assoc, ih, Int32.add_assoc, Int32.add_comm (hv M j), ← Int32.add_assoc]
theorem IB.congr {N M : NA} {j : Nat} (h : IB N j) (hM : ∀ w, w < 6 → M (22 + 11 * j + w) = N (22 + 11 * j + w)) : IB M j := by
  unfold IB
  rw [hM 0 (by decide), hM 1 (by decide), hM 2 (by decide), hM 3 (by decide), hM 4 (by decide), hM 5 (by decide)]
  exact h
theorem LtS.congr {N M : NA} {l : Nat} (h : LtS N l) (h3 : nbN M = nbN N) (h2 : M (88 + 4 * l + 2) = N (88 + 4 * l + 2)) (hb : M (88 + 4 * l + 3) = N (88 + 4 * l + 3)) (hst : ∀ j, j < nbN N → lst (M (22 + 11 * j + 5)) = lst (N (22 + 11 * j + 5))) : LtS M l := by
  unfold LtS
  rw [h3, h2, hb]
  rcases h with h | ⟨j, hj, e1, e2⟩
  · exact Or.inl h
  · exact Or.inr ⟨j, hj, e1, by rw [hst j hj]; exact e2⟩
theorem IL.congr {N M : NA} {l : Nat} (h : IL N l) (h3 : nbN M = nbN N) (hM : ∀ k, 88 ≤ k → M k = N k) (hst : ∀ j, j < nbN N → lst (M (22 + 11 * j + 5)) = lst (N (22 + 11 * j + 5))) : IL M l := by
  refine ⟨?_, ?_, h.2.2.congr h3 (hM _ (by omega)) (hM _ (by omega)) hst⟩
  · rw [hM _ (by omega)]
    exact h.1
  · rw [hM _ (by omega)]
    exact h.2.1
/-- row j and the sums change -/
theorem IN.row {N M : NA} (h : IN N) {j : Nat} (hj : j < nbN N) (hs : ∀ k, 10 ≤ k → ¬ (22 + 11 * j ≤ k ∧ k < 22 + 11 * j + 11) → M k = N k) (h3 : M 3 = N 3) (h4 : M 4 = N 4) (h1 : M 1 = N 1) (p2 : ∃ g : Nat, g ≤ 9999 ∧ M 2 = nI g) (hb : IB M j) (hst : lst (M (22 + 11 * j + 5)) = lst (N (22 + 11 * j + 5))) (led : M 5 = M 6 + M 7 + M 8 + heN M (nbN N)) : IN M := by
  obtain ⟨hC, e3, e4⟩ := h.cn.of h3 h4
  have hn := h.cn.1
  refine ⟨hC, ?_, p2, fun k hk => ?_, fun i hi => ?_, fun l hl => ?_, ?_⟩
  · rw [h1]
    exact h.2.1
  · rw [hs _ (by omega) (by omega), hs _ (by omega) (by omega)]
    exact h.2.2.2.1 k hk
  · rw [e3] at hi
    by_cases e : i = j
    · subst e
      exact hb
    · exact (h.b hi).congr (fun w hw => hs _ (by omega) (by omega))
  · rw [e4] at hl
    refine (h.l hl).congr e3 (fun k hk => hs k (by omega) (by omega)) (fun i hi => ?_)
    by_cases e : i = j
    · subst e
      exact hst
    · rw [hs _ (by omega) (by omega)]
  · rw [e3]
    exact led
theorem IN.led {N : NA} (h : IN N) : N 5 = N 6 + N 7 + N 8 + heN N (nbN N) := h.2.2.2.2.2.2
/-- only the town's numbers below 22 change, but not the counts -/
theorem IN.low {N M : NA} (h : IN N) (hs : ∀ k, 22 ≤ k → M k = N k) (h3 : M 3 = N 3) (h4 : M 4 = N 4) (p1 : ∃ r : Nat, 1 ≤ r ∧ r ≤ 15 ∧ M 1 = nI r) (p2 : ∃ g : Nat, g ≤ 9999 ∧ M 2 = nI g) (pw : ∀ h, h < 6 → ((-3 : Int32) ≤ M (10 + 2 * h) ∧ M (10 + 2 * h) ≤ nI 3) ∧ ((-3 : Int32) ≤ M (10 + 2 * h + 1) ∧ M (10 + 2 * h + 1) ≤ nI 3)) (h5 : M 5 = N 5) (h6 : M 6 = N 6) (h7 : M 7 = N 7) (h8 : M 8 = N 8) : IN M := by
  obtain ⟨hC, e3, e4⟩ := h.cn.of h3 h4
  refine ⟨hC, p1, p2, pw, fun i hi => ?_, fun l hl => ?_, ?_⟩
  · rw [e3] at hi
    exact (h.b hi).congr (fun w hw => hs _ (by omega))
  · rw [e4] at hl
    exact (h.l hl).congr e3 (fun k hk => hs k (by omega)) (fun i hi => by rw [hs _ (by omega)])
  · rw [e3, h5, h6, h7, h8, heN_congr _ (fun j _ => hv_congr (hs _ (by omega)) (hs _ (by omega)))]
    exact h.led
def OkS (r : OR) : Prop := ∀ q, r = .inl q → IN q.2 ∧ NF q.1
theorem OkS.no {x : (Int32 × Int32) ⊕ Nat} : OkS (.inr x) := fun q h => (by cases h)
theorem OkS.mk {v : Int32} {M : NA} (h : IN M) (hv : NF v) : OkS (.inl (v, M)) := fun q e => (by cases e; exact ⟨h, hv⟩)
theorem in3 {x : Int32} (h : (-3 : Int32) ≤ x ∧ x ≤ nI 3) : x = (-3 : Int32) ∨ x = (-2 : Int32) ∨ x = (-1 : Int32) ∨ x = nI 0 ∨ x = nI 1 ∨ x = nI 2 ∨ x = nI 3 := by
  obtain ⟨h1, h2⟩ := h
  rw [Int32.le_iff_toInt_le] at h1 h2
  have e1 : ((-3 : Int32)).toInt = -3 := by decide
  have e2 : (nI 3).toInt = 3 := by decide
  rw [e1] at h1
  rw [e2] at h2
  have hx : ∀ y : Int32, x.toInt = y.toInt → x = y := fun y q => Int32.toInt_inj.mp q
  rcases (show x.toInt = -3 ∨ x.toInt = -2 ∨ x.toInt = -1 ∨ x.toInt = 0 ∨ x.toInt = 1 ∨ x.toInt = 2 ∨ x.toInt = 3 by omega) with q | q | q | q | q | q | q
  · exact Or.inl (hx _ (q.trans (by decide)))
  · exact Or.inr (Or.inl (hx _ (q.trans (by decide))))
  · exact Or.inr (Or.inr (Or.inl (hx _ (q.trans (by decide)))))
  · exact Or.inr (Or.inr (Or.inr (Or.inl (hx _ (q.trans (by decide))))))
  · exact Or.inr (Or.inr (Or.inr (Or.inr (Or.inl (hx _ (q.trans (by decide)))))))
  · exact Or.inr (Or.inr (Or.inr (Or.inr (Or.inr (Or.inl (hx _ (q.trans (by decide))))))))
  · exact Or.inr (Or.inr (Or.inr (Or.inr (Or.inr (Or.inr (hx _ (q.trans (by decide))))))))
theorem ok_ring {N : NA} (h : IN N) (r : Int32) : OkS (S_ring N r) := by
  unfold S_ring
  split
  · rename_i hr
    obtain ⟨m, hm1, hm, rfl⟩ := in1_of (by decide) (by decide) hr
    obtain ⟨r0, q1, q2, e⟩ := h.2.1
    refine OkS.mk (h.low (fun k hk => upN_ne _ _ _ (by omega)) (upN_ne _ _ _ (by decide)) (upN_ne _ _ _ (by decide)) ⟨m, hm1, hm, upN_eq _ _ _⟩ (by rw [upN_ne _ _ _ (by decide)]; exact h.2.2.1) (fun k hk => by rw [upN_ne _ _ _ (by omega), upN_ne _ _ _ (by omega)]; exact h.2.2.2.1 k hk) (upN_ne _ _ _ (by decide)) (upN_ne _ _ _ (by decide)) (upN_ne _ _ _ (by decide)) (upN_ne _ _ _ (by decide))) ?_
    rw [e]
    exact NF.n (by omega)
  · exact OkS.no
theorem ok_gas {N : NA} (h : IN N) (a : Int32) : OkS (S_gas N a) := by
  unfold S_gas
  split
  · rename_i hr
    obtain ⟨m, hm1, hm, rfl⟩ := in1_of (by decide) (by decide) hr
    obtain ⟨g, q2, e⟩ := h.2.2.1
    have e2 : ∃ g2 : Nat, g2 ≤ 9999 ∧ mn (nI 9999) (N 2 + nI m) = nI g2 := by
      rw [e, nI_add]
      unfold mn
      split
      · rename_i q
        rw [nI_ltI (by omega) (by decide)] at q
        exact ⟨g + m, by omega, rfl⟩
      · exact ⟨9999, by omega, rfl⟩
    obtain ⟨g2, hg2, e3⟩ := e2
    rw [e3]
    exact OkS.mk (h.low (fun k hk => upN_ne _ _ _ (by omega)) (upN_ne _ _ _ (by decide)) (upN_ne _ _ _ (by decide)) (by rw [upN_ne _ _ _ (by decide)]; exact h.2.1) ⟨g2, hg2, upN_eq _ _ _⟩ (fun k hk => by rw [upN_ne _ _ _ (by omega), upN_ne _ _ _ (by omega)]; exact h.2.2.2.1 k hk) (upN_ne _ _ _ (by decide)) (upN_ne _ _ _ (by decide)) (upN_ne _ _ _ (by decide)) (upN_ne _ _ _ (by decide))) (NF.n (by omega))
  · exact OkS.no
theorem ok_blows {N : NA} (h : IN N) (a x y : Int32) : OkS (S_blows N a x y) := by
  unfold S_blows
  split
  · rename_i hr
    split
    · rename_i hx
      split
      · rename_i hy
        obtain ⟨m, hm, rfl⟩ := in_of (m := 5) (by decide) hr
        rw [nI_clamp (show m < 2 ^ 31 by omega)]
        refine OkS.mk (h.low (fun k hk => ?_) ?_ ?_ ?_ ?_ (fun k hk => ?_) ?_ ?_ ?_ ?_) ?_
        · rw [upN_ne _ _ _ (by omega), upN_ne _ _ _ (by omega)]
        · rw [upN_ne _ _ _ (by omega), upN_ne _ _ _ (by omega)]
        · rw [upN_ne _ _ _ (by omega), upN_ne _ _ _ (by omega)]
        · rw [upN_ne _ _ _ (by omega), upN_ne _ _ _ (by omega)]
          exact h.2.1
        · rw [upN_ne _ _ _ (by omega), upN_ne _ _ _ (by omega)]
          exact h.2.2.1
        · by_cases e : k = m
          · subst e
            rw [upN_ne _ _ _ (by omega), upN_eq, upN_eq]
            exact ⟨hx, hy⟩
          · rw [upN_ne _ _ _ (by omega), upN_ne _ _ _ (by omega), upN_ne _ _ _ (by omega), upN_ne _ _ _ (by omega)]
            exact h.2.2.2.1 k hk
        · rw [upN_ne _ _ _ (by omega), upN_ne _ _ _ (by omega)]
        · rw [upN_ne _ _ _ (by omega), upN_ne _ _ _ (by omega)]
        · rw [upN_ne _ _ _ (by omega), upN_ne _ _ _ (by omega)]
        · rw [upN_ne _ _ _ (by omega), upN_ne _ _ _ (by omega)]
        · have hw := h.2.2.2.1 m (by omega)
          rcases in3 hw.1 with e | e | e | e | e | e | e <;> rcases in3 hw.2 with e2 | e2 | e2 | e2 | e2 | e2 | e2 <;> (rw [e, e2]; unfold NF; decide)
      · exact OkS.no
    · exact OkS.no
  · exact OkS.no
theorem IN.isB {N : NA} (h : IN N) {b : Int32} (hb : isBN N b) : ∃ j, j < nbN N ∧ b = nI j := isB_of h.cn.1 h.cn.2.1 hb
theorem sub_le {a b : Nat} (ha : a < 2 ^ 30) (hb : b < 2 ^ 30) {x : Nat} (hx : x < 2 ^ 30) (h : nI x ≤ nI a - nI b) : x + b ≤ a := by
  rw [Int32.le_iff_toInt_le, pk_sub_toInt ha hb, nI_toInt (by omega)] at h
  omega
theorem ok_fills {N : NA} (h : IN N) (b a : Int32) : OkS (S_fills N b a) := by
  have hn := h.cn.1
  unfold S_fills
  split
  · rename_i hb
    obtain ⟨j, hj, rfl⟩ := h.isB hb
    split
    · rename_i hr
      obtain ⟨m, hm1, hm, rfl⟩ := in1_of (by decide) (by decide) hr
      unfold bk
      rw [nI_clamp (show j < 2 ^ 31 by omega)]
      split
      · rename_i h5
        split
        · rename_i h2
          split
          · rename_i h0
            obtain ⟨⟨s, f, hs1, hs2, hf, es, ef⟩, hsand, hcrew, hst⟩ := h.b hj
            obtain ⟨g, hg, eg⟩ := h.2.2.1
            rw [es, ef] at h0
            have hle := sub_le (by omega) (by omega) (by omega) h0
            rw [eg, nI_leI (by omega) (by omega)] at h2
            have eM : ∀ k, k ≠ 2 → k ≠ 22 + 11 * j + 1 → upN (upN N 2 (N 2 - nI m)) (22 + 11 * j + 1) (N (22 + 11 * j + 1) + nI m) k = N k := fun k q1 q2 => by rw [upN_ne _ _ _ q2, upN_ne _ _ _ q1]
            refine OkS.mk (h.row hj (fun k q1 q2 => eM k (by omega) (by omega)) (eM _ (by decide) (by omega)) (eM _ (by decide) (by omega)) (eM _ (by decide) (by omega)) ⟨g - m, by omega, ?_⟩ ⟨⟨s, f + m, hs1, hs2, by omega, ?_, ?_⟩, ?_, ?_, ?_⟩ ?_ ?_) ?_
            · rw [upN_ne _ _ _ (by omega), upN_eq, eg, pk_sub h2]
            · rw [eM _ (by omega) (by omega)]
              exact es
            · rw [upN_eq, ef, nI_add]
            · rw [eM _ (by omega) (by omega)]
              exact hsand
            · rw [eM _ (by omega) (by omega), eM _ (by omega) (by omega)]
              exact hcrew
            · rw [eM _ (by omega) (by omega)]
              exact hst
            · rw [eM _ (by omega) (by omega)]
            · rw [eM _ (by omega) (by omega), eM _ (by omega) (by omega), eM _ (by omega) (by omega), eM _ (by omega) (by omega), heN_congr _ (fun i _ => hv_congr (eM _ (by omega) (by omega)) (eM _ (by omega) (by omega)))]
              exact h.led
            · rw [ef, nI_add]
              exact NF.n (by omega)
          · exact OkS.no
        · exact OkS.no
      · exact OkS.no
    · exact OkS.no
  · exact OkS.no
theorem hv_t {N : NA} {j : Nat} (h : N (22 + 11 * j + 5) = 0 ∨ N (22 + 11 * j + 5) = nI 1) : hv N j = N (22 + 11 * j + 2) := if_pos h
theorem hv_f {N : NA} {j : Nat} (h : ¬ (N (22 + 11 * j + 5) = 0 ∨ N (22 + 11 * j + 5) = nI 1)) : hv N j = 0 := if_neg h
theorem add_cR {x y z : Int32} (h : x + z = y + z) : x = y := by
  have := congrArg (· - z) h
  simpa [Int32.add_sub_cancel] using this
theorem lay_led {a b c d x y e m : Int32} (h : a = b + c + d + x) (hr : y + e = x + (e + m)) : a + m = b + c + d + y := by
  have h1 : y = x + m := add_cR (z := e) (by
    rw [hr, Int32.add_comm e, Int32.add_assoc])
  rw [h1, h, Int32.add_assoc]
theorem ok_lays {N : NA} (h : IN N) (b a : Int32) : OkS (S_lays N b a) := by
  have hn := h.cn.1
  unfold S_lays
  split
  · rename_i hb
    obtain ⟨j, hj, rfl⟩ := h.isB hb
    split
    · rename_i hr
      obtain ⟨m, hm1, hm, rfl⟩ := in1_of (by decide) (by decide) hr
      unfold bk
      rw [nI_clamp (show j < 2 ^ 31 by omega)]
      split
      · rename_i h5
        split
        · rename_i h2
          obtain ⟨hsf, ⟨a, ha, ea⟩, hcrew, hst⟩ := h.b hj
          rw [ea] at h2
          have hle := sub_le (by omega) (by omega) (by omega) h2
          have eM : ∀ k, k ≠ 5 → k ≠ 22 + 11 * j + 2 → upN (upN N (22 + 11 * j + 2) (N (22 + 11 * j + 2) + nI m)) 5 (N 5 + nI m) k = N k := fun k q1 q2 => by rw [upN_ne _ _ _ q1, upN_ne _ _ _ q2]
          have e2 : upN (upN N (22 + 11 * j + 2) (N (22 + 11 * j + 2) + nI m)) 5 (N 5 + nI m) (22 + 11 * j + 2) = N (22 + 11 * j + 2) + nI m := by rw [upN_ne _ _ _ (by omega), upN_eq]
          refine OkS.mk (h.row hj (fun k q1 q2 => eM k (by omega) (by omega)) (eM _ (by decide) (by omega)) (eM _ (by decide) (by omega)) (eM _ (by decide) (by omega)) ?_ ⟨?_, ⟨a + m, by omega, ?_⟩, ?_, ?_⟩ ?_ ?_) ?_
          · rw [eM _ (by omega) (by omega)]
            exact h.2.2.1
          · rw [eM _ (by omega) (by omega), eM _ (by omega) (by omega)]
            exact hsf
          · rw [e2, ea, nI_add]
          · rw [eM _ (by omega) (by omega), eM _ (by omega) (by omega)]
            exact hcrew
          · rw [eM _ (by omega) (by omega)]
            exact hst
          · rw [eM _ (by omega) (by omega)]
          · have hr := heN_row (N := N) (M := upN (upN N (22 + 11 * j + 2) (N (22 + 11 * j + 2) + nI m)) 5 (N 5 + nI m)) (nbN N) hj (fun i _ hne => hv_congr (eM _ (by omega) (by omega)) (eM _ (by omega) (by omega)))
            rw [hv_t (Or.inl h5), hv_t (Or.inl (by rw [eM _ (by omega) (by omega)]; exact h5)), e2] at hr
            rw [upN_eq, eM _ (by omega) (by omega), eM _ (by omega) (by omega), eM _ (by omega) (by omega)]
            exact lay_led h.led hr
          · rw [ea, nI_add]
            exact NF.n (by omega)
        · exact OkS.no
      · exact OkS.no
    · exact OkS.no
  · exact OkS.no
theorem drop_led {a b c d x y e m : Int32} (h : a = b + c + d + x) (hr : y + e = x + (e - m)) : a = b + m + c + d + y := by
  have h1 : y = x - m := add_cR (z := e) (by
    rw [hr, Int32.sub_eq_add_neg, Int32.sub_eq_add_neg, Int32.add_assoc, Int32.add_comm e])
  rw [h1, h, Int32.sub_eq_add_neg]
  have h2 : b + m + c + d + (x + -m) = b + c + d + x + (m + -m) := by
    ac_rfl
  rw [h2, Int32.add_right_neg, Int32.add_zero]
theorem ok_drops {N : NA} (h : IN N) (b a : Int32) : OkS (S_drops N b a) := by
  have hn := h.cn.1
  unfold S_drops
  split
  · rename_i hb
    obtain ⟨j, hj, rfl⟩ := h.isB hb
    split
    · rename_i hr
      obtain ⟨m, hm1, hm, rfl⟩ := in1_of (by decide) (by decide) hr
      unfold bk
      rw [nI_clamp (show j < 2 ^ 31 by omega)]
      split
      · rename_i h5
        split
        · rename_i h2
          obtain ⟨hsf, ⟨a, ha, ea⟩, hcrew, hst⟩ := h.b hj
          rw [ea, nI_leI (by omega) (by omega)] at h2
          have eM : ∀ k, k ≠ 6 → k ≠ 22 + 11 * j + 2 → upN (upN N (22 + 11 * j + 2) (N (22 + 11 * j + 2) - nI m)) 6 (N 6 + nI m) k = N k := fun k q1 q2 => by rw [upN_ne _ _ _ q1, upN_ne _ _ _ q2]
          have e2 : upN (upN N (22 + 11 * j + 2) (N (22 + 11 * j + 2) - nI m)) 6 (N 6 + nI m) (22 + 11 * j + 2) = N (22 + 11 * j + 2) - nI m := by rw [upN_ne _ _ _ (by omega), upN_eq]
          refine OkS.mk (h.row hj (fun k q1 q2 => eM k (by omega) (by omega)) (eM _ (by decide) (by omega)) (eM _ (by decide) (by omega)) (eM _ (by decide) (by omega)) ?_ ⟨?_, ⟨a - m, by omega, ?_⟩, ?_, ?_⟩ ?_ ?_) ?_
          · rw [eM _ (by omega) (by omega)]
            exact h.2.2.1
          · rw [eM _ (by omega) (by omega), eM _ (by omega) (by omega)]
            exact hsf
          · rw [e2, ea, pk_sub h2]
          · rw [eM _ (by omega) (by omega), eM _ (by omega) (by omega)]
            exact hcrew
          · rw [eM _ (by omega) (by omega)]
            exact hst
          · rw [eM _ (by omega) (by omega)]
          · have hr := heN_row (N := N) (M := upN (upN N (22 + 11 * j + 2) (N (22 + 11 * j + 2) - nI m)) 6 (N 6 + nI m)) (nbN N) hj (fun i _ hne => hv_congr (eM _ (by omega) (by omega)) (eM _ (by omega) (by omega)))
            rw [hv_t (Or.inr h5), hv_t (Or.inr (by rw [eM _ (by omega) (by omega)]; exact h5)), e2] at hr
            rw [upN_eq, eM _ (by omega) (by omega), eM _ (by omega) (by omega), eM _ (by omega) (by omega)]
            exact drop_led h.led hr
          · rw [ea, pk_sub h2]
            exact NF.n (by omega)
        · exact OkS.no
      · exact OkS.no
    · exact OkS.no
  · exact OkS.no
theorem ok_courier {N : NA} (h : IN N) (b a : Int32) : OkS (S_courier N b a) := by
  have hn := h.cn.1
  unfold S_courier
  split
  · rename_i hb
    obtain ⟨j, hj, rfl⟩ := h.isB hb
    split
    · rename_i hr
      obtain ⟨m, hm1, hm, rfl⟩ := in1_of (by decide) (by decide) hr
      unfold bk
      rw [nI_clamp (show j < 2 ^ 31 by omega)]
      split
      · rename_i h5
        split
        · exact OkS.no
        · rename_i h2
          obtain ⟨hsf, hsand, ⟨k, w, hk, hw, ek, ew⟩, hst⟩ := h.b hj
          have hk2 : k ≠ 2 := fun q => h2 (by rw [ek, q])
          have eM : ∀ k, k ≠ 22 + 11 * j + 3 → k ≠ 22 + 11 * j + 4 → upN (upN N (22 + 11 * j + 3) (N (22 + 11 * j + 3) + nI 1)) (22 + 11 * j + 4) (N (22 + 11 * j + 4) + nI m) k = N k := fun k q1 q2 => by rw [upN_ne _ _ _ q2, upN_ne _ _ _ q1]
          refine OkS.mk (h.row hj (fun k q1 q2 => eM k (by omega) (by omega)) (eM _ (by omega) (by omega)) (eM _ (by omega) (by omega)) (eM _ (by omega) (by omega)) ?_ ⟨?_, ?_, ⟨k + 1, w + m, by omega, by omega, ?_, ?_⟩, ?_⟩ ?_ ?_) ?_
          · rw [eM _ (by omega) (by omega)]
            exact h.2.2.1
          · rw [eM _ (by omega) (by omega), eM _ (by omega) (by omega)]
            exact hsf
          · rw [eM _ (by omega) (by omega)]
            exact hsand
          · rw [upN_ne _ _ _ (by omega), upN_eq, ek, nI_add]
          · rw [upN_eq, ew, nI_add]
          · rw [eM _ (by omega) (by omega)]
            exact hst
          · rw [eM _ (by omega) (by omega)]
          · rw [eM _ (by omega) (by omega), eM _ (by omega) (by omega), eM _ (by omega) (by omega), eM _ (by omega) (by omega), heN_congr _ (fun i _ => hv_congr (eM _ (by omega) (by omega)) (eM _ (by omega) (by omega)))]
            exact h.led
          · rw [ek, nI_add]
            exact NF.n (by omega)
      · exact OkS.no
    · exact OkS.no
  · exact OkS.no
theorem ok_launches {N : NA} (h : IN N) (b : Int32) : OkS (S_launches N b) := by
  have hn := h.cn.1
  unfold S_launches
  split
  · rename_i hb
    obtain ⟨j, hj, rfl⟩ := h.isB hb
    unfold bk
    rw [nI_clamp (show j < 2 ^ 31 by omega)]
    split
    · rename_i h5
      split
      · rename_i h2
        obtain ⟨hsf, hsand, hcrew, hst⟩ := h.b hj
        have eM : ∀ k, k ≠ 22 + 11 * j + 5 → upN N (22 + 11 * j + 5) (nI 1) k = N k := fun k q1 => upN_ne _ _ _ q1
        refine OkS.mk (h.row hj (fun k q1 q2 => eM k (by omega)) (eM _ (by omega)) (eM _ (by omega)) (eM _ (by omega)) ?_ ⟨?_, ?_, ?_, 1, by decide, upN_eq _ _ _⟩ ?_ ?_) (NF.p h2)
        · rw [eM _ (by omega)]
          exact h.2.2.1
        · rw [eM _ (by omega), eM _ (by omega)]
          exact hsf
        · rw [eM _ (by omega)]
          exact hsand
        · rw [eM _ (by omega), eM _ (by omega)]
          exact hcrew
        · rw [upN_eq, h5]
          decide
        · rw [eM _ (by omega), eM _ (by omega), eM _ (by omega), eM _ (by omega), heN_congr (N := N) _ (fun i _ => ?_)]
          · exact h.led
          · by_cases e : i = j
            · subst e
              rw [hv_t (Or.inr (upN_eq _ _ _)), hv_t (Or.inl h5), eM _ (by omega)]
            · exact hv_congr (eM _ (by omega)) (eM _ (by omega))
      · exact OkS.no
    · exact OkS.no
  · exact OkS.no
/-- the letters' sheets in a balloon -/
theorem sh_le {N : NA} (h : IN N) (b : Int32) : ∀ n, n ≤ nlN N → ∃ S : Nat, S ≤ 9 * n ∧ shN N b n = nI S
  | 0, _ => ⟨0, Nat.le_refl _, rfl⟩
  | n + 1, hn => by
    obtain ⟨S, hS, e⟩ := sh_le h b n (by omega)
    obtain ⟨s, hs1, hs9, es⟩ := (h.l (l := n) (by omega)).1
    by_cases q : 0 < N (88 + 4 * n + 2) ∧ N (88 + 4 * n + 3) = b
    · exact ⟨S + s, by omega, by rw [shN_t q, e, es, nI_add]⟩
    · exact ⟨S, by omega, by rw [shN_f q, e]⟩
theorem wg_le {N : NA} (h : IN N) {j : Nat} (hj : j < nbN N) : ∃ w : Nat, 1 ≤ w ∧ w ≤ 200 ∧ wgN N j (nlN N) = nI w := by
  obtain ⟨S, hS, e⟩ := sh_le h (nI j) (nlN N) (Nat.le_refl _)
  have h24 := h.cn.2.2.1
  obtain ⟨⟨s, f, hs1, hs2, hf, es, ef⟩, ⟨a, ha, ea⟩, ⟨k, w, hk, hw, ek, ew⟩, hst⟩ := h.b hj
  refine ⟨(s + 9) / 10 + a + w + (S + 2) / 3, by omega, by omega, ?_⟩
  unfold wgN
  rw [es, ea, ew, e, nI_add, nI_add, pk_div (by omega) (by decide) (by decide), pk_div (by omega) (by decide) (by decide), nI_add, nI_add, nI_add]
theorem ld_nb (N : NA) (l : Nat) (b : Int32) : nbN (ldN N l b) = nbN N := by unfold nbN; rw [ldN_o _ _ _ (by omega) (by omega)]
theorem ld_nl (N : NA) (l : Nat) (b : Int32) : nlN (ldN N l b) = nlN N := by unfold nlN; rw [ldN_o _ _ _ (by omega) (by omega)]
theorem IN.ld {N : NA} (h : IN N) {l j : Nat} (hl : l < nlN N) (hj : j < nbN N) (h5 : N (22 + 11 * j + 5) = 0) : IN (ldN N l (nI j)) := by
  have hn := h.cn.1
  have eM : ∀ k, k < 88 → ldN N l (nI j) k = N k := fun k hk => ldN_o _ _ _ (by omega) (by omega)
  obtain ⟨hC, e3, e4⟩ := h.cn.of (eM 3 (by decide)) (eM 4 (by decide))
  refine ⟨hC, ?_, ?_, fun k hk => ?_, fun i hi => ?_, fun i hi => ?_, ?_⟩
  · rw [eM _ (by decide)]
    exact h.2.1
  · rw [eM _ (by decide)]
    exact h.2.2.1
  · rw [eM _ (by omega), eM _ (by omega)]
    exact h.2.2.2.1 k hk
  · rw [e3] at hi
    exact (h.b hi).congr (fun w hw => eM _ (by omega))
  · rw [e4] at hi
    have hi2 := h.l hi
    refine ⟨?_, ?_, ?_⟩
    · rw [ldN_o _ _ _ (by omega) (by omega)]
      exact hi2.1
    · rw [ldN_o _ _ _ (by omega) (by omega)]
      exact hi2.2.1
    · by_cases e : i = l
      · subst e
        refine Or.inr ⟨j, by rw [e3]; exact hj, ldN_3 _ _ _, ?_⟩
        rw [ldN_2, eM _ (by omega), h5]
        decide
      · exact hi2.2.2.congr e3 (ldN_o _ _ _ (by omega) (by omega)) (ldN_o _ _ _ (by omega) (by omega)) (fun q hq => by rw [eM _ (by omega)])
  · rw [e3, eM _ (by decide), eM _ (by decide), eM _ (by decide), eM _ (by decide), heN_congr (N := N) _ (fun i hi => hv_congr (eM _ (by omega)) (eM _ (by omega)))]
    exact h.led
theorem ok_loads {N : NA} (h : IN N) (a b : Int32) : OkS (S_loads N a b) := by
  have hn := h.cn.1
  have hn2 := h.cn.2.2.1
  unfold S_loads
  split
  · rename_i ha
    obtain ⟨l, hl, rfl⟩ := isL_of h.cn.2.2.1 h.cn.2.2.2 ha
    split
    · rename_i hb
      obtain ⟨j, hj, rfl⟩ := h.isB hb
      unfold bk lk
      rw [nI_clamp (show j < 2 ^ 31 by omega), nI_clamp (show l < 2 ^ 31 by omega)]
      split
      · rename_i h2
        split
        · rename_i h5
          have hI := h.ld hl hj h5
          obtain ⟨w, hw1, hw, ew⟩ := wg_le hI (j := j) (by rw [ld_nb]; exact hj)
          rw [ld_nl] at ew
          rw [ew]
          exact OkS.mk hI (NF.n (by omega))
        · exact OkS.no
      · exact OkS.no
    · exact OkS.no
  · exact OkS.no
