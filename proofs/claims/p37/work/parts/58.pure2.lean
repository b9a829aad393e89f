/-! what a change answers: not below 0 (the wind's: not below -33) -/
def NNR (b : Int32) (R : OR) : Prop := ∀ q, R = .inl q → b ≤ q.1
theorem NNR.no {b : Int32} {x : (Int32 × Int32) ⊕ Nat} : NNR b (.inr x) := fun q e => by cases e
theorem NNR.mk {b v : Int32} {N : NA} (h : b ≤ v) : NNR b (.inl (v, N)) := fun q e => by cases e; exact h
theorem IN.nb {N : NA} (h : IN N) : N 3 = nI (nbN N) := h.cn.2.1
theorem IN.nl {N : NA} (h : IN N) : N 4 = nI (nlN N) := h.cn.2.2.2
theorem nn_ring {N : NA} (h : IN N) (x : Int32) : NNR 0 (S_ring N x) := by
  obtain ⟨r, -, h2, e⟩ := h.2.1
  unfold S_ring
  split
  · exact NNR.mk (by rw [e]; exact nI_pos' (by omega))
  · exact NNR.no
theorem nn_gas {N : NA} (h : IN N) (a : Int32) : NNR 0 (S_gas N a) := by
  obtain ⟨g, h2, e⟩ := h.2.2.1
  unfold S_gas
  split
  · rename_i q
    obtain ⟨j, hj, hj2, rfl⟩ := in1_of (by decide) (by decide) q
    refine NNR.mk ?_
    unfold mn
    rw [e, nI_add]
    split
    · exact nI_pos' (by omega)
    · decide
  · exact NNR.no
theorem nn_blows {N : NA} (h : IN N) (a x y : Int32) : NNR (-33 : Int32) (S_blows N a x y) := by
  unfold S_blows
  repeat' split
  · rename_i q0 q1 q2
    obtain ⟨j, hj, rfl⟩ := in_of (by decide) q0
    obtain ⟨w1, w2⟩ := h.2.2.2.1 j (by omega)
    rw [nI_clamp (by omega)]
    refine NNR.mk ?_
    rcases in3 w1 with e | e | e | e | e | e | e <;> rcases in3 w2 with e2 | e2 | e2 | e2 | e2 | e2 | e2 <;> rw [e, e2] <;> decide
  all_goals exact NNR.no
theorem nn_balloon {N : NA} (h : IN N) (s : Int32) : NNR 0 (S_balloon N s) := by
  have hn := h.cn.1
  unfold S_balloon
  repeat' split
  · exact NNR.no
  · exact NNR.mk (by rw [h.nb]; exact nI_pos' (by omega))
  · exact NNR.no
theorem nn_fills {N : NA} (h : IN N) (b a : Int32) : NNR 0 (S_fills N b a) := by
  unfold S_fills
  repeat' split
  · rename_i q0 q1 q2 q3 q4
    obtain ⟨j, hj, rfl⟩ := h.isB q0
    have hn := h.cn.1
    obtain ⟨⟨s, f, hs1, hs2, hf, e0, e1⟩, -⟩ := h.b hj
    obtain ⟨x, hx, hx2, rfl⟩ := in1_of (by decide) (by decide) q1
    refine NNR.mk ?_
    unfold bk
    rw [nI_clamp (by omega), e1, nI_add]
    exact nI_pos' (by omega)
  all_goals exact NNR.no
theorem nn_lays {N : NA} (h : IN N) (b a : Int32) : NNR 0 (S_lays N b a) := by
  unfold S_lays
  repeat' split
  · rename_i q0 q1 q2 q3
    obtain ⟨j, hj, rfl⟩ := h.isB q0
    have hn := h.cn.1
    obtain ⟨-, ⟨f, hf, e1⟩, -⟩ := h.b hj
    obtain ⟨x, hx, hx2, rfl⟩ := in1_of (by decide) (by decide) q1
    refine NNR.mk ?_
    unfold bk
    rw [nI_clamp (by omega), e1, nI_add]
    exact nI_pos' (by omega)
  all_goals exact NNR.no
theorem nn_courier {N : NA} (h : IN N) (b a : Int32) : NNR 0 (S_courier N b a) := by
  unfold S_courier
  repeat' split
  · exact NNR.no
  · rename_i q0 q1 q2 q3
    obtain ⟨j, hj, rfl⟩ := h.isB q0
    have hn := h.cn.1
    obtain ⟨-, -, ⟨k, w, hk, hw, e1, e2⟩, -⟩ := h.b hj
    refine NNR.mk ?_
    unfold bk
    rw [nI_clamp (by omega), e1, nI_add]
    exact nI_pos' (by omega)
  all_goals exact NNR.no
theorem nn_letter {N : NA} (h : IN N) (s r : Int32) : NNR 0 (S_letter N s r) := by
  have hn := h.cn.2.2.1
  unfold S_letter
  repeat' split
  · exact NNR.no
  · exact NNR.mk (by rw [h.nl, nI_add, pk_sub (by omega)]; exact nI_pos' (by omega))
  all_goals exact NNR.no
theorem nn_loads {N : NA} (h : IN N) (l b : Int32) : NNR 0 (S_loads N l b) := by
  unfold S_loads
  repeat' split
  · rename_i q0 q1 q2 q3
    obtain ⟨j, hj, rfl⟩ := h.isB q1
    have hn := h.cn.1
    have hn2 := h.cn.2.2.1
    obtain ⟨i, hi, rfl⟩ := isL_of hn2 h.nl q0
    rw [nI_clamp (by omega), nI_clamp (by omega)]
    have q3 : N (22 + 11 * j + 5) = 0 := by
      have := q3
      unfold bk at this
      rwa [nI_clamp (by omega)] at this
    obtain ⟨w, hw1, hw2, e⟩ := wg_le (h.ld hi hj q3) (j := j) (by rw [ld_nb]; exact hj)
    refine NNR.mk ?_
    rw [ld_nl] at e
    rw [e]
    exact nI_pos' (by omega)
  all_goals exact NNR.no
theorem nn_loadAll {N : NA} (h : IN N) (b : Int32) : NNR 0 (S_loadAll N b) := by
  have hn2 := h.cn.2.2.1
  unfold S_loadAll
  repeat' split
  · refine NNR.mk (nI_pos' ?_)
    have h1 := la_n (j := b.toNatClampNeg) (nl := nlN N) (WL N (nlN N)) N
    have h2 := WL_len N (nlN N)
    omega
  all_goals exact NNR.no
theorem nn_launches {N : NA} (b : Int32) : NNR 0 (S_launches N b) := by
  unfold S_launches
  repeat' split
  · rename_i q0 q1 q2
    exact NNR.mk q2
  all_goals exact NNR.no
theorem nn_drops {N : NA} (h : IN N) (b a : Int32) : NNR 0 (S_drops N b a) := by
  unfold S_drops
  repeat' split
  · rename_i q0 q1 q2 q3
    obtain ⟨j, hj, rfl⟩ := h.isB q0
    have hn := h.cn.1
    obtain ⟨-, ⟨f, hf, e1⟩, -⟩ := h.b hj
    obtain ⟨x, hx, hx2, rfl⟩ := in1_of (by decide) (by decide) q1
    unfold bk at q3 ⊢
    rw [nI_clamp (by omega), e1] at q3
    have hle : x ≤ f := (nI_leI (by omega) (by omega)).mp q3
    refine NNR.mk ?_
    rw [nI_clamp (by omega), e1, pk_sub hle]
    exact nI_pos' (by omega)
  all_goals exact NNR.no
theorem nn_passes {N : NA} (h : IN N) (x : Int32) : NNR 0 (S_passes N x) := by
  unfold S_passes
  split
  · rename_i q
    obtain ⟨j, hj1, hj, rfl⟩ := in1_of (by decide) (by decide) q
    rw [nI_clamp (by omega)]
    obtain ⟨-, -, -, m, hm, em⟩ := ps_ok h j
    refine NNR.mk ?_
    show 0 ≤ (psL N (nbN N) (nlN N) j).2
    rw [em]
    exact nI_pos' (by omega)
  · exact NNR.no
/-- how a change ends for who asks only whether it came off -/
def CHR (b : Int32) (A : AS) (r : Int32) (A' : AS) : Prop := A'.2.2.1 = A.2.2.1 ∧ A'.2.2.2.1 = 0 ∧ ((b ≤ r ∧ A'.2.1 = (A.1 :: A.2.1).take 8) ∨ (r < b ∧ A'.1 = A.1 ∧ A'.2.1 = A.2.1))
theorem cdI_lt (j : Nat) : cdI j < (-33 : Int32) ∧ cdI j < (0 : Int32) := by
  match j with
  | 0 => exact ⟨by decide, by decide⟩
  | 1 => exact ⟨by decide, by decide⟩
  | j + 2 => exact ⟨by show (-1003 : Int32) < _; decide, by show (-1003 : Int32) < _; decide⟩
theorem CHR.of {b : Int32} (hb : b = 0 ∨ b = (-33 : Int32)) {A : AS} (h0 : A.2.2.2.1 = 0) {R : OR} {n : Nat} (h1 : NNR b R) (h2 : OK2 R) : CHR b A (hvS (stepC A R (n + 1))) (stepC A R (n + 1)).2.2 := by
  have hlt : ∀ j, cdI j < b := fun j => by
    rcases hb with rfl | rfl
    · exact (cdI_lt j).2
    · exact (cdI_lt j).1
  rcases R with q | q | k
  · exact ⟨rfl, h0, Or.inl ⟨h1 q rfl, rfl⟩⟩
  · exact ⟨rfl, h0, Or.inr ⟨hlt n, rfl, rfl⟩⟩
  · rcases h2.2 k rfl with rfl | rfl
    · exact ⟨rfl, h0, Or.inr ⟨hlt 0, rfl, rfl⟩⟩
    · exact ⟨rfl, h0, Or.inr ⟨hlt 1, rfl, rfl⟩⟩
theorem pSeq_len {T : NA} {n : Nat} : ∀ (f p : Nat) (os : List Ord), (pSeq T n f p).2 = some os → os.length ≤ f
  | 0, p, os, h => by cases h
  | f + 1, p, os, h => by
    unfold pSeq at h
    split at h
    · cases h
    · rename_i o ho
      split at h
      · split at h
        · cases hs : (pSeq T n f ((pOrd T n p).1 + 1)).2 with
          | none =>
            rw [hs] at h
            cases h
          | some os2 =>
            rw [hs] at h
            cases h
            exact Nat.succ_le_succ (pSeq_len f _ os2 hs)
        · cases h
      · cases h
        exact Nat.succ_le_succ (Nat.zero_le _)
theorem CHR.read (A : AS) : CHR 0 A (hvS (stepD A)) (stepD A).2.2 := by
  unfold stepD
  split
  · exact ⟨rfl, rfl, Or.inr ⟨(cdI_lt 0).2, rfl, rfl⟩⟩
  · rename_i os hos
    split
    · exact ⟨rfl, rfl, Or.inl ⟨nI_pos' (by have := pSeq_len _ _ _ hos; omega), rfl⟩⟩
    · exact ⟨rfl, rfl, Or.inr ⟨(cdI_lt 1).2, rfl, rfl⟩⟩
    · exact ⟨rfl, rfl, Or.inr ⟨(cdI_lt 0).2, rfl, rfl⟩⟩
/-! refused: what is asked for in vain, where four balloons and fourteen letters stand -/
def R44 (N : NA) : Prop := N 3 = nI 4 ∧ N 4 = nI 14
theorem R44.nl {N : NA} (h : R44 N) : nlN N = 14 := by
  unfold nlN
  rw [h.2]
  rfl
theorem isB44 {N : NA} (h : R44 N) : ¬ isBN N (nI 4) ∧ ¬ isBN N (-1 : Int32) ∧ isBN N (nI 0) := by
  unfold isBN
  rw [h.1]
  decide
theorem isL44 {N : NA} (h : R44 N) : ¬ isLN N (nI 14) ∧ ¬ isLN N (-1 : Int32) ∧ isLN N (nI 0) := by
  unfold isLN
  rw [h.2]
  decide
theorem FL_sum (N : NA) : ∀ n, (FL N 2 n).length + ((FL N 1 n).length + (FL N 0 n).length) ≤ n
  | 0 => Nat.le_refl _
  | n + 1 => by
    have ih := FL_sum N n
    by_cases h2 : N (88 + 4 * n + 2) = 0 ∧ N (88 + 4 * n + 1) = nI 2
    · rw [FL_t h2, FL_f (r := 1) (fun q => absurd (h2.2.symm.trans q.2) (by decide)), FL_f (r := 0) (fun q => absurd (h2.2.symm.trans q.2) (by decide)), List.length_append, List.length_singleton]
      omega
    · rw [FL_f h2]
      by_cases h1 : N (88 + 4 * n + 2) = 0 ∧ N (88 + 4 * n + 1) = nI 1
      · rw [FL_t h1, FL_f (r := 0) (fun q => absurd (h1.2.symm.trans q.2) (by decide)), List.length_append, List.length_singleton]
        omega
      · rw [FL_f h1]
        by_cases h0 : N (88 + 4 * n + 2) = 0 ∧ N (88 + 4 * n + 1) = nI 0
        · rw [FL_t h0, List.length_append, List.length_singleton]
          omega
        · rw [FL_f h0]
          omega
theorem wait24 {N : NA} (h : R44 N) : Q_waiting N (nI 24) = .inr 1 := by
  have h1 : (WL N (nlN N)).length ≤ 14 := by
    rw [h.nl]
    unfold WL
    rw [List.length_append, List.length_append]
    exact FL_sum N 14
  unfold Q_waiting
  rw [if_pos (by decide), List.getElem?_eq_none (by rw [show (nI 24).toNatClampNeg = 24 by decide]; omega)]
