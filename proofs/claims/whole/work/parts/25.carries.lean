def S_ord (N : NA) (o : Ord) : OR :=
  if o.1 = nI 102 then S_fills N o.2.1 o.2.2.1
  else if o.1 = nI 98 then S_lays N o.2.1 o.2.2.1
  else if o.1 = nI 100 then S_drops N o.2.1 o.2.2.1
  else if o.1 = nI 108 then S_loads N o.2.1 o.2.2.1
  else if o.1 = nI 117 then S_launches N o.2.1
  else if o.1 = nI 104 then S_passes N o.2.1
  else S_blows N o.2.1 o.2.2.1 o.2.2.2
def okK (k : Int32) : Prop := k = nI 102 ∨ k = nI 98 ∨ k = nI 100 ∨ k = nI 108 ∨ k = nI 117 ∨ k = nI 104 ∨ k = nI 119
set_option maxRecDepth 20000 in
set_option maxHeartbeats 1000000 in
theorem m_carries (c : CC) (od : Int64 × UInt64) (nb : Nat) (hnb : nb ≤ 6) (hc3 : c 396 3 = nI nb) (nl : Nat) (hnl : nl ≤ 24) (hc4 : c 396 4 = nI nl) (o : Ord) (hk : okK o.1) (h : OrdM c o) : CM mX6_carries [.ref 395] (c, od) (RI (mcode (S_ord (c 396) o)) (mS c (S_ord (c 396) o), od)) := by
  refine CM.of [(0, .ref 395)] rfl (by decide +kernel) rfl (Nat.le_of_ble_eq_true rfl) ?_
  refine WE.aload_n (n := 1) dX6_carries_0 rfl rfl ?_
  refine WE.getI (n := 4) dX6_carries_1 rfl fl_X6_192 ⟨by decide, by decide, rfl⟩ (by first | decide | exact kd_bal (by assumption) | exact kd_let (by assumption) | assumption) ?_
  obtain ⟨k, x0, x1, x2⟩ := o
  obtain ⟨e1, e2, e3, e4⟩ := h
  simp only at e1 e2 e3 e4
  subst e2
  rcases hk with rfl | rfl | rfl | rfl | rfl | rfl | rfl
  · obtain rfl := e3 (by decide)
    refine WE.tsw (tgt := 100) dX6_carries_4 102 (by show (c 395 11).toInt = _; rw [e1]; decide) (by decide) (by decide) rfl (by decide) ?_
    refine WE.aload_n (n := 101) dX6_carries_100 rfl rfl ?_
    refine WE.aload_n (n := 102) dX6_carries_101 rfl rfl ?_
    refine WE.getR (n := 105) dX6_carries_102 rfl fl_X6_29 ⟨by decide, by decide⟩ rfl (by first | decide | exact kd_bal (by assumption) | exact kd_let (by assumption) | assumption) ?_
    refine WE.iconst (n := 106) (nI 0) dX6_carries_105 rfl (by decide) ?_
    refine WE.iald (n := 107) 0 dX6_carries_106 rfl (by first | decide | assumption) rfl (by show _ < 3; omega) ?_
    refine WE.aload_n (n := 108) dX6_carries_107 rfl rfl ?_
    refine WE.getR (n := 111) dX6_carries_108 rfl fl_X6_29 ⟨by decide, by decide⟩ rfl (by first | decide | exact kd_bal (by assumption) | exact kd_let (by assumption) | assumption) ?_
    refine WE.iconst (n := 112) (nI 1) dX6_carries_111 rfl (by decide) ?_
    refine WE.iald (n := 113) 1 dX6_carries_112 rfl (by first | decide | assumption) rfl (by show _ < 3; omega) ?_
    refine WE.V2I (M' := mX6_fills) (n := 116) dX6_carries_113 rfl cv_X6_110 (by first | decide | exact kd_bal (by assumption) | exact kd_let (by assumption) | assumption) ⟨⟨by decide, by decide⟩, by decide, by decide⟩ (Nat.le_of_ble_eq_true rfl) (m_fills c od (c 402 0) (c 402 1) nb hnb hc3) ?_
    refine WE.iret (ty := .int) dX6_carries_116 rfl rfl ⟨by decide, by decide⟩ ?_
    have e : S_ord (c 396) (nI 102, (c 402 0), (c 402 1), x2) = S_fills (c 396) (c 402 0) (c 402 1) := by
      unfold S_ord
      rw [if_pos rfl]
    rw [e]
    exact RI.mk rfl rfl
  · obtain rfl := e3 (by decide)
    refine WE.tsw (tgt := 117) dX6_carries_4 98 (by show (c 395 11).toInt = _; rw [e1]; decide) (by decide) (by decide) rfl (by decide) ?_
    refine WE.aload_n (n := 118) dX6_carries_117 rfl rfl ?_
    refine WE.aload_n (n := 119) dX6_carries_118 rfl rfl ?_
    refine WE.getR (n := 122) dX6_carries_119 rfl fl_X6_29 ⟨by decide, by decide⟩ rfl (by first | decide | exact kd_bal (by assumption) | exact kd_let (by assumption) | assumption) ?_
    refine WE.iconst (n := 123) (nI 0) dX6_carries_122 rfl (by decide) ?_
    refine WE.iald (n := 124) 0 dX6_carries_123 rfl (by first | decide | assumption) rfl (by show _ < 3; omega) ?_
    refine WE.aload_n (n := 125) dX6_carries_124 rfl rfl ?_
    refine WE.getR (n := 128) dX6_carries_125 rfl fl_X6_29 ⟨by decide, by decide⟩ rfl (by first | decide | exact kd_bal (by assumption) | exact kd_let (by assumption) | assumption) ?_
    refine WE.iconst (n := 129) (nI 1) dX6_carries_128 rfl (by decide) ?_
    refine WE.iald (n := 130) 1 dX6_carries_129 rfl (by first | decide | assumption) rfl (by show _ < 3; omega) ?_
    refine WE.V2I (M' := mX6_lays) (n := 133) dX6_carries_130 rfl cv_X6_113 (by first | decide | exact kd_bal (by assumption) | exact kd_let (by assumption) | assumption) ⟨⟨by decide, by decide⟩, by decide, by decide⟩ (Nat.le_of_ble_eq_true rfl) (m_lays c od (c 402 0) (c 402 1) nb hnb hc3) ?_
    refine WE.iret (ty := .int) dX6_carries_133 rfl rfl ⟨by decide, by decide⟩ ?_
    have e : S_ord (c 396) (nI 98, (c 402 0), (c 402 1), x2) = S_lays (c 396) (c 402 0) (c 402 1) := by
      unfold S_ord
      rw [if_neg (show ¬ nI 98 = nI 102 by decide)]
      rw [if_pos rfl]
    rw [e]
    exact RI.mk rfl rfl
  · obtain rfl := e3 (by decide)
    refine WE.tsw (tgt := 134) dX6_carries_4 100 (by show (c 395 11).toInt = _; rw [e1]; decide) (by decide) (by decide) rfl (by decide) ?_
    refine WE.aload_n (n := 135) dX6_carries_134 rfl rfl ?_
    refine WE.aload_n (n := 136) dX6_carries_135 rfl rfl ?_
    refine WE.getR (n := 139) dX6_carries_136 rfl fl_X6_29 ⟨by decide, by decide⟩ rfl (by first | decide | exact kd_bal (by assumption) | exact kd_let (by assumption) | assumption) ?_
    refine WE.iconst (n := 140) (nI 0) dX6_carries_139 rfl (by decide) ?_
    refine WE.iald (n := 141) 0 dX6_carries_140 rfl (by first | decide | assumption) rfl (by show _ < 3; omega) ?_
    refine WE.aload_n (n := 142) dX6_carries_141 rfl rfl ?_
    refine WE.getR (n := 145) dX6_carries_142 rfl fl_X6_29 ⟨by decide, by decide⟩ rfl (by first | decide | exact kd_bal (by assumption) | exact kd_let (by assumption) | assumption) ?_
    refine WE.iconst (n := 146) (nI 1) dX6_carries_145 rfl (by decide) ?_
    refine WE.iald (n := 147) 1 dX6_carries_146 rfl (by first | decide | assumption) rfl (by show _ < 3; omega) ?_
    refine WE.V2I (M' := mX6_drops) (n := 150) dX6_carries_147 rfl cv_X6_131 (by first | decide | exact kd_bal (by assumption) | exact kd_let (by assumption) | assumption) ⟨⟨by decide, by decide⟩, by decide, by decide⟩ (Nat.le_of_ble_eq_true rfl) (m_drops c od (c 402 0) (c 402 1) nb hnb hc3) ?_
    refine WE.iret (ty := .int) dX6_carries_150 rfl rfl ⟨by decide, by decide⟩ ?_
    have e : S_ord (c 396) (nI 100, (c 402 0), (c 402 1), x2) = S_drops (c 396) (c 402 0) (c 402 1) := by
      unfold S_ord
      rw [if_neg (show ¬ nI 100 = nI 102 by decide)]
      rw [if_neg (show ¬ nI 100 = nI 98 by decide)]
      rw [if_pos rfl]
    rw [e]
    exact RI.mk rfl rfl
  · obtain rfl := e3 (by decide)
    refine WE.tsw (tgt := 151) dX6_carries_4 108 (by show (c 395 11).toInt = _; rw [e1]; decide) (by decide) (by decide) rfl (by decide) ?_
    refine WE.aload_n (n := 152) dX6_carries_151 rfl rfl ?_
    refine WE.aload_n (n := 153) dX6_carries_152 rfl rfl ?_
    refine WE.getR (n := 156) dX6_carries_153 rfl fl_X6_29 ⟨by decide, by decide⟩ rfl (by first | decide | exact kd_bal (by assumption) | exact kd_let (by assumption) | assumption) ?_
    refine WE.iconst (n := 157) (nI 0) dX6_carries_156 rfl (by decide) ?_
    refine WE.iald (n := 158) 0 dX6_carries_157 rfl (by first | decide | assumption) rfl (by show _ < 3; omega) ?_
    refine WE.aload_n (n := 159) dX6_carries_158 rfl rfl ?_
    refine WE.getR (n := 162) dX6_carries_159 rfl fl_X6_29 ⟨by decide, by decide⟩ rfl (by first | decide | exact kd_bal (by assumption) | exact kd_let (by assumption) | assumption) ?_
    refine WE.iconst (n := 163) (nI 1) dX6_carries_162 rfl (by decide) ?_
    refine WE.iald (n := 164) 1 dX6_carries_163 rfl (by first | decide | assumption) rfl (by show _ < 3; omega) ?_
    refine WE.V2I (M' := mX6_loads) (n := 167) dX6_carries_164 rfl cv_X6_119 (by first | decide | exact kd_bal (by assumption) | exact kd_let (by assumption) | assumption) ⟨⟨by decide, by decide⟩, by decide, by decide⟩ (Nat.le_of_ble_eq_true rfl) (m_loads c od (c 402 0) (c 402 1) nb hnb hc3 nl hnl hc4) ?_
    refine WE.iret (ty := .int) dX6_carries_167 rfl rfl ⟨by decide, by decide⟩ ?_
    have e : S_ord (c 396) (nI 108, (c 402 0), (c 402 1), x2) = S_loads (c 396) (c 402 0) (c 402 1) := by
      unfold S_ord
      rw [if_neg (show ¬ nI 108 = nI 102 by decide)]
      rw [if_neg (show ¬ nI 108 = nI 98 by decide)]
      rw [if_neg (show ¬ nI 108 = nI 100 by decide)]
      rw [if_pos rfl]
    rw [e]
    exact RI.mk rfl rfl
  · refine WE.tsw (tgt := 168) dX6_carries_4 117 (by show (c 395 11).toInt = _; rw [e1]; decide) (by decide) (by decide) rfl (by decide) ?_
    refine WE.aload_n (n := 169) dX6_carries_168 rfl rfl ?_
    refine WE.aload_n (n := 170) dX6_carries_169 rfl rfl ?_
    refine WE.getR (n := 173) dX6_carries_170 rfl fl_X6_29 ⟨by decide, by decide⟩ rfl (by first | decide | exact kd_bal (by assumption) | exact kd_let (by assumption) | assumption) ?_
    refine WE.iconst (n := 174) (nI 0) dX6_carries_173 rfl (by decide) ?_
    refine WE.iald (n := 175) 0 dX6_carries_174 rfl (by first | decide | assumption) rfl (by show _ < 3; omega) ?_
    refine WE.V1I (M' := mX6_launches) (n := 178) dX6_carries_175 rfl cv_X6_128 (by first | decide | exact kd_bal (by assumption) | exact kd_let (by assumption) | assumption) ⟨⟨by decide, by decide⟩, by decide, by decide⟩ (Nat.le_of_ble_eq_true rfl) (m_launches c od (c 402 0) nb hnb hc3 nl hnl hc4) ?_
    refine WE.iret (ty := .int) dX6_carries_178 rfl rfl ⟨by decide, by decide⟩ ?_
    have e : S_ord (c 396) (nI 117, (c 402 0), x1, x2) = S_launches (c 396) (c 402 0) := by
      unfold S_ord
      rw [if_neg (show ¬ nI 117 = nI 102 by decide)]
      rw [if_neg (show ¬ nI 117 = nI 98 by decide)]
      rw [if_neg (show ¬ nI 117 = nI 100 by decide)]
      rw [if_neg (show ¬ nI 117 = nI 108 by decide)]
      rw [if_pos rfl]
    rw [e]
    exact RI.mk rfl rfl
  · refine WE.tsw (tgt := 179) dX6_carries_4 104 (by show (c 395 11).toInt = _; rw [e1]; decide) (by decide) (by decide) rfl (by decide) ?_
    refine WE.aload_n (n := 180) dX6_carries_179 rfl rfl ?_
    refine WE.aload_n (n := 181) dX6_carries_180 rfl rfl ?_
    refine WE.getR (n := 184) dX6_carries_181 rfl fl_X6_29 ⟨by decide, by decide⟩ rfl (by first | decide | exact kd_bal (by assumption) | exact kd_let (by assumption) | assumption) ?_
    refine WE.iconst (n := 185) (nI 0) dX6_carries_184 rfl (by decide) ?_
    refine WE.iald (n := 186) 0 dX6_carries_185 rfl (by first | decide | assumption) rfl (by show _ < 3; omega) ?_
    refine WE.V1I (M' := mX6_passes) (n := 189) dX6_carries_186 rfl cv_X6_149 (by first | decide | exact kd_bal (by assumption) | exact kd_let (by assumption) | assumption) ⟨⟨by decide, by decide⟩, by decide, by decide⟩ (Nat.le_of_ble_eq_true rfl) (m_passes c od nb hnb hc3 nl hnl hc4 (c 402 0)) ?_
    refine WE.iret (ty := .int) dX6_carries_189 rfl rfl ⟨by decide, by decide⟩ ?_
    have e : S_ord (c 396) (nI 104, (c 402 0), x1, x2) = S_passes (c 396) (c 402 0) := by
      unfold S_ord
      rw [if_neg (show ¬ nI 104 = nI 102 by decide)]
      rw [if_neg (show ¬ nI 104 = nI 98 by decide)]
      rw [if_neg (show ¬ nI 104 = nI 100 by decide)]
      rw [if_neg (show ¬ nI 104 = nI 108 by decide)]
      rw [if_neg (show ¬ nI 104 = nI 117 by decide)]
      rw [if_pos rfl]
    rw [e]
    exact RI.mk rfl rfl
  · obtain rfl := e3 (by decide)
    obtain rfl := e4 rfl
    refine WE.tswO (tgt := 190) dX6_carries_4 (by show (c 395 11).toInt < _ ∨ _ < (c 395 11).toInt; rw [e1]; decide) (by decide) ?_
    refine WE.aload_n (n := 191) dX6_carries_190 rfl rfl ?_
    refine WE.aload_n (n := 192) dX6_carries_191 rfl rfl ?_
    refine WE.getR (n := 195) dX6_carries_192 rfl fl_X6_29 ⟨by decide, by decide⟩ rfl (by first | decide | exact kd_bal (by assumption) | exact kd_let (by assumption) | assumption) ?_
    refine WE.iconst (n := 196) (nI 0) dX6_carries_195 rfl (by decide) ?_
    refine WE.iald (n := 197) 0 dX6_carries_196 rfl (by first | decide | assumption) rfl (by show _ < 3; omega) ?_
    refine WE.aload_n (n := 198) dX6_carries_197 rfl rfl ?_
    refine WE.getR (n := 201) dX6_carries_198 rfl fl_X6_29 ⟨by decide, by decide⟩ rfl (by first | decide | exact kd_bal (by assumption) | exact kd_let (by assumption) | assumption) ?_
    refine WE.iconst (n := 202) (nI 1) dX6_carries_201 rfl (by decide) ?_
    refine WE.iald (n := 203) 1 dX6_carries_202 rfl (by first | decide | assumption) rfl (by show _ < 3; omega) ?_
    refine WE.aload_n (n := 204) dX6_carries_203 rfl rfl ?_
    refine WE.getR (n := 207) dX6_carries_204 rfl fl_X6_29 ⟨by decide, by decide⟩ rfl (by first | decide | exact kd_bal (by assumption) | exact kd_let (by assumption) | assumption) ?_
    refine WE.iconst (n := 208) (nI 2) dX6_carries_207 rfl (by decide) ?_
    refine WE.iald (n := 209) 2 dX6_carries_208 rfl (by first | decide | assumption) rfl (by show _ < 3; omega) ?_
    refine WE.V3I (M' := mX6_blows) (n := 212) dX6_carries_209 rfl cv_X6_89 (by first | decide | exact kd_bal (by assumption) | exact kd_let (by assumption) | assumption) ⟨⟨by decide, by decide⟩, by decide, by decide⟩ (Nat.le_of_ble_eq_true rfl) (m_blows c od (c 402 0) (c 402 1) (c 402 2)) ?_
    refine WE.iret (ty := .int) dX6_carries_212 rfl rfl ⟨by decide, by decide⟩ ?_
    have e : S_ord (c 396) (nI 119, (c 402 0), (c 402 1), (c 402 2)) = S_blows (c 396) (c 402 0) (c 402 1) (c 402 2) := by
      unfold S_ord
      rw [if_neg (show ¬ nI 119 = nI 102 by decide)]
      rw [if_neg (show ¬ nI 119 = nI 98 by decide)]
      rw [if_neg (show ¬ nI 119 = nI 100 by decide)]
      rw [if_neg (show ¬ nI 119 = nI 108 by decide)]
      rw [if_neg (show ¬ nI 119 = nI 117 by decide)]
      rw [if_neg (show ¬ nI 119 = nI 104 by decide)]
    rw [e]
    exact RI.mk rfl rfl
theorem pDig_q {T : NA} {n p : Nat} {v : Int32} (h : (pDig T n p).2 = some v) : (pDig T n p).1 = p + 1 ∧ p < n := by
  unfold pDig at h ⊢
  split at h
  · rename_i q
    rw [if_pos q]
    exact ⟨rfl, q.1⟩
  · cases h
theorem pNum_q {T : NA} {n p : Nat} {v : Int32} (h : (pNum T n p).2 = some v) : p + 1 ≤ (pNum T n p).1 ∧ p < n := by
  unfold pNum at h ⊢
  split at h
  · rename_i q
    rw [if_pos q]
    split at h
    · rename_i q2
      rw [if_pos q2]
      exact ⟨by show p + 1 ≤ p + 2; omega, q.1⟩
    · rename_i q2
      rw [if_neg q2]
      exact ⟨Nat.le_refl _, q.1⟩
  · cases h
/-- what reading an order needs and leaves -/
theorem pPair_le {f g : Nat → PR} {T : NA} {n p : Nat} {x : Int32} (hf : ∀ p, p ≤ n → (f p).1 ≤ n ∧ p ≤ (f p).1) (hg : ∀ p, p ≤ n → (g p).1 ≤ n ∧ p ≤ (g p).1) (hp : p ≤ n) : (pPair f g T n x p).1 ≤ n ∧ p ≤ (pPair f g T n x p).1 := by
  have h1 := hf p hp
  unfold pPair
  split
  · split
    · rename_i q
      have h2 := hg ((f p).1 + 1) (by omega)
      split
      · exact ⟨h2.1, by show p ≤ (g ((f p).1 + 1)).1; omega⟩
      · exact ⟨h2.1, by show p ≤ (g ((f p).1 + 1)).1; omega⟩
    · exact h1
  · exact h1
theorem pDig_r (T : NA) (n : Nat) (p : Nat) (hp : p ≤ n) : (pDig T n p).1 ≤ n ∧ p ≤ (pDig T n p).1 := by
  unfold pDig
  split
  · rename_i q
    exact ⟨q.1, Nat.le_succ _⟩
  · exact ⟨hp, Nat.le_refl _⟩
theorem pNum_r (T : NA) (n : Nat) (p : Nat) (hp : p ≤ n) : (pNum T n p).1 ≤ n ∧ p ≤ (pNum T n p).1 := by
  unfold pNum
  split
  · rename_i q
    split
    · rename_i q2
      exact ⟨q2.1, by show p ≤ p + 2; omega⟩
    · exact ⟨q.1, Nat.le_succ _⟩
  · exact ⟨hp, Nat.le_refl _⟩
theorem pSgn_r (T : NA) (n : Nat) (p : Nat) (hp : p ≤ n) : (pSgn T n p).1 ≤ n ∧ p ≤ (pSgn T n p).1 := by
  unfold pSgn
  split
  · rename_i q
    split
    · rename_i q2
      exact ⟨q2.1, by show p ≤ p + 2; omega⟩
    · exact ⟨q.1, Nat.le_succ _⟩
  · exact pDig_r T n p hp
theorem pDig_s {T : NA} {n p : Nat} (h : (pDig T n p).2.isSome = true) : p + 1 ≤ (pDig T n p).1 := by
  cases e : (pDig T n p).2 with
  | none => rw [e] at h; cases h
  | some v => exact Nat.le_of_eq (pDig_q e).1.symm
theorem pNum_s {T : NA} {n p : Nat} (h : (pNum T n p).2.isSome = true) : p + 1 ≤ (pNum T n p).1 := by
  cases e : (pNum T n p).2 with
  | none => rw [e] at h; cases h
  | some v => exact (pNum_q e).1
theorem pPair_s {f g : Nat → PR} {T : NA} {n p : Nat} {x : Int32} (hf : ∀ p, (f p).2.isSome = true → p + 1 ≤ (f p).1) (hg : ∀ p, p ≤ n → (g p).1 ≤ n ∧ p ≤ (g p).1) (h : (pPair f g T n x p).2.isSome = true) : p + 2 ≤ (pPair f g T n x p).1 := by
  unfold pPair at h ⊢
  split at h
  · rename_i q
    rw [if_pos q]
    have h1 := hf p q
    split at h
    · rename_i q2
      rw [if_pos q2]
      have h2 := hg ((f p).1 + 1) (by omega)
      split at h
      · rename_i q3
        rw [if_pos q3]
        show p + 2 ≤ (g ((f p).1 + 1)).1
        omega
      · cases h
    · cases h
  · cases h
theorem pPair_le' {f g : Nat → PR} {T : NA} {n p : Nat} {x : Int32} (hf : ∀ p, p ≤ n → (f p).1 ≤ n ∧ p ≤ (f p).1) (hg : ∀ p, p ≤ n → (g p).1 ≤ n ∧ p ≤ (g p).1) (hp : p ≤ n) : (pPair f g T n x p).1 ≤ n := (pPair_le hf hg hp).1
def POK (n p : Nat) (R : Nat × Option Ord) : Prop := R.1 ≤ n ∧ p ≤ R.1 ∧ ∀ o, R.2 = some o → okK o.1 ∧ p + 2 ≤ R.1
theorem POK.none {n p q : Nat} (h : q ≤ n) (h2 : p ≤ q) : POK n p (q, none) := ⟨h, h2, fun o h => by cases h⟩
theorem POK.pair {n p : Nat} {k : Int32} {R : Nat × Option (Int32 × Int32)} (hk : okK k) (h1 : R.1 ≤ n) (h2 : p + 1 ≤ R.1) (h3 : R.2.isSome = true → p + 1 + 2 ≤ R.1) : POK n p (oPair k R) := by
  refine ⟨h1, by show p ≤ R.1; omega, fun o h => ?_⟩
  obtain ⟨q, v⟩ := R
  cases v with
  | none => cases h
  | some v =>
    cases h
    exact ⟨hk, by have := h3 rfl; show p + 2 ≤ q; simp only at this; omega⟩
theorem POK.one {n p : Nat} {k : Int32} {R : PR} (hk : okK k) (h1 : R.1 ≤ n) (h2 : p + 1 ≤ R.1) (h3 : R.2.isSome = true → p + 1 + 1 ≤ R.1) : POK n p (oOne k R) := by
  refine ⟨h1, by show p ≤ R.1; omega, fun o h => ?_⟩
  obtain ⟨q, v⟩ := R
  cases v with
  | none => cases h
  | some v =>
    cases h
    exact ⟨hk, by have := h3 rfl; show p + 2 ≤ q; simp only at this; omega⟩
theorem pWind_ok {T : NA} {n p : Nat} (hp : p < n) : POK n p (pWind T n (p + 1)) := by
  have h1 := pDig_r T n (p + 1) (by omega)
  unfold pWind
  split
  · rename_i q
    have q1 := pDig_s q
    split
    · rename_i q2
      have h2 := pPair_le (x := nI 44) (T := T) (pSgn_r T n) (pSgn_r T n) (show (pDig T n (p + 1)).1 + 1 ≤ n by omega)
      split
      · refine ⟨h2.1, ?_, fun o h => ?_⟩
        · show p ≤ (pPair (pSgn T n) (pSgn T n) T n (nI 44) ((pDig T n (p + 1)).1 + 1)).1
          omega
        · cases h
          exact ⟨by unfold okK; exact Or.inr (Or.inr (Or.inr (Or.inr (Or.inr (Or.inr rfl))))), by show p + 2 ≤ (pPair (pSgn T n) (pSgn T n) T n (nI 44) ((pDig T n (p + 1)).1 + 1)).1; omega⟩
      · exact POK.none h2.1 (by omega)
    · exact POK.none h1.1 (by omega)
  · exact POK.none h1.1 (by omega)
theorem pOrd_ok (T : NA) {n p : Nat} (hp : p ≤ n) : POK n p (pOrd T n p) := by
  unfold pOrd
  split
  · rename_i q
    have q1 : p + 1 ≤ n := q
    split
    · exact POK.pair (Or.inl rfl) (pPair_le (pDig_r T n) (pNum_r T n) q1).1 (pPair_le (pDig_r T n) (pNum_r T n) q1).2 (pPair_s (fun _ => pDig_s) (pNum_r T n))
    · split
      · exact POK.pair (Or.inr (Or.inl rfl)) (pPair_le (pDig_r T n) (pNum_r T n) q1).1 (pPair_le (pDig_r T n) (pNum_r T n) q1).2 (pPair_s (fun _ => pDig_s) (pNum_r T n))
      · split
        · exact POK.pair (Or.inr (Or.inr (Or.inl rfl))) (pPair_le (pDig_r T n) (pNum_r T n) q1).1 (pPair_le (pDig_r T n) (pNum_r T n) q1).2 (pPair_s (fun _ => pDig_s) (pNum_r T n))
        · split
          · exact POK.pair (Or.inr (Or.inr (Or.inr (Or.inl rfl)))) (pPair_le (pNum_r T n) (pDig_r T n) q1).1 (pPair_le (pNum_r T n) (pDig_r T n) q1).2 (pPair_s (fun _ => pNum_s) (pDig_r T n))
          · split
            · exact POK.one (Or.inr (Or.inr (Or.inr (Or.inr (Or.inl rfl))))) (pDig_r T n _ q1).1 (pDig_r T n _ q1).2 pDig_s
            · split
              · exact POK.one (Or.inr (Or.inr (Or.inr (Or.inr (Or.inr (Or.inl rfl)))))) (pNum_r T n _ q1).1 (pNum_r T n _ q1).2 pNum_s
              · split
                · exact pWind_ok q
                · exact POK.none hp (Nat.le_refl _)
  · exact POK.none hp (Nat.le_refl _)
/-- all orders: the place behind, or of the error, and the orders -/
def pSeq (T : NA) (n : Nat) : Nat → Nat → Nat × Option (List Ord)
  | 0, p => (p, none)
  | f + 1, p => match (pOrd T n p).2 with
    | none => ((pOrd T n p).1, none)
    | some o => if (pOrd T n p).1 < n then (if T (pOrd T n p).1 = nI 59 then ((pSeq T n f ((pOrd T n p).1 + 1)).1, (pSeq T n f ((pOrd T n p).1 + 1)).2.map (o :: ·)) else ((pOrd T n p).1, none)) else ((pOrd T n p).1, some [o])
def exL : NA → List Ord → NA ⊕ ((Int32 × Int32) ⊕ Nat)
  | N, [] => .inl N
  | N, o :: os => match S_ord N o with
    | .inl q => exL q.2 os
    | .inr x => .inr x
