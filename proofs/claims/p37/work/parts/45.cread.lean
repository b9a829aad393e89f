def PTo (c : CC) (od : Int64 × UInt64) (N : NA) (r : OR) : AO → SS → Prop := PI fun v σ => ∃ c', σ = (c', od) ∧ (∀ a k, ¬ (1 ≤ a ∧ a ≤ 35) → c' a k = c a k) ∧ match r with
  | .inl q => v = q.1 ∧ RelT c' 1 q.2 ∧ c' 1 14 = c 1 14 ∧ c' 1 15 = c 1 15
  | .inr (.inl q) => v = (-103 : Int32) ∧ RelT c' 1 N ∧ c' 1 14 = q.1 ∧ c' 1 15 = q.2
  | .inr (.inr _) => (v = (-101 : Int32) ∨ v = (-102 : Int32)) ∧ c' = c
theorem PT.to {c : CC} {od : Int64 × UInt64} {N : NA} {ec : Nat → Int32} {r : OR} (he : ∀ k, ec k = (-101 : Int32) ∨ ec k = (-102 : Int32)) {o : AO} {st : SS} (h : PT c od N ec r o st) : PTo c od N r o st := by
  obtain ⟨v, e, c', h1, h2, h3⟩ := h
  refine ⟨v, e, c', h1, h2, ?_⟩
  rcases r with q | q | k
  · exact h3
  · exact h3
  · refine ⟨?_, h3.2⟩
    rw [h3.1]
    exact he k
theorem he_A (k : Nat) : eA k = (-101 : Int32) ∨ eA k = (-102 : Int32) := by
  unfold eA
  split
  · exact Or.inl rfl
  · exact Or.inr rfl
theorem he_B (k : Nat) : eB k = (-101 : Int32) ∨ eB k = (-102 : Int32) := Or.inr rfl
theorem he_C (k : Nat) : eC k = (-101 : Int32) ∨ eC k = (-102 : Int32) := Or.inl rfl
set_option maxRecDepth 20000 in
set_option maxHeartbeats 1000000 in
theorem c_carryOut (c : CC) (od : Int64 × UInt64) (N : NA) (hR : RelT c 1 N) (hI : IN N) (i : Nat) (hi : i < 20) (r : Ord) (hk : okK r.1) (h : OrdC c i r) : CM mX5_carryOut [.ref 0, .int (nI i)] (c, od) (PTo c od N (S_ord N r)) := by
  refine CM.of [(0, .ref 0), (1, .int (nI i))] rfl (by decide +kernel) rfl (Nat.le_of_ble_eq_true rfl) ?_
  refine WE.aload_n (n := 1) dX5_carryOut_0 rfl rfl ?_
  refine WE.getR (n := 4) dX5_carryOut_1 rfl fl_X5_36 ⟨by decide, by decide⟩ rfl (by first | decide | exact kd_bal (by assumption) | exact kd_let (by assumption) | assumption) ?_
  refine WE.getR (n := 7) dX5_carryOut_4 rfl fl_X5_300 ⟨by decide, by decide⟩ rfl (by first | decide | exact kd_bal (by assumption) | exact kd_let (by assumption) | assumption) ?_
  refine WE.iload_n (n := 8) dX5_carryOut_7 rfl rfl ?_
  refine WE.iald (n := 9) i dX5_carryOut_8 rfl (by first | decide | assumption) rfl (by show _ < 20; omega) ?_
  refine WE.istore_n (n := 10) dX5_carryOut_9 rfl (by decide) ?_
  refine WE.aload_n (n := 11) dX5_carryOut_10 rfl rfl ?_
  refine WE.getR (n := 14) dX5_carryOut_11 rfl fl_X5_36 ⟨by decide, by decide⟩ rfl (by first | decide | exact kd_bal (by assumption) | exact kd_let (by assumption) | assumption) ?_
  refine WE.getR (n := 17) dX5_carryOut_14 rfl fl_X5_304 ⟨by decide, by decide⟩ rfl (by first | decide | exact kd_bal (by assumption) | exact kd_let (by assumption) | assumption) ?_
  refine WE.iload_n (n := 18) dX5_carryOut_17 rfl rfl ?_
  refine WE.iald (n := 19) i dX5_carryOut_18 rfl (by first | decide | assumption) rfl (by show _ < 20; omega) ?_
  refine WE.istore_n (n := 20) dX5_carryOut_19 rfl (by decide) ?_
  refine WE.aload_n (n := 21) dX5_carryOut_20 rfl rfl ?_
  refine WE.getR (n := 24) dX5_carryOut_21 rfl fl_X5_36 ⟨by decide, by decide⟩ rfl (by first | decide | exact kd_bal (by assumption) | exact kd_let (by assumption) | assumption) ?_
  refine WE.getR (n := 27) dX5_carryOut_24 rfl fl_X5_307 ⟨by decide, by decide⟩ rfl (by first | decide | exact kd_bal (by assumption) | exact kd_let (by assumption) | assumption) ?_
  refine WE.iload_n (n := 28) dX5_carryOut_27 rfl rfl ?_
  refine WE.iald (n := 29) i dX5_carryOut_28 rfl (by first | decide | assumption) rfl (by show _ < 20; omega) ?_
  obtain ⟨k, x0, x1, x2⟩ := r
  obtain ⟨e1, e2, e3, e4⟩ := h
  simp only at e1 e2 e3 e4
  subst e2
  rcases hk with rfl | rfl | rfl | rfl | rfl | rfl | rfl
  · obtain rfl := e3 (by decide)
    have eS : S_ord N (nI 102, (c 392 i), (c 393 i), x2) = S_fills N (c 392 i) (c 393 i) := by
      unfold S_ord
      rw [if_pos rfl]
    rw [eS]
    refine WE.tsw (tgt := 124) dX5_carryOut_29 102 (by show (c 391 i).toInt = _; rw [e1]; decide) (by decide) (by decide) rfl (by decide) ?_
    refine WE.aload_n (n := 125) dX5_carryOut_124 rfl rfl ?_
    refine WE.getR (n := 128) dX5_carryOut_125 rfl fl_X5_10 ⟨by decide, by decide⟩ rfl (by first | decide | exact kd_bal (by assumption) | exact kd_let (by assumption) | assumption) ?_
    refine WE.iload_n (n := 129) dX5_carryOut_128 rfl rfl ?_
    refine WE.iload_n (n := 130) dX5_carryOut_129 rfl rfl ?_
    refine WE.V2PI (M' := mX4_fillBalloon) (n := 133) dX5_carryOut_130 rfl cv_X5_61 (by first | decide | exact kd_bal (by assumption) | exact kd_let (by assumption) | assumption) ⟨⟨by decide, by decide⟩, by decide, by decide⟩ (Nat.le_of_ble_eq_true rfl) (CM.mono (c_fillBalloon c od N hR hI.cn (c 392 i) (c 393 i)) (fun _ _ h => PT.to he_A h)) (fun v σ q => ?_)
    refine WE.iret (ty := .int) dX5_carryOut_133 rfl rfl ⟨by decide, by decide⟩ ?_
    exact ⟨v, rfl, q⟩
  · obtain rfl := e3 (by decide)
    have eS : S_ord N (nI 98, (c 392 i), (c 393 i), x2) = S_lays N (c 392 i) (c 393 i) := by
      unfold S_ord
      rw [if_neg (show ¬ nI 98 = nI 102 by decide)]
      rw [if_pos rfl]
    rw [eS]
    refine WE.tsw (tgt := 134) dX5_carryOut_29 98 (by show (c 391 i).toInt = _; rw [e1]; decide) (by decide) (by decide) rfl (by decide) ?_
    refine WE.aload_n (n := 135) dX5_carryOut_134 rfl rfl ?_
    refine WE.getR (n := 138) dX5_carryOut_135 rfl fl_X5_10 ⟨by decide, by decide⟩ rfl (by first | decide | exact kd_bal (by assumption) | exact kd_let (by assumption) | assumption) ?_
    refine WE.iload_n (n := 139) dX5_carryOut_138 rfl rfl ?_
    refine WE.iload_n (n := 140) dX5_carryOut_139 rfl rfl ?_
    refine WE.V2PI (M' := mX4_layBallast) (n := 143) dX5_carryOut_140 rfl cv_X5_65 (by first | decide | exact kd_bal (by assumption) | exact kd_let (by assumption) | assumption) ⟨⟨by decide, by decide⟩, by decide, by decide⟩ (Nat.le_of_ble_eq_true rfl) (CM.mono (c_layBallast c od N hR hI.cn (c 392 i) (c 393 i)) (fun _ _ h => PT.to he_A h)) (fun v σ q => ?_)
    refine WE.iret (ty := .int) dX5_carryOut_143 rfl rfl ⟨by decide, by decide⟩ ?_
    exact ⟨v, rfl, q⟩
  · obtain rfl := e3 (by decide)
    have eS : S_ord N (nI 100, (c 392 i), (c 393 i), x2) = S_drops N (c 392 i) (c 393 i) := by
      unfold S_ord
      rw [if_neg (show ¬ nI 100 = nI 102 by decide)]
      rw [if_neg (show ¬ nI 100 = nI 98 by decide)]
      rw [if_pos rfl]
    rw [eS]
    refine WE.tsw (tgt := 144) dX5_carryOut_29 100 (by show (c 391 i).toInt = _; rw [e1]; decide) (by decide) (by decide) rfl (by decide) ?_
    refine WE.aload_n (n := 145) dX5_carryOut_144 rfl rfl ?_
    refine WE.getR (n := 148) dX5_carryOut_145 rfl fl_X5_10 ⟨by decide, by decide⟩ rfl (by first | decide | exact kd_bal (by assumption) | exact kd_let (by assumption) | assumption) ?_
    refine WE.iload_n (n := 149) dX5_carryOut_148 rfl rfl ?_
    refine WE.iload_n (n := 150) dX5_carryOut_149 rfl rfl ?_
    refine WE.V2PI (M' := mX4_letBallastGo) (n := 153) dX5_carryOut_150 rfl cv_X5_83 (by first | decide | exact kd_bal (by assumption) | exact kd_let (by assumption) | assumption) ⟨⟨by decide, by decide⟩, by decide, by decide⟩ (Nat.le_of_ble_eq_true rfl) (CM.mono (c_letBallastGo c od N hR hI.cn (c 392 i) (c 393 i)) (fun _ _ h => PT.to he_A h)) (fun v σ q => ?_)
    refine WE.iret (ty := .int) dX5_carryOut_153 rfl rfl ⟨by decide, by decide⟩ ?_
    exact ⟨v, rfl, q⟩
  · obtain rfl := e3 (by decide)
    have eS : S_ord N (nI 108, (c 392 i), (c 393 i), x2) = S_loads N (c 392 i) (c 393 i) := by
      unfold S_ord
      rw [if_neg (show ¬ nI 108 = nI 102 by decide)]
      rw [if_neg (show ¬ nI 108 = nI 98 by decide)]
      rw [if_neg (show ¬ nI 108 = nI 100 by decide)]
      rw [if_pos rfl]
    rw [eS]
    refine WE.tsw (tgt := 154) dX5_carryOut_29 108 (by show (c 391 i).toInt = _; rw [e1]; decide) (by decide) (by decide) rfl (by decide) ?_
    refine WE.aload_n (n := 155) dX5_carryOut_154 rfl rfl ?_
    refine WE.getR (n := 158) dX5_carryOut_155 rfl fl_X5_10 ⟨by decide, by decide⟩ rfl (by first | decide | exact kd_bal (by assumption) | exact kd_let (by assumption) | assumption) ?_
    refine WE.iload_n (n := 159) dX5_carryOut_158 rfl rfl ?_
    refine WE.iload_n (n := 160) dX5_carryOut_159 rfl rfl ?_
    refine WE.V2PI (M' := mX4_loadLetter) (n := 163) dX5_carryOut_160 rfl cv_X5_74 (by first | decide | exact kd_bal (by assumption) | exact kd_let (by assumption) | assumption) ⟨⟨by decide, by decide⟩, by decide, by decide⟩ (Nat.le_of_ble_eq_true rfl) (CM.mono (c_loadLetter c od N hR hI.cn (fun l hl => (hI.l hl).2.2.f hI.cn) (c 392 i) (c 393 i)) (fun _ _ h => PT.to he_C h)) (fun v σ q => ?_)
    refine WE.iret (ty := .int) dX5_carryOut_163 rfl rfl ⟨by decide, by decide⟩ ?_
    exact ⟨v, rfl, q⟩
  · have eS : S_ord N (nI 117, (c 392 i), x1, x2) = S_launches N (c 392 i) := by
      unfold S_ord
      rw [if_neg (show ¬ nI 117 = nI 102 by decide)]
      rw [if_neg (show ¬ nI 117 = nI 98 by decide)]
      rw [if_neg (show ¬ nI 117 = nI 100 by decide)]
      rw [if_neg (show ¬ nI 117 = nI 108 by decide)]
      rw [if_pos rfl]
    rw [eS]
    refine WE.tsw (tgt := 164) dX5_carryOut_29 117 (by show (c 391 i).toInt = _; rw [e1]; decide) (by decide) (by decide) rfl (by decide) ?_
    refine WE.aload_n (n := 165) dX5_carryOut_164 rfl rfl ?_
    refine WE.getR (n := 168) dX5_carryOut_165 rfl fl_X5_10 ⟨by decide, by decide⟩ rfl (by first | decide | exact kd_bal (by assumption) | exact kd_let (by assumption) | assumption) ?_
    refine WE.iload_n (n := 169) dX5_carryOut_168 rfl rfl ?_
    refine WE.V1PI (M' := mX4_launchBalloon) (n := 172) dX5_carryOut_169 rfl cv_X5_80 (by first | decide | exact kd_bal (by assumption) | exact kd_let (by assumption) | assumption) ⟨⟨by decide, by decide⟩, by decide, by decide⟩ (Nat.le_of_ble_eq_true rfl) (CM.mono (c_launchBalloon c od N hR hI.cn (c 392 i)) (fun _ _ h => PT.to he_C h)) (fun v σ q => ?_)
    refine WE.iret (ty := .int) dX5_carryOut_172 rfl rfl ⟨by decide, by decide⟩ ?_
    exact ⟨v, rfl, q⟩
  · have eS : S_ord N (nI 104, (c 392 i), x1, x2) = S_passes N (c 392 i) := by
      unfold S_ord
      rw [if_neg (show ¬ nI 104 = nI 102 by decide)]
      rw [if_neg (show ¬ nI 104 = nI 98 by decide)]
      rw [if_neg (show ¬ nI 104 = nI 100 by decide)]
      rw [if_neg (show ¬ nI 104 = nI 108 by decide)]
      rw [if_neg (show ¬ nI 104 = nI 117 by decide)]
      rw [if_pos rfl]
    rw [eS]
    refine WE.tsw (tgt := 173) dX5_carryOut_29 104 (by show (c 391 i).toInt = _; rw [e1]; decide) (by decide) (by decide) rfl (by decide) ?_
    refine WE.aload_n (n := 174) dX5_carryOut_173 rfl rfl ?_
    refine WE.getR (n := 177) dX5_carryOut_174 rfl fl_X5_10 ⟨by decide, by decide⟩ rfl (by first | decide | exact kd_bal (by assumption) | exact kd_let (by assumption) | assumption) ?_
    refine WE.iload_n (n := 178) dX5_carryOut_177 rfl rfl ?_
    refine WE.V1PI (M' := mX4_letHoursGo) (n := 181) dX5_carryOut_178 rfl cv_X5_86 (by first | decide | exact kd_bal (by assumption) | exact kd_let (by assumption) | assumption) ⟨⟨by decide, by decide⟩, by decide, by decide⟩ (Nat.le_of_ble_eq_true rfl) (CM.mono (c_letHoursGo c od N hR hI.cn (c 392 i)) (fun _ _ h => PT.to he_B h)) (fun v σ q => ?_)
    refine WE.iret (ty := .int) dX5_carryOut_181 rfl rfl ⟨by decide, by decide⟩ ?_
    exact ⟨v, rfl, q⟩
  · obtain rfl := e3 (by decide)
    obtain rfl := e4 rfl
    have eS : S_ord N (nI 119, (c 392 i), (c 393 i), (c 394 i)) = S_blows N (c 392 i) (c 393 i) (c 394 i) := by
      unfold S_ord
      rw [if_neg (show ¬ nI 119 = nI 102 by decide)]
      rw [if_neg (show ¬ nI 119 = nI 98 by decide)]
      rw [if_neg (show ¬ nI 119 = nI 100 by decide)]
      rw [if_neg (show ¬ nI 119 = nI 108 by decide)]
      rw [if_neg (show ¬ nI 119 = nI 117 by decide)]
      rw [if_neg (show ¬ nI 119 = nI 104 by decide)]
    rw [eS]
    refine WE.tswO (tgt := 182) dX5_carryOut_29 (by show (c 391 i).toInt < _ ∨ _ < (c 391 i).toInt; rw [e1]; decide) (by decide) ?_
    refine WE.aload_n (n := 183) dX5_carryOut_182 rfl rfl ?_
    refine WE.getR (n := 186) dX5_carryOut_183 rfl fl_X5_10 ⟨by decide, by decide⟩ rfl (by first | decide | exact kd_bal (by assumption) | exact kd_let (by assumption) | assumption) ?_
    refine WE.iload_n (n := 187) dX5_carryOut_186 rfl rfl ?_
    refine WE.iload_n (n := 188) dX5_carryOut_187 rfl rfl ?_
    refine WE.aload_n (n := 189) dX5_carryOut_188 rfl rfl ?_
    refine WE.getR (n := 192) dX5_carryOut_189 rfl fl_X5_36 ⟨by decide, by decide⟩ rfl (by first | decide | exact kd_bal (by assumption) | exact kd_let (by assumption) | assumption) ?_
    refine WE.getR (n := 195) dX5_carryOut_192 rfl fl_X5_310 ⟨by decide, by decide⟩ rfl (by first | decide | exact kd_bal (by assumption) | exact kd_let (by assumption) | assumption) ?_
    refine WE.iload_n (n := 196) dX5_carryOut_195 rfl rfl ?_
    refine WE.iald (n := 197) i dX5_carryOut_196 rfl (by first | decide | assumption) rfl (by show _ < 20; omega) ?_
    refine WE.V3PI (M' := mX4_setWind) (n := 200) dX5_carryOut_197 rfl cv_X5_51 (by first | decide | exact kd_bal (by assumption) | exact kd_let (by assumption) | assumption) ⟨⟨by decide, by decide⟩, by decide, by decide⟩ (Nat.le_of_ble_eq_true rfl) (CM.mono (c_setWind c od N hR hI.cn (c 392 i) (c 393 i) (c 394 i)) (fun _ _ h => PT.to he_A h)) (fun v σ q => ?_)
    refine WE.iret (ty := .int) dX5_carryOut_200 rfl rfl ⟨by decide, by decide⟩ ?_
    exact ⟨v, rfl, q⟩
set_option maxRecDepth 20000 in
set_option maxHeartbeats 1000000 in
theorem c_isFail (v : Int32) (σ : SS) : CM mX5_isFailure [.int v] σ (RI (b2i (v = (-101 : Int32) ∨ v = (-102 : Int32) ∨ v = (-103 : Int32))) σ) := by
  refine CM.of [(0, .int v)] rfl (by decide +kernel) rfl (Nat.le_of_ble_eq_true rfl) ?_
  refine WE.iload_n (n := 1) dX5_isFailure_0 rfl rfl ?_
  refine WE.bipush (n := 3) ((-101 : Int32)) dX5_isFailure_1 rfl (by decide) ?_
  refine WE.icmp_eq (n := 6) (tgt := 18) dX5_isFailure_3 rfl (by decide) (fun h3 => ?_) (fun h3 => ?_)
  · skip
    refine WE.iconst (n := 19) (nI 1) dX5_isFailure_18 rfl (by decide) ?_
    refine WE.goto (tgt := 23) dX5_isFailure_19 (by decide) ?_
    refine WE.iret (ty := .boolean) dX5_isFailure_23 rfl (by first | rfl | exact b2i_nar _ | decide) ⟨by decide, by decide⟩ ?_
    first | exact RI.mk (b2i_t (Or.inl h3)).symm rfl | exact RI.mk (b2i_t (Or.inr (Or.inl h9))).symm rfl | exact RI.mk (b2i_t (Or.inr (Or.inr h15))).symm rfl | exact RI.mk (b2i_t (Or.inr (Or.inr (Classical.not_not.mp h15)))).symm rfl | exact RI.mk (b2i_f (fun q => by rcases q with q | q | q; exact h3 q; exact h9 q; exact h15 q)).symm rfl
  · skip
    refine WE.iload_n (n := 7) dX5_isFailure_6 rfl rfl ?_
    refine WE.bipush (n := 9) ((-102 : Int32)) dX5_isFailure_7 rfl (by decide) ?_
    refine WE.icmp_eq (n := 12) (tgt := 18) dX5_isFailure_9 rfl (by decide) (fun h9 => ?_) (fun h9 => ?_)
    · skip
      refine WE.iconst (n := 19) (nI 1) dX5_isFailure_18 rfl (by decide) ?_
      refine WE.goto (tgt := 23) dX5_isFailure_19 (by decide) ?_
      refine WE.iret (ty := .boolean) dX5_isFailure_23 rfl (by first | rfl | exact b2i_nar _ | decide) ⟨by decide, by decide⟩ ?_
      first | exact RI.mk (b2i_t (Or.inl h3)).symm rfl | exact RI.mk (b2i_t (Or.inr (Or.inl h9))).symm rfl | exact RI.mk (b2i_t (Or.inr (Or.inr h15))).symm rfl | exact RI.mk (b2i_t (Or.inr (Or.inr (Classical.not_not.mp h15)))).symm rfl | exact RI.mk (b2i_f (fun q => by rcases q with q | q | q; exact h3 q; exact h9 q; exact h15 q)).symm rfl
    · skip
      refine WE.iload_n (n := 13) dX5_isFailure_12 rfl rfl ?_
      refine WE.bipush (n := 15) ((-103 : Int32)) dX5_isFailure_13 rfl (by decide) ?_
      refine WE.icmp_ne (n := 18) (tgt := 22) dX5_isFailure_15 rfl (by decide) (fun h15 => ?_) (fun h15 => ?_)
      · skip
        refine WE.iconst (n := 23) (nI 0) dX5_isFailure_22 rfl (by decide) ?_
        refine WE.iret (ty := .boolean) dX5_isFailure_23 rfl (by first | rfl | exact b2i_nar _ | decide) ⟨by decide, by decide⟩ ?_
        first | exact RI.mk (b2i_t (Or.inl h3)).symm rfl | exact RI.mk (b2i_t (Or.inr (Or.inl h9))).symm rfl | exact RI.mk (b2i_t (Or.inr (Or.inr h15))).symm rfl | exact RI.mk (b2i_t (Or.inr (Or.inr (Classical.not_not.mp h15)))).symm rfl | exact RI.mk (b2i_f (fun q => by rcases q with q | q | q; exact h3 q; exact h9 q; exact h15 q)).symm rfl
      · skip
        refine WE.iconst (n := 19) (nI 1) dX5_isFailure_18 rfl (by decide) ?_
        refine WE.goto (tgt := 23) dX5_isFailure_19 (by decide) ?_
        refine WE.iret (ty := .boolean) dX5_isFailure_23 rfl (by first | rfl | exact b2i_nar _ | decide) ⟨by decide, by decide⟩ ?_
        first | exact RI.mk (b2i_t (Or.inl h3)).symm rfl | exact RI.mk (b2i_t (Or.inr (Or.inl h9))).symm rfl | exact RI.mk (b2i_t (Or.inr (Or.inr h15))).symm rfl | exact RI.mk (b2i_t (Or.inr (Or.inr (Classical.not_not.mp h15)))).symm rfl | exact RI.mk (b2i_f (fun q => by rcases q with q | q | q; exact h3 q; exact h9 q; exact h15 q)).symm rfl
def RDX (c' : CC) (N : NA) (h : List NA) (s : Option NA) (t : NA) (w : Int32 × Int32) (os : List Ord) (o : AO) (R : NA ⊕ ((Int32 × Int32) ⊕ Nat)) : Prop := match R with
  | .inl M => o = .inl (some (.int (nI os.length))) ∧ CR c' M ((N :: h).take 8) s 0 t (-1 : Int32) w
  | .inr (.inl q) => o = .inr uoE ∧ CR c' N h s 0 t (-1 : Int32) q
  | .inr (.inr _) => o = .inr iaE ∧ CR c' N h s 0 t (-1 : Int32) w
def RDP (c' : CC) (N : NA) (h : List NA) (s : Option NA) (n : Nat) (t : NA) (w : Int32 × Int32) (o : AO) : Prop := match (pSeq t n 20 0).2 with
  | none => o = .inr iaE ∧ CR c' N h s 0 t (nI (pSeq t n 20 0).1) w
  | some os => RDX c' N h s t w os o (exL N os)
theorem CR.read {c c1 : CC} {N : NA} {h : List NA} {s : Option NA} {n : Nat} {t : NA} {e e2 : Int32} {w : Int32 × Int32} (H : CR c N h s n t e w) (f : ∀ a k, a ≠ 389 → ¬ (391 ≤ a ∧ a ≤ 394) → c1 a k = c a k) (h5 : c1 389 5 = nI 0) (h7 : c1 389 7 = e2) : CR c1 N h s 0 t e2 w := by
  obtain ⟨i1, i2, i3, i4, i5, i6, i7, i8, i9, i10⟩ := H
  refine ⟨i1, i2.frame i1.cn.1 i1.cn.2.2.1 (fun a h1 h2 q h3 => f a q (by omega) (by omega)), i3.frame (fun a q q1 q2 => f a q (by omega) (by omega)), ?_, by decide, h5, ?_, h7, (f _ _ (by omega) (by omega)).trans i9, (f _ _ (by omega) (by omega)).trans i10⟩
  · cases s with
    | none => exact (f _ _ (by omega) (by omega)).trans i4
    | some S => exact ⟨(f _ _ (by omega) (by omega)).trans i4.1, i4.2.1, i4.2.2.frame i4.2.1.cn.1 i4.2.1.cn.2.2.1 (fun a h1 h2 q h3 => f a q (by omega) (by omega))⟩
  · rw [← i7]
    exact funext fun q => f _ _ (by omega) (by omega)
/-- every order that was taken is of a kind -/
theorem pSeq_ok {T : NA} {n : Nat} : ∀ (f p : Nat) (os : List Ord), p ≤ n → (pSeq T n f p).2 = some os → ∀ q, q ∈ os → okK q.1 := by
  intro f
  induction f with
  | zero =>
    intro p os _ h
    cases h
  | succ f ih =>
    intro p os hp h q hq
    rcases ho : (pOrd T n p).2 with _ | r
    · rw [pSeq_none ho] at h
      cases h
    · have hr := (pOrd_ok T hp).2.2 r ho
      by_cases hlt : (pOrd T n p).1 < n
      · by_cases h59 : T (pOrd T n p).1 = nI 59
        · rw [pSeq_more ho hlt h59] at h
          obtain ⟨os2, h2, rfl⟩ := Option.map_eq_some_iff.mp h
          rcases List.mem_cons.mp hq with rfl | hq
          · exact hr.1
          · exact ih _ _ (by omega) h2 q hq
        · rw [pSeq_bad ho hlt h59] at h
          cases h
      · rw [pSeq_end ho hlt] at h
        cases h
        rw [List.mem_singleton.mp hq]
        exact hr.1
set_option maxRecDepth 20000 in
set_option maxHeartbeats 1000000 in
theorem c_rd_loop (c c1 c1p : CC) (od : Int64 × UInt64) (N : NA) (h : List NA) (s : Option NA) (t : NA) (w : Int32 × Int32) (H1 : CR c1 N h s 0 t (-1 : Int32) w) (hc1 : ∀ a k, 395 ≤ a → c1 a k = c a k) (nx : Nat) (hn : nx < 9) (hx : c1 36 1 = nI nx) (hl8 : h.length ≤ 8) (hu : c1 36 2 = nI h.length) (hr : ∀ t (S : NA), h[t]? = some S → IN S ∧ RelT c1 (38 + 35 * ((nx + 8 - t) % 9)) S) (P : CPT c1 c1p (38 + 35 * nx) 1) (os : List Ord) (hos : os.length ≤ 20) (hok : ∀ q, q ∈ os → okK q.1) : ∀ (m i : Nat) (c2 : CC) (M : NA), i ≤ os.length → os.length < i + m → (∀ a k, ¬ (1 ≤ a ∧ a ≤ 35) → c2 a k = c1p a k) → IN M → RelT c2 1 M → c2 1 14 = c1p 1 14 → c2 1 15 = c1p 1 15 → exL N os = exL M (os.drop i) → c2 389 6 = nI os.length → (∀ j q, os[j]? = some q → OrdC c2 j q) → WE mX5_read 33 [(0, .ref 0), (1, .int (nI i))] [] (c2, od) 0 0 (GQ mX5_read (OA c od fun o c' => RDX c' N h s t w os o (exL N os))) := by
  intro m
  induction m with
  | zero =>
    intro i c2 M h1 h2
    exact absurd h2 (by omega)
  | succ m ih =>
    intro i c2 M hi hm fr hIM hRM h14 h15 hex hu2 hO
    refine WE.iload_n (n := 34) dX5_read_33 rfl rfl ?_
    refine WE.aload_n (n := 35) dX5_read_34 rfl rfl ?_
    refine WE.getR (n := 38) dX5_read_35 rfl fl_X5_36 ⟨by decide, by decide⟩ rfl (by first | decide | exact kd_bal (by assumption) | exact kd_let (by assumption) | assumption) ?_
    refine WE.getI (n := 41) dX5_read_38 rfl fl_X5_200 ⟨by decide, by decide, rfl⟩ (by first | decide | exact kd_bal (by assumption) | exact kd_let (by assumption) | assumption) ?_
    refine WE.icmp_ge (n := 44) (tgt := 92) dX5_read_41 rfl (by decide) (fun h41 => ?_) (fun h41 => ?_)
    · skip
      rw [hu2] at h41
      have hge : os.length ≤ i := ge_t (by omega) (by omega) h41
      obtain rfl : i = os.length := by omega
      refine WE.aload_n (n := 93) dX5_read_92 rfl rfl ?_
      refine WE.aload_n (n := 94) dX5_read_93 rfl rfl ?_
      refine WE.getR (n := 97) dX5_read_94 rfl fl_X5_36 ⟨by decide, by decide⟩ rfl (by first | decide | exact kd_bal (by assumption) | exact kd_let (by assumption) | assumption) ?_
      refine WE.getI (n := 100) dX5_read_97 rfl fl_X5_200 ⟨by decide, by decide, rfl⟩ (by first | decide | exact kd_bal (by assumption) | exact kd_let (by assumption) | assumption) ?_
      refine WE.V1I (M' := mX5_answerOf) (n := 103) dX5_read_100 rfl cv_X5_48 (by first | decide | exact kd_bal (by assumption) | exact kd_let (by assumption) | assumption) ⟨⟨by decide, by decide⟩, by decide, by decide⟩ (Nat.le_of_ble_eq_true rfl) (c_answer c2 od nx h.length hn ((fr _ _ (by omega)).trans ((row_o hn P (by omega)).trans hx)) hl8 ((fr _ _ (by omega)).trans ((row_o hn P (by omega)).trans hu)) (c2 389 6) (by rw [hu2]; exact NF.n (by omega))) ?_
      refine WE.iret (ty := .int) dX5_read_103 rfl rfl ⟨by decide, by decide⟩ ?_
      refine ⟨_, rfl, fun a k ha => ?_, ?_⟩
      · unfold kpS
        rw [u2_ne _ _ (by omega), u2_ne _ _ (by omega), fr _ _ (by omega), row_o hn P (by omega)]
        exact hc1 a k ha
      · rw [hex, List.drop_length]
        exact ⟨by rw [hu2], H1.ok hn hr P fr hIM hRM h14 h15⟩
    · skip
      rw [hu2] at h41
      have hlt : i < os.length := ge_f (by omega) (by omega) h41
      have hi20 : i < 20 := by omega
      obtain ⟨r, hri⟩ : ∃ r, os[i]? = some r := ⟨os[i], List.getElem?_eq_getElem hlt⟩
      have hrm : r ∈ os := List.mem_of_getElem? hri
      have hdr : os.drop i = r :: os.drop (i + 1) := by rw [List.drop_eq_getElem_cons hlt, (List.getElem?_eq_some_iff.mp hri).2]
      refine WE.aload_n (n := 45) dX5_read_44 rfl rfl ?_
      refine WE.iload_n (n := 46) dX5_read_45 rfl rfl ?_
      refine WE.V1PI (M' := mX5_carryOut) (n := 49) dX5_read_46 rfl cv_X5_203 (by first | decide | exact kd_bal (by assumption) | exact kd_let (by assumption) | assumption) ⟨⟨by decide, by decide⟩, by decide, by decide⟩ (Nat.le_of_ble_eq_true rfl) (c_carryOut c2 od M hRM hIM i hi20 r (hok r hrm) (hO i r hri)) (fun v46 σ46 q46 => ?_)
      obtain ⟨c3, rfl, f3, m3⟩ := q46
      rcases hS : S_ord M r with q | q | k
      · rw [hS] at m3
        obtain ⟨rfl, m4, m5, m6⟩ := m3
        have hok2 := ok_order hIM r q hS
        refine WE.istore_n (n := 50) dX5_read_49 rfl (by decide) ?_
        refine WE.iload_n (n := 51) dX5_read_50 rfl rfl ?_
        refine WE.S1I (M' := mX5_isFailure) (n := 54) dX5_read_51 rfl cv_X5_206  ⟨⟨by decide, by decide⟩, by decide, by decide⟩ (Nat.le_of_ble_eq_true rfl) (c_isFail _ _) ?_
        refine WE.if_eqB (n := 57) (tgt := 86) dX5_read_54 rfl (by decide) (fun h54 => ?_) (fun h54 => ?_)
        · skip
          refine WE.iincV (n := 89) (nI (i + 1)) dX5_read_86 rfl rfl (by decide) (nI_inc i) ?_
          refine WE.goto (tgt := 33) dX5_read_89 (by decide) ?_
          exact WE.ofA (L' := [(0, .ref 0), (1, .int (nI (i + 1)))]) ⟨rfl, rfl, trivial⟩ (ih (i + 1) c3 q.2 (by omega) (by omega) (fun a k ha => (f3 a k ha).trans (fr a k ha)) hok2.1 m4 (m5.trans h14) (m6.trans h15) (by rw [hex, hdr]; simp only [exL, hS]) ((f3 _ _ (by omega)).trans hu2) (fun j x hx => (hO j x hx).keep (fun a q1 q2 => f3 _ _ (by omega))))
        · skip
          exfalso
          obtain ⟨n1, n2, n3⟩ := hok2.2
          rcases h54 with z | z | z
          · exact n1 z
          · exact n2 z
          · exact n3 z
      · rw [hS] at m3
        obtain ⟨rfl, m4, m5, m6⟩ := m3
        refine WE.istore_n (n := 50) dX5_read_49 rfl (by decide) ?_
        refine WE.iload_n (n := 51) dX5_read_50 rfl rfl ?_
        refine WE.S1I (M' := mX5_isFailure) (n := 54) dX5_read_51 rfl cv_X5_206  ⟨⟨by decide, by decide⟩, by decide, by decide⟩ (Nat.le_of_ble_eq_true rfl) (c_isFail _ _) ?_
        refine WE.if_eqB (n := 57) (tgt := 86) dX5_read_54 rfl (by decide) (fun h54 => ?_) (fun h54 => ?_)
        · skip
          exact absurd (Or.inr (Or.inr rfl)) h54
        · skip
          refine WE.aload_n (n := 58) dX5_read_57 rfl rfl ?_
          refine WE.getR (n := 61) dX5_read_58 rfl fl_X5_19 ⟨by decide, by decide⟩ rfl (by first | decide | exact kd_bal (by assumption) | exact kd_let (by assumption) | assumption) ?_
          refine WE.aload_n (n := 62) dX5_read_61 rfl rfl ?_
          refine WE.getR (n := 65) dX5_read_62 rfl fl_X5_10 ⟨by decide, by decide⟩ rfl (by first | decide | exact kd_bal (by assumption) | exact kd_let (by assumption) | assumption) ?_
          refine WE.V1PV (M' := mX1_takeBack) (n := 68) dX5_read_65 rfl cv_X5_209 (by first | decide | exact kd_bal (by assumption) | exact kd_let (by assumption) | assumption) ⟨⟨by decide, by decide⟩, by decide, by decide⟩ (Nat.le_of_ble_eq_true rfl) (c_takeBack c3 od nx hn ((f3 _ _ (by omega)).trans ((fr _ _ (by omega)).trans ((row_o hn P (by omega)).trans hx)))) (fun σ65 q65 => ?_)
          obtain ⟨c4, rfl, P4⟩ := q65
          have hR4 : RelT c4 1 N := P4.rel H1.hi.cn ((P.rel H1.hi.cn H1.rel).frame H1.hi.cn.1 H1.hi.cn.2.2.1 (fun a h1 h2 k h3 => (f3 a k (by omega)).trans (fr a k (by omega))))
          have f4 : ∀ a k, ¬ (1 ≤ a ∧ a ≤ 35) → c4 a k = c1p a k := fun a k q => (P4.2.2.2.2 a k (Or.inl (by omega))).trans ((f3 a k q).trans (fr a k q))
          have w14 : c4 1 14 = c3 1 14 := P4.2.2.2.2 1 14 (Or.inr ⟨rfl, by decide⟩)
          have w15 : c4 1 15 = c3 1 15 := P4.2.2.2.2 1 15 (Or.inr ⟨rfl, by decide⟩)
          refine WE.aload_n (n := 69) dX5_read_68 rfl rfl ?_
          refine WE.iload_n (n := 70) dX5_read_69 rfl rfl ?_
          refine WE.bipush (n := 72) ((-103 : Int32)) dX5_read_70 rfl (by decide) ?_
          refine WE.icmp_ne (n := 75) (tgt := 80) dX5_read_72 rfl (by decide) (fun h72 => ?_) (fun h72 => ?_)
          · skip
            exact absurd rfl h72
          · skip
            refine WE.bipush (n := 77) ((-103 : Int32)) dX5_read_75 rfl (by decide) ?_
            refine WE.goto (tgt := 82) dX5_read_77 (by decide) ?_
            refine WE.V1G (M' := mX5_answerOf) (n := 85) dX5_read_82 rfl cv_X5_48 (by decide) ⟨⟨by decide, by decide⟩, by decide, by decide⟩ (Nat.le_of_ble_eq_true rfl) (c_ans103 c4 od) (fun v σ' q0 => ?_) (fun E σ' q0 => ?_)
            · exact absurd q0.1 (by intro z; cases z)
            · obtain ⟨q1, rfl⟩ := q0
              cases q1
              exact WX.out rfl ⟨by decide, by decide⟩ ⟨_, rfl, fun a k ha => by rw [f4 _ _ (by omega), row_o hn P (by omega)]; exact hc1 a k ha, by rw [hex, hdr]; simp only [exL, hS]; exact ⟨rfl, H1.ref hn hx hr P f4 hR4 (w14.trans m5) (w15.trans m6)⟩⟩
      · rw [hS] at m3
        obtain ⟨m4, rfl⟩ := m3
        refine WE.istore_n (n := 50) dX5_read_49 rfl (by decide) ?_
        refine WE.iload_n (n := 51) dX5_read_50 rfl rfl ?_
        refine WE.S1I (M' := mX5_isFailure) (n := 54) dX5_read_51 rfl cv_X5_206  ⟨⟨by decide, by decide⟩, by decide, by decide⟩ (Nat.le_of_ble_eq_true rfl) (c_isFail _ _) ?_
        refine WE.if_eqB (n := 57) (tgt := 86) dX5_read_54 rfl (by decide) (fun h54 => ?_) (fun h54 => ?_)
        · skip
          exfalso
          rcases m4 with rfl | rfl
          · exact h54 (Or.inl rfl)
          · exact h54 (Or.inr (Or.inl rfl))
        · skip
          refine WE.aload_n (n := 58) dX5_read_57 rfl rfl ?_
          refine WE.getR (n := 61) dX5_read_58 rfl fl_X5_19 ⟨by decide, by decide⟩ rfl (by first | decide | exact kd_bal (by assumption) | exact kd_let (by assumption) | assumption) ?_
          refine WE.aload_n (n := 62) dX5_read_61 rfl rfl ?_
          refine WE.getR (n := 65) dX5_read_62 rfl fl_X5_10 ⟨by decide, by decide⟩ rfl (by first | decide | exact kd_bal (by assumption) | exact kd_let (by assumption) | assumption) ?_
          refine WE.V1PV (M' := mX1_takeBack) (n := 68) dX5_read_65 rfl cv_X5_209 (by first | decide | exact kd_bal (by assumption) | exact kd_let (by assumption) | assumption) ⟨⟨by decide, by decide⟩, by decide, by decide⟩ (Nat.le_of_ble_eq_true rfl) (c_takeBack c3 od nx hn ((f3 _ _ (by omega)).trans ((fr _ _ (by omega)).trans ((row_o hn P (by omega)).trans hx)))) (fun σ65 q65 => ?_)
          obtain ⟨c4, rfl, P4⟩ := q65
          have hR4 : RelT c4 1 N := P4.rel H1.hi.cn ((P.rel H1.hi.cn H1.rel).frame H1.hi.cn.1 H1.hi.cn.2.2.1 (fun a h1 h2 k h3 => (f3 a k (by omega)).trans (fr a k (by omega))))
          have f4 : ∀ a k, ¬ (1 ≤ a ∧ a ≤ 35) → c4 a k = c1p a k := fun a k q => (P4.2.2.2.2 a k (Or.inl (by omega))).trans ((f3 a k q).trans (fr a k q))
          have w14 : c4 1 14 = c3 1 14 := P4.2.2.2.2 1 14 (Or.inr ⟨rfl, by decide⟩)
          have w15 : c4 1 15 = c3 1 15 := P4.2.2.2.2 1 15 (Or.inr ⟨rfl, by decide⟩)
          refine WE.aload_n (n := 69) dX5_read_68 rfl rfl ?_
          refine WE.iload_n (n := 70) dX5_read_69 rfl rfl ?_
          refine WE.bipush (n := 72) ((-103 : Int32)) dX5_read_70 rfl (by decide) ?_
          refine WE.icmp_ne (n := 75) (tgt := 80) dX5_read_72 rfl (by decide) (fun h72 => ?_) (fun h72 => ?_)
          · skip
            refine WE.bipush (n := 82) ((-102 : Int32)) dX5_read_80 rfl (by decide) ?_
            refine WE.V1G (M' := mX5_answerOf) (n := 85) dX5_read_82 rfl cv_X5_48 (by decide) ⟨⟨by decide, by decide⟩, by decide, by decide⟩ (Nat.le_of_ble_eq_true rfl) (c_ans102 c4 od) (fun v σ' q0 => ?_) (fun E σ' q0 => ?_)
            · exact absurd q0.1 (by intro z; cases z)
            · obtain ⟨q1, rfl⟩ := q0
              cases q1
              exact WX.out rfl ⟨by decide, by decide⟩ ⟨_, rfl, fun a k ha => by rw [f4 _ _ (by omega), row_o hn P (by omega)]; exact hc1 a k ha, by rw [hex, hdr]; simp only [exL, hS]; exact ⟨rfl, H1.ref hn hx hr P f4 hR4 (w14.trans (h14.trans ((row_o hn P (by omega)).trans H1.2.2.2.2.2.2.2.2.1))) (w15.trans (h15.trans ((row_o hn P (by omega)).trans H1.2.2.2.2.2.2.2.2.2)))⟩⟩
          · skip
            exfalso
            have h72 : v46 = (-103 : Int32) := by first | exact h72 | exact Classical.not_not.mp h72
            rw [h72] at m4
            rcases m4 with z | z
            · exact absurd z (by decide)
            · exact absurd z (by decide)
set_option maxRecDepth 20000 in
set_option maxHeartbeats 1000000 in
theorem p_read (c : CC) (od : Int64 × UInt64) (N : NA) (h : List NA) (s : Option NA) (n : Nat) (t : NA) (e : Int32) (w : Int32 × Int32) (H : CR c N h s n t e w) : CM mX5_read [.ref 0] (c, od) (OA c od fun o c' => RDP c' N h s n t w o) := by
  refine CM.of [(0, .ref 0)] rfl (by decide +kernel) rfl (Nat.le_of_ble_eq_true rfl) ?_
  refine WE.aload_n (n := 1) dX5_read_0 rfl rfl ?_
  refine WE.getR (n := 4) dX5_read_1 rfl fl_X5_36 ⟨by decide, by decide⟩ rfl (by first | decide | exact kd_bal (by assumption) | exact kd_let (by assumption) | assumption) ?_
  refine WE.V0PI (M' := mX3_understand) (n := 7) dX5_read_4 rfl cv_X5_195 (by first | decide | exact kd_bal (by assumption) | exact kd_let (by assumption) | assumption) ⟨⟨by decide, by decide⟩, by decide, by decide⟩ (Nat.le_of_ble_eq_true rfl) (c_understand od c n H.2.2.2.2.1 H.2.2.2.2.2.1) (fun r4 σ4 q4 => ?_)
  obtain ⟨c1, rfl, rfl, u1, u2x, u3⟩ := q4
  rw [H.2.2.2.2.2.2.1] at u3 ⊢
  refine WE.if_neB (n := 10) (tgt := 20) dX5_read_7 rfl (by decide) (fun h7 => ?_) (fun h7 => ?_)
  · skip
    obtain ⟨os, hs⟩ := Option.isSome_iff_exists.mp h7
    rw [hs] at u3
    obtain ⟨u4, u5, u6, u7⟩ := u3
    have H1 := H.read (fun a k q1 q2 => u1 a k q1 q2) u2x u4
    obtain ⟨hl8, hu, nx, hn, hx, hr⟩ := H1.2.2.1
    unfold RDP
    rw [hs]
    refine WE.aload_n (n := 21) dX5_read_20 rfl rfl ?_
    refine WE.getR (n := 24) dX5_read_21 rfl fl_X5_19 ⟨by decide, by decide⟩ rfl (by first | decide | exact kd_bal (by assumption) | exact kd_let (by assumption) | assumption) ?_
    refine WE.aload_n (n := 25) dX5_read_24 rfl rfl ?_
    refine WE.getR (n := 28) dX5_read_25 rfl fl_X5_10 ⟨by decide, by decide⟩ rfl (by first | decide | exact kd_bal (by assumption) | exact kd_let (by assumption) | assumption) ?_
    refine WE.V1PV (M' := mX1_prepare) (n := 31) dX5_read_28 rfl cv_X5_40 (by first | decide | exact kd_bal (by assumption) | exact kd_let (by assumption) | assumption) ⟨⟨by decide, by decide⟩, by decide, by decide⟩ (Nat.le_of_ble_eq_true rfl) (c_prepare c1 od nx hn hx) (fun σ28 q28 => ?_)
    obtain ⟨c1p, rfl, P⟩ := q28
    refine WE.iconst (n := 32) (nI 0) dX5_read_31 rfl (by decide) ?_
    refine WE.istore_n (n := 33) dX5_read_32 rfl (by decide) ?_
    exact WE.ofA (L' := [(0, .ref 0), (1, .int (nI 0))]) ⟨rfl, rfl, trivial⟩ (c_rd_loop c c1 c1p od N h s t w H1 (fun a k ha => u1 a k (by omega) (by omega)) nx hn hx hl8 hu hr P os u6 (pSeq_ok 20 0 os (Nat.zero_le _) hs) (os.length + 1) 0 c1p N (Nat.zero_le _) (by omega) (fun _ _ _ => rfl) H1.hi (H1.prep hn P) rfl rfl rfl ((row_o hn P (by omega)).trans u5) (fun j q hq => (u7 j q hq).keep (fun a q1 q2 => row_o hn P (by omega))))
  · skip
    have hs : (pSeq t n 20 0).2 = none := by simpa using h7
    rw [hs] at u3
    refine WE.throwS (tx := "the text has an error") "java/lang/IllegalArgumentException" dX5_read_10 dX5_read_13 dX5_read_14 dX5_read_16 dX5_read_19 xl_X5_97_101 (by decide +kernel) rfl ⟨by decide, by decide⟩ ⟨by decide, by decide⟩ ?_
    refine ⟨_, rfl, fun a k ha => u1 a k (by omega) (by omega), ?_⟩
    unfold RDP
    rw [hs]
    exact ⟨rfl, H.read (fun a k q1 q2 => u1 a k q1 q2) u2x u3⟩
