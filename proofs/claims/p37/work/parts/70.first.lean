/-! THE LAW: its first object, from its making to the second -/
section ESR
variable {M : MT} {as : List Value} {c : CC} {od : Int64 × UInt64} {N : NA} {m : Nat} {sn : Option NA} {w : Int32 × Int32} {v v' : Int32}
theorem es_acc (hE : ES N m sn w c) (x : Int32) (hv : hq (Q_acc N (nI 0) (nI m) x) = v) : CM mL_account [.ref 0, .int x] (c, od) (PI fun r σ' => r = v ∧ ∃ c', σ' = (c', od) ∧ ES N m sn w c') := by
  obtain ⟨h, t, e, hm, H⟩ := hE
  subst hm
  refine CM.mono (y_account c od _ H x) (fun o s q => ?_)
  obtain ⟨r, h1, c', h2, h3, h4⟩ := q
  exact ⟨r, h1, h4.trans hv, c', h2, h, t, e, rfl, h3⟩
theorem es_qe (hv : v' = v) (hE : ES N m sn w c) (hx : ∀ h t e, CA c (N, h, sn, 0, t, e, w) → CM M as (c, od) (PI (QP od (N, h, sn, 0, t, e, w) v'))) : CM M as (c, od) (PI fun r σ' => r = v ∧ ∃ c', σ' = (c', od) ∧ ES N m sn w c') := by
  subst hv
  exact es_q hE (fun h t e _ H => hx h t e H)
theorem es_is {a b : Int32} (hE : ES N m sn (a, b) c) (h0 : ¬ a = 0) : CM mL_is [.ref 0, .int a, .int b] (c, od) (PI fun r σ' => r = nI 1 ∧ ∃ c', σ' = (c', od) ∧ ES N m sn (a, b) c') :=
  es_q hE (fun h t e _ H => c_is c od _ H a b rfl h0)
theorem es_undo0 (hE : ES N 0 sn w c) : CM mL_undo [.ref 0] (c, od) (PI fun r σ' => r = cdI 0 ∧ ∃ c', σ' = (c', od) ∧ ES N 0 sn w c') := by
  obtain ⟨h, t, e, hm, H⟩ := hE
  obtain rfl := List.length_eq_zero_iff.mp hm
  refine CM.mono (x_undo c od _ H) (fun o s q => ?_)
  obtain ⟨r, h1, c', h2, h3, h4⟩ := q
  exact ⟨r, h1, h4, c', h2, [], t, e, rfl, h3⟩
theorem es_rest0 (hE : ES N m none w c) : CM mL_restore [.ref 0] (c, od) (PI fun r σ' => r = cdI 0 ∧ ∃ c', σ' = (c', od) ∧ ES N m none w c') := by
  obtain ⟨h, t, e, hm, H⟩ := hE
  refine CM.mono (x_restore c od _ H) (fun o s q => ?_)
  obtain ⟨r, h1, c', h2, h3, h4⟩ := q
  exact ⟨r, h1, h4, c', h2, h, t, e, hm, h3⟩
theorem es_rest {S : NA} (hE : ES N m (some S) w c) : CM mL_restore [.ref 0] (c, od) (PI fun r σ' => r = S 3 ∧ ∃ c', σ' = (c', od) ∧ ES S 0 (some S) w c') := by
  obtain ⟨h, t, e, hm, H⟩ := hE
  refine CM.mono (x_restore c od _ H) (fun o s q => ?_)
  obtain ⟨r, h1, c', h2, h3, h4⟩ := q
  exact ⟨r, h1, h4, c', h2, [], t, e, rfl, h3⟩
theorem es_save (hE : ES N m sn w c) : CM mX5_save [.ref 0] (c, od) (PI fun r σ' => r = N 3 ∧ ∃ c', σ' = (c', od) ∧ ES N m (some N) w c') := by
  obtain ⟨h, t, e, hm, H⟩ := hE
  refine CM.mono (x_save c od _ H) (fun o s q => ?_)
  obtain ⟨r, h1, c', h2, h3, h4⟩ := q
  exact ⟨r, h1, h4, c', h2, h, t, e, hm, h3⟩
theorem es_share (hE : ES EA m sn w c) : CM mL_share [.ref 0] (c, od) (RW (.float 0) (c, od)) := by
  obtain ⟨h, t, e, hm, H⟩ := hE
  have h9 := x_share c od _ H
  rw [show shB (EA, h, sn, 0, t, e, w).1 = 0 from qA_sh] at h9
  exact h9
theorem es_meanDistance (hE : ES EA m sn w c) : CM mL_meanDistance [.ref 0] (c, od) (RW (.double 13875388141788987392) (c, od)) := by
  obtain ⟨h, t, e, hm, H⟩ := hE
  have h9 := x_meanDistance c od _ H
  rw [show mdB (EA, h, sn, 0, t, e, w).1 = 13875388141788987392 from qA_md] at h9
  exact h9
/-- i letters stand in the text, the first of them 300 -/
def AP (N : NA) (m : Nat) (sn : Option NA) (w : Int32 × Int32) (i : Nat) (c : CC) : Prop := ∃ h t e, h.length = m ∧ CA c (N, h, sn, i, t, e, w) ∧ (0 < i → t 0 = nI 300)
theorem e_chr : ∀ i, i < 60 → ((nI 300 + nI i).toUInt32 % 65536).toInt32 = nI (300 + i) ∧ vp_nar .char (nI (300 + i)) = nI (300 + i) := by decide +kernel
theorem ap_ok {i : Nat} (hi : i < 60) (hE : AP N m sn w i c) : CM mL_append [.ref 0, .int (nI (300 + i))] (c, od) (PI fun r σ' => r = nI (i + 1) ∧ ∃ c', σ' = (c', od) ∧ AP N m sn w (i + 1) c') := by
  obtain ⟨h, t, e, hm, H, h0⟩ := hE
  have h9 := x_append c od _ H (nI (300 + i)) (e_chr i hi).2
  have e9 : stepA (N, h, sn, i, t, e, w) (nI (300 + i)) = (0, nI (i + 1), (N, h, sn, i + 1, upN t i (nI (300 + i)), e, w)) := by
    unfold stepA
    exact if_neg (by show ¬ i = 60; omega)
  rw [e9] at h9
  refine CM.mono h9 (fun o s q => ?_)
  obtain ⟨r, h1, c', h2, h3, h4⟩ := q
  refine ⟨r, h1, h4, c', h2, h, _, e, hm, h3, fun _ => ?_⟩
  by_cases hz : i = 0
  · subst hz
    exact upN_eq _ _ _
  · rw [upN_ne _ _ _ (by omega)]
    exact h0 (by omega)
theorem ap_full (hE : AP N m sn w 60 c) : CM mL_append [.ref 0, .int (nI 104)] (c, od) (PI fun r σ' => r = cdI 0 ∧ ∃ c', σ' = (c', od) ∧ AP N m sn w 60 c') := by
  obtain ⟨h, t, e, hm, H, h0⟩ := hE
  have h9 := x_append c od _ H (nI 104) (by decide)
  have e9 : stepA (N, h, sn, 60, t, e, w) (nI 104) = (1, nI 0, (N, h, sn, 60, t, e, w)) := by
    unfold stepA
    exact if_pos rfl
  rw [e9] at h9
  refine CM.mono h9 (fun o s q => ?_)
  obtain ⟨r, h1, c', h2, h3, h4⟩ := q
  exact ⟨r, h1, h4, c', h2, h, t, e, hm, h3, h0⟩
theorem ps_300 {t : NA} (h : t 0 = nI 300) : pSeq t 60 20 0 = (0, none) := by
  have o : pOrd t 60 0 = (0, none) := by
    unfold pOrd
    rw [h]
    rfl
  unfold pSeq
  rw [o]
/-- the same, and the place of the error -/
def ER (N : NA) (m : Nat) (sn : Option NA) (w : Int32 × Int32) (c : CC) : Prop := ∃ h t, h.length = m ∧ CA c (N, h, sn, 0, t, nI 0, w)
theorem ap_read (hE : AP N m sn w 60 c) : CM mL_read [.ref 0] (c, od) (PI fun r σ' => r = cdI 0 ∧ ∃ c', σ' = (c', od) ∧ ER N m sn w c') := by
  obtain ⟨h, t, e, hm, H, h0⟩ := hE
  have h9 := x_read c od _ H
  have e9 : stepD (N, h, sn, 60, t, e, w) = (1, nI 0, (N, h, sn, 0, t, nI 0, w)) := sd_none (A := (N, h, sn, 60, t, e, w)) (q := 0) (ps_300 (h0 (by decide)))
  rw [e9] at h9
  refine CM.mono h9 (fun o s q => ?_)
  obtain ⟨r, h1, c', h2, h3, h4⟩ := q
  exact ⟨r, h1, h4, c', h2, h, t, hm, h3⟩
theorem er_pos (hE : ER N m sn w c) : CM mX5_errorPosition [.ref 0] (c, od) (PI fun r σ' => r = nI 0 ∧ ∃ c', σ' = (c', od) ∧ ES N m sn w c') := by
  obtain ⟨h, t, hm, H⟩ := hE
  refine CM.mono (x_errorPosition c od _ H) (fun o s q => ?_)
  obtain ⟨h1, h2⟩ := q
  exact ⟨_, h1, rfl, c, h2, h, t, _, hm, H⟩
end ESR
theorem q1_19 : hq (Q_acc (eN 48 (gg 0) 0 0 0 0 0 0) (nI 0) (nI 2) (nI 19)) = nI 0 := by decide +kernel
theorem es_Z : ES E0 0 none (0, 0) cZ := ⟨[], _, _, rfl, caZ⟩
theorem es_ap {N : NA} {m : Nat} {sn : Option NA} {w : Int32 × Int32} {c : CC} (h : ES N m sn w c) : AP N m sn w 0 c := by
  obtain ⟨h, t, e, hm, H⟩ := h
  exact ⟨h, t, e, hm, H, fun q => absurd q (by decide)⟩
set_option maxRecDepth 20000 in
set_option maxHeartbeats 4000000 in
theorem le_app {G : GT} {Ls : Nat} {xs : Nat → Int32} (od : Int64 × UInt64) (k : ∀ c, AP (eN 48 (gg 0) 0 0 0 0 0 0) 2 (some E0) (0, 0) 60 c → LE mL_law (EL Ls xs) 101 [(0, .ref SP), (1, .ref 0), (2, .int (nI 60))] [] (c, od) none 560 4360 G) : ∀ (n i : Nat) (c : CC), i ≤ 60 → 60 < i + n → AP (eN 48 (gg 0) 0 0 0 0 0 0) 2 (some E0) (0, 0) i c → LE mL_law (EL Ls xs) 71 [(0, .ref SP), (1, .ref 0), (2, .int (nI i))] [] (c, od) none (500 + 1 * i) (4000 + 6 * i) G := by
  intro n
  induction n with
  | zero =>
    intro i c h1 h2
    exact absurd h2 (by omega)
  | succ n ih =>
    intro i c hi hn HE
    refine LE.iload_n (n := 72) dL_law_71 rfl rfl ?_
    refine LE.bipush (n := 74) (nI 60) dL_law_72 rfl (by decide) ?_
    refine LE.icmp_ge (n := 77) (tgt := 101) dL_law_74 rfl (by decide) (fun h74 => ?_) (fun h74 => ?_)
    · skip
      have hx : i = 60 := by have := ge_t (by omega) (by omega) h74; omega
      subst hx
      exact LE.ofA (L' := [(0, .ref SP), (1, .ref 0), (2, .int (nI 60))]) ⟨rfl, rfl, rfl, trivial⟩ (k _ HE)
    · skip
      have hlt : i < 60 := ge_f (by omega) (by omega) h74
      refine LE.aload_n (n := 78) dL_law_77 rfl rfl ?_
      refine LE.sipush (n := 81) (nI 300) dL_law_78 rfl (by decide) ?_
      refine LE.iload_n (n := 82) dL_law_81 rfl rfl ?_
      refine LE.iadd (n := 83) dL_law_82 rfl ?_
      refine LE.i2c (n := 84) dL_law_83 rfl ?_
      rw [(e_chr i hlt).1]
      refine LE.H2PI (M' := mL_append) (n := 87) dL_law_84 rfl ch_L_135 ⟨⟨by decide, by decide⟩, (by show 500 + 1 * i + 1 ≤ 781134; omega), (by show 4000 + 6 * i + 6 ≤ 6748446; omega)⟩ (Nat.le_of_ble_eq_true rfl) (ap_ok hlt HE) (fun _ _ _ => rfl) (fun r84 σ84 q84 => ?_)
      obtain ⟨rfl, c84, rfl, HE⟩ := q84
      refine LE.cu (cu' := 500 + 1 * i + 1) (su' := 4000 + 6 * i + 6) (by show 500 + 1 * i + 1 = _; omega) (by show 4000 + 6 * i + 6 = _; omega) ?_
      refine LE.iload_n (n := 88) dL_law_87 rfl rfl ?_
      refine LE.iconst (n := 89) (nI 1) dL_law_88 rfl (by decide) ?_
      refine LE.iadd (n := 90) dL_law_89 rfl ?_
      refine LE.icmp_eq (n := 93) (tgt := 95) dL_law_90 rfl (by decide) (fun h90 => ?_) (fun h90 => ?_)
      rotate_left
      · exact absurd (nI_add i 1).symm h90
      refine LE.iincV (n := 98) (nI (i + 1)) dL_law_95 rfl rfl (by decide) (nI_inc i) ?_
      refine LE.goto (tgt := 71) dL_law_98 (by decide) ?_
      exact LE.ofA (L' := [(0, .ref SP), (1, .ref 0), (2, .int (nI (i + 1)))]) ⟨rfl, rfl, rfl, trivial⟩ (LE.cu (by omega) (by omega) (ih (i + 1) _ (by omega) (by omega) HE))
set_option maxRecDepth 20000 in
set_option maxHeartbeats 4000000 in
theorem le_gas {G : GT} {Ls : Nat} {xs : Nat → Int32} (od : Int64 × UInt64) (k : ∀ c, ES (eN 48 (gg 10) 0 0 0 0 0 0) (min 8 (2 + 10)) (some E0) (0, 0) c → LE mL_law (EL Ls xs) 182 [(0, .ref SP), (1, .ref 0), (2, .int (nI 10))] [] (c, od) none 710 6060 G) : ∀ (n i : Nat) (c : CC), i ≤ 10 → 10 < i + n → ES (eN 48 (gg i) 0 0 0 0 0 0) (min 8 (2 + i)) (some E0) (0, 0) c → LE mL_law (EL Ls xs) 143 [(0, .ref SP), (1, .ref 0), (2, .int (nI i))] [] (c, od) none (700 + 1 * i) (6000 + 6 * i) G := by
  intro n
  induction n with
  | zero =>
    intro i c h1 h2
    exact absurd h2 (by omega)
  | succ n ih =>
    intro i c hi hn HE
    refine LE.iload_n (n := 144) dL_law_143 rfl rfl ?_
    refine LE.bipush (n := 146) (nI 10) dL_law_144 rfl (by decide) ?_
    refine LE.icmp_ge (n := 149) (tgt := 182) dL_law_146 rfl (by decide) (fun h146 => ?_) (fun h146 => ?_)
    · skip
      have hx : i = 10 := by have := ge_t (by omega) (by omega) h146; omega
      subst hx
      exact LE.ofA (L' := [(0, .ref SP), (1, .ref 0), (2, .int (nI 10))]) ⟨rfl, rfl, rfl, trivial⟩ (k _ HE)
    · skip
      have hlt : i < 10 := ge_f (by omega) (by omega) h146
      refine LE.aload_n (n := 150) dL_law_149 rfl rfl ?_
      refine LE.sipush (n := 153) (nI 999) dL_law_150 rfl (by decide) ?_
      refine LE.H2PI (M' := mL_gas) (n := 156) dL_law_153 rfl ch_L_146 ⟨⟨by decide, by decide⟩, (by show 700 + 1 * i + 1 ≤ 781134; omega), (by show 6000 + 6 * i + 6 ≤ 6748446; omega)⟩ (Nat.le_of_ble_eq_true rfl) (es_ok 0 (e_gas i hlt) HE (fun h t e H => x_gas _ _ _ H _)) (fun _ _ _ => rfl) (fun r153 σ153 q153 => ?_)
      obtain ⟨rfl, c153, rfl, HE⟩ := q153
      rw [show min 8 (min 8 (2 + i) + 1) = min 8 (2 + (i + 1)) by omega] at HE
      refine LE.cu (cu' := 700 + 1 * i + 1) (su' := 6000 + 6 * i + 6) (by show 700 + 1 * i + 1 = _; omega) (by show 6000 + 6 * i + 6 = _; omega) ?_
      refine LE.sipush (n := 159) (nI 9999) dL_law_156 rfl (by decide) ?_
      refine LE.sipush (n := 162) (nI 2098) dL_law_159 rfl (by decide) ?_
      refine LE.sipush (n := 165) (nI 999) dL_law_162 rfl (by decide) ?_
      refine LE.iload_n (n := 166) dL_law_165 rfl rfl ?_
      refine LE.imul (n := 167) dL_law_166 rfl ?_
      refine LE.iadd (n := 168) dL_law_167 rfl ?_
      refine LE.mmin (n := 171) dL_law_168 rfl ⟨g_1310, g_337, g_31, g_338⟩ ⟨by decide, Nat.le_of_ble_eq_true rfl, (by show 700 + 1 * i + 1 ≤ 781134; omega), (by show 6000 + 6 * i + 6 ≤ 6748446; omega)⟩ ?_
      rw [e_gasv i hlt]
      refine LE.icmp_eq (n := 174) (tgt := 176) dL_law_171 rfl (by decide) (fun h171 => ?_) (fun h171 => ?_)
      rotate_left
      · first | exact absurd rfl h171 | exact absurd h171 (by decide)
      refine LE.iincV (n := 179) (nI (i + 1)) dL_law_176 rfl rfl (by decide) (nI_inc i) ?_
      refine LE.goto (tgt := 143) dL_law_179 (by decide) ?_
      exact LE.ofA (L' := [(0, .ref SP), (1, .ref 0), (2, .int (nI (i + 1)))]) ⟨rfl, rfl, rfl, trivial⟩ (LE.cu (by omega) (by omega) (ih (i + 1) _ (by omega) (by omega) HE))
set_option maxRecDepth 20000 in
set_option maxHeartbeats 4000000 in
theorem le_bal {G : GT} {Ls : Nat} {xs : Nat → Int32} (od : Int64 × UInt64) (k : ∀ c, ES (eN 48 (gb 6) 6 0 0 0 0 0) 8 (some E0) (0, 0) c → LE mL_law (EL Ls xs) 241 [(0, .ref SP), (1, .ref 0), (2, .int (nI 6))] [] (c, od) none 774 6644 G) : ∀ (n i : Nat) (c : CC), i ≤ 6 → 6 < i + n → ES (eN 48 (gb i) i 0 0 0 0 0) 8 (some E0) (0, 0) c → LE mL_law (EL Ls xs) 184 [(0, .ref SP), (1, .ref 0), (2, .int (nI i))] [] (c, od) none (750 + 4 * i) (6500 + 24 * i) G := by
  intro n
  induction n with
  | zero =>
    intro i c h1 h2
    exact absurd h2 (by omega)
  | succ n ih =>
    intro i c hi hn HE
    refine LE.iload_n (n := 185) dL_law_184 rfl rfl ?_
    refine LE.bipush (n := 187) (nI 6) dL_law_185 rfl (by decide) ?_
    refine LE.icmp_ge (n := 190) (tgt := 241) dL_law_187 rfl (by decide) (fun h187 => ?_) (fun h187 => ?_)
    · skip
      have hx : i = 6 := by have := ge_t (by omega) (by omega) h187; omega
      subst hx
      exact LE.ofA (L' := [(0, .ref SP), (1, .ref 0), (2, .int (nI 6))]) ⟨rfl, rfl, rfl, trivial⟩ (k _ HE)
    · skip
      have hlt : i < 6 := ge_f (by omega) (by omega) h187
      refine LE.aload_n (n := 191) dL_law_190 rfl rfl ?_
      refine LE.bipush (n := 193) (nI 99) dL_law_191 rfl (by decide) ?_
      refine LE.H2PI (M' := mL_balloon) (n := 196) dL_law_193 rfl ch_L_161 ⟨⟨by decide, by decide⟩, (by show 750 + 4 * i + 1 ≤ 781134; omega), (by show 6500 + 24 * i + 6 ≤ 6748446; omega)⟩ (Nat.le_of_ble_eq_true rfl) (es_ok 1 (e_bal i hlt) HE (fun h t e H => x_balloon _ _ _ H _)) (fun _ _ _ => rfl) (fun r193 σ193 q193 => ?_)
      obtain ⟨rfl, c193, rfl, HE⟩ := q193
      refine LE.cu (cu' := 750 + 4 * i + 1) (su' := 6500 + 24 * i + 6) (by show 750 + 4 * i + 1 = _; omega) (by show 6500 + 24 * i + 6 = _; omega) ?_
      refine LE.iload_n (n := 197) dL_law_196 rfl rfl ?_
      refine LE.icmp_ne (n := 200) (tgt := 233) dL_law_197 rfl (by decide) (fun h197 => ?_) (fun h197 => ?_)
      · first | exact absurd rfl h197 | exact absurd h197 (by decide)
      refine LE.aload_n (n := 201) dL_law_200 rfl rfl ?_
      refine LE.iload_n (n := 202) dL_law_201 rfl rfl ?_
      refine LE.bipush (n := 204) (nI 99) dL_law_202 rfl (by decide) ?_
      refine LE.H3PI (M' := mL_fill) (n := 207) dL_law_204 rfl ch_L_163 ⟨⟨by decide, by decide⟩, (by show 750 + 4 * i + 1 + 1 ≤ 781134; omega), (by show 6500 + 24 * i + 6 + 6 ≤ 6748446; omega)⟩ (Nat.le_of_ble_eq_true rfl) (es_ok 2 (e_fil i hlt) HE (fun h t e H => x_fill _ _ _ H _ _)) (fun _ _ _ => rfl) (fun r204 σ204 q204 => ?_)
      obtain ⟨rfl, c204, rfl, HE⟩ := q204
      refine LE.cu (cu' := 750 + 4 * i + 2) (su' := 6500 + 24 * i + 12) (by show 750 + 4 * i + 1 + 1 = _; omega) (by show 6500 + 24 * i + 6 + 6 = _; omega) ?_
      refine LE.bipush (n := 209) (nI 99) dL_law_207 rfl (by decide) ?_
      refine LE.icmp_ne (n := 212) (tgt := 233) dL_law_209 rfl (by decide) (fun h209 => ?_) (fun h209 => ?_)
      · first | exact absurd rfl h209 | exact absurd h209 (by decide)
      refine LE.aload_n (n := 213) dL_law_212 rfl rfl ?_
      refine LE.iload_n (n := 214) dL_law_213 rfl rfl ?_
      refine LE.bipush (n := 216) (nI 12) dL_law_214 rfl (by decide) ?_
      refine LE.H3PI (M' := mL_courier) (n := 219) dL_law_216 rfl ch_L_168 ⟨⟨by decide, by decide⟩, (by show 750 + 4 * i + 2 + 1 ≤ 781134; omega), (by show 6500 + 24 * i + 12 + 6 ≤ 6748446; omega)⟩ (Nat.le_of_ble_eq_true rfl) (es_ok 2 (e_co1 i hlt) HE (fun h t e H => x_courier _ _ _ H _ _)) (fun _ _ _ => rfl) (fun r216 σ216 q216 => ?_)
      obtain ⟨rfl, c216, rfl, HE⟩ := q216
      refine LE.cu (cu' := 750 + 4 * i + 3) (su' := 6500 + 24 * i + 18) (by show 750 + 4 * i + 2 + 1 = _; omega) (by show 6500 + 24 * i + 12 + 6 = _; omega) ?_
      refine LE.iconst (n := 220) (nI 1) dL_law_219 rfl (by decide) ?_
      refine LE.icmp_ne (n := 223) (tgt := 233) dL_law_220 rfl (by decide) (fun h220 => ?_) (fun h220 => ?_)
      · first | exact absurd rfl h220 | exact absurd h220 (by decide)
      refine LE.aload_n (n := 224) dL_law_223 rfl rfl ?_
      refine LE.iload_n (n := 225) dL_law_224 rfl rfl ?_
      refine LE.iconst (n := 226) (nI 5) dL_law_225 rfl (by decide) ?_
      refine LE.H3PI (M' := mL_courier) (n := 229) dL_law_226 rfl ch_L_168 ⟨⟨by decide, by decide⟩, (by show 750 + 4 * i + 3 + 1 ≤ 781134; omega), (by show 6500 + 24 * i + 18 + 6 ≤ 6748446; omega)⟩ (Nat.le_of_ble_eq_true rfl) (es_ok 2 (e_co2 i hlt) HE (fun h t e H => x_courier _ _ _ H _ _)) (fun _ _ _ => rfl) (fun r226 σ226 q226 => ?_)
      obtain ⟨rfl, c226, rfl, HE⟩ := q226
      refine LE.cu (cu' := 750 + 4 * i + 4) (su' := 6500 + 24 * i + 24) (by show 750 + 4 * i + 3 + 1 = _; omega) (by show 6500 + 24 * i + 18 + 6 = _; omega) ?_
      refine LE.iconst (n := 230) (nI 2) dL_law_229 rfl (by decide) ?_
      refine LE.icmp_eq (n := 233) (tgt := 235) dL_law_230 rfl (by decide) (fun h230 => ?_) (fun h230 => ?_)
      rotate_left
      · first | exact absurd rfl h230 | exact absurd h230 (by decide)
      refine LE.iincV (n := 238) (nI (i + 1)) dL_law_235 rfl rfl (by decide) (nI_inc i) ?_
      refine LE.goto (tgt := 184) dL_law_238 (by decide) ?_
      exact LE.ofA (L' := [(0, .ref SP), (1, .ref 0), (2, .int (nI (i + 1)))]) ⟨rfl, rfl, rfl, trivial⟩ (LE.cu (by omega) (by omega) (ih (i + 1) _ (by omega) (by omega) HE))
set_option maxRecDepth 20000 in
set_option maxHeartbeats 4000000 in
theorem le_let {G : GT} {Ls : Nat} {xs : Nat → Int32} (od : Int64 × UInt64) (k : ∀ c, ES (eN 48 9405 6 0 24 0 0 0) 8 (some E0) (0, 0) c → LE mL_law (EL Ls xs) 270 [(0, .ref SP), (1, .ref 0), (2, .int (nI 24))] [] (c, od) none 874 7644 G) : ∀ (n i : Nat) (c : CC), i ≤ 24 → 24 < i + n → ES (eN 48 9405 6 0 i 0 0 0) 8 (some E0) (0, 0) c → LE mL_law (EL Ls xs) 243 [(0, .ref SP), (1, .ref 0), (2, .int (nI i))] [] (c, od) none (850 + 1 * i) (7500 + 6 * i) G := by
  intro n
  induction n with
  | zero =>
    intro i c h1 h2
    exact absurd h2 (by omega)
  | succ n ih =>
    intro i c hi hn HE
    refine LE.iload_n (n := 244) dL_law_243 rfl rfl ?_
    refine LE.bipush (n := 246) (nI 24) dL_law_244 rfl (by decide) ?_
    refine LE.icmp_ge (n := 249) (tgt := 270) dL_law_246 rfl (by decide) (fun h246 => ?_) (fun h246 => ?_)
    · skip
      have hx : i = 24 := by have := ge_t (by omega) (by omega) h246; omega
      subst hx
      exact LE.ofA (L' := [(0, .ref SP), (1, .ref 0), (2, .int (nI 24))]) ⟨rfl, rfl, rfl, trivial⟩ (k _ HE)
    · skip
      have hlt : i < 24 := ge_f (by omega) (by omega) h246
      refine LE.aload_n (n := 250) dL_law_249 rfl rfl ?_
      refine LE.bipush (n := 252) (nI 9) dL_law_250 rfl (by decide) ?_
      refine LE.iload_n (n := 253) dL_law_252 rfl rfl ?_
      refine LE.iconst (n := 254) (nI 3) dL_law_253 rfl (by decide) ?_
      refine LE.irem (n := 255) dL_law_254 rfl (by decide) ?_
      refine LE.H3PI (M' := mL_letter) (n := 258) dL_law_255 rfl ch_L_170 ⟨⟨by decide, by decide⟩, (by show 850 + 1 * i + 1 ≤ 781134; omega), (by show 7500 + 6 * i + 6 ≤ 6748446; omega)⟩ (Nat.le_of_ble_eq_true rfl) (es_ok 1 (e_let i hlt) HE (fun h t e H => x_letter _ _ _ H _ _)) (fun _ _ _ => rfl) (fun r255 σ255 q255 => ?_)
      obtain ⟨rfl, c255, rfl, HE⟩ := q255
      refine LE.cu (cu' := 850 + 1 * i + 1) (su' := 7500 + 6 * i + 6) (by show 850 + 1 * i + 1 = _; omega) (by show 7500 + 6 * i + 6 = _; omega) ?_
      refine LE.iload_n (n := 259) dL_law_258 rfl rfl ?_
      refine LE.icmp_eq (n := 262) (tgt := 264) dL_law_259 rfl (by decide) (fun h259 => ?_) (fun h259 => ?_)
      rotate_left
      · first | exact absurd rfl h259 | exact absurd h259 (by decide)
      refine LE.iincV (n := 267) (nI (i + 1)) dL_law_264 rfl rfl (by decide) (nI_inc i) ?_
      refine LE.goto (tgt := 243) dL_law_267 (by decide) ?_
      exact LE.ofA (L' := [(0, .ref SP), (1, .ref 0), (2, .int (nI (i + 1)))]) ⟨rfl, rfl, rfl, trivial⟩ (LE.cu (by omega) (by omega) (ih (i + 1) _ (by omega) (by omega) HE))
theorem ch_L_281 : CSL RL 281 mL_is 3 := ⟨g_928, g_929, g_20, g_930, rfl, ⟨by decide +kernel, by decide +kernel, by decide +kernel⟩⟩
theorem ch_L_271 : CHL RL 271 mL_restore 1 := ⟨g_916, g_917, g_20, g_918, rfl, ⟨by decide +kernel, by decide +kernel, by decide +kernel⟩⟩
theorem ch_L_269 : CHL RL 269 mL_undo 1 := ⟨g_904, g_905, g_20, g_906, rfl, ⟨by decide +kernel, by decide +kernel, by decide +kernel⟩⟩
set_option maxRecDepth 20000 in
set_option maxHeartbeats 8000000 in
theorem le_end {G : GT} {Ls : Nat} {xs : Nat → Int32} (od : Int64 × UInt64) (k : ∀ L σ, lkL 0 L = some (.ref SP) → LE mL_law (EL Ls xs) 719 L [] σ none 3000 30000 G) (c : CC) (HE : ES E6 8 (some E0) (0, 0) c) : LE mL_law (EL Ls xs) 270 [(0, .ref SP), (1, .ref 0), (2, .int (nI 24))] [] (c, od) none 1200 12000 G := by
  refine LE.aload_n (n := 271) dL_law_270 rfl rfl ?_
  refine LE.iconst (n := 272) (nI 2) dL_law_271 rfl (by decide) ?_
  refine LE.H2PI (M' := mL_account) (n := 275) dL_law_272 rfl ch_L_192 ⟨⟨by decide, by decide⟩, (by show 1200 + 1 ≤ 781134; omega), (by show 12000 + 6 ≤ 6748446; omega)⟩ (Nat.le_of_ble_eq_true rfl) (es_acc HE _ q6_2) (fun _ _ _ => rfl) (fun r272 σ272 q272 => ?_)
  obtain ⟨rfl, c272, rfl, HE⟩ := q272
  refine LE.cu (cu' := 1200 + 1) (su' := 12000 + 6) (by show 1200 + 1 = _; omega) (by show 12000 + 6 = _; omega) ?_
  refine LE.sipush (n := 278) (nI 9405) dL_law_275 rfl (by decide) ?_
  refine LE.icmp_ne (n := 281) (tgt := 423) dL_law_278 rfl (by decide) (fun h278 => ?_) (fun h278 => ?_)
  · first | exact absurd rfl h278 | exact absurd h278 (by decide)
  refine LE.aload_n (n := 282) dL_law_281 rfl rfl ?_
  refine LE.bipush (n := 284) (nI 10) dL_law_282 rfl (by decide) ?_
  refine LE.H2PI (M' := mL_balloon) (n := 287) dL_law_284 rfl ch_L_161 ⟨⟨by decide, by decide⟩, (by show 1200 + 1 + 1 ≤ 781134; omega), (by show 12000 + 6 + 6 ≤ 6748446; omega)⟩ (Nat.le_of_ble_eq_true rfl) (es_ref 1 e6_bal HE (fun h t e H => x_balloon _ _ _ H _)) (fun _ _ _ => rfl) (fun r284 σ284 q284 => ?_)
  obtain ⟨rfl, c284, rfl, HE⟩ := q284
  refine LE.cu (cu' := 1200 + 2) (su' := 12000 + 12) (by show 1200 + 1 + 1 = _; omega) (by show 12000 + 6 + 6 = _; omega) ?_
  refine LE.sipush (n := 290) ((-1002 : Int32)) dL_law_287 rfl (by decide) ?_
  refine LE.icmp_ne (n := 293) (tgt := 423) dL_law_290 rfl (by decide) (fun h290 => ?_) (fun h290 => ?_)
  · first | exact absurd rfl h290 | exact absurd h290 (by decide)
  refine LE.aload_n (n := 294) dL_law_293 rfl rfl ?_
  refine LE.iconst (n := 295) (nI 1) dL_law_294 rfl (by decide) ?_
  refine LE.bipush (n := 297) (nI 6) dL_law_295 rfl (by decide) ?_
  refine LE.S3PI (M' := mL_is) (n := 300) dL_law_297 rfl ch_L_281 ⟨⟨by decide, by decide⟩, (by show 1200 + 2 + 2 ≤ 781134; omega), (by show 12000 + 12 + 12 ≤ 6748446; omega)⟩ (Nat.le_of_ble_eq_true rfl) (es_is HE (by decide)) (fun _ _ _ => rfl) (fun r297 σ297 q297 => ?_)
  obtain ⟨rfl, c297, rfl, HE⟩ := q297
  refine LE.cu (cu' := 1200 + 4) (su' := 12000 + 24) (by show 1200 + 2 + 2 = _; omega) (by show 12000 + 12 + 12 = _; omega) ?_
  refine LE.if_eq (n := 303) (tgt := 423) dL_law_300 rfl (by decide) (fun h300 => ?_) (fun h300 => ?_)
  · first | exact absurd rfl h300 | exact absurd h300 (by decide)
  refine LE.aload_n (n := 304) dL_law_303 rfl rfl ?_
  refine LE.iconst (n := 305) (nI 1) dL_law_304 rfl (by decide) ?_
  refine LE.iconst (n := 306) (nI 0) dL_law_305 rfl (by decide) ?_
  refine LE.H3PI (M' := mL_letter) (n := 309) dL_law_306 rfl ch_L_170 ⟨⟨by decide, by decide⟩, (by show 1200 + 4 + 1 ≤ 781134; omega), (by show 12000 + 24 + 6 ≤ 6748446; omega)⟩ (Nat.le_of_ble_eq_true rfl) (es_ref 1 e6_let HE (fun h t e H => x_letter _ _ _ H _ _)) (fun _ _ _ => rfl) (fun r306 σ306 q306 => ?_)
  obtain ⟨rfl, c306, rfl, HE⟩ := q306
  refine LE.cu (cu' := 1200 + 5) (su' := 12000 + 30) (by show 1200 + 4 + 1 = _; omega) (by show 12000 + 24 + 6 = _; omega) ?_
  refine LE.sipush (n := 312) ((-1002 : Int32)) dL_law_309 rfl (by decide) ?_
  refine LE.icmp_ne (n := 315) (tgt := 423) dL_law_312 rfl (by decide) (fun h312 => ?_) (fun h312 => ?_)
  · first | exact absurd rfl h312 | exact absurd h312 (by decide)
  refine LE.aload_n (n := 316) dL_law_315 rfl rfl ?_
  refine LE.iconst (n := 317) (nI 1) dL_law_316 rfl (by decide) ?_
  refine LE.bipush (n := 319) (nI 24) dL_law_317 rfl (by decide) ?_
  refine LE.S3PI (M' := mL_is) (n := 322) dL_law_319 rfl ch_L_281 ⟨⟨by decide, by decide⟩, (by show 1200 + 5 + 2 ≤ 781134; omega), (by show 12000 + 30 + 12 ≤ 6748446; omega)⟩ (Nat.le_of_ble_eq_true rfl) (es_is HE (by decide)) (fun _ _ _ => rfl) (fun r319 σ319 q319 => ?_)
  obtain ⟨rfl, c319, rfl, HE⟩ := q319
  refine LE.cu (cu' := 1200 + 7) (su' := 12000 + 42) (by show 1200 + 5 + 2 = _; omega) (by show 12000 + 30 + 12 = _; omega) ?_
  refine LE.if_eq (n := 325) (tgt := 423) dL_law_322 rfl (by decide) (fun h322 => ?_) (fun h322 => ?_)
  · first | exact absurd rfl h322 | exact absurd h322 (by decide)
  refine LE.aload_n (n := 326) dL_law_325 rfl rfl ?_
  refine LE.iconst (n := 327) (nI 0) dL_law_326 rfl (by decide) ?_
  refine LE.iconst (n := 328) (nI 5) dL_law_327 rfl (by decide) ?_
  refine LE.H3PI (M' := mL_courier) (n := 331) dL_law_328 rfl ch_L_168 ⟨⟨by decide, by decide⟩, (by show 1200 + 7 + 1 ≤ 781134; omega), (by show 12000 + 42 + 6 ≤ 6748446; omega)⟩ (Nat.le_of_ble_eq_true rfl) (es_ref 2 e6_cou HE (fun h t e H => x_courier _ _ _ H _ _)) (fun _ _ _ => rfl) (fun r328 σ328 q328 => ?_)
  obtain ⟨rfl, c328, rfl, HE⟩ := q328
  refine LE.cu (cu' := 1200 + 8) (su' := 12000 + 48) (by show 1200 + 7 + 1 = _; omega) (by show 12000 + 42 + 6 = _; omega) ?_
  refine LE.sipush (n := 334) ((-1003 : Int32)) dL_law_331 rfl (by decide) ?_
  refine LE.icmp_ne (n := 337) (tgt := 423) dL_law_334 rfl (by decide) (fun h334 => ?_) (fun h334 => ?_)
  · first | exact absurd rfl h334 | exact absurd h334 (by decide)
  refine LE.aload_n (n := 338) dL_law_337 rfl rfl ?_
  refine LE.iconst (n := 339) (nI 1) dL_law_338 rfl (by decide) ?_
  refine LE.iconst (n := 340) (nI 2) dL_law_339 rfl (by decide) ?_
  refine LE.S3PI (M' := mL_is) (n := 343) dL_law_340 rfl ch_L_281 ⟨⟨by decide, by decide⟩, (by show 1200 + 8 + 2 ≤ 781134; omega), (by show 12000 + 48 + 12 ≤ 6748446; omega)⟩ (Nat.le_of_ble_eq_true rfl) (es_is HE (by decide)) (fun _ _ _ => rfl) (fun r340 σ340 q340 => ?_)
  obtain ⟨rfl, c340, rfl, HE⟩ := q340
  refine LE.cu (cu' := 1200 + 10) (su' := 12000 + 60) (by show 1200 + 8 + 2 = _; omega) (by show 12000 + 48 + 12 = _; omega) ?_
  refine LE.if_eq (n := 346) (tgt := 423) dL_law_343 rfl (by decide) (fun h343 => ?_) (fun h343 => ?_)
  · first | exact absurd rfl h343 | exact absurd h343 (by decide)
  refine LE.aload_n (n := 347) dL_law_346 rfl rfl ?_
  refine LE.iconst (n := 348) (nI 0) dL_law_347 rfl (by decide) ?_
  refine LE.iconst (n := 349) (nI 1) dL_law_348 rfl (by decide) ?_
  refine LE.H3PI (M' := mL_fill) (n := 352) dL_law_349 rfl ch_L_163 ⟨⟨by decide, by decide⟩, (by show 1200 + 10 + 1 ≤ 781134; omega), (by show 12000 + 60 + 6 ≤ 6748446; omega)⟩ (Nat.le_of_ble_eq_true rfl) (es_ref 2 e6_fil HE (fun h t e H => x_fill _ _ _ H _ _)) (fun _ _ _ => rfl) (fun r349 σ349 q349 => ?_)
  obtain ⟨rfl, c349, rfl, HE⟩ := q349
  refine LE.cu (cu' := 1200 + 11) (su' := 12000 + 66) (by show 1200 + 10 + 1 = _; omega) (by show 12000 + 60 + 6 = _; omega) ?_
  refine LE.sipush (n := 355) ((-1003 : Int32)) dL_law_352 rfl (by decide) ?_
  refine LE.icmp_ne (n := 358) (tgt := 423) dL_law_355 rfl (by decide) (fun h355 => ?_) (fun h355 => ?_)
  · first | exact absurd rfl h355 | exact absurd h355 (by decide)
  refine LE.aload_n (n := 359) dL_law_358 rfl rfl ?_
  refine LE.iconst (n := 360) (nI 5) dL_law_359 rfl (by decide) ?_
  refine LE.iconst (n := 361) (nI 0) dL_law_360 rfl (by decide) ?_
  refine LE.S3PI (M' := mL_is) (n := 364) dL_law_361 rfl ch_L_281 ⟨⟨by decide, by decide⟩, (by show 1200 + 11 + 2 ≤ 781134; omega), (by show 12000 + 66 + 12 ≤ 6748446; omega)⟩ (Nat.le_of_ble_eq_true rfl) (es_is HE (by decide)) (fun _ _ _ => rfl) (fun r361 σ361 q361 => ?_)
  obtain ⟨rfl, c361, rfl, HE⟩ := q361
  refine LE.cu (cu' := 1200 + 13) (su' := 12000 + 78) (by show 1200 + 11 + 2 = _; omega) (by show 12000 + 66 + 12 = _; omega) ?_
  refine LE.if_eq (n := 367) (tgt := 423) dL_law_364 rfl (by decide) (fun h364 => ?_) (fun h364 => ?_)
  · first | exact absurd rfl h364 | exact absurd h364 (by decide)
  refine LE.aload_n (n := 368) dL_law_367 rfl rfl ?_
  refine LE.iconst (n := 369) (nI 0) dL_law_368 rfl (by decide) ?_
  refine LE.bipush (n := 371) (nI 50) dL_law_369 rfl (by decide) ?_
  refine LE.H3PI (M' := mL_ballast) (n := 374) dL_law_371 rfl ch_L_166 ⟨⟨by decide, by decide⟩, (by show 1200 + 13 + 1 ≤ 781134; omega), (by show 12000 + 78 + 6 ≤ 6748446; omega)⟩ (Nat.le_of_ble_eq_true rfl) (es_ok 2 e6_lay HE (fun h t e H => x_ballast _ _ _ H _ _)) (fun _ _ _ => rfl) (fun r371 σ371 q371 => ?_)
  obtain ⟨rfl, c371, rfl, HE⟩ := q371
  refine LE.cu (cu' := 1200 + 14) (su' := 12000 + 84) (by show 1200 + 13 + 1 = _; omega) (by show 12000 + 78 + 6 = _; omega) ?_
  refine LE.bipush (n := 376) (nI 50) dL_law_374 rfl (by decide) ?_
  refine LE.icmp_ne (n := 379) (tgt := 423) dL_law_376 rfl (by decide) (fun h376 => ?_) (fun h376 => ?_)
  · first | exact absurd rfl h376 | exact absurd h376 (by decide)
  refine LE.aload_n (n := 380) dL_law_379 rfl rfl ?_
  refine LE.iconst (n := 381) (nI 0) dL_law_380 rfl (by decide) ?_
  refine LE.iconst (n := 382) (nI 1) dL_law_381 rfl (by decide) ?_
  refine LE.H3PI (M' := mL_ballast) (n := 385) dL_law_382 rfl ch_L_166 ⟨⟨by decide, by decide⟩, (by show 1200 + 14 + 1 ≤ 781134; omega), (by show 12000 + 84 + 6 ≤ 6748446; omega)⟩ (Nat.le_of_ble_eq_true rfl) (es_ref 2 e7_lay HE (fun h t e H => x_ballast _ _ _ H _ _)) (fun _ _ _ => rfl) (fun r382 σ382 q382 => ?_)
  obtain ⟨rfl, c382, rfl, HE⟩ := q382
  refine LE.cu (cu' := 1200 + 15) (su' := 12000 + 90) (by show 1200 + 14 + 1 = _; omega) (by show 12000 + 84 + 6 = _; omega) ?_
  refine LE.sipush (n := 388) ((-1003 : Int32)) dL_law_385 rfl (by decide) ?_
  refine LE.icmp_ne (n := 391) (tgt := 423) dL_law_388 rfl (by decide) (fun h388 => ?_) (fun h388 => ?_)
  · first | exact absurd rfl h388 | exact absurd h388 (by decide)
  refine LE.aload_n (n := 392) dL_law_391 rfl rfl ?_
  refine LE.bipush (n := 394) (nI 6) dL_law_392 rfl (by decide) ?_
  refine LE.iconst (n := 395) (nI 0) dL_law_394 rfl (by decide) ?_
  refine LE.S3PI (M' := mL_is) (n := 398) dL_law_395 rfl ch_L_281 ⟨⟨by decide, by decide⟩, (by show 1200 + 15 + 2 ≤ 781134; omega), (by show 12000 + 90 + 12 ≤ 6748446; omega)⟩ (Nat.le_of_ble_eq_true rfl) (es_is HE (by decide)) (fun _ _ _ => rfl) (fun r395 σ395 q395 => ?_)
  obtain ⟨rfl, c395, rfl, HE⟩ := q395
  refine LE.cu (cu' := 1200 + 17) (su' := 12000 + 102) (by show 1200 + 15 + 2 = _; omega) (by show 12000 + 90 + 12 = _; omega) ?_
  refine LE.if_eq (n := 401) (tgt := 423) dL_law_398 rfl (by decide) (fun h398 => ?_) (fun h398 => ?_)
  · first | exact absurd rfl h398 | exact absurd h398 (by decide)
  refine LE.aload_n (n := 402) dL_law_401 rfl rfl ?_
  refine LE.iconst (n := 403) (nI 0) dL_law_402 rfl (by decide) ?_
  refine LE.iconst (n := 404) (nI 5) dL_law_403 rfl (by decide) ?_
  refine LE.H3PI (M' := mL_balloonOf) (n := 407) dL_law_404 rfl ch_L_194 ⟨⟨by decide, by decide⟩, (by show 1200 + 17 + 2 ≤ 781134; omega), (by show 12000 + 102 + 12 ≤ 6748446; omega)⟩ (Nat.le_of_ble_eq_true rfl) (es_qe q7_b HE (fun h t e H => y_balloonOf _ _ _ H _ _)) (fun _ _ _ => rfl) (fun r404 σ404 q404 => ?_)
  obtain ⟨rfl, c404, rfl, HE⟩ := q404
  refine LE.cu (cu' := 1200 + 19) (su' := 12000 + 114) (by show 1200 + 17 + 2 = _; omega) (by show 12000 + 102 + 12 = _; omega) ?_
  refine LE.bipush (n := 409) (nI 77) dL_law_407 rfl (by decide) ?_
  refine LE.icmp_ne (n := 412) (tgt := 423) dL_law_409 rfl (by decide) (fun h409 => ?_) (fun h409 => ?_)
  · first | exact absurd rfl h409 | exact absurd h409 (by decide)
  refine LE.aload_n (n := 413) dL_law_412 rfl rfl ?_
  refine LE.bipush (n := 415) (nI 20) dL_law_413 rfl (by decide) ?_
  refine LE.H2PI (M' := mL_account) (n := 418) dL_law_415 rfl ch_L_192 ⟨⟨by decide, by decide⟩, (by show 1200 + 19 + 1 ≤ 781134; omega), (by show 12000 + 114 + 6 ≤ 6748446; omega)⟩ (Nat.le_of_ble_eq_true rfl) (es_acc HE _ q7_20) (fun _ _ _ => rfl) (fun r415 σ415 q415 => ?_)
  obtain ⟨rfl, c415, rfl, HE⟩ := q415
  refine LE.cu (cu' := 1200 + 20) (su' := 12000 + 120) (by show 1200 + 19 + 1 = _; omega) (by show 12000 + 114 + 6 = _; omega) ?_
  refine LE.bipush (n := 420) (nI 8) dL_law_418 rfl (by decide) ?_
  refine LE.icmp_eq (n := 423) (tgt := 425) dL_law_420 rfl (by decide) (fun h420 => ?_) (fun h420 => ?_)
  rotate_left
  · first | exact absurd rfl h420 | exact absurd h420 (by decide)
  refine LE.aload_n (n := 426) dL_law_425 rfl rfl ?_
  refine LE.iconst (n := 427) (nI 0) dL_law_426 rfl (by decide) ?_
  refine LE.H2PI (M' := mL_waiting) (n := 430) dL_law_427 rfl ch_L_210 ⟨⟨by decide, by decide⟩, (by show 1200 + 20 + 1 ≤ 781134; omega), (by show 12000 + 120 + 6 ≤ 6748446; omega)⟩ (Nat.le_of_ble_eq_true rfl) (es_qe q7_w0 HE (fun h t e H => y_waiting _ _ _ H _)) (fun _ _ _ => rfl) (fun r427 σ427 q427 => ?_)
  obtain ⟨rfl, c427, rfl, HE⟩ := q427
  refine LE.cu (cu' := 1200 + 21) (su' := 12000 + 126) (by show 1200 + 20 + 1 = _; omega) (by show 12000 + 120 + 6 = _; omega) ?_
  refine LE.iconst (n := 431) (nI 2) dL_law_430 rfl (by decide) ?_
  refine LE.icmp_ne (n := 434) (tgt := 584) dL_law_431 rfl (by decide) (fun h431 => ?_) (fun h431 => ?_)
  · first | exact absurd rfl h431 | exact absurd h431 (by decide)
  refine LE.aload_n (n := 435) dL_law_434 rfl rfl ?_
  refine LE.bipush (n := 437) (nI 8) dL_law_435 rfl (by decide) ?_
  refine LE.H2PI (M' := mL_waiting) (n := 440) dL_law_437 rfl ch_L_210 ⟨⟨by decide, by decide⟩, (by show 1200 + 21 + 1 ≤ 781134; omega), (by show 12000 + 126 + 6 ≤ 6748446; omega)⟩ (Nat.le_of_ble_eq_true rfl) (es_qe q7_w8 HE (fun h t e H => y_waiting _ _ _ H _)) (fun _ _ _ => rfl) (fun r437 σ437 q437 => ?_)
  obtain ⟨rfl, c437, rfl, HE⟩ := q437
  refine LE.cu (cu' := 1200 + 22) (su' := 12000 + 132) (by show 1200 + 21 + 1 = _; omega) (by show 12000 + 126 + 6 = _; omega) ?_
  refine LE.iconst (n := 441) (nI 1) dL_law_440 rfl (by decide) ?_
  refine LE.icmp_ne (n := 444) (tgt := 584) dL_law_441 rfl (by decide) (fun h441 => ?_) (fun h441 => ?_)
  · first | exact absurd rfl h441 | exact absurd h441 (by decide)
  refine LE.aload_n (n := 445) dL_law_444 rfl rfl ?_
  refine LE.iconst (n := 446) (nI 0) dL_law_445 rfl (by decide) ?_
  refine LE.H2PI (M' := mL_loadAll) (n := 449) dL_law_446 rfl ch_L_220 ⟨⟨by decide, by decide⟩, (by show 1200 + 22 + 1 ≤ 781134; omega), (by show 12000 + 132 + 6 ≤ 6748446; omega)⟩ (Nat.le_of_ble_eq_true rfl) (es_ok 1 e7_all HE (fun h t e H => x_loadAll _ _ _ H _)) (fun _ _ _ => rfl) (fun r446 σ446 q446 => ?_)
  obtain ⟨rfl, c446, rfl, HE⟩ := q446
  refine LE.cu (cu' := 1200 + 23) (su' := 12000 + 138) (by show 1200 + 22 + 1 = _; omega) (by show 12000 + 132 + 6 = _; omega) ?_
  refine LE.bipush (n := 451) (nI 7) dL_law_449 rfl (by decide) ?_
  refine LE.icmp_ne (n := 454) (tgt := 584) dL_law_451 rfl (by decide) (fun h451 => ?_) (fun h451 => ?_)
  · first | exact absurd rfl h451 | exact absurd h451 (by decide)
  refine LE.aload_n (n := 455) dL_law_454 rfl rfl ?_
  refine LE.iconst (n := 456) (nI 0) dL_law_455 rfl (by decide) ?_
  refine LE.bipush (n := 458) (nI 6) dL_law_456 rfl (by decide) ?_
  refine LE.H3PI (M' := mL_balloonOf) (n := 461) dL_law_458 rfl ch_L_194 ⟨⟨by decide, by decide⟩, (by show 1200 + 23 + 2 ≤ 781134; omega), (by show 12000 + 138 + 12 ≤ 6748446; omega)⟩ (Nat.le_of_ble_eq_true rfl) (es_qe q8_b HE (fun h t e H => y_balloonOf _ _ _ H _ _)) (fun _ _ _ => rfl) (fun r458 σ458 q458 => ?_)
  obtain ⟨rfl, c458, rfl, HE⟩ := q458
  refine LE.cu (cu' := 1200 + 25) (su' := 12000 + 150) (by show 1200 + 23 + 2 = _; omega) (by show 12000 + 138 + 12 = _; omega) ?_
  refine LE.iconst (n := 462) (nI 1) dL_law_461 rfl (by decide) ?_
  refine LE.icmp_ne (n := 465) (tgt := 584) dL_law_462 rfl (by decide) (fun h462 => ?_) (fun h462 => ?_)
  · first | exact absurd rfl h462 | exact absurd h462 (by decide)
  refine LE.aload_n (n := 466) dL_law_465 rfl rfl ?_
  refine LE.iconst (n := 467) (nI 0) dL_law_466 rfl (by decide) ?_
  refine LE.H2PI (M' := mL_waiting) (n := 470) dL_law_467 rfl ch_L_210 ⟨⟨by decide, by decide⟩, (by show 1200 + 25 + 1 ≤ 781134; omega), (by show 12000 + 150 + 6 ≤ 6748446; omega)⟩ (Nat.le_of_ble_eq_true rfl) (es_qe q8_w0 HE (fun h t e H => y_waiting _ _ _ H _)) (fun _ _ _ => rfl) (fun r467 σ467 q467 => ?_)
  obtain ⟨rfl, c467, rfl, HE⟩ := q467
  refine LE.cu (cu' := 1200 + 26) (su' := 12000 + 156) (by show 1200 + 25 + 1 = _; omega) (by show 12000 + 150 + 6 = _; omega) ?_
  refine LE.bipush (n := 472) (nI 23) dL_law_470 rfl (by decide) ?_
  refine LE.icmp_ne (n := 475) (tgt := 584) dL_law_472 rfl (by decide) (fun h472 => ?_) (fun h472 => ?_)
  · first | exact absurd rfl h472 | exact absurd h472 (by decide)
  refine LE.aload_n (n := 476) dL_law_475 rfl rfl ?_
  refine LE.iconst (n := 477) (nI 0) dL_law_476 rfl (by decide) ?_
  refine LE.H2PI (M' := mL_launch) (n := 480) dL_law_477 rfl ch_L_222 ⟨⟨by decide, by decide⟩, (by show 1200 + 26 + 1 ≤ 781134; omega), (by show 12000 + 156 + 6 ≤ 6748446; omega)⟩ (Nat.le_of_ble_eq_true rfl) (es_ok 1 e8_lau HE (fun h t e H => x_launch _ _ _ H _)) (fun _ _ _ => rfl) (fun r477 σ477 q477 => ?_)
  obtain ⟨rfl, c477, rfl, HE⟩ := q477
  refine LE.cu (cu' := 1200 + 27) (su' := 12000 + 162) (by show 1200 + 26 + 1 = _; omega) (by show 12000 + 156 + 6 = _; omega) ?_
  refine LE.iconst (n := 481) (nI 1) dL_law_480 rfl (by decide) ?_
  refine LE.icmp_ne (n := 484) (tgt := 584) dL_law_481 rfl (by decide) (fun h481 => ?_) (fun h481 => ?_)
  · first | exact absurd rfl h481 | exact absurd h481 (by decide)
  refine LE.aload_n (n := 485) dL_law_484 rfl rfl ?_
  refine LE.iconst (n := 486) (nI 0) dL_law_485 rfl (by decide) ?_
  refine LE.H2PI (M' := mL_launch) (n := 489) dL_law_486 rfl ch_L_222 ⟨⟨by decide, by decide⟩, (by show 1200 + 27 + 1 ≤ 781134; omega), (by show 12000 + 162 + 6 ≤ 6748446; omega)⟩ (Nat.le_of_ble_eq_true rfl) (es_ref 1 e9_lau HE (fun h t e H => x_launch _ _ _ H _)) (fun _ _ _ => rfl) (fun r486 σ486 q486 => ?_)
  obtain ⟨rfl, c486, rfl, HE⟩ := q486
  refine LE.cu (cu' := 1200 + 28) (su' := 12000 + 168) (by show 1200 + 27 + 1 = _; omega) (by show 12000 + 162 + 6 = _; omega) ?_
  refine LE.sipush (n := 492) ((-1002 : Int32)) dL_law_489 rfl (by decide) ?_
  refine LE.icmp_ne (n := 495) (tgt := 584) dL_law_492 rfl (by decide) (fun h492 => ?_) (fun h492 => ?_)
  · first | exact absurd rfl h492 | exact absurd h492 (by decide)
  refine LE.aload_n (n := 496) dL_law_495 rfl rfl ?_
  refine LE.iconst (n := 497) (nI 2) dL_law_496 rfl (by decide) ?_
  refine LE.iconst (n := 498) (nI 0) dL_law_497 rfl (by decide) ?_
  refine LE.S3PI (M' := mL_is) (n := 501) dL_law_498 rfl ch_L_281 ⟨⟨by decide, by decide⟩, (by show 1200 + 28 + 2 ≤ 781134; omega), (by show 12000 + 168 + 12 ≤ 6748446; omega)⟩ (Nat.le_of_ble_eq_true rfl) (es_is HE (by decide)) (fun _ _ _ => rfl) (fun r498 σ498 q498 => ?_)
  obtain ⟨rfl, c498, rfl, HE⟩ := q498
  refine LE.cu (cu' := 1200 + 30) (su' := 12000 + 180) (by show 1200 + 28 + 2 = _; omega) (by show 12000 + 168 + 12 = _; omega) ?_
  refine LE.if_eq (n := 504) (tgt := 584) dL_law_501 rfl (by decide) (fun h501 => ?_) (fun h501 => ?_)
  · first | exact absurd rfl h501 | exact absurd h501 (by decide)
  refine LE.aload_n (n := 505) dL_law_504 rfl rfl ?_
  refine LE.iconst (n := 506) (nI 0) dL_law_505 rfl (by decide) ?_
  refine LE.H2PI (M' := mL_loadAll) (n := 509) dL_law_506 rfl ch_L_220 ⟨⟨by decide, by decide⟩, (by show 1200 + 30 + 1 ≤ 781134; omega), (by show 12000 + 180 + 6 ≤ 6748446; omega)⟩ (Nat.le_of_ble_eq_true rfl) (es_ref 1 e9_all HE (fun h t e H => x_loadAll _ _ _ H _)) (fun _ _ _ => rfl) (fun r506 σ506 q506 => ?_)
  obtain ⟨rfl, c506, rfl, HE⟩ := q506
  refine LE.cu (cu' := 1200 + 31) (su' := 12000 + 186) (by show 1200 + 30 + 1 = _; omega) (by show 12000 + 180 + 6 = _; omega) ?_
  refine LE.sipush (n := 512) ((-1002 : Int32)) dL_law_509 rfl (by decide) ?_
  refine LE.icmp_ne (n := 515) (tgt := 584) dL_law_512 rfl (by decide) (fun h512 => ?_) (fun h512 => ?_)
  · first | exact absurd rfl h512 | exact absurd h512 (by decide)
  refine LE.aload_n (n := 516) dL_law_515 rfl rfl ?_
  refine LE.iconst (n := 517) (nI 2) dL_law_516 rfl (by decide) ?_
  refine LE.iconst (n := 518) (nI 0) dL_law_517 rfl (by decide) ?_
  refine LE.S3PI (M' := mL_is) (n := 521) dL_law_518 rfl ch_L_281 ⟨⟨by decide, by decide⟩, (by show 1200 + 31 + 2 ≤ 781134; omega), (by show 12000 + 186 + 12 ≤ 6748446; omega)⟩ (Nat.le_of_ble_eq_true rfl) (es_is HE (by decide)) (fun _ _ _ => rfl) (fun r518 σ518 q518 => ?_)
  obtain ⟨rfl, c518, rfl, HE⟩ := q518
  refine LE.cu (cu' := 1200 + 33) (su' := 12000 + 198) (by show 1200 + 31 + 2 = _; omega) (by show 12000 + 186 + 12 = _; omega) ?_
  refine LE.if_eq (n := 524) (tgt := 584) dL_law_521 rfl (by decide) (fun h521 => ?_) (fun h521 => ?_)
  · first | exact absurd rfl h521 | exact absurd h521 (by decide)
  refine LE.aload_n (n := 525) dL_law_524 rfl rfl ?_
  refine LE.iconst (n := 526) (nI 2) dL_law_525 rfl (by decide) ?_
  refine LE.iconst (n := 527) (nI 1) dL_law_526 rfl (by decide) ?_
  refine LE.H3PI (M' := mL_load) (n := 530) dL_law_527 rfl ch_L_218 ⟨⟨by decide, by decide⟩, (by show 1200 + 33 + 1 ≤ 781134; omega), (by show 12000 + 198 + 6 ≤ 6748446; omega)⟩ (Nat.le_of_ble_eq_true rfl) (es_ref 1 e9_loa HE (fun h t e H => x_load _ _ _ H _ _)) (fun _ _ _ => rfl) (fun r527 σ527 q527 => ?_)
  obtain ⟨rfl, c527, rfl, HE⟩ := q527
  refine LE.cu (cu' := 1200 + 34) (su' := 12000 + 204) (by show 1200 + 33 + 1 = _; omega) (by show 12000 + 198 + 6 = _; omega) ?_
  refine LE.sipush (n := 533) ((-1002 : Int32)) dL_law_530 rfl (by decide) ?_
  refine LE.icmp_ne (n := 536) (tgt := 584) dL_law_533 rfl (by decide) (fun h533 => ?_) (fun h533 => ?_)
  · first | exact absurd rfl h533 | exact absurd h533 (by decide)
  refine LE.aload_n (n := 537) dL_law_536 rfl rfl ?_
  refine LE.bipush (n := 539) (nI 8) dL_law_537 rfl (by decide) ?_
  refine LE.iconst (n := 540) (nI 2) dL_law_539 rfl (by decide) ?_
  refine LE.S3PI (M' := mL_is) (n := 543) dL_law_540 rfl ch_L_281 ⟨⟨by decide, by decide⟩, (by show 1200 + 34 + 2 ≤ 781134; omega), (by show 12000 + 204 + 12 ≤ 6748446; omega)⟩ (Nat.le_of_ble_eq_true rfl) (es_is HE (by decide)) (fun _ _ _ => rfl) (fun r540 σ540 q540 => ?_)
  obtain ⟨rfl, c540, rfl, HE⟩ := q540
  refine LE.cu (cu' := 1200 + 36) (su' := 12000 + 216) (by show 1200 + 34 + 2 = _; omega) (by show 12000 + 204 + 12 = _; omega) ?_
  refine LE.if_eq (n := 546) (tgt := 584) dL_law_543 rfl (by decide) (fun h543 => ?_) (fun h543 => ?_)
  · first | exact absurd rfl h543 | exact absurd h543 (by decide)
  refine LE.aload_n (n := 547) dL_law_546 rfl rfl ?_
  refine LE.iconst (n := 548) (nI 0) dL_law_547 rfl (by decide) ?_
  refine LE.H2PI (M' := mL_endsIn) (n := 551) dL_law_548 rfl ch_L_202 ⟨⟨by decide, by decide⟩, (by show 1200 + 36 + 2 ≤ 781134; omega), (by show 12000 + 216 + 12 ≤ 6748446; omega)⟩ (Nat.le_of_ble_eq_true rfl) (es_qe q9_ei HE (fun h t e H => y_endsIn _ _ _ H _)) (fun _ _ _ => rfl) (fun r548 σ548 q548 => ?_)
  obtain ⟨rfl, c548, rfl, HE⟩ := q548
  refine LE.cu (cu' := 1200 + 38) (su' := 12000 + 228) (by show 1200 + 36 + 2 = _; omega) (by show 12000 + 216 + 12 = _; omega) ?_
  refine LE.iconst (n := 552) (nI 1) dL_law_551 rfl (by decide) ?_
  refine LE.icmp_ne (n := 555) (tgt := 584) dL_law_552 rfl (by decide) (fun h552 => ?_) (fun h552 => ?_)
  · first | exact absurd rfl h552 | exact absurd h552 (by decide)
  refine LE.aload_n (n := 556) dL_law_555 rfl rfl ?_
  refine LE.iconst (n := 557) (nI 0) dL_law_556 rfl (by decide) ?_
  refine LE.iconst (n := 558) (nI 2) dL_law_557 rfl (by decide) ?_
  refine LE.H3PI (M' := mL_ends) (n := 561) dL_law_558 rfl ch_L_204 ⟨⟨by decide, by decide⟩, (by show 1200 + 38 + 3 ≤ 781134; omega), (by show 12000 + 228 + 18 ≤ 6748446; omega)⟩ (Nat.le_of_ble_eq_true rfl) (es_qe q9_e2 HE (fun h t e H => y_ends _ _ _ H _ _)) (fun _ _ _ => rfl) (fun r558 σ558 q558 => ?_)
  obtain ⟨rfl, c558, rfl, HE⟩ := q558
  refine LE.cu (cu' := 1200 + 41) (su' := 12000 + 246) (by show 1200 + 38 + 3 = _; omega) (by show 12000 + 228 + 18 = _; omega) ?_
  refine LE.iconst (n := 562) (nI 3) dL_law_561 rfl (by decide) ?_
  refine LE.icmp_ne (n := 565) (tgt := 584) dL_law_562 rfl (by decide) (fun h562 => ?_) (fun h562 => ?_)
  · first | exact absurd rfl h562 | exact absurd h562 (by decide)
  refine LE.aload_n (n := 566) dL_law_565 rfl rfl ?_
  refine LE.iconst (n := 567) (nI 0) dL_law_566 rfl (by decide) ?_
  refine LE.H2PI (M' := mL_bestDrop) (n := 570) dL_law_567 rfl ch_L_206 ⟨⟨by decide, by decide⟩, (by show 1200 + 41 + 3 ≤ 781134; omega), (by show 12000 + 246 + 18 ≤ 6748446; omega)⟩ (Nat.le_of_ble_eq_true rfl) (es_qe q9_bd HE (fun h t e H => y_bestDrop _ _ _ H _)) (fun _ _ _ => rfl) (fun r567 σ567 q567 => ?_)
  obtain ⟨rfl, c567, rfl, HE⟩ := q567
  refine LE.cu (cu' := 1200 + 44) (su' := 12000 + 264) (by show 1200 + 41 + 3 = _; omega) (by show 12000 + 246 + 18 = _; omega) ?_
  refine LE.sipush (n := 573) ((-1002 : Int32)) dL_law_570 rfl (by decide) ?_
  refine LE.icmp_ne (n := 576) (tgt := 584) dL_law_573 rfl (by decide) (fun h573 => ?_) (fun h573 => ?_)
  · first | exact absurd rfl h573 | exact absurd h573 (by decide)
  refine LE.aload_n (n := 577) dL_law_576 rfl rfl ?_
  refine LE.iconst (n := 578) (nI 1) dL_law_577 rfl (by decide) ?_
  refine LE.H2PI (M' := mL_pass) (n := 581) dL_law_578 rfl ch_L_226 ⟨⟨by decide, by decide⟩, (by show 1200 + 44 + 1 ≤ 781134; omega), (by show 12000 + 264 + 6 ≤ 6748446; omega)⟩ (Nat.le_of_ble_eq_true rfl) (es_ov 0 e9_pas HE (fun h t e H => x_pass _ _ _ H _)) (fun _ _ _ => rfl) (fun r578 σ578 q578 => ?_)
  obtain ⟨rfl, c578, rfl, HE⟩ := q578
  refine LE.cu (cu' := 1200 + 45) (su' := 12000 + 270) (by show 1200 + 44 + 1 = _; omega) (by show 12000 + 264 + 6 = _; omega) ?_
  refine LE.if_eq (n := 584) (tgt := 586) dL_law_581 rfl (by decide) (fun h581 => ?_) (fun h581 => ?_)
  rotate_left
  · first | exact absurd rfl h581 | exact absurd h581 (by decide)
  refine LE.aload_n (n := 587) dL_law_586 rfl rfl ?_
  refine LE.bipush (n := 589) (nI 7) dL_law_587 rfl (by decide) ?_
  refine LE.H2PI (M' := mL_account) (n := 592) dL_law_589 rfl ch_L_192 ⟨⟨by decide, by decide⟩, (by show 1200 + 45 + 1 ≤ 781134; omega), (by show 12000 + 270 + 6 ≤ 6748446; omega)⟩ (Nat.le_of_ble_eq_true rfl) (es_acc HE _ qA_7) (fun _ _ _ => rfl) (fun r589 σ589 q589 => ?_)
  obtain ⟨rfl, c589, rfl, HE⟩ := q589
  refine LE.cu (cu' := 1200 + 46) (su' := 12000 + 276) (by show 1200 + 45 + 1 = _; omega) (by show 12000 + 270 + 6 = _; omega) ?_
  refine LE.iconst (n := 593) (nI 1) dL_law_592 rfl (by decide) ?_
  refine LE.icmp_ne (n := 596) (tgt := 680) dL_law_593 rfl (by decide) (fun h593 => ?_) (fun h593 => ?_)
  · first | exact absurd rfl h593 | exact absurd h593 (by decide)
  refine LE.aload_n (n := 597) dL_law_596 rfl rfl ?_
  refine LE.bipush (n := 599) (nI 12) dL_law_597 rfl (by decide) ?_
  refine LE.H2PI (M' := mL_account) (n := 602) dL_law_599 rfl ch_L_192 ⟨⟨by decide, by decide⟩, (by show 1200 + 46 + 1 ≤ 781134; omega), (by show 12000 + 276 + 6 ≤ 6748446; omega)⟩ (Nat.le_of_ble_eq_true rfl) (es_acc HE _ qA_12) (fun _ _ _ => rfl) (fun r599 σ599 q599 => ?_)
  obtain ⟨rfl, c599, rfl, HE⟩ := q599
  refine LE.cu (cu' := 1200 + 47) (su' := 12000 + 282) (by show 1200 + 46 + 1 = _; omega) (by show 12000 + 276 + 6 = _; omega) ?_
  refine LE.bipush (n := 604) (nI 7) dL_law_602 rfl (by decide) ?_
  refine LE.icmp_ne (n := 607) (tgt := 680) dL_law_604 rfl (by decide) (fun h604 => ?_) (fun h604 => ?_)
  · first | exact absurd rfl h604 | exact absurd h604 (by decide)
  refine LE.aload_n (n := 608) dL_law_607 rfl rfl ?_
  refine LE.bipush (n := 610) (nI 17) dL_law_608 rfl (by decide) ?_
  refine LE.H2PI (M' := mL_account) (n := 613) dL_law_610 rfl ch_L_192 ⟨⟨by decide, by decide⟩, (by show 1200 + 47 + 1 ≤ 781134; omega), (by show 12000 + 282 + 6 ≤ 6748446; omega)⟩ (Nat.le_of_ble_eq_true rfl) (es_acc HE _ qA_17) (fun _ _ _ => rfl) (fun r610 σ610 q610 => ?_)
  obtain ⟨rfl, c610, rfl, HE⟩ := q610
  refine LE.cu (cu' := 1200 + 48) (su' := 12000 + 288) (by show 1200 + 47 + 1 = _; omega) (by show 12000 + 282 + 6 = _; omega) ?_
  refine LE.bipush (n := 615) (nI 50) dL_law_613 rfl (by decide) ?_
  refine LE.icmp_ne (n := 618) (tgt := 680) dL_law_615 rfl (by decide) (fun h615 => ?_) (fun h615 => ?_)
  · first | exact absurd rfl h615 | exact absurd h615 (by decide)
  refine LE.aload_n (n := 619) dL_law_618 rfl rfl ?_
  refine LE.H1W (M' := mL_share) (n := 622) dL_law_619 rfl ch_L_183 ⟨⟨by decide, by decide⟩, (by show 1200 + 48 + 1 ≤ 781134; omega), (by show 12000 + 288 + 6 ≤ 6748446; omega)⟩ (Nat.le_of_ble_eq_true rfl) (es_share HE) (fun _ _ _ => rfl) (fun i h => by cases h) ?_
  refine LE.cu (cu' := 1200 + 49) (su' := 12000 + 294) (by show 1200 + 48 + 1 = _; omega) (by show 12000 + 288 + 6 = _; omega) ?_
  refine LE.fconst0 (n := 623) dL_law_622 rfl ?_
  refine LE.fcmp (n := 624) dL_law_623 rfl ?_
  refine LE.if_ne (n := 627) (tgt := 680) dL_law_624 rfl (by decide) (fun h624 => ?_) (fun h624 => ?_)
  · exact absurd (by decide +kernel) h624
  refine LE.aload_n (n := 628) dL_law_627 rfl rfl ?_
  refine LE.H1W (M' := mL_meanDistance) (n := 631) dL_law_628 rfl ch_L_174 ⟨⟨by decide, by decide⟩, (by show 1200 + 49 + 1 ≤ 781134; omega), (by show 12000 + 294 + 6 ≤ 6748446; omega)⟩ (Nat.le_of_ble_eq_true rfl) (es_meanDistance HE) (fun _ _ _ => rfl) (fun i h => by cases h) ?_
  refine LE.cu (cu' := 1200 + 50) (su' := 12000 + 300) (by show 1200 + 49 + 1 = _; omega) (by show 12000 + 294 + 6 = _; omega) ?_
  refine LE.ldc2d (n := 634) (v := 13875388141788987392) dL_law_631 rfl t_893 ?_
  refine LE.dcmp (n := 635) dL_law_634 rfl ?_
  refine LE.if_ne (n := 638) (tgt := 680) dL_law_635 rfl (by decide) (fun h635 => ?_) (fun h635 => ?_)
  · exact absurd (by decide +kernel) h635
  refine LE.aload_n (n := 639) dL_law_638 rfl rfl ?_
  refine LE.iconst (n := 640) (nI 0) dL_law_639 rfl (by decide) ?_
  refine LE.H2PI (M' := mL_word) (n := 643) dL_law_640 rfl ch_L_198 ⟨⟨by decide, by decide⟩, (by show 1200 + 50 + 2 ≤ 781134; omega), (by show 12000 + 300 + 12 ≤ 6748446; omega)⟩ (Nat.le_of_ble_eq_true rfl) (es_qe qA_w HE (fun h t e H => y_word _ _ _ H _)) (fun _ _ _ => rfl) (fun r640 σ640 q640 => ?_)
  obtain ⟨rfl, c640, rfl, HE⟩ := q640
  refine LE.cu (cu' := 1200 + 52) (su' := 12000 + 312) (by show 1200 + 50 + 2 = _; omega) (by show 12000 + 300 + 12 = _; omega) ?_
  refine LE.sipush (n := 646) ((-1002 : Int32)) dL_law_643 rfl (by decide) ?_
  refine LE.icmp_ne (n := 649) (tgt := 680) dL_law_646 rfl (by decide) (fun h646 => ?_) (fun h646 => ?_)
  · first | exact absurd rfl h646 | exact absurd h646 (by decide)
  refine LE.aload_n (n := 650) dL_law_649 rfl rfl ?_
  refine LE.bipush (n := 652) (nI 18) dL_law_650 rfl (by decide) ?_
  refine LE.H2PI (M' := mL_account) (n := 655) dL_law_652 rfl ch_L_192 ⟨⟨by decide, by decide⟩, (by show 1200 + 52 + 1 ≤ 781134; omega), (by show 12000 + 312 + 6 ≤ 6748446; omega)⟩ (Nat.le_of_ble_eq_true rfl) (es_acc HE _ qA_18) (fun _ _ _ => rfl) (fun r652 σ652 q652 => ?_)
  obtain ⟨rfl, c652, rfl, HE⟩ := q652
  refine LE.cu (cu' := 1200 + 53) (su' := 12000 + 318) (by show 1200 + 52 + 1 = _; omega) (by show 12000 + 312 + 6 = _; omega) ?_
  refine LE.iconst (n := 656) (nI 5) dL_law_655 rfl (by decide) ?_
  refine LE.icmp_ne (n := 659) (tgt := 680) dL_law_656 rfl (by decide) (fun h656 => ?_) (fun h656 => ?_)
  · first | exact absurd rfl h656 | exact absurd h656 (by decide)
  refine LE.aload_n (n := 660) dL_law_659 rfl rfl ?_
  refine LE.iconst (n := 661) (nI 0) dL_law_660 rfl (by decide) ?_
  refine LE.bipush (n := 663) (nI 11) dL_law_661 rfl (by decide) ?_
  refine LE.H3PI (M' := mL_balloonOf) (n := 666) dL_law_663 rfl ch_L_194 ⟨⟨by decide, by decide⟩, (by show 1200 + 53 + 2 ≤ 781134; omega), (by show 12000 + 318 + 12 ≤ 6748446; omega)⟩ (Nat.le_of_ble_eq_true rfl) (es_qe qA_b HE (fun h t e H => y_balloonOf _ _ _ H _ _)) (fun _ _ _ => rfl) (fun r663 σ663 q663 => ?_)
  obtain ⟨rfl, c663, rfl, HE⟩ := q663
  refine LE.cu (cu' := 1200 + 55) (su' := 12000 + 330) (by show 1200 + 53 + 2 = _; omega) (by show 12000 + 318 + 12 = _; omega) ?_
  refine LE.iconst (n := 667) (nI 1) dL_law_666 rfl (by decide) ?_
  refine LE.icmp_ne (n := 670) (tgt := 680) dL_law_667 rfl (by decide) (fun h667 => ?_) (fun h667 => ?_)
  · first | exact absurd rfl h667 | exact absurd h667 (by decide)
  refine LE.aload_n (n := 671) dL_law_670 rfl rfl ?_
  refine LE.iconst (n := 672) (nI 0) dL_law_671 rfl (by decide) ?_
  refine LE.H2PI (M' := mL_sign) (n := 675) dL_law_672 rfl ch_L_200 ⟨⟨by decide, by decide⟩, (by show 1200 + 55 + 1 ≤ 781134; omega), (by show 12000 + 330 + 6 ≤ 6748446; omega)⟩ (Nat.le_of_ble_eq_true rfl) (es_qe qA_s HE (fun h t e H => y_sign _ _ _ H _)) (fun _ _ _ => rfl) (fun r672 σ672 q672 => ?_)
  obtain ⟨rfl, c672, rfl, HE⟩ := q672
  refine LE.cu (cu' := 1200 + 56) (su' := 12000 + 336) (by show 1200 + 55 + 1 = _; omega) (by show 12000 + 330 + 6 = _; omega) ?_
  refine LE.bipush (n := 677) (nI 120) dL_law_675 rfl (by decide) ?_
  refine LE.icmp_eq (n := 680) (tgt := 682) dL_law_677 rfl (by decide) (fun h677 => ?_) (fun h677 => ?_)
  rotate_left
  · first | exact absurd rfl h677 | exact absurd h677 (by decide)
  refine LE.aload_n (n := 683) dL_law_682 rfl rfl ?_
  refine LE.H1PI (M' := mL_restore) (n := 686) dL_law_683 rfl ch_L_271 ⟨⟨by decide, by decide⟩, (by show 1200 + 56 + 1 ≤ 781134; omega), (by show 12000 + 336 + 6 ≤ 6748446; omega)⟩ (Nat.le_of_ble_eq_true rfl) (es_rest HE) (fun _ _ _ => rfl) (fun r683 σ683 q683 => ?_)
  obtain ⟨rfl, c683, rfl, HE⟩ := q683
  refine LE.cu (cu' := 1200 + 57) (su' := 12000 + 342) (by show 1200 + 56 + 1 = _; omega) (by show 12000 + 336 + 6 = _; omega) ?_
  refine LE.if_ne (n := 689) (tgt := 717) dL_law_686 rfl (by decide) (fun h686 => ?_) (fun h686 => ?_)
  · first | exact absurd rfl h686 | exact absurd h686 (by decide)
  refine LE.aload_n (n := 690) dL_law_689 rfl rfl ?_
  refine LE.iconst (n := 691) (nI 0) dL_law_690 rfl (by decide) ?_
  refine LE.H2PI (M' := mL_account) (n := 694) dL_law_691 rfl ch_L_192 ⟨⟨by decide, by decide⟩, (by show 1200 + 57 + 1 ≤ 781134; omega), (by show 12000 + 342 + 6 ≤ 6748446; omega)⟩ (Nat.le_of_ble_eq_true rfl) (es_acc HE _ qz_0) (fun _ _ _ => rfl) (fun r691 σ691 q691 => ?_)
  obtain ⟨rfl, c691, rfl, HE⟩ := q691
  refine LE.cu (cu' := 1200 + 58) (su' := 12000 + 348) (by show 1200 + 57 + 1 = _; omega) (by show 12000 + 342 + 6 = _; omega) ?_
  refine LE.if_ne (n := 697) (tgt := 717) dL_law_694 rfl (by decide) (fun h694 => ?_) (fun h694 => ?_)
  · first | exact absurd rfl h694 | exact absurd h694 (by decide)
  refine LE.aload_n (n := 698) dL_law_697 rfl rfl ?_
  refine LE.iconst (n := 699) (nI 2) dL_law_698 rfl (by decide) ?_
  refine LE.H2PI (M' := mL_account) (n := 702) dL_law_699 rfl ch_L_192 ⟨⟨by decide, by decide⟩, (by show 1200 + 58 + 1 ≤ 781134; omega), (by show 12000 + 348 + 6 ≤ 6748446; omega)⟩ (Nat.le_of_ble_eq_true rfl) (es_acc HE _ qz_2) (fun _ _ _ => rfl) (fun r699 σ699 q699 => ?_)
  obtain ⟨rfl, c699, rfl, HE⟩ := q699
  refine LE.cu (cu' := 1200 + 59) (su' := 12000 + 354) (by show 1200 + 58 + 1 = _; omega) (by show 12000 + 348 + 6 = _; omega) ?_
  refine LE.bipush (n := 704) (nI 100) dL_law_702 rfl (by decide) ?_
  refine LE.icmp_ne (n := 707) (tgt := 717) dL_law_704 rfl (by decide) (fun h704 => ?_) (fun h704 => ?_)
  · first | exact absurd rfl h704 | exact absurd h704 (by decide)
  refine LE.aload_n (n := 708) dL_law_707 rfl rfl ?_
  refine LE.H1PI (M' := mL_undo) (n := 711) dL_law_708 rfl ch_L_269 ⟨⟨by decide, by decide⟩, (by show 1200 + 59 + 1 ≤ 781134; omega), (by show 12000 + 354 + 6 ≤ 6748446; omega)⟩ (Nat.le_of_ble_eq_true rfl) (es_undo0 HE) (fun _ _ _ => rfl) (fun r708 σ708 q708 => ?_)
  obtain ⟨rfl, c708, rfl, HE⟩ := q708
  refine LE.cu (cu' := 1200 + 60) (su' := 12000 + 360) (by show 1200 + 59 + 1 = _; omega) (by show 12000 + 354 + 6 = _; omega) ?_
  refine LE.sipush (n := 714) ((-1001 : Int32)) dL_law_711 rfl (by decide) ?_
  refine LE.icmp_eq (n := 717) (tgt := 719) dL_law_714 rfl (by decide) (fun h714 => ?_) (fun h714 => ?_)
  rotate_left
  · first | exact absurd rfl h714 | exact absurd h714 (by decide)
  exact LE.wid (by omega) (by omega) (k _ _ rfl)
theorem cv_L_273 : CVL RL 273 mX5_save 5 0 := ⟨g_294, g_295, g_296, g_21, g_297, rfl, ⟨by decide +kernel, by decide +kernel, by decide +kernel⟩, rfl, by decide⟩
set_option maxRecDepth 20000 in
set_option maxHeartbeats 8000000 in
theorem law_e {G : GT} {Ls : Nat} {xs : Nat → Int32} (k : ∀ L σ, lkL 0 L = some (.ref SP) → LE mL_law (EL Ls xs) 719 L [] σ none 3000 30000 G) : LE mL_law (EL Ls xs) 7 [(0, .ref SP)] [.ref 0] (cZ, 0, 0) none 395 2468 G := by
  have HE := es_Z
  refine LE.astore_n (n := 8) dL_law_7 rfl (by decide) ?_
  refine LE.aload_n (n := 9) dL_law_8 rfl rfl ?_
  refine LE.H1PI (M' := mL_undo) (n := 12) dL_law_9 rfl ch_L_269 ⟨⟨by decide, by decide⟩, (by show 395 + 1 ≤ 781134; omega), (by show 2468 + 6 ≤ 6748446; omega)⟩ (Nat.le_of_ble_eq_true rfl) (es_undo0 HE) (fun _ _ _ => rfl) (fun r9 σ9 q9 => ?_)
  obtain ⟨rfl, c9, rfl, HE⟩ := q9
  refine LE.cu (cu' := 395 + 1) (su' := 2468 + 6) (by show 395 + 1 = _; omega) (by show 2468 + 6 = _; omega) ?_
  refine LE.sipush (n := 15) ((-1001 : Int32)) dL_law_12 rfl (by decide) ?_
  refine LE.icmp_ne (n := 18) (tgt := 67) dL_law_15 rfl (by decide) (fun h15 => ?_) (fun h15 => ?_)
  · first | exact absurd rfl h15 | exact absurd h15 (by decide)
  refine LE.aload_n (n := 19) dL_law_18 rfl rfl ?_
  refine LE.H1PI (M' := mL_restore) (n := 22) dL_law_19 rfl ch_L_271 ⟨⟨by decide, by decide⟩, (by show 395 + 1 + 1 ≤ 781134; omega), (by show 2468 + 6 + 6 ≤ 6748446; omega)⟩ (Nat.le_of_ble_eq_true rfl) (es_rest0 HE) (fun _ _ _ => rfl) (fun r19 σ19 q19 => ?_)
  obtain ⟨rfl, c19, rfl, HE⟩ := q19
  refine LE.cu (cu' := 395 + 2) (su' := 2468 + 12) (by show 395 + 1 + 1 = _; omega) (by show 2468 + 6 + 6 = _; omega) ?_
  refine LE.sipush (n := 25) ((-1001 : Int32)) dL_law_22 rfl (by decide) ?_
  refine LE.icmp_ne (n := 28) (tgt := 67) dL_law_25 rfl (by decide) (fun h25 => ?_) (fun h25 => ?_)
  · first | exact absurd rfl h25 | exact absurd h25 (by decide)
  refine LE.aload_n (n := 29) dL_law_28 rfl rfl ?_
  refine LE.V0PI (M' := mX5_save) (n := 32) dL_law_29 rfl cv_L_273 (by decide) ⟨⟨by decide, by decide⟩, (by show 395 + 2 + 0 ≤ 781134; omega), (by show 2468 + 12 + 0 ≤ 6748446; omega)⟩ (Nat.le_of_ble_eq_true rfl) (es_save HE) (fun _ _ _ => rfl) (fun r29 σ29 q29 => ?_)
  obtain ⟨rfl, c29, rfl, HE⟩ := q29
  refine LE.cu (cu' := 395 + 2) (su' := 2468 + 12) (by show 395 + 2 + 0 = _; omega) (by show 2468 + 12 + 0 = _; omega) ?_
  refine LE.if_ne (n := 35) (tgt := 67) dL_law_32 rfl (by decide) (fun h32 => ?_) (fun h32 => ?_)
  · first | exact absurd rfl h32 | exact absurd h32 (by decide)
  refine LE.aload_n (n := 36) dL_law_35 rfl rfl ?_
  refine LE.bipush (n := 38) (nI 48) dL_law_36 rfl (by decide) ?_
  refine LE.H2PI (M' := mL_pass) (n := 41) dL_law_38 rfl ch_L_226 ⟨⟨by decide, by decide⟩, (by show 395 + 2 + 1 ≤ 781134; omega), (by show 2468 + 12 + 6 ≤ 6748446; omega)⟩ (Nat.le_of_ble_eq_true rfl) (es_ok 0 e_pass HE (fun h t e H => x_pass _ _ _ H _)) (fun _ _ _ => rfl) (fun r38 σ38 q38 => ?_)
  obtain ⟨rfl, c38, rfl, HE⟩ := q38
  refine LE.cu (cu' := 395 + 3) (su' := 2468 + 18) (by show 395 + 2 + 1 = _; omega) (by show 2468 + 12 + 6 = _; omega) ?_
  refine LE.if_ne (n := 44) (tgt := 67) dL_law_41 rfl (by decide) (fun h41 => ?_) (fun h41 => ?_)
  · first | exact absurd rfl h41 | exact absurd h41 (by decide)
  refine LE.aload_n (n := 45) dL_law_44 rfl rfl ?_
  refine LE.iconst (n := 46) (nI 0) dL_law_45 rfl (by decide) ?_
  refine LE.H2PI (M' := mL_account) (n := 49) dL_law_46 rfl ch_L_192 ⟨⟨by decide, by decide⟩, (by show 395 + 3 + 1 ≤ 781134; omega), (by show 2468 + 18 + 6 ≤ 6748446; omega)⟩ (Nat.le_of_ble_eq_true rfl) (es_acc HE _ q0_0) (fun _ _ _ => rfl) (fun r46 σ46 q46 => ?_)
  obtain ⟨rfl, c46, rfl, HE⟩ := q46
  refine LE.cu (cu' := 395 + 4) (su' := 2468 + 24) (by show 395 + 3 + 1 = _; omega) (by show 2468 + 18 + 6 = _; omega) ?_
  refine LE.bipush (n := 51) (nI 48) dL_law_49 rfl (by decide) ?_
  refine LE.icmp_ne (n := 54) (tgt := 67) dL_law_51 rfl (by decide) (fun h51 => ?_) (fun h51 => ?_)
  · first | exact absurd rfl h51 | exact absurd h51 (by decide)
  refine LE.aload_n (n := 55) dL_law_54 rfl rfl ?_
  refine LE.sipush (n := 58) (nI 999) dL_law_55 rfl (by decide) ?_
  refine LE.H2PI (M' := mL_gas) (n := 61) dL_law_58 rfl ch_L_146 ⟨⟨by decide, by decide⟩, (by show 395 + 4 + 1 ≤ 781134; omega), (by show 2468 + 24 + 6 ≤ 6748446; omega)⟩ (Nat.le_of_ble_eq_true rfl) (es_ok 0 e_gas0 HE (fun h t e H => x_gas _ _ _ H _)) (fun _ _ _ => rfl) (fun r58 σ58 q58 => ?_)
  obtain ⟨rfl, c58, rfl, HE⟩ := q58
  refine LE.cu (cu' := 395 + 5) (su' := 2468 + 30) (by show 395 + 4 + 1 = _; omega) (by show 2468 + 24 + 6 = _; omega) ?_
  refine LE.sipush (n := 64) (nI 1099) dL_law_61 rfl (by decide) ?_
  refine LE.icmp_eq (n := 67) (tgt := 69) dL_law_64 rfl (by decide) (fun h64 => ?_) (fun h64 => ?_)
  rotate_left
  · first | exact absurd rfl h64 | exact absurd h64 (by decide)
  refine LE.iconst (n := 70) (nI 0) dL_law_69 rfl (by decide) ?_
  refine LE.istore_n (n := 71) dL_law_70 rfl (by decide) ?_
  refine LE.ofA (L' := [(0, .ref SP), (1, .ref 0), (2, .int (nI 0))]) ⟨rfl, rfl, rfl, trivial⟩ (LE.wid (cu' := 500 + 1 * 0) (su' := 4000 + 6 * 0) (by omega) (by omega) (le_app _ (fun c HE => ?_) 61 0 _ (by omega) (by omega) (es_ap HE)))
  refine LE.aload_n (n := 102) dL_law_101 rfl rfl ?_
  refine LE.bipush (n := 104) (nI 104) dL_law_102 rfl (by decide) ?_
  refine LE.H2PI (M' := mL_append) (n := 107) dL_law_104 rfl ch_L_135 ⟨⟨by decide, by decide⟩, (by show 560 + 1 ≤ 781134; omega), (by show 4360 + 6 ≤ 6748446; omega)⟩ (Nat.le_of_ble_eq_true rfl) (ap_full HE) (fun _ _ _ => rfl) (fun r104 σ104 q104 => ?_)
  obtain ⟨rfl, c104, rfl, HE⟩ := q104
  refine LE.cu (cu' := 560 + 1) (su' := 4360 + 6) (by show 560 + 1 = _; omega) (by show 4360 + 6 = _; omega) ?_
  refine LE.sipush (n := 110) ((-1001 : Int32)) dL_law_107 rfl (by decide) ?_
  refine LE.icmp_ne (n := 113) (tgt := 139) dL_law_110 rfl (by decide) (fun h110 => ?_) (fun h110 => ?_)
  · first | exact absurd rfl h110 | exact absurd h110 (by decide)
  refine LE.aload_n (n := 114) dL_law_113 rfl rfl ?_
  refine LE.H1PI (M' := mL_read) (n := 117) dL_law_114 rfl ch_L_140 ⟨⟨by decide, by decide⟩, (by show 560 + 1 + 3 ≤ 781134; omega), (by show 4360 + 6 + 18 ≤ 6748446; omega)⟩ (Nat.le_of_ble_eq_true rfl) (ap_read HE) (fun _ _ _ => rfl) (fun r114 σ114 q114 => ?_)
  obtain ⟨rfl, c114, rfl, HE⟩ := q114
  refine LE.cu (cu' := 560 + 4) (su' := 4360 + 24) (by show 560 + 1 + 3 = _; omega) (by show 4360 + 6 + 18 = _; omega) ?_
  refine LE.sipush (n := 120) ((-1001 : Int32)) dL_law_117 rfl (by decide) ?_
  refine LE.icmp_ne (n := 123) (tgt := 139) dL_law_120 rfl (by decide) (fun h120 => ?_) (fun h120 => ?_)
  · first | exact absurd rfl h120 | exact absurd h120 (by decide)
  refine LE.aload_n (n := 124) dL_law_123 rfl rfl ?_
  refine LE.V0PI (M' := mX5_errorPosition) (n := 127) dL_law_124 rfl cv_L_263 (by decide) ⟨⟨by decide, by decide⟩, (by show 560 + 4 + 0 ≤ 781134; omega), (by show 4360 + 24 + 0 ≤ 6748446; omega)⟩ (Nat.le_of_ble_eq_true rfl) (er_pos HE) (fun _ _ _ => rfl) (fun r124 σ124 q124 => ?_)
  obtain ⟨rfl, c124, rfl, HE⟩ := q124
  refine LE.cu (cu' := 560 + 4) (su' := 4360 + 24) (by show 560 + 4 + 0 = _; omega) (by show 4360 + 24 + 0 = _; omega) ?_
  refine LE.if_ne (n := 130) (tgt := 139) dL_law_127 rfl (by decide) (fun h127 => ?_) (fun h127 => ?_)
  · first | exact absurd rfl h127 | exact absurd h127 (by decide)
  refine LE.aload_n (n := 131) dL_law_130 rfl rfl ?_
  refine LE.bipush (n := 133) (nI 19) dL_law_131 rfl (by decide) ?_
  refine LE.H2PI (M' := mL_account) (n := 136) dL_law_133 rfl ch_L_192 ⟨⟨by decide, by decide⟩, (by show 560 + 4 + 1 ≤ 781134; omega), (by show 4360 + 24 + 6 ≤ 6748446; omega)⟩ (Nat.le_of_ble_eq_true rfl) (es_acc HE _ q1_19) (fun _ _ _ => rfl) (fun r133 σ133 q133 => ?_)
  obtain ⟨rfl, c133, rfl, HE⟩ := q133
  refine LE.cu (cu' := 560 + 5) (su' := 4360 + 30) (by show 560 + 4 + 1 = _; omega) (by show 4360 + 24 + 6 = _; omega) ?_
  refine LE.if_eq (n := 139) (tgt := 141) dL_law_136 rfl (by decide) (fun h136 => ?_) (fun h136 => ?_)
  rotate_left
  · first | exact absurd rfl h136 | exact absurd h136 (by decide)
  refine LE.iconst (n := 142) (nI 0) dL_law_141 rfl (by decide) ?_
  refine LE.istore_n (n := 143) dL_law_142 rfl (by decide) ?_
  refine LE.ofA (L' := [(0, .ref SP), (1, .ref 0), (2, .int (nI 0))]) ⟨rfl, rfl, rfl, trivial⟩ (LE.wid (cu' := 700 + 1 * 0) (su' := 6000 + 6 * 0) (by omega) (by omega) (le_gas _ (fun c HE => ?_) 11 0 _ (by omega) (by omega) HE))
  refine LE.iconst (n := 183) (nI 0) dL_law_182 rfl (by decide) ?_
  refine LE.istore_n (n := 184) dL_law_183 rfl (by decide) ?_
  refine LE.ofA (L' := [(0, .ref SP), (1, .ref 0), (2, .int (nI 0))]) ⟨rfl, rfl, rfl, trivial⟩ (LE.wid (cu' := 750 + 4 * 0) (su' := 6500 + 24 * 0) (by omega) (by omega) (le_bal _ (fun c HE => ?_) 7 0 _ (by omega) (by omega) HE))
  refine LE.iconst (n := 242) (nI 0) dL_law_241 rfl (by decide) ?_
  refine LE.istore_n (n := 243) dL_law_242 rfl (by decide) ?_
  refine LE.ofA (L' := [(0, .ref SP), (1, .ref 0), (2, .int (nI 0))]) ⟨rfl, rfl, rfl, trivial⟩ (LE.wid (cu' := 850 + 1 * 0) (su' := 7500 + 6 * 0) (by omega) (by omega) (le_let _ (fun c HE => ?_) 25 0 _ (by omega) (by omega) HE))
  exact LE.wid (by omega) (by omega) (le_end _ k _ HE)
