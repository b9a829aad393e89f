/-! THE LAW: its second object -/
theorem e0_w : ∀ q, q < 6 → E0 (10 + 2 * q) = 0 ∧ E0 (10 + 2 * q + 1) = 0 := by decide +kernel
theorem e_min : ∀ d, d < 13 → (if nI d < nI 8 then nI d else nI 8) = nI (min 8 d) := by decide +kernel
/-- nothing saved, no text; what holds of the numbers -/
def PB9 (Q : NA → Prop) (c : CC) : Prop := ∃ N h t e w, CA c (N, h, none, 0, t, e, w) ∧ Q N
section POQ
variable {c : CC} {od : Int64 × UInt64} {b : Nat}
theorem po_all (hb : b < 3) (hE : PB9 (fun N => MK4 N b) c) : CM mL_loadAll [.ref 0, .int (nI b)] (c, od) (PI fun r σ' => (∃ k : Nat, k ≤ 72 ∧ r = nI k) ∧ ∃ c', σ' = (c', od) ∧ PB9 (fun N => MK4 N b) c') := by
  obtain ⟨N, h, t, e, w, H, hM⟩ := hE
  obtain ⟨k, M, hk, e1, hM2⟩ := hM.load (show b < 4 by omega)
  have h9 := x_loadAll c od _ H (nI b)
  rw [show S_loadAll (N, h, (none : Option NA), 0, t, e, w).1 (nI b) = _ from e1] at h9
  refine CM.mono h9 (fun o s q => ?_)
  obtain ⟨r, h1, c', h2, h3, h4⟩ := q
  exact ⟨r, h1, ⟨k, hk, h4⟩, c', h2, M, _, t, e, w, h3, hM2⟩
theorem po_lau (hb : b < 3) (hE : PB9 (fun N => MK4 N b) c) : CM mL_launch [.ref 0, .int (nI b)] (c, od) (PI fun r σ' => (-1002 : Int32) ≤ r ∧ ∃ c', σ' = (c', od) ∧ PB9 (fun N => MK4 N (b + 1)) c') := by
  obtain ⟨N, h, t, e, w, H, hM⟩ := hE
  have h9 := x_launch c od _ H (nI b)
  rcases hM.launch (show b < 4 by omega) with ⟨v, M, hv, e1, hM2⟩ | ⟨w9, e1⟩
  · rw [show S_launches (N, h, (none : Option NA), 0, t, e, w).1 (nI b) = _ from e1] at h9
    refine CM.mono h9 (fun o s q => ?_)
    obtain ⟨r, h1, c', h2, h3, h4⟩ := q
    refine ⟨r, h1, ?_, c', h2, M, _, t, e, w, h3, hM2⟩
    rw [h4]
    show (-1002 : Int32) ≤ v
    rw [Int32.le_iff_toInt_le] at hv ⊢
    have e2 : ((-1002 : Int32)).toInt = -1002 := by decide
    have e3 : ((0 : Int32)).toInt = 0 := by decide
    omega
  · rw [show S_launches (N, h, (none : Option NA), 0, t, e, w).1 (nI b) = _ from e1] at h9
    refine CM.mono h9 (fun o s q => ?_)
    obtain ⟨r, h1, c', h2, h3, h4⟩ := q
    refine ⟨r, h1, ?_, c', h2, N, _, t, e, _, h3, hM.weak⟩
    rw [h4]
    show (-1002 : Int32) ≤ (-1002 : Int32)
    decide
theorem po_pass {k : Nat} (h1 : 1 ≤ k) (h2 : k ≤ 48) (hE : PB9 (fun N => MK4 N 3) c) : CM mL_pass [.ref 0, .int (nI k)] (c, od) (PI fun r σ' => (∃ k : Nat, k ≤ 300 ∧ r = nI k) ∧ ∃ c', σ' = (c', od) ∧ PB9 R44 c') := by
  obtain ⟨N, h, t, e, w, H, hM⟩ := hE
  obtain ⟨m, M, hm, e1, hI, e3, e4⟩ := s_pass H.1 h1 h2
  have h9 := x_pass c od _ H (nI k)
  rw [show S_passes (N, h, (none : Option NA), 0, t, e, w).1 (nI k) = _ from e1] at h9
  refine CM.mono h9 (fun o s q => ?_)
  obtain ⟨r, h1, c', h2, h3, h4⟩ := q
  exact ⟨r, h1, ⟨m, hm, h4⟩, c', h2, M, _, t, e, w, h3, e3.trans hM.1, e4.trans hM.2.1⟩
variable {A : AS} {S : NA}
theorem a_save {v : Int32} (H : CA c A) (h3 : A.1 3 = v) : CM mX5_save [.ref 0] (c, od) (PI fun r σ' => r = v ∧ ∃ c', σ' = (c', od) ∧ CA c' (A.1, A.2.1, some A.1, A.2.2.2)) := by
  refine CM.mono (x_save c od _ H) (fun o s q => ?_)
  obtain ⟨r, h1, c', h2, h3', h4⟩ := q
  exact ⟨r, h1, h4.trans h3, c', h2, h3'⟩
theorem a_undo {S0 : NA} {r0 : List NA} (H : CA c A) (h : A.2.1 = S0 :: r0) : CM mL_undo [.ref 0] (c, od) (PI fun r σ' => r = nI r0.length ∧ ∃ c', σ' = (c', od) ∧ CA c' (S0, r0, A.2.2)) := by
  have h9 := x_undo c od _ H
  have e9 : stepU A = (0, nI r0.length, (S0, r0, A.2.2)) := by
    unfold stepU
    rw [h]
  rw [e9] at h9
  refine CM.mono h9 (fun o s q => ?_)
  obtain ⟨r, h1, c', h2, h3, h4⟩ := q
  exact ⟨r, h1, h4, c', h2, h3⟩
theorem a_undo0 (H : CA c A) (h : A.2.1 = []) : CM mL_undo [.ref 0] (c, od) (PI fun r σ' => r = cdI 0 ∧ ∃ c', σ' = (c', od) ∧ CA c' A) := by
  have h9 := x_undo c od _ H
  have e9 : stepU A = (1, nI 0, A) := by
    unfold stepU
    rw [h]
  rw [e9] at h9
  refine CM.mono h9 (fun o s q => ?_)
  obtain ⟨r, h1, c', h2, h3, h4⟩ := q
  exact ⟨r, h1, h4, c', h2, h3⟩
theorem a_rest (H : CA c A) (h : A.2.2.1 = some S) : CM mL_restore [.ref 0] (c, od) (PI fun r σ' => r = S 3 ∧ ∃ c', σ' = (c', od) ∧ CA c' (S, [], A.2.2)) := by
  have h9 := x_restore c od _ H
  have e9 : stepR A = (0, S 3, (S, [], A.2.2)) := by
    unfold stepR
    rw [h]
  rw [e9] at h9
  refine CM.mono h9 (fun o s q => ?_)
  obtain ⟨r, h1, c', h2, h3, h4⟩ := q
  exact ⟨r, h1, h4, c', h2, h3⟩
end POQ
/-- d changes came off: ws, the numbers before each of them, the latest first; the row has what was asked before each -/
def CI9 (S : NA) (h0 : List NA) (d : Nat) (g : Nat → Int64) (c : CC) : Prop := ∃ (A : AS) (ws : List NA), CA c A ∧ A.2.2.1 = some S ∧ A.2.2.2.1 = 0 ∧ ws.length = d ∧ A.2.1 = (ws ++ h0).take 8 ∧ ∀ j, j < d → g j = asksF (ws.getD (d - 1 - j) S)
theorem tk8 (x : NA) (l : List NA) : (x :: l.take 8).take 8 = (x :: l).take 8 := by
  rw [List.take_succ_cons, List.take_succ_cons, List.take_take]
  rfl
/-- a step back among the changes -/
theorem ui_step {S : NA} {h0 ws : List NA} {d k : Nat} {g : Nat → Int64} {A : AS} (hws : ws.length = d) (hk1 : 1 ≤ k) (hk2 : k ≤ min 8 d) (hg : ∀ j, j < d → g j = asksF (ws.getD (d - 1 - j) S)) (hh : A.2.1 = ((ws ++ h0).take 8).drop (k - 1)) : ∃ S0, A.2.1 = S0 :: ((ws ++ h0).take 8).drop k ∧ g (d - k) = asksF S0 := by
  have hlen : k - 1 < ((ws ++ h0).take 8).length := by
    rw [List.length_take, List.length_append]
    omega
  refine ⟨((ws ++ h0).take 8)[k - 1], ?_, ?_⟩
  · rw [hh, List.drop_eq_getElem_cons hlen, show k - 1 + 1 = k by omega]
  · rw [hg (d - k) (by omega), show d - 1 - (d - k) = k - 1 by omega, List.getElem_take, List.getElem_append_left (by omega), List.getD_eq_getElem?_getD, List.getElem?_eq_getElem (by omega)]
    rfl
set_option maxRecDepth 20000 in
set_option maxHeartbeats 8000000 in
theorem lo_end {G : GT} {Ls : Nat} {xs : Nat → Int32} (hLs : Ls < 2 ^ 31) (od : Int64 × UInt64) (hEnd : ∀ L σ f cu su, cu ≤ 781134 → su ≤ 6748446 → LE mL_law (EL Ls xs) 1038 L [.int (nI 1)] σ f cu su G) {S : NA} (h3S : S 3 = nI 4) {sm : Int64} (hsm : sm = asksF S) {L : List (Nat × Value)} (hL : allA L [(0, .ref SP), (2, .ref 0), (3, .long sm), (5, .int (nI 4))]) {f : XF} (c : CC) (A : AS) (H : CA c A) (hs : A.2.2.1 = some S) : LE mL_law (EL Ls xs) 987 L [] (c, od) f 150000 900000 G := by
  subst hsm
  refine LE.ofA hL ?_
  refine LE.aload_n (n := 988) dL_law_987 rfl rfl ?_
  refine LE.H1PI (M' := mL_restore) (n := 991) dL_law_988 rfl ch_L_271 ⟨⟨by decide, by decide⟩, (by show 150000 + 1 ≤ 781134; omega), (by show 900000 + 6 ≤ 6748446; omega)⟩ (Nat.le_of_ble_eq_true rfl) (a_rest H hs) (fun _ _ _ => rfl) (fun r988 σ988 q988 => ?_)
  obtain ⟨rfl, c988, rfl, H⟩ := q988
  refine LE.cu (cu' := 150000 + 1) (su' := 900000 + 6) (by show 150000 + 1 = _; omega) (by show 900000 + 6 = _; omega) ?_
  refine LE.iload (n := 993) dL_law_991 rfl rfl ?_
  refine LE.icmp_ne (n := 996) (tgt := 1037) dL_law_993 rfl (by decide) (fun h993 => ?_) (fun h993 => ?_)
  · exact absurd h3S h993
  refine LE.aload_n (n := 997) dL_law_996 rfl rfl ?_
  refine LE.H1PI (M' := mL_undo) (n := 1000) dL_law_997 rfl ch_L_269 ⟨⟨by decide, by decide⟩, (by show 150000 + 1 + 1 ≤ 781134; omega), (by show 900000 + 6 + 6 ≤ 6748446; omega)⟩ (Nat.le_of_ble_eq_true rfl) (a_undo0 H rfl) (fun _ _ _ => rfl) (fun r997 σ997 q997 => ?_)
  obtain ⟨rfl, c997, rfl, H⟩ := q997
  refine LE.cu (cu' := 150000 + 2) (su' := 900000 + 12) (by show 150000 + 1 + 1 = _; omega) (by show 900000 + 6 + 6 = _; omega) ?_
  refine LE.sipush (n := 1003) ((-1001 : Int32)) dL_law_1000 rfl (by decide) ?_
  refine LE.icmp_ne (n := 1006) (tgt := 1037) dL_law_1003 rfl (by decide) (fun h1003 => ?_) (fun h1003 => ?_)
  · first | exact absurd rfl h1003 | exact absurd h1003 (by decide)
  refine LE.aload_n (n := 1007) dL_law_1006 rfl rfl ?_
  refine LE.S1L (M' := mL_asks) (n := 1010) dL_law_1007 rfl ch_L_257 ⟨⟨by decide, by decide⟩, (by show 150000 + 2 + 500 ≤ 781134; omega), (by show 900000 + 12 + 3000 ≤ 6748446; omega)⟩ (Nat.le_of_ble_eq_true rfl) (c_asks _ _ _ H) (fun _ _ _ => rfl) (fun c1007 H => ?_)
  refine LE.cu (cu' := 150000 + 502) (su' := 900000 + 3012) (by show 150000 + 2 + 500 = _; omega) (by show 900000 + 12 + 3000 = _; omega) ?_
  refine LE.lload_n (n := 1011) dL_law_1010 rfl rfl ?_
  refine LE.lcmp (n := 1012) dL_law_1011 rfl ?_
  refine LE.if_ne (n := 1015) (tgt := 1037) dL_law_1012 rfl (by decide) (fun h1012 => ?_) (fun h1012 => ?_)
  · exact absurd (lg_self _) h1012
  refine LE.aload_n (n := 1016) dL_law_1015 rfl rfl ?_
  refine LE.H1PI (M' := mL_restore) (n := 1019) dL_law_1016 rfl ch_L_271 ⟨⟨by decide, by decide⟩, (by show 150000 + 502 + 1 ≤ 781134; omega), (by show 900000 + 3012 + 6 ≤ 6748446; omega)⟩ (Nat.le_of_ble_eq_true rfl) (a_rest H hs) (fun _ _ _ => rfl) (fun r1016 σ1016 q1016 => ?_)
  obtain ⟨rfl, c1016, rfl, H⟩ := q1016
  refine LE.cu (cu' := 150000 + 503) (su' := 900000 + 3018) (by show 150000 + 502 + 1 = _; omega) (by show 900000 + 3012 + 6 = _; omega) ?_
  refine LE.iload (n := 1021) dL_law_1019 rfl rfl ?_
  refine LE.icmp_ne (n := 1024) (tgt := 1037) dL_law_1021 rfl (by decide) (fun h1021 => ?_) (fun h1021 => ?_)
  · exact absurd h3S h1021
  refine LE.aload_n (n := 1025) dL_law_1024 rfl rfl ?_
  refine LE.S1L (M' := mL_asks) (n := 1028) dL_law_1025 rfl ch_L_257 ⟨⟨by decide, by decide⟩, (by show 150000 + 503 + 500 ≤ 781134; omega), (by show 900000 + 3018 + 3000 ≤ 6748446; omega)⟩ (Nat.le_of_ble_eq_true rfl) (c_asks _ _ _ H) (fun _ _ _ => rfl) (fun c1025 H => ?_)
  refine LE.cu (cu' := 150000 + 1003) (su' := 900000 + 6018) (by show 150000 + 503 + 500 = _; omega) (by show 900000 + 3018 + 3000 = _; omega) ?_
  refine LE.lload_n (n := 1029) dL_law_1028 rfl rfl ?_
  refine LE.lcmp (n := 1030) dL_law_1029 rfl ?_
  refine LE.if_ne (n := 1033) (tgt := 1037) dL_law_1030 rfl (by decide) (fun h1030 => ?_) (fun h1030 => ?_)
  · exact absurd (lg_self _) h1030
  refine LE.iconst (n := 1034) (nI 1) dL_law_1033 rfl (by decide) ?_
  refine LE.goto (tgt := 1038) dL_law_1034 (by decide) ?_
  exact hEnd _ _ _ _ _ (by omega) (by omega)
set_option maxRecDepth 20000 in
set_option maxHeartbeats 8000000 in
theorem lo_und {G : GT} {Ls : Nat} {xs : Nat → Int32} (hLs : Ls < 2 ^ 31) (od : Int64 × UInt64) (hEnd : ∀ L σ f cu su, cu ≤ 781134 → su ≤ 6748446 → LE mL_law (EL Ls xs) 1038 L [.int (nI 1)] σ f cu su G) {S : NA} (h3S : S 3 = nI 4) {sm : Int64} (hsm : sm = asksF S) {h0 ws : List NA} {d : Nat} (hd : d ≤ 12) {g : Nat → Int64} (hws : ws.length = d) (hgd : ∀ j, j < d → g j = asksF (ws.getD (d - 1 - j) S)) : ∀ (n k : Nat) (c : CC) (A : AS), 1 ≤ k → k ≤ min 8 d + 1 → min 8 d + 1 < k + n → CA c A → A.2.2.1 = some S → A.2.1 = ((ws ++ h0).take 8).drop (k - 1) → LE mL_law (EL Ls xs) 930 [(0, .ref SP), (2, .ref 0), (3, .long sm), (5, .int (nI 4)), (6, .ref SQ), (7, .int (nI d)), (8, .int (nI (min 8 d))), (9, .int (nI k))] [] (c, od) (some (.inl g)) (100000 + 501 * k) (600000 + 3006 * k) G := by
  intro n
  induction n with
  | zero =>
    intro k c A h1 h2 h3
    exact absurd h3 (by omega)
  | succ n ih =>
    intro k c A hk1 hi hn H hs hh
    refine LE.iload (n := 932) dL_law_930 rfl rfl ?_
    refine LE.iload (n := 934) dL_law_932 rfl rfl ?_
    refine LE.icmp_gt (n := 937) (tgt := 987) dL_law_934 rfl (by decide) (fun h934 => ?_) (fun h934 => ?_)
    · skip
      exact LE.wid (by omega) (by omega) (lo_end hLs od hEnd h3S hsm ⟨rfl, rfl, rfl, rfl, trivial⟩ c A H hs)
    · skip
      have hk2 : k ≤ min 8 d := by
        rcases Nat.lt_or_ge (min 8 d) k with q | q
        · exact absurd ((nI_ltI (by omega) (by omega)).mpr q) h934
        · exact q
      obtain ⟨S0, eL, eG⟩ := ui_step (S := S) hws hk1 hk2 hgd hh
      refine LE.aload_n (n := 938) dL_law_937 rfl rfl ?_
      refine LE.H1PI (M' := mL_undo) (n := 941) dL_law_938 rfl ch_L_269 ⟨⟨by decide, by decide⟩, (by show 100000 + 501 * k + 1 ≤ 781134; omega), (by show 600000 + 3006 * k + 6 ≤ 6748446; omega)⟩ (Nat.le_of_ble_eq_true rfl) (a_undo H eL) (fun _ _ _ => rfl) (fun r938 σ938 q938 => ?_)
      obtain ⟨rfl, c938, rfl, H⟩ := q938
      have hl8 : (((ws ++ h0).take 8).drop k).length = min 8 (d + h0.length) - k := by
        rw [List.length_drop, List.length_take, List.length_append, hws]
      rw [hl8]
      refine LE.cu (cu' := 100000 + 501 * k + 1) (su' := 600000 + 3006 * k + 6) (by show 100000 + 501 * k + 1 = _; omega) (by show 600000 + 3006 * k + 6 = _; omega) ?_
      refine LE.istore (n := 943) dL_law_941 rfl (by decide) ?_
      refine LE.iload (n := 945) dL_law_943 rfl rfl ?_
      refine LE.iload (n := 947) dL_law_945 rfl rfl ?_
      refine LE.iload (n := 949) dL_law_947 rfl rfl ?_
      refine LE.isub (n := 950) dL_law_949 rfl ?_
      rw [pk_sub hk2]
      refine LE.icmp_lt (n := 953) (tgt := 979) dL_law_950 rfl (by decide) (fun h950 => ?_) (fun h950 => ?_)
      · exact absurd h950 (nI_nlt (by omega) (by omega))
      refine LE.iload (n := 955) dL_law_953 rfl rfl ?_
      refine LE.bipush (n := 957) (nI 8) dL_law_955 rfl (by decide) ?_
      refine LE.iload (n := 959) dL_law_957 rfl rfl ?_
      refine LE.isub (n := 960) dL_law_959 rfl ?_
      rw [pk_sub (by omega)]
      refine LE.icmp_gt (n := 963) (tgt := 979) dL_law_960 rfl (by decide) (fun h960 => ?_) (fun h960 => ?_)
      · exact absurd h960 (nI_nlt (by omega) (by omega))
      refine LE.aload_n (n := 964) dL_law_963 rfl rfl ?_
      refine LE.S1L (M' := mL_asks) (n := 967) dL_law_964 rfl ch_L_257 ⟨⟨by decide, by decide⟩, (by show 100000 + 501 * k + 1 + 500 ≤ 781134; omega), (by show 600000 + 3006 * k + 6 + 3000 ≤ 6748446; omega)⟩ (Nat.le_of_ble_eq_true rfl) (c_asks _ _ _ H) (fun _ _ _ => rfl) (fun c964 H => ?_)
      refine LE.cu (cu' := 100000 + 501 * k + 501) (su' := 600000 + 3006 * k + 3006) (by show 100000 + 501 * k + 1 + 500 = _; omega) (by show 600000 + 3006 * k + 6 + 3000 = _; omega) ?_
      refine LE.aload (n := 969) dL_law_967 rfl rfl ?_
      refine LE.iload (n := 971) dL_law_969 rfl rfl ?_
      refine LE.iload (n := 973) dL_law_971 rfl rfl ?_
      refine LE.isub (n := 974) dL_law_973 rfl ?_
      rw [pk_sub (by omega)]
      refine LE.rowGet (n := 975) (d - k) dL_law_974 rfl rfl (by omega) ?_
      rw [eG]
      refine LE.lcmp (n := 976) dL_law_975 rfl ?_
      refine LE.if_eq (n := 979) (tgt := 981) dL_law_976 rfl (by decide) (fun h976 => ?_) (fun h976 => ?_)
      rotate_left
      · exact absurd (lg_self _) h976
      refine LE.iincV (n := 984) (nI (k + 1)) dL_law_981 rfl rfl (by decide) (nI_inc k) ?_
      refine LE.goto (tgt := 930) dL_law_984 (by decide) ?_
      exact LE.ofA (L' := [(0, .ref SP), (2, .ref 0), (3, .long sm), (5, .int (nI 4)), (6, .ref SQ), (7, .int (nI d)), (8, .int (nI (min 8 d))), (9, .int (nI (k + 1)))]) ⟨rfl, rfl, rfl, rfl, rfl, rfl, rfl, rfl, trivial⟩ (LE.cu (by omega) (by omega) (ih (k + 1) _ _ (by omega) (by omega) (by omega) H hs rfl))
theorem ch_L_293 : CSL RL 293 mL_changes 2 := ⟨g_1026, g_1027, g_20, g_1028, rfl, ⟨by decide +kernel, by decide +kernel, by decide +kernel⟩⟩
theorem row_next {S M : NA} {ws : List NA} {d : Nat} {g : Nat → Int64} (hg : ∀ j, j < d → g j = asksF (ws.getD (d - 1 - j) S)) : ∀ j, j < d + 1 → vp_updL g d (asksF M) j = asksF ((M :: ws).getD (d + 1 - 1 - j) S) := by
  intro j hj
  unfold vp_updL
  by_cases hjd : j = d
  · subst hjd
    rw [if_pos rfl, show j + 1 - 1 - j = 0 by omega]
    rfl
  · rw [if_neg hjd, hg j (by omega), show d + 1 - 1 - j = (d - 1 - j) + 1 by omega]
    rfl
set_option maxRecDepth 20000 in
set_option maxHeartbeats 8000000 in
theorem lo_chg {G : GT} {Ls : Nat} {xs : Nat → Int32} (hLs : Ls < 2 ^ 31) (od : Int64 × UInt64) (hEnd : ∀ L σ f cu su, cu ≤ 781134 → su ≤ 6748446 → LE mL_law (EL Ls xs) 1038 L [.int (nI 1)] σ f cu su G) {S : NA} (h3S : S 3 = nI 4) {sm : Int64} (hsm : sm = asksF S) {hst : List NA} : ∀ (n i d : Nat) (g : Nat → Int64) (c : CC), i ≤ 12 → 12 < i + n → d ≤ i → CI9 S hst d g c → LE mL_law (EL Ls xs) 851 [(0, .ref SP), (2, .ref 0), (3, .long sm), (5, .int (nI 4)), (6, .ref SQ), (7, .int (nI d)), (8, .int (nI i))] [] (c, od) (some (.inl g)) (30000 + 1080 * i) (200000 + 6460 * i) G := by
  intro n
  induction n with
  | zero =>
    intro i d g c h1 h2
    exact absurd h2 (by omega)
  | succ n ih =>
    intro i d g c hi hn hdi HC
    obtain ⟨A, ws, H, hs, h0, hws, hh, hgd⟩ := HC
    refine LE.iload (n := 853) dL_law_851 rfl rfl ?_
    refine LE.bipush (n := 855) (nI 12) dL_law_853 rfl (by decide) ?_
    refine LE.icmp_ge (n := 858) (tgt := 918) dL_law_855 rfl (by decide) (fun h855 => ?_) (fun h855 => ?_)
    · skip
      have hx : i = 12 := by have := ge_t (by omega) (by omega) h855; omega
      subst hx
      refine LE.wid (cu' := 70000) (su' := 400000) (by omega) (by omega) ?_
      refine LE.bipush (n := 920) (nI 8) dL_law_918 rfl (by decide) ?_
      refine LE.iload (n := 922) dL_law_920 rfl rfl ?_
      refine LE.mmin (n := 925) dL_law_922 rfl ⟨g_1310, g_337, g_31, g_338⟩ ⟨by decide, Nat.le_of_ble_eq_true rfl, (by show 70000 ≤ 781134; omega), (by show 400000 ≤ 6748446; omega)⟩ ?_
      rw [e_min _ (by omega)]
      refine LE.istore (n := 927) dL_law_925 rfl (by decide) ?_
      refine LE.iconst (n := 928) (nI 1) dL_law_927 rfl (by decide) ?_
      refine LE.istore (n := 930) dL_law_928 rfl (by decide) ?_
      refine LE.ofA (L' := [(0, .ref SP), (2, .ref 0), (3, .long sm), (5, .int (nI 4)), (6, .ref SQ), (7, .int (nI d)), (8, .int (nI (min 8 d))), (9, .int (nI 1))]) ⟨rfl, rfl, rfl, rfl, rfl, rfl, rfl, rfl, trivial⟩ (LE.wid (cu' := 100000 + 501 * 1) (su' := 600000 + 3006 * 1) (by omega) (by omega) (lo_und hLs od hEnd h3S hsm (by omega) hws hgd 9 1 _ A (by omega) (by omega) (by omega) H hs hh))
    · skip
      have hlt : i < 12 := ge_f (by omega) (by omega) h855
      refine LE.aload_n (n := 859) dL_law_858 rfl rfl ?_
      refine LE.S1L (M' := mL_asks) (n := 862) dL_law_859 rfl ch_L_257 ⟨⟨by decide, by decide⟩, (by show 30000 + 1080 * i + 500 ≤ 781134; omega), (by show 200000 + 6460 * i + 3000 ≤ 6748446; omega)⟩ (Nat.le_of_ble_eq_true rfl) (c_asks _ _ A H) (fun _ _ _ => rfl) (fun c859 H => ?_)
      refine LE.cu (cu' := 30000 + 1080 * i + 500) (su' := 200000 + 6460 * i + 3000) (by show 30000 + 1080 * i + 500 = _; omega) (by show 200000 + 6460 * i + 3000 = _; omega) ?_
      refine LE.lstore (n := 864) dL_law_862 rfl (by decide) ?_
      refine LE.aload_n (n := 865) dL_law_864 rfl rfl ?_
      refine LE.aload_n (n := 866) dL_law_865 rfl rfl ?_
      refine LE.bipush (n := 868) (nI 20) dL_law_866 rfl (by decide) ?_
      refine LE.iload (n := 870) dL_law_868 rfl rfl ?_
      refine LE.iadd (n := 871) dL_law_870 rfl ?_
      rw [nI_add]
      refine LE.X2PI (M' := mL_at) (n := 874) SX.eb EL.eg dL_law_871 rfl ch_L_149 ⟨⟨by decide, by decide⟩, (by show 30000 + 1080 * i + 500 + 0 ≤ 781134; omega), (by show 200000 + 6460 * i + 3000 + 0 ≤ 6748446; omega)⟩ (Nat.le_of_ble_eq_true rfl) (c_at hLs (20 + i) (by omega) _ rfl _) (fun _ _ _ => rfl) (fun r871 σ871 q871 => ?_)
      subst q871
      refine LE.cu (cu' := 30000 + 1080 * i + 500) (su' := 200000 + 6460 * i + 3000) (by show 30000 + 1080 * i + 500 + 0 = _; omega) (by show 200000 + 6460 * i + 3000 + 0 = _; omega) ?_
      refine LE.iload (n := 876) dL_law_874 rfl rfl ?_
      refine LE.sipush (n := 879) (nI 977) dL_law_876 rfl (by decide) ?_
      refine LE.imul (n := 880) dL_law_879 rfl ?_
      refine LE.ixor (n := 881) dL_law_880 rfl ?_
      refine LE.X2PI (M' := mL_changes) (n := 884) TE.eb TE.eg dL_law_881 rfl ch_L_293 ⟨⟨by decide, by decide⟩, (by show 30000 + 1080 * i + 500 + 80 ≤ 781134; omega), (by show 200000 + 6460 * i + 3000 + 460 ≤ 6748446; omega)⟩ (Nat.le_of_ble_eq_true rfl) (c_changes _ _ A H h0 _) (fun _ _ _ => rfl) (fun r881 σ881 q881 => ?_)
      obtain ⟨c881, A', rfl, H, g1, g2, hg⟩ := q881
      refine LE.cu (cu' := 30000 + 1080 * i + 580) (su' := 200000 + 6460 * i + 3460) (by show 30000 + 1080 * i + 500 + 80 = _; omega) (by show 200000 + 6460 * i + 3000 + 460 = _; omega) ?_
      refine LE.if_eq (n := 887) (tgt := 900) dL_law_884 rfl (by decide) (fun h884 => ?_) (fun h884 => ?_)
      · skip
        obtain ⟨rfl, g3⟩ | ⟨rfl, g3, g4⟩ := hg
        · exact absurd h884 (by decide)
        refine LE.aload_n (n := 901) dL_law_900 rfl rfl ?_
        refine LE.S1L (M' := mL_asks) (n := 904) dL_law_901 rfl ch_L_257 ⟨⟨by decide, by decide⟩, (by show 30000 + 1080 * i + 580 + 500 ≤ 781134; omega), (by show 200000 + 6460 * i + 3460 + 3000 ≤ 6748446; omega)⟩ (Nat.le_of_ble_eq_true rfl) (c_asks _ _ _ H) (fun _ _ _ => rfl) (fun c901 H => ?_)
        rw [g3]
        refine LE.cu (cu' := 30000 + 1080 * i + 1080) (su' := 200000 + 6460 * i + 6460) (by show 30000 + 1080 * i + 580 + 500 = _; omega) (by show 200000 + 6460 * i + 3460 + 3000 = _; omega) ?_
        refine LE.lload (n := 906) dL_law_904 rfl rfl ?_
        refine LE.lcmp (n := 907) dL_law_906 rfl ?_
        refine LE.if_eq (n := 910) (tgt := 912) dL_law_907 rfl (by decide) (fun h907 => ?_) (fun h907 => ?_)
        rotate_left
        · exact absurd (lg_self _) h907
        refine LE.iincV (n := 915) (nI (i + 1)) dL_law_912 rfl rfl (by decide) (nI_inc i) ?_
        refine LE.goto (tgt := 851) dL_law_915 (by decide) ?_
        refine LE.ofA (L' := [(0, .ref SP), (2, .ref 0), (3, .long sm), (5, .int (nI 4)), (6, .ref SQ), (7, .int (nI d)), (8, .int (nI (i + 1)))]) ⟨rfl, rfl, rfl, rfl, rfl, rfl, rfl, trivial⟩ (LE.wid (by omega) (by omega) (ih (i + 1) _ _ _ (by omega) (by omega) (by omega) ⟨A', ws, H, g1.trans hs, g2, hws, g4.trans hh, hgd⟩))
      · skip
        obtain ⟨rfl, g3⟩ | ⟨rfl, g3, g4⟩ := hg
        rotate_left
        · exact absurd rfl h884
        refine LE.aload (n := 889) dL_law_887 rfl rfl ?_
        refine LE.iload (n := 891) dL_law_889 rfl rfl ?_
        refine LE.iincV (n := 894) (nI (d + 1)) dL_law_891 rfl rfl (by decide) (nI_inc d) ?_
        refine LE.lload (n := 896) dL_law_894 rfl rfl ?_
        refine LE.rowSet (n := 897) d dL_law_896 rfl rfl (by omega) ?_
        refine LE.goto (tgt := 912) dL_law_897 (by decide) ?_
        refine LE.iincV (n := 915) (nI (i + 1)) dL_law_912 rfl rfl (by decide) (nI_inc i) ?_
        refine LE.goto (tgt := 851) dL_law_915 (by decide) ?_
        refine LE.ofA (L' := [(0, .ref SP), (2, .ref 0), (3, .long sm), (5, .int (nI 4)), (6, .ref SQ), (7, .int (nI (d + 1))), (8, .int (nI (i + 1)))]) ⟨rfl, rfl, rfl, rfl, rfl, rfl, rfl, trivial⟩ (LE.wid (by omega) (by omega) (ih (i + 1) _ _ _ (by omega) (by omega) (by omega) ⟨A', A.1 :: ws, H, g1.trans hs, g2, by rw [List.length_cons, hws], by rw [g3, hh, tk8]; rfl, row_next hgd⟩))
set_option maxRecDepth 20000 in
set_option maxHeartbeats 8000000 in
theorem lo_lau {G : GT} {Ls : Nat} {xs : Nat → Int32} (hLs : Ls < 2 ^ 31) (od : Int64 × UInt64) (k : ∀ c, PB9 (fun N => MK4 N 3) c → LE mL_law (EL Ls xs) 771 [(0, .ref SP), (2, .ref 0), (3, .int (nI 3))] [] (c, od) none 4006 40036 G) : ∀ (n i : Nat) (c : CC), i ≤ 3 → 3 < i + n → PB9 (fun N => MK4 N i) c → LE mL_law (EL Ls xs) 739 [(0, .ref SP), (2, .ref 0), (3, .int (nI i))] [] (c, od) none (4000 + 2 * i) (40000 + 12 * i) G := by
  intro n
  induction n with
  | zero =>
    intro i c h1 h2
    exact absurd h2 (by omega)
  | succ n ih =>
    intro i c hi hn HE
    refine LE.iload_n (n := 740) dL_law_739 rfl rfl ?_
    refine LE.iconst (n := 741) (nI 3) dL_law_740 rfl (by decide) ?_
    refine LE.icmp_ge (n := 744) (tgt := 771) dL_law_741 rfl (by decide) (fun h741 => ?_) (fun h741 => ?_)
    · skip
      have hx : i = 3 := by have := ge_t (by omega) (by omega) h741; omega
      subst hx
      exact LE.ofA (L' := [(0, .ref SP), (2, .ref 0), (3, .int (nI 3))]) ⟨rfl, rfl, rfl, trivial⟩ (k _ HE)
    · skip
      have hlt : i < 3 := ge_f (by omega) (by omega) h741
      refine LE.aload_n (n := 745) dL_law_744 rfl rfl ?_
      refine LE.iload_n (n := 746) dL_law_745 rfl rfl ?_
      refine LE.H2PI (M' := mL_loadAll) (n := 749) dL_law_746 rfl ch_L_220 ⟨⟨by decide, by decide⟩, (by show 4000 + 2 * i + 1 ≤ 781134; omega), (by show 40000 + 12 * i + 6 ≤ 6748446; omega)⟩ (Nat.le_of_ble_eq_true rfl) (po_all hlt HE) (fun _ _ _ => rfl) (fun r746 σ746 q746 => ?_)
      obtain ⟨⟨k9, hk9, rfl⟩, c746, rfl, HE⟩ := q746
      refine LE.cu (cu' := 4000 + 2 * i + 1) (su' := 40000 + 12 * i + 6) (by show 4000 + 2 * i + 1 = _; omega) (by show 40000 + 12 * i + 6 = _; omega) ?_
      refine LE.if_lt (n := 752) (tgt := 763) dL_law_749 rfl (by decide) (fun h749 => ?_) (fun h749 => ?_)
      · exact absurd h749 (nI_pos (by omega))
      refine LE.aload_n (n := 753) dL_law_752 rfl rfl ?_
      refine LE.iload_n (n := 754) dL_law_753 rfl rfl ?_
      refine LE.H2PI (M' := mL_launch) (n := 757) dL_law_754 rfl ch_L_222 ⟨⟨by decide, by decide⟩, (by show 4000 + 2 * i + 1 + 1 ≤ 781134; omega), (by show 40000 + 12 * i + 6 + 6 ≤ 6748446; omega)⟩ (Nat.le_of_ble_eq_true rfl) (po_lau hlt HE) (fun _ _ _ => rfl) (fun r754 σ754 q754 => ?_)
      obtain ⟨hr9, c754, rfl, HE⟩ := q754
      refine LE.cu (cu' := 4000 + 2 * i + 2) (su' := 40000 + 12 * i + 12) (by show 4000 + 2 * i + 1 + 1 = _; omega) (by show 40000 + 12 * i + 6 + 6 = _; omega) ?_
      refine LE.sipush (n := 760) ((-1002 : Int32)) dL_law_757 rfl (by decide) ?_
      refine LE.icmp_ge (n := 763) (tgt := 765) dL_law_760 rfl (by decide) (fun h760 => ?_) (fun h760 => ?_)
      rotate_left
      · exact absurd hr9 h760
      refine LE.iincV (n := 768) (nI (i + 1)) dL_law_765 rfl rfl (by decide) (nI_inc i) ?_
      refine LE.goto (tgt := 739) dL_law_768 (by decide) ?_
      exact LE.ofA (L' := [(0, .ref SP), (2, .ref 0), (3, .int (nI (i + 1)))]) ⟨rfl, rfl, rfl, trivial⟩ (LE.cu (by omega) (by omega) (ih (i + 1) _ (by omega) (by omega) HE))
theorem ch_L_289 : CSL RL 289 mL_refused 1 := ⟨g_1305, g_1306, g_20, g_1307, rfl, ⟨by decide +kernel, by decide +kernel, by decide +kernel⟩⟩
set_option maxRecDepth 20000 in
set_option maxHeartbeats 8000000 in
theorem lo_mid {G : GT} {Ls : Nat} {xs : Nat → Int32} (hLs : Ls < 2 ^ 31) (od : Int64 × UInt64) (hEnd : ∀ L σ f cu su, cu ≤ 781134 → su ≤ 6748446 → LE mL_law (EL Ls xs) 1038 L [.int (nI 1)] σ f cu su G) (c : CC) (HE : PB9 R44 c) : LE mL_law (EL Ls xs) 793 [(0, .ref SP), (2, .ref 0), (3, .int (nI 3))] [] (c, od) none 10000 80000 G := by
  obtain ⟨N, h, t, e, w, H, hR⟩ := HE
  obtain ⟨A, hA⟩ : ∃ A : AS, A = (N, h, (none : Option NA), 0, t, e, w) := ⟨_, rfl⟩
  rw [← hA] at H
  have hR : R44 A.1 := by rw [hA]; exact hR
  have h0 : A.2.2.2.1 = 0 := by rw [hA]
  have H0 := H
  refine LE.aload_n (n := 794) dL_law_793 rfl rfl ?_
  refine LE.S1L (M' := mL_asks) (n := 797) dL_law_794 rfl ch_L_257 ⟨⟨by decide, by decide⟩, (by show 10000 + 500 ≤ 781134; omega), (by show 80000 + 3000 ≤ 6748446; omega)⟩ (Nat.le_of_ble_eq_true rfl) (c_asks _ _ A H) (fun _ _ _ => rfl) (fun c794 H => ?_)
  refine LE.cu (cu' := 10000 + 500) (su' := 80000 + 3000) (by show 10000 + 500 = _; omega) (by show 80000 + 3000 = _; omega) ?_
  refine LE.lstore_n (n := 798) dL_law_797 rfl (by decide) ?_
  refine LE.aload_n (n := 799) dL_law_798 rfl rfl ?_
  refine LE.S1L (M' := mL_asks) (n := 802) dL_law_799 rfl ch_L_257 ⟨⟨by decide, by decide⟩, (by show 10000 + 500 + 500 ≤ 781134; omega), (by show 80000 + 3000 + 3000 ≤ 6748446; omega)⟩ (Nat.le_of_ble_eq_true rfl) (c_asks _ _ A H) (fun _ _ _ => rfl) (fun c799 H => ?_)
  refine LE.cu (cu' := 10000 + 1000) (su' := 80000 + 6000) (by show 10000 + 500 + 500 = _; omega) (by show 80000 + 3000 + 3000 = _; omega) ?_
  refine LE.lload_n (n := 803) dL_law_802 rfl rfl ?_
  refine LE.lcmp (n := 804) dL_law_803 rfl ?_
  refine LE.if_ne (n := 807) (tgt := 814) dL_law_804 rfl (by decide) (fun h804 => ?_) (fun h804 => ?_)
  · exact absurd (lg_self _) h804
  refine LE.aload_n (n := 808) dL_law_807 rfl rfl ?_
  refine LE.S1PI (M' := mL_refused) (n := 811) dL_law_808 rfl ch_L_289 ⟨⟨by decide, by decide⟩, (by show 10000 + 1000 + 1500 ≤ 781134; omega), (by show 80000 + 6000 + 9000 ≤ 6748446; omega)⟩ (Nat.le_of_ble_eq_true rfl) (c_refused _ _ A H hR h0) (fun _ _ _ => rfl) (fun r808 σ808 q808 => ?_)
  obtain ⟨rfl, c808, t9, e9, rfl, H⟩ := q808
  refine LE.cu (cu' := 10000 + 2500) (su' := 80000 + 15000) (by show 10000 + 1000 + 1500 = _; omega) (by show 80000 + 6000 + 9000 = _; omega) ?_
  refine LE.if_ne (n := 814) (tgt := 816) dL_law_811 rfl (by decide) (fun h811 => ?_) (fun h811 => ?_)
  rotate_left
  · first | exact absurd rfl h811 | exact absurd h811 (by decide)
  refine LE.aload_n (n := 817) dL_law_816 rfl rfl ?_
  refine LE.V0PI (M' := mX5_save) (n := 820) dL_law_817 rfl cv_L_273 (by decide) ⟨⟨by decide, by decide⟩, (by show 10000 + 2500 + 0 ≤ 781134; omega), (by show 80000 + 15000 + 0 ≤ 6748446; omega)⟩ (Nat.le_of_ble_eq_true rfl) (a_save H hR.1) (fun _ _ _ => rfl) (fun r817 σ817 q817 => ?_)
  obtain ⟨rfl, c817, rfl, H⟩ := q817
  refine LE.cu (cu' := 10000 + 2500) (su' := 80000 + 15000) (by show 10000 + 2500 + 0 = _; omega) (by show 80000 + 15000 + 0 = _; omega) ?_
  refine LE.istore (n := 822) dL_law_820 rfl (by decide) ?_
  refine LE.iload (n := 824) dL_law_822 rfl rfl ?_
  refine LE.iconst (n := 825) (nI 4) dL_law_824 rfl (by decide) ?_
  refine LE.icmp_ne (n := 828) (tgt := 837) dL_law_825 rfl (by decide) (fun h825 => ?_) (fun h825 => ?_)
  · first | exact absurd rfl h825 | exact absurd h825 (by decide)
  refine LE.aload_n (n := 829) dL_law_828 rfl rfl ?_
  refine LE.S1L (M' := mL_asks) (n := 832) dL_law_829 rfl ch_L_257 ⟨⟨by decide, by decide⟩, (by show 10000 + 2500 + 500 ≤ 781134; omega), (by show 80000 + 15000 + 3000 ≤ 6748446; omega)⟩ (Nat.le_of_ble_eq_true rfl) (c_asks _ _ _ H) (fun _ _ _ => rfl) (fun c829 H => ?_)
  refine LE.cu (cu' := 10000 + 3000) (su' := 80000 + 18000) (by show 10000 + 2500 + 500 = _; omega) (by show 80000 + 15000 + 3000 = _; omega) ?_
  refine LE.lload_n (n := 833) dL_law_832 rfl rfl ?_
  refine LE.lcmp (n := 834) dL_law_833 rfl ?_
  refine LE.if_eq (n := 837) (tgt := 839) dL_law_834 rfl (by decide) (fun h834 => ?_) (fun h834 => ?_)
  rotate_left
  · exact absurd (lg_self _) h834
  refine LE.bipush (n := 841) (nI 13) dL_law_839 rfl (by decide) ?_
  refine LE.rowNew (n := 843) dL_law_841 rfl ⟨(by show 10000 + 3000 + 1 ≤ 781134; omega), (by show 80000 + 18000 + 13 ≤ 6748446; omega)⟩ (fun _ _ _ _ => rfl) (fun _ _ _ _ => rfl) ?_
  refine LE.cu (cu' := 10000 + 3001) (su' := 80000 + 18013) (by show 10000 + 3000 + 1 = _; omega) (by show 80000 + 18000 + 13 = _; omega) ?_
  refine LE.astore (n := 845) dL_law_843 rfl (by decide) ?_
  refine LE.iconst (n := 846) (nI 0) dL_law_845 rfl (by decide) ?_
  refine LE.istore (n := 848) dL_law_846 rfl (by decide) ?_
  refine LE.iconst (n := 849) (nI 0) dL_law_848 rfl (by decide) ?_
  refine LE.istore (n := 851) dL_law_849 rfl (by decide) ?_
  exact LE.ofA (L' := [(0, .ref SP), (2, .ref 0), (3, .long _), (5, .int (nI 4)), (6, .ref SQ), (7, .int (nI 0)), (8, .int (nI 0))]) ⟨rfl, rfl, rfl, rfl, rfl, rfl, rfl, trivial⟩ (LE.wid (cu' := 30000 + 1080 * 0) (su' := 200000 + 6460 * 0) (by omega) (by omega) (lo_chg hLs _ hEnd hR.1 rfl (hst := A.2.1) 13 0 0 _ _ (by omega) (by omega) (by omega) ⟨_, [], H, rfl, rfl, rfl, (List.take_of_length_le (H0.2.2.1.1)).symm, fun j hj => absurd hj (Nat.not_lt_zero j)⟩))
theorem ch_L_285 : CSL RL 285 mL_makes 2 := ⟨g_939, g_940, g_20, g_941, rfl, ⟨by decide +kernel, by decide +kernel, by decide +kernel⟩⟩
set_option maxRecDepth 20000 in
set_option maxHeartbeats 8000000 in
theorem law_o {G : GT} {Ls : Nat} {xs : Nat → Int32} (hLs : Ls < 2 ^ 31) (hEnd : ∀ L σ f cu su, cu ≤ 781134 → su ≤ 6748446 → LE mL_law (EL Ls xs) 1038 L [.int (nI 1)] σ f cu su G) : LE mL_law (EL Ls xs) 726 [(0, .ref SP)] [.ref 0] (cZ, 0, 0) none 3395 32468 G := by
  refine LE.astore_n (n := 727) dL_law_726 rfl (by decide) ?_
  refine LE.aload_n (n := 728) dL_law_727 rfl rfl ?_
  refine LE.aload_n (n := 729) dL_law_728 rfl rfl ?_
  refine LE.X2PI (M' := mL_makes) (n := 732) SX.eb EL.eg dL_law_729 rfl ch_L_285 ⟨⟨by decide, by decide⟩, (by show 3395 + 60 ≤ 781134; omega), (by show 32468 + 360 ≤ 6748446; omega)⟩ (Nat.le_of_ble_eq_true rfl) (c_makes hLs _ _ _ E0 [] caZ rfl rfl rfl rfl (fun q _ hq => e0_w q hq)) (fun _ _ _ => rfl) (fun r729 σ729 q729 => ?_)
  obtain ⟨rfl, c1, N, h, rfl, H, HM⟩ := q729
  refine LE.cu (cu' := 3395 + 60) (su' := 32468 + 360) (by show 3395 + 60 = _; omega) (by show 32468 + 360 = _; omega) ?_
  refine LE.if_ne (n := 735) (tgt := 737) dL_law_732 rfl (by decide) (fun h732 => ?_) (fun h732 => ?_)
  rotate_left
  · first | exact absurd rfl h732 | exact absurd h732 (by decide)
  refine LE.iconst (n := 738) (nI 0) dL_law_737 rfl (by decide) ?_
  refine LE.istore_n (n := 739) dL_law_738 rfl (by decide) ?_
  refine LE.ofA (L' := [(0, .ref SP), (2, .ref 0), (3, .int (nI 0))]) ⟨rfl, rfl, rfl, trivial⟩ (LE.wid (cu' := 4000 + 2 * 0) (su' := 40000 + 12 * 0) (by omega) (by omega) (lo_lau hLs _ (fun c HE => ?_) 4 0 _ (by omega) (by omega) ⟨N, h, _, _, _, H, HM.1, HM.2.1, fun j _ hj => HM.2.2 j hj⟩))
  refine LE.aload_n (n := 772) dL_law_771 rfl rfl ?_
  refine LE.iconst (n := 773) (nI 1) dL_law_772 rfl (by decide) ?_
  refine LE.aload_n (n := 774) dL_law_773 rfl rfl ?_
  refine LE.bipush (n := 776) (nI 30) dL_law_774 rfl (by decide) ?_
  refine LE.X2PI (M' := mL_at) (n := 779) SX.eb EL.eg dL_law_776 rfl ch_L_149 ⟨⟨by decide, by decide⟩, (by show 4006 + 0 ≤ 781134; omega), (by show 40036 + 0 ≤ 6748446; omega)⟩ (Nat.le_of_ble_eq_true rfl) (c_at hLs (30) (by omega) _ rfl _) (fun _ _ _ => rfl) (fun r776 σ776 q776 => ?_)
  subst q776
  refine LE.cu (cu' := 4006) (su' := 40036) (by show 4006 + 0 = _; omega) (by show 40036 + 0 = _; omega) ?_
  refine LE.bipush (n := 781) (nI 6) dL_law_779 rfl (by decide) ?_
  refine LE.S2PI (M' := mL_some) (n := 784) dL_law_781 rfl ch_L_153 ⟨⟨by decide, by decide⟩, (by show 4006 + 0 ≤ 781134; omega), (by show 40036 + 0 ≤ 6748446; omega)⟩ (Nat.le_of_ble_eq_true rfl) (c_someP _ _ (by decide) _) (fun _ _ _ => rfl) (fun r781 σ781 q781 => ?_)
  obtain ⟨rfl, rfl⟩ := q781
  obtain ⟨k781, hk781, e781⟩ := smI_lt _ (n := 6) (by decide) (by decide)
  rw [e781]
  refine LE.cu (cu' := 4006) (su' := 40036) (by show 4006 + 0 = _; omega) (by show 40036 + 0 = _; omega) ?_
  refine LE.iadd (n := 785) dL_law_784 rfl ?_
  rw [nI_add]
  refine LE.H2PI (M' := mL_pass) (n := 788) dL_law_785 rfl ch_L_226 ⟨⟨by decide, by decide⟩, (by show 4006 + 1 ≤ 781134; omega), (by show 40036 + 6 ≤ 6748446; omega)⟩ (Nat.le_of_ble_eq_true rfl) (po_pass (by omega) (by omega) HE) (fun _ _ _ => rfl) (fun r785 σ785 q785 => ?_)
  obtain ⟨⟨k9, hk9, rfl⟩, c785, rfl, HE⟩ := q785
  refine LE.cu (cu' := 4006 + 1) (su' := 40036 + 6) (by show 4006 + 1 = _; omega) (by show 40036 + 6 = _; omega) ?_
  refine LE.if_ge (n := 791) (tgt := 793) dL_law_788 rfl (by decide) (fun h788 => ?_) (fun h788 => ?_)
  rotate_left
  · exact absurd (nI_pos' (by omega)) h788
  exact LE.wid (by omega) (by omega) (lo_mid hLs _ hEnd _ HE)
