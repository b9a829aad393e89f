/-! at and makes -/
theorem SX.eb {Ls : Nat} {xs : Nat → Int32} : EB (SX Ls xs) := fun z b u U hh hv h => by
  obtain ⟨h1, h2, h3⟩ := h
  refine ⟨?_, by rw [hh]; exact h2, by rw [hh]; exact h3⟩
  rw [hh]
  exact va_X.moved hv h1
theorem SX.eg {Ls : Nat} {xs : Nat → Int32} : EG (SX Ls xs) (SX Ls xs) := fun z b s U H locs h hS hz hU hv => by
  obtain ⟨h1, h2, h3⟩ := h
  refine ⟨?_, ?_, ?_⟩
  · rw [hU]
    exact va_X.moved hv (h1.kept (hS.2.1 b h2 h3))
  · rw [hU]
    exact Nat.lt_of_lt_of_le h2 hS.1
  · rw [hU]
    rintro (q | q)
    · exact h3 (Or.inl q)
    · exact absurd q (Nat.not_le.mpr (Nat.lt_of_lt_of_le h2 hS.1))
abbrev mL_at : MT := (yL_at, cL_at, 2, some .int, { frames := 1, cells := 0, slots := 0, locals := 32 }, [])
set_option maxRecDepth 20000 in
set_option maxHeartbeats 2000000 in
theorem c_at {Ls : Nat} {xs : Nat → Int32} (hLs : Ls < 2 ^ 31) (k : Nat) (hk : k < 2 ^ 31) (x : Int32) (hx : x = nI k) (σ : SS) : CX (SX Ls xs) mL_at [.ref SP, .int x] σ (PI fun _ σ' => σ' = σ) := by
  subst hx
  refine CX.of SX.eb [(0, .ref SP), (1, .int (nI k))] rfl (by decide +kernel) rfl (Nat.le_of_ble_eq_true rfl) ?_
  refine LE.iload_n (n := 1) dL_at_0 rfl rfl ?_
  refine LE.aload_n (n := 2) dL_at_1 rfl rfl ?_
  refine LE.slen (Ls := Ls) (xs := xs) (n := 3) (fun _ _ _ h => h) dL_at_2 rfl ?_
  refine LE.icmp_ge (n := 6) (tgt := 12) dL_at_3 rfl (by decide) (fun h3 => ?_) (fun h3 => ?_)
  · skip
    refine LE.iconst (n := 13) (nI 0) dL_at_12 rfl (by decide) ?_
    refine LE.iret (ty := .int) dL_at_13 rfl rfl ⟨(by show 0 ≤ 0; omega), (by show 0 ≤ 0; omega)⟩ ?_
    exact PI.mk rfl
  · skip
    refine LE.aload_n (n := 7) dL_at_6 rfl rfl ?_
    refine LE.iload_n (n := 8) dL_at_7 rfl rfl ?_
    refine LE.sld (k := k) (n := 9) (fun _ _ _ h => h) dL_at_8 rfl rfl ⟨ge_f hk hLs h3, hLs⟩ ?_
    refine LE.goto (tgt := 13) dL_at_9 (by decide) ?_
    refine LE.iret (ty := .int) dL_at_13 rfl rfl ⟨(by show 0 ≤ 0; omega), (by show 0 ≤ 0; omega)⟩ ?_
    exact PI.mk rfl
theorem c_someP (v n : Int32) (hn : ¬ n = 0) (σ : SS) : CM mL_some [.int v, .int n] σ (PI fun r σ' => r = smI v n ∧ σ' = σ) :=
  CM.mono (c_some v n hn σ) (fun o s q => by
    obtain ⟨rfl, rfl⟩ := q
    exact ⟨_, rfl, rfl, rfl⟩)
abbrev mL_makes : MT := (yL_makes, cL_makes, 4, some .boolean, { frames := 9, cells := 60, slots := 360, locals := 288 }, [])
theorem ch_L_149 : CSL RL 149 mL_at 2 := ⟨g_310, g_311, g_20, g_312, rfl, ⟨by decide +kernel, by decide +kernel, by decide +kernel⟩⟩
theorem ch_L_153 : CSL RL 153 mL_some 2 := ⟨g_313, g_314, g_20, g_315, rfl, ⟨by decide +kernel, by decide +kernel, by decide +kernel⟩⟩
theorem ch_L_158 : CHL RL 158 mL_wind 4 := ⟨g_953, g_954, g_20, g_955, rfl, ⟨by decide +kernel, by decide +kernel, by decide +kernel⟩⟩
set_option maxRecDepth 20000 in
set_option maxHeartbeats 2000000 in
theorem mk_l1 {G : GT} {Ls : Nat} {xs : Nat → Int32} (hLs : Ls < 2 ^ 31) (od : Int64 × UInt64) (R : Option NA × Nat × NA × Int32 × (Int32 × Int32)) (k : ∀ c N h, CA c (N, h, R) → MK1 N 6 → LE mL_makes (SX Ls xs) 85 [(0, .ref 0), (1, .ref SP)] [] (c, od) none 8 48 G) : ∀ (n i : Nat) (c : CC) (N : NA) (h : List NA), i ≤ 6 → 6 < i + n → CA c (N, h, R) → MK1 N i → LE mL_makes (SX Ls xs) 37 [(0, .ref 0), (1, .ref SP), (2, .int (nI i))] [] (c, od) none (2 + 1 * i) (12 + 6 * i) G := by
  intro n
  induction n with
  | zero =>
    intro i c N h h1 h2
    exact absurd h2 (by omega)
  | succ n ih =>
    intro i c N h hi hn H HM
    refine LE.iload_n (n := 38) dL_makes_37 rfl rfl ?_
    refine LE.bipush (n := 40) (nI 6) dL_makes_38 rfl (by decide) ?_
    refine LE.icmp_ge (n := 43) (tgt := 85) dL_makes_40 rfl (by decide) (fun h40 => ?_) (fun h40 => ?_)
    · skip
      have hx : i = 6 := by have := ge_t (by omega) (by omega) h40; omega
      subst hx
      exact LE.ofA (L' := [(0, .ref 0), (1, .ref SP)]) ⟨rfl, rfl, trivial⟩ (k _ _ _ H HM)
    · skip
      have hlt : i < 6 := ge_f (by omega) (by omega) h40
      refine LE.aload_n (n := 44) dL_makes_43 rfl rfl ?_
      refine LE.iload_n (n := 45) dL_makes_44 rfl rfl ?_
      refine LE.aload_n (n := 46) dL_makes_45 rfl rfl ?_
      refine LE.iload_n (n := 47) dL_makes_46 rfl rfl ?_
      refine LE.X2PI (M' := mL_at) (n := 50) SX.eb SX.eg dL_makes_47 rfl ch_L_149 ⟨⟨by decide, by decide⟩, (by show 2 + 1 * i + 0 ≤ 60; omega), (by show 12 + 6 * i + 0 ≤ 360; omega)⟩ (Nat.le_of_ble_eq_true rfl) (c_at hLs (i) (by omega) _ rfl _) (fun _ _ _ => rfl) (fun r47 σ47 q47 => ?_)
      subst q47
      refine LE.cu (cu' := 2 + 1 * i) (su' := 12 + 6 * i) (by show 2 + 1 * i + 0 = _; omega) (by show 12 + 6 * i + 0 = _; omega) ?_
      refine LE.bipush (n := 52) (nI 7) dL_makes_50 rfl (by decide) ?_
      refine LE.S2PI (M' := mL_some) (n := 55) dL_makes_52 rfl ch_L_153 ⟨⟨by decide, by decide⟩, (by show 2 + 1 * i + 0 ≤ 60; omega), (by show 12 + 6 * i + 0 ≤ 360; omega)⟩ (Nat.le_of_ble_eq_true rfl) (c_someP _ _ (by decide) _) (fun _ _ _ => rfl) (fun r52 σ52 q52 => ?_)
      obtain ⟨rfl, rfl⟩ := q52
      obtain ⟨k52, hk52, e52⟩ := smI_lt _ (n := 7) (by decide) (by decide)
      rw [e52]
      refine LE.cu (cu' := 2 + 1 * i) (su' := 12 + 6 * i) (by show 2 + 1 * i + 0 = _; omega) (by show 12 + 6 * i + 0 = _; omega) ?_
      refine LE.iconst (n := 56) (nI 3) dL_makes_55 rfl (by decide) ?_
      refine LE.isub (n := 57) dL_makes_56 rfl ?_
      refine LE.aload_n (n := 58) dL_makes_57 rfl rfl ?_
      refine LE.iload_n (n := 59) dL_makes_58 rfl rfl ?_
      refine LE.X2PI (M' := mL_at) (n := 62) SX.eb SX.eg dL_makes_59 rfl ch_L_149 ⟨⟨by decide, by decide⟩, (by show 2 + 1 * i + 0 ≤ 60; omega), (by show 12 + 6 * i + 0 ≤ 360; omega)⟩ (Nat.le_of_ble_eq_true rfl) (c_at hLs (i) (by omega) _ rfl _) (fun _ _ _ => rfl) (fun r59 σ59 q59 => ?_)
      subst q59
      refine LE.cu (cu' := 2 + 1 * i) (su' := 12 + 6 * i) (by show 2 + 1 * i + 0 = _; omega) (by show 12 + 6 * i + 0 = _; omega) ?_
      refine LE.iconst (n := 63) (nI 4) dL_makes_62 rfl (by decide) ?_
      refine LE.ishr (n := 64) dL_makes_63 rfl ?_
      refine LE.bipush (n := 66) (nI 7) dL_makes_64 rfl (by decide) ?_
      refine LE.S2PI (M' := mL_some) (n := 69) dL_makes_66 rfl ch_L_153 ⟨⟨by decide, by decide⟩, (by show 2 + 1 * i + 0 ≤ 60; omega), (by show 12 + 6 * i + 0 ≤ 360; omega)⟩ (Nat.le_of_ble_eq_true rfl) (c_someP _ _ (by decide) _) (fun _ _ _ => rfl) (fun r66 σ66 q66 => ?_)
      obtain ⟨rfl, rfl⟩ := q66
      obtain ⟨k66, hk66, e66⟩ := smI_lt _ (n := 7) (by decide) (by decide)
      rw [e66]
      refine LE.cu (cu' := 2 + 1 * i) (su' := 12 + 6 * i) (by show 2 + 1 * i + 0 = _; omega) (by show 12 + 6 * i + 0 = _; omega) ?_
      refine LE.iconst (n := 70) (nI 3) dL_makes_69 rfl (by decide) ?_
      refine LE.isub (n := 71) dL_makes_70 rfl ?_
      refine LE.H4PI (M' := mL_wind) (n := 74) dL_makes_71 rfl ch_L_158 ⟨⟨by decide, by decide⟩, (by show 2 + 1 * i + 1 ≤ 60; omega), (by show 12 + 6 * i + 6 ≤ 360; omega)⟩ (Nat.le_of_ble_eq_true rfl) (HPc.ok (x_wind _ od (N, h, R) H _ _ _) (s_wind hlt (d3_in hk52) (d3_in hk66))) (fun _ _ _ => rfl) (fun r71 σ71 q71 => ?_)
      obtain ⟨c71, rfl, H71, rfl⟩ := q71
      refine LE.cu (cu' := 2 + 1 * i + 1) (su' := 12 + 6 * i + 6) (by show 2 + 1 * i + 1 = _; omega) (by show 12 + 6 * i + 6 = _; omega) ?_
      refine LE.if_eq (n := 77) (tgt := 79) dL_makes_74 rfl (by decide) (fun h74 => ?_) (fun h74 => ?_)
      rotate_left
      · exact absurd (HM.wind (x := nI k52 - nI 3) (y := nI k66 - nI 3) hlt).1 h74
      refine LE.iincV (n := 82) (nI (i + 1)) dL_makes_79 rfl rfl (by decide) (nI_inc i) ?_
      refine LE.goto (tgt := 37) dL_makes_82 (by decide) ?_
      exact LE.ofA (L' := [(0, .ref 0), (1, .ref SP), (2, .int (nI (i + 1)))]) ⟨rfl, rfl, rfl, trivial⟩ (LE.cu (by omega) (by omega) (ih (i + 1) _ _ _ (by omega) (by omega) H71 ((HM.wind hlt).2)))
theorem ch_L_161 : CHL RL 161 mL_balloon 2 := ⟨g_451, g_452, g_20, g_453, rfl, ⟨by decide +kernel, by decide +kernel, by decide +kernel⟩⟩
theorem ch_L_163 : CHL RL 163 mL_fill 3 := ⟨g_467, g_468, g_20, g_469, rfl, ⟨by decide +kernel, by decide +kernel, by decide +kernel⟩⟩
theorem ch_L_166 : CHL RL 166 mL_ballast 3 := ⟨g_503, g_504, g_20, g_505, rfl, ⟨by decide +kernel, by decide +kernel, by decide +kernel⟩⟩
theorem ch_L_168 : CHL RL 168 mL_courier 3 := ⟨g_514, g_515, g_20, g_516, rfl, ⟨by decide +kernel, by decide +kernel, by decide +kernel⟩⟩
set_option maxRecDepth 20000 in
set_option maxHeartbeats 2000000 in
theorem mk_l2 {G : GT} {Ls : Nat} {xs : Nat → Int32} (hLs : Ls < 2 ^ 31) (od : Int64 × UInt64) (R : Option NA × Nat × NA × Int32 × (Int32 × Int32)) (k : ∀ c N h, CA c (N, h, R) → MK2 N 4 → LE mL_makes (SX Ls xs) 218 [(0, .ref 0), (1, .ref SP)] [] (c, od) none 24 144 G) : ∀ (n i : Nat) (c : CC) (N : NA) (h : List NA), i ≤ 4 → 4 < i + n → CA c (N, h, R) → MK2 N i → LE mL_makes (SX Ls xs) 87 [(0, .ref 0), (1, .ref SP), (2, .int (nI i))] [] (c, od) none (8 + 4 * i) (48 + 24 * i) G := by
  intro n
  induction n with
  | zero =>
    intro i c N h h1 h2
    exact absurd h2 (by omega)
  | succ n ih =>
    intro i c N h hi hn H HM
    refine LE.iload_n (n := 88) dL_makes_87 rfl rfl ?_
    refine LE.iconst (n := 89) (nI 4) dL_makes_88 rfl (by decide) ?_
    refine LE.icmp_ge (n := 92) (tgt := 218) dL_makes_89 rfl (by decide) (fun h89 => ?_) (fun h89 => ?_)
    · skip
      have hx : i = 4 := by have := ge_t (by omega) (by omega) h89; omega
      subst hx
      exact LE.ofA (L' := [(0, .ref 0), (1, .ref SP)]) ⟨rfl, rfl, trivial⟩ (k _ _ _ H HM)
    · skip
      have hlt : i < 4 := ge_f (by omega) (by omega) h89
      refine LE.bipush (n := 94) (nI 40) dL_makes_92 rfl (by decide) ?_
      refine LE.aload_n (n := 95) dL_makes_94 rfl rfl ?_
      refine LE.bipush (n := 97) (nI 6) dL_makes_95 rfl (by decide) ?_
      refine LE.iload_n (n := 98) dL_makes_97 rfl rfl ?_
      refine LE.iadd (n := 99) dL_makes_98 rfl ?_
      rw [nI_add]
      refine LE.X2PI (M' := mL_at) (n := 102) SX.eb SX.eg dL_makes_99 rfl ch_L_149 ⟨⟨by decide, by decide⟩, (by show 8 + 4 * i + 0 ≤ 60; omega), (by show 48 + 24 * i + 0 ≤ 360; omega)⟩ (Nat.le_of_ble_eq_true rfl) (c_at hLs (6 + i) (by omega) _ rfl _) (fun _ _ _ => rfl) (fun r99 σ99 q99 => ?_)
      subst q99
      refine LE.cu (cu' := 8 + 4 * i) (su' := 48 + 24 * i) (by show 8 + 4 * i + 0 = _; omega) (by show 48 + 24 * i + 0 = _; omega) ?_
      refine LE.bipush (n := 104) (nI 60) dL_makes_102 rfl (by decide) ?_
      refine LE.S2PI (M' := mL_some) (n := 107) dL_makes_104 rfl ch_L_153 ⟨⟨by decide, by decide⟩, (by show 8 + 4 * i + 0 ≤ 60; omega), (by show 48 + 24 * i + 0 ≤ 360; omega)⟩ (Nat.le_of_ble_eq_true rfl) (c_someP _ _ (by decide) _) (fun _ _ _ => rfl) (fun r104 σ104 q104 => ?_)
      obtain ⟨rfl, rfl⟩ := q104
      obtain ⟨k104, hk104, e104⟩ := smI_lt _ (n := 60) (by decide) (by decide)
      rw [e104]
      refine LE.cu (cu' := 8 + 4 * i) (su' := 48 + 24 * i) (by show 8 + 4 * i + 0 = _; omega) (by show 48 + 24 * i + 0 = _; omega) ?_
      refine LE.iadd (n := 108) dL_makes_107 rfl ?_
      rw [nI_add]
      refine LE.istore_n (n := 109) dL_makes_108 rfl (by decide) ?_
      refine LE.aload_n (n := 110) dL_makes_109 rfl rfl ?_
      refine LE.iload_n (n := 111) dL_makes_110 rfl rfl ?_
      refine LE.H2PI (M' := mL_balloon) (n := 114) dL_makes_111 rfl ch_L_161 ⟨⟨by decide, by decide⟩, (by show 8 + 4 * i + 1 ≤ 60; omega), (by show 48 + 24 * i + 6 ≤ 360; omega)⟩ (Nat.le_of_ble_eq_true rfl) (HPc.ok (x_balloon _ od (N, h, R) H _) (s_balloon HM.1 (by omega) (by omega) (by omega))) (fun _ _ _ => rfl) (fun r111 σ111 q111 => ?_)
      obtain ⟨c111, rfl, H111, rfl⟩ := q111
      refine LE.cu (cu' := 8 + 4 * i + 1) (su' := 48 + 24 * i + 6) (by show 8 + 4 * i + 1 = _; omega) (by show 48 + 24 * i + 6 = _; omega) ?_
      refine LE.iload_n (n := 115) dL_makes_114 rfl rfl ?_
      refine LE.icmp_ne (n := 118) (tgt := 169) dL_makes_115 rfl (by decide) (fun h115 => ?_) (fun h115 => ?_)
      · first | exact absurd rfl h115 | exact absurd h115 (by decide)
      refine LE.aload_n (n := 119) dL_makes_118 rfl rfl ?_
      refine LE.iload_n (n := 120) dL_makes_119 rfl rfl ?_
      refine LE.iload_n (n := 121) dL_makes_120 rfl rfl ?_
      refine LE.aload_n (n := 122) dL_makes_121 rfl rfl ?_
      refine LE.bipush (n := 124) (nI 6) dL_makes_122 rfl (by decide) ?_
      refine LE.iload_n (n := 125) dL_makes_124 rfl rfl ?_
      refine LE.iadd (n := 126) dL_makes_125 rfl ?_
      rw [nI_add]
      refine LE.X2PI (M' := mL_at) (n := 129) SX.eb SX.eg dL_makes_126 rfl ch_L_149 ⟨⟨by decide, by decide⟩, (by show 8 + 4 * i + 1 + 0 ≤ 60; omega), (by show 48 + 24 * i + 6 + 0 ≤ 360; omega)⟩ (Nat.le_of_ble_eq_true rfl) (c_at hLs (6 + i) (by omega) _ rfl _) (fun _ _ _ => rfl) (fun r126 σ126 q126 => ?_)
      subst q126
      refine LE.cu (cu' := 8 + 4 * i + 1) (su' := 48 + 24 * i + 6) (by show 8 + 4 * i + 1 + 0 = _; omega) (by show 48 + 24 * i + 6 + 0 = _; omega) ?_
      refine LE.bipush (n := 131) (nI 6) dL_makes_129 rfl (by decide) ?_
      refine LE.ishr (n := 132) dL_makes_131 rfl ?_
      refine LE.bipush (n := 134) (nI 12) dL_makes_132 rfl (by decide) ?_
      refine LE.S2PI (M' := mL_some) (n := 137) dL_makes_134 rfl ch_L_153 ⟨⟨by decide, by decide⟩, (by show 8 + 4 * i + 1 + 0 ≤ 60; omega), (by show 48 + 24 * i + 6 + 0 ≤ 360; omega)⟩ (Nat.le_of_ble_eq_true rfl) (c_someP _ _ (by decide) _) (fun _ _ _ => rfl) (fun r134 σ134 q134 => ?_)
      obtain ⟨rfl, rfl⟩ := q134
      obtain ⟨k134, hk134, e134⟩ := smI_lt _ (n := 12) (by decide) (by decide)
      rw [e134]
      refine LE.cu (cu' := 8 + 4 * i + 1) (su' := 48 + 24 * i + 6) (by show 8 + 4 * i + 1 + 0 = _; omega) (by show 48 + 24 * i + 6 + 0 = _; omega) ?_
      refine LE.isub (n := 138) dL_makes_137 rfl ?_
      rw [pk_sub (by omega)]
      obtain ⟨g, hg, hg1, hg2⟩ := HM.2.2.1
      have eF := (BG.ba (s := 40 + k104) HM.1 hg).fill (x := 40 + k104 - k134) (by omega) (by omega) (by omega) (by omega) (by omega) (by omega) (by omega)
      refine LE.H3PI (M' := mL_fill) (n := 141) dL_makes_138 rfl ch_L_163 ⟨⟨by decide, by decide⟩, (by show 8 + 4 * i + 1 + 1 ≤ 60; omega), (by show 48 + 24 * i + 6 + 6 ≤ 360; omega)⟩ (Nat.le_of_ble_eq_true rfl) (HPc.ok (x_fill _ od _ H111 _ _) eF.1) (fun _ _ _ => rfl) (fun r138 σ138 q138 => ?_)
      obtain ⟨c138, rfl, H138, rfl⟩ := q138
      refine LE.cu (cu' := 8 + 4 * i + 2) (su' := 48 + 24 * i + 12) (by show 8 + 4 * i + 1 + 1 = _; omega) (by show 48 + 24 * i + 6 + 6 = _; omega) ?_
      refine LE.iconst (n := 142) (nI 1) dL_makes_141 rfl (by decide) ?_
      refine LE.icmp_lt (n := 145) (tgt := 169) dL_makes_142 rfl (by decide) (fun h142 => ?_) (fun h142 => ?_)
      · exact absurd h142 (nI_nlt (by omega) (by omega))
      refine LE.aload_n (n := 146) dL_makes_145 rfl rfl ?_
      refine LE.iload_n (n := 147) dL_makes_146 rfl rfl ?_
      refine LE.iconst (n := 148) (nI 1) dL_makes_147 rfl (by decide) ?_
      refine LE.aload_n (n := 149) dL_makes_148 rfl rfl ?_
      refine LE.bipush (n := 151) (nI 10) dL_makes_149 rfl (by decide) ?_
      refine LE.iload_n (n := 152) dL_makes_151 rfl rfl ?_
      refine LE.iadd (n := 153) dL_makes_152 rfl ?_
      rw [nI_add]
      refine LE.X2PI (M' := mL_at) (n := 156) SX.eb SX.eg dL_makes_153 rfl ch_L_149 ⟨⟨by decide, by decide⟩, (by show 8 + 4 * i + 2 + 0 ≤ 60; omega), (by show 48 + 24 * i + 12 + 0 ≤ 360; omega)⟩ (Nat.le_of_ble_eq_true rfl) (c_at hLs (10 + i) (by omega) _ rfl _) (fun _ _ _ => rfl) (fun r153 σ153 q153 => ?_)
      subst q153
      refine LE.cu (cu' := 8 + 4 * i + 2) (su' := 48 + 24 * i + 12) (by show 8 + 4 * i + 2 + 0 = _; omega) (by show 48 + 24 * i + 12 + 0 = _; omega) ?_
      refine LE.bipush (n := 158) (nI 12) dL_makes_156 rfl (by decide) ?_
      refine LE.S2PI (M' := mL_some) (n := 161) dL_makes_158 rfl ch_L_153 ⟨⟨by decide, by decide⟩, (by show 8 + 4 * i + 2 + 0 ≤ 60; omega), (by show 48 + 24 * i + 12 + 0 ≤ 360; omega)⟩ (Nat.le_of_ble_eq_true rfl) (c_someP _ _ (by decide) _) (fun _ _ _ => rfl) (fun r158 σ158 q158 => ?_)
      obtain ⟨rfl, rfl⟩ := q158
      obtain ⟨k158, hk158, e158⟩ := smI_lt _ (n := 12) (by decide) (by decide)
      rw [e158]
      refine LE.cu (cu' := 8 + 4 * i + 2) (su' := 48 + 24 * i + 12) (by show 8 + 4 * i + 2 + 0 = _; omega) (by show 48 + 24 * i + 12 + 0 = _; omega) ?_
      refine LE.iadd (n := 162) dL_makes_161 rfl ?_
      rw [nI_add]
      have eL := eF.2.lay (x := 1 + k158) (by omega) (by omega) (by omega)
      refine LE.H3PI (M' := mL_ballast) (n := 165) dL_makes_162 rfl ch_L_166 ⟨⟨by decide, by decide⟩, (by show 8 + 4 * i + 2 + 1 ≤ 60; omega), (by show 48 + 24 * i + 12 + 6 ≤ 360; omega)⟩ (Nat.le_of_ble_eq_true rfl) (HPc.ok (x_ballast _ od _ H138 _ _) eL.1) (fun _ _ _ => rfl) (fun r162 σ162 q162 => ?_)
      obtain ⟨c162, rfl, H162, rfl⟩ := q162
      refine LE.cu (cu' := 8 + 4 * i + 3) (su' := 48 + 24 * i + 18) (by show 8 + 4 * i + 2 + 1 = _; omega) (by show 48 + 24 * i + 12 + 6 = _; omega) ?_
      refine LE.iconst (n := 166) (nI 1) dL_makes_165 rfl (by decide) ?_
      refine LE.icmp_ge (n := 169) (tgt := 171) dL_makes_166 rfl (by decide) (fun h166 => ?_) (fun h166 => ?_)
      rotate_left
      · exact absurd (nI_le (by omega) (by omega)) h166
      refine LE.aload_n (n := 172) dL_makes_171 rfl rfl ?_
      refine LE.bipush (n := 174) (nI 10) dL_makes_172 rfl (by decide) ?_
      refine LE.iload_n (n := 175) dL_makes_174 rfl rfl ?_
      refine LE.iadd (n := 176) dL_makes_175 rfl ?_
      rw [nI_add]
      refine LE.X2PI (M' := mL_at) (n := 179) SX.eb SX.eg dL_makes_176 rfl ch_L_149 ⟨⟨by decide, by decide⟩, (by show 8 + 4 * i + 3 + 0 ≤ 60; omega), (by show 48 + 24 * i + 18 + 0 ≤ 360; omega)⟩ (Nat.le_of_ble_eq_true rfl) (c_at hLs (10 + i) (by omega) _ rfl _) (fun _ _ _ => rfl) (fun r176 σ176 q176 => ?_)
      subst q176
      refine LE.cu (cu' := 8 + 4 * i + 3) (su' := 48 + 24 * i + 18) (by show 8 + 4 * i + 3 + 0 = _; omega) (by show 48 + 24 * i + 18 + 0 = _; omega) ?_
      refine LE.iconst (n := 180) (nI 5) dL_makes_179 rfl (by decide) ?_
      refine LE.ishr (n := 181) dL_makes_180 rfl ?_
      refine LE.iconst (n := 182) (nI 1) dL_makes_181 rfl (by decide) ?_
      refine LE.iand (n := 183) dL_makes_182 rfl ?_
      refine LE.if_ne (n := 186) (tgt := 212) dL_makes_183 rfl (by decide) (fun h183 => ?_) (fun h183 => ?_)
      · skip
        refine LE.iincV (n := 215) (nI (i + 1)) dL_makes_212 rfl rfl (by decide) (nI_inc i) ?_
        refine LE.goto (tgt := 87) dL_makes_215 (by decide) ?_
        exact LE.ofA (L' := [(0, .ref 0), (1, .ref SP), (2, .int (nI (i + 1)))]) ⟨rfl, rfl, rfl, trivial⟩ (LE.wid (by omega) (by omega) (ih (i + 1) _ _ _ (by omega) (by omega) H162 (HM.next eL.2 (BK.up2 (BK.up2 (BK.ba (N := N) (b := i) (s := nI (40 + k104))) (by omega) (by omega) (by omega) (by omega)) (by omega) (by omega) (by omega) (by omega)) (by omega) (by omega))))
      · skip
        refine LE.aload_n (n := 187) dL_makes_186 rfl rfl ?_
        refine LE.iload_n (n := 188) dL_makes_187 rfl rfl ?_
        refine LE.iconst (n := 189) (nI 5) dL_makes_188 rfl (by decide) ?_
        refine LE.aload_n (n := 190) dL_makes_189 rfl rfl ?_
        refine LE.bipush (n := 192) (nI 14) dL_makes_190 rfl (by decide) ?_
        refine LE.iload_n (n := 193) dL_makes_192 rfl rfl ?_
        refine LE.iadd (n := 194) dL_makes_193 rfl ?_
        rw [nI_add]
        refine LE.X2PI (M' := mL_at) (n := 197) SX.eb SX.eg dL_makes_194 rfl ch_L_149 ⟨⟨by decide, by decide⟩, (by show 8 + 4 * i + 3 + 0 ≤ 60; omega), (by show 48 + 24 * i + 18 + 0 ≤ 360; omega)⟩ (Nat.le_of_ble_eq_true rfl) (c_at hLs (14 + i) (by omega) _ rfl _) (fun _ _ _ => rfl) (fun r194 σ194 q194 => ?_)
        subst q194
        refine LE.cu (cu' := 8 + 4 * i + 3) (su' := 48 + 24 * i + 18) (by show 8 + 4 * i + 3 + 0 = _; omega) (by show 48 + 24 * i + 18 + 0 = _; omega) ?_
        refine LE.bipush (n := 199) (nI 8) dL_makes_197 rfl (by decide) ?_
        refine LE.S2PI (M' := mL_some) (n := 202) dL_makes_199 rfl ch_L_153 ⟨⟨by decide, by decide⟩, (by show 8 + 4 * i + 3 + 0 ≤ 60; omega), (by show 48 + 24 * i + 18 + 0 ≤ 360; omega)⟩ (Nat.le_of_ble_eq_true rfl) (c_someP _ _ (by decide) _) (fun _ _ _ => rfl) (fun r199 σ199 q199 => ?_)
        obtain ⟨rfl, rfl⟩ := q199
        obtain ⟨k199, hk199, e199⟩ := smI_lt _ (n := 8) (by decide) (by decide)
        rw [e199]
        refine LE.cu (cu' := 8 + 4 * i + 3) (su' := 48 + 24 * i + 18) (by show 8 + 4 * i + 3 + 0 = _; omega) (by show 48 + 24 * i + 18 + 0 = _; omega) ?_
        refine LE.iadd (n := 203) dL_makes_202 rfl ?_
        rw [nI_add]
        obtain ⟨Mc, eC⟩ := eL.2.cou (x := 5 + k199) (by omega) (by omega) (by omega) (by omega)
        refine LE.H3PI (M' := mL_courier) (n := 206) dL_makes_203 rfl ch_L_168 ⟨⟨by decide, by decide⟩, (by show 8 + 4 * i + 3 + 1 ≤ 60; omega), (by show 48 + 24 * i + 18 + 6 ≤ 360; omega)⟩ (Nat.le_of_ble_eq_true rfl) (HPc.ok (x_courier _ od _ H162 _ _) eC.1) (fun _ _ _ => rfl) (fun r203 σ203 q203 => ?_)
        obtain ⟨c203, rfl, H203, rfl⟩ := q203
        refine LE.cu (cu' := 8 + 4 * i + 4) (su' := 48 + 24 * i + 24) (by show 8 + 4 * i + 3 + 1 = _; omega) (by show 48 + 24 * i + 18 + 6 = _; omega) ?_
        refine LE.iconst (n := 207) (nI 1) dL_makes_206 rfl (by decide) ?_
        refine LE.icmp_eq (n := 210) (tgt := 212) dL_makes_207 rfl (by decide) (fun h207 => ?_) (fun h207 => ?_)
        rotate_left
        · first | exact absurd rfl h207 | exact absurd h207 (by decide)
        refine LE.iincV (n := 215) (nI (i + 1)) dL_makes_212 rfl rfl (by decide) (nI_inc i) ?_
        refine LE.goto (tgt := 87) dL_makes_215 (by decide) ?_
        exact LE.ofA (L' := [(0, .ref 0), (1, .ref SP), (2, .int (nI (i + 1)))]) ⟨rfl, rfl, rfl, trivial⟩ (LE.wid (by omega) (by omega) (ih (i + 1) _ _ _ (by omega) (by omega) H203 (HM.next eC.2.1 (BK.same (BK.up2 (BK.up2 (BK.ba (N := N) (b := i) (s := nI (40 + k104))) (by omega) (by omega) (by omega) (by omega)) (by omega) (by omega) (by omega) (by omega)) (by omega) eC.2.2) (by omega) (by omega))))
theorem ch_L_170 : CHL RL 170 mL_letter 3 := ⟨g_525, g_526, g_20, g_527, rfl, ⟨by decide +kernel, by decide +kernel, by decide +kernel⟩⟩
set_option maxRecDepth 20000 in
set_option maxHeartbeats 2000000 in
theorem mk_l3 {G : GT} {Ls : Nat} {xs : Nat → Int32} (hLs : Ls < 2 ^ 31) (od : Int64 × UInt64) (R : Option NA × Nat × NA × Int32 × (Int32 × Int32)) (k : ∀ c N h, CA c (N, h, R) → MK3 N 14 → LE mL_makes (SX Ls xs) 271 [(0, .ref 0), (1, .ref SP)] [] (c, od) none 38 228 G) : ∀ (n i : Nat) (c : CC) (N : NA) (h : List NA), i ≤ 14 → 14 < i + n → CA c (N, h, R) → MK3 N i → LE mL_makes (SX Ls xs) 220 [(0, .ref 0), (1, .ref SP), (2, .int (nI i))] [] (c, od) none (24 + 1 * i) (144 + 6 * i) G := by
  intro n
  induction n with
  | zero =>
    intro i c N h h1 h2
    exact absurd h2 (by omega)
  | succ n ih =>
    intro i c N h hi hn H HM
    refine LE.iload_n (n := 221) dL_makes_220 rfl rfl ?_
    refine LE.bipush (n := 223) (nI 14) dL_makes_221 rfl (by decide) ?_
    refine LE.icmp_ge (n := 226) (tgt := 271) dL_makes_223 rfl (by decide) (fun h223 => ?_) (fun h223 => ?_)
    · skip
      have hx : i = 14 := by have := ge_t (by omega) (by omega) h223; omega
      subst hx
      exact LE.ofA (L' := [(0, .ref 0), (1, .ref SP)]) ⟨rfl, rfl, trivial⟩ (k _ _ _ H HM)
    · skip
      have hlt : i < 14 := ge_f (by omega) (by omega) h223
      refine LE.aload_n (n := 227) dL_makes_226 rfl rfl ?_
      refine LE.iconst (n := 228) (nI 1) dL_makes_227 rfl (by decide) ?_
      refine LE.aload_n (n := 229) dL_makes_228 rfl rfl ?_
      refine LE.bipush (n := 231) (nI 18) dL_makes_229 rfl (by decide) ?_
      refine LE.iload_n (n := 232) dL_makes_231 rfl rfl ?_
      refine LE.iadd (n := 233) dL_makes_232 rfl ?_
      rw [nI_add]
      refine LE.X2PI (M' := mL_at) (n := 236) SX.eb SX.eg dL_makes_233 rfl ch_L_149 ⟨⟨by decide, by decide⟩, (by show 24 + 1 * i + 0 ≤ 60; omega), (by show 144 + 6 * i + 0 ≤ 360; omega)⟩ (Nat.le_of_ble_eq_true rfl) (c_at hLs (18 + i) (by omega) _ rfl _) (fun _ _ _ => rfl) (fun r233 σ233 q233 => ?_)
      subst q233
      refine LE.cu (cu' := 24 + 1 * i) (su' := 144 + 6 * i) (by show 24 + 1 * i + 0 = _; omega) (by show 144 + 6 * i + 0 = _; omega) ?_
      refine LE.bipush (n := 238) (nI 9) dL_makes_236 rfl (by decide) ?_
      refine LE.S2PI (M' := mL_some) (n := 241) dL_makes_238 rfl ch_L_153 ⟨⟨by decide, by decide⟩, (by show 24 + 1 * i + 0 ≤ 60; omega), (by show 144 + 6 * i + 0 ≤ 360; omega)⟩ (Nat.le_of_ble_eq_true rfl) (c_someP _ _ (by decide) _) (fun _ _ _ => rfl) (fun r238 σ238 q238 => ?_)
      obtain ⟨rfl, rfl⟩ := q238
      obtain ⟨k238, hk238, e238⟩ := smI_lt _ (n := 9) (by decide) (by decide)
      rw [e238]
      refine LE.cu (cu' := 24 + 1 * i) (su' := 144 + 6 * i) (by show 24 + 1 * i + 0 = _; omega) (by show 144 + 6 * i + 0 = _; omega) ?_
      refine LE.iadd (n := 242) dL_makes_241 rfl ?_
      rw [nI_add]
      refine LE.aload_n (n := 243) dL_makes_242 rfl rfl ?_
      refine LE.bipush (n := 245) (nI 18) dL_makes_243 rfl (by decide) ?_
      refine LE.iload_n (n := 246) dL_makes_245 rfl rfl ?_
      refine LE.iadd (n := 247) dL_makes_246 rfl ?_
      rw [nI_add]
      refine LE.X2PI (M' := mL_at) (n := 250) SX.eb SX.eg dL_makes_247 rfl ch_L_149 ⟨⟨by decide, by decide⟩, (by show 24 + 1 * i + 0 ≤ 60; omega), (by show 144 + 6 * i + 0 ≤ 360; omega)⟩ (Nat.le_of_ble_eq_true rfl) (c_at hLs (18 + i) (by omega) _ rfl _) (fun _ _ _ => rfl) (fun r247 σ247 q247 => ?_)
      subst q247
      refine LE.cu (cu' := 24 + 1 * i) (su' := 144 + 6 * i) (by show 24 + 1 * i + 0 = _; omega) (by show 144 + 6 * i + 0 = _; omega) ?_
      refine LE.iconst (n := 251) (nI 4) dL_makes_250 rfl (by decide) ?_
      refine LE.ishr (n := 252) dL_makes_251 rfl ?_
      refine LE.iconst (n := 253) (nI 3) dL_makes_252 rfl (by decide) ?_
      refine LE.S2PI (M' := mL_some) (n := 256) dL_makes_253 rfl ch_L_153 ⟨⟨by decide, by decide⟩, (by show 24 + 1 * i + 0 ≤ 60; omega), (by show 144 + 6 * i + 0 ≤ 360; omega)⟩ (Nat.le_of_ble_eq_true rfl) (c_someP _ _ (by decide) _) (fun _ _ _ => rfl) (fun r253 σ253 q253 => ?_)
      obtain ⟨rfl, rfl⟩ := q253
      obtain ⟨k253, hk253, e253⟩ := smI_lt _ (n := 3) (by decide) (by decide)
      rw [e253]
      refine LE.cu (cu' := 24 + 1 * i) (su' := 144 + 6 * i) (by show 24 + 1 * i + 0 = _; omega) (by show 144 + 6 * i + 0 = _; omega) ?_
      refine LE.H3PI (M' := mL_letter) (n := 259) dL_makes_256 rfl ch_L_170 ⟨⟨by decide, by decide⟩, (by show 24 + 1 * i + 1 ≤ 60; omega), (by show 144 + 6 * i + 6 ≤ 360; omega)⟩ (Nat.le_of_ble_eq_true rfl) (HPc.ok (x_letter _ od (N, h, R) H _ _) (s_letter HM.2.1 (by omega) (by omega) (by omega) (by omega))) (fun _ _ _ => rfl) (fun r256 σ256 q256 => ?_)
      obtain ⟨c256, rfl, H256, rfl⟩ := q256
      refine LE.cu (cu' := 24 + 1 * i + 1) (su' := 144 + 6 * i + 6) (by show 24 + 1 * i + 1 = _; omega) (by show 144 + 6 * i + 6 = _; omega) ?_
      refine LE.iload_n (n := 260) dL_makes_259 rfl rfl ?_
      refine LE.icmp_eq (n := 263) (tgt := 265) dL_makes_260 rfl (by decide) (fun h260 => ?_) (fun h260 => ?_)
      rotate_left
      · first | exact absurd rfl h260 | exact absurd h260 (by decide)
      refine LE.iincV (n := 268) (nI (i + 1)) dL_makes_265 rfl rfl (by decide) (nI_inc i) ?_
      refine LE.goto (tgt := 220) dL_makes_268 (by decide) ?_
      exact LE.ofA (L' := [(0, .ref 0), (1, .ref SP), (2, .int (nI (i + 1)))]) ⟨rfl, rfl, rfl, trivial⟩ (LE.cu (by omega) (by omega) (ih (i + 1) _ _ _ (by omega) (by omega) H256 (HM.next)))
theorem ch_L_146 : CHL RL 146 mL_gas 2 := ⟨g_316, g_317, g_20, g_318, rfl, ⟨by decide +kernel, by decide +kernel, by decide +kernel⟩⟩
theorem ch_L_156 : CHL RL 156 mL_ring 2 := ⟨g_942, g_943, g_20, g_944, rfl, ⟨by decide +kernel, by decide +kernel, by decide +kernel⟩⟩
set_option maxRecDepth 20000 in
set_option maxHeartbeats 2000000 in
theorem c_makes {Ls : Nat} {xs : Nat → Int32} (hLs : Ls < 2 ^ 31) (c : CC) (od : Int64 × UInt64) (R : Option NA × Nat × NA × Int32 × (Int32 × Int32)) (N : NA) (h : List NA) (H : CA c (N, h, R)) (h2 : N 2 = nI 100) (h5 : N 1 = nI 5) (h3 : N 3 = nI 0) (h4 : N 4 = nI 0) (hw : ∀ q, 0 ≤ q → q < 6 → N (10 + 2 * q) = 0 ∧ N (10 + 2 * q + 1) = 0) : CX (SX Ls xs) mL_makes [.ref 0, .ref SP] (c, od) (PI fun r σ' => r = nI 1 ∧ ∃ c' N' h', σ' = (c', od) ∧ CA c' (N', h', R) ∧ MK3 N' 14) := by
  refine CX.of SX.eb [(0, .ref 0), (1, .ref SP)] rfl (by decide +kernel) rfl (Nat.le_of_ble_eq_true rfl) ?_
  refine LE.aload_n (n := 1) dL_makes_0 rfl rfl ?_
  refine LE.sipush (n := 4) (nI 600) dL_makes_1 rfl (by decide) ?_
  refine LE.H2PI (M' := mL_gas) (n := 7) dL_makes_4 rfl ch_L_146 ⟨⟨by decide, by decide⟩, (by show 0 + 1 ≤ 60; omega), (by show 0 + 6 ≤ 360; omega)⟩ (Nat.le_of_ble_eq_true rfl) (HPc.ok (x_gas _ od (N, h, R) H _) (s_gas600 h2)) (fun _ _ _ => rfl) (fun r4 σ4 q4 => ?_)
  obtain ⟨c4, rfl, H4, rfl⟩ := q4
  refine LE.cu (cu' := 1) (su' := 6) (by show 0 + 1 = _; omega) (by show 0 + 6 = _; omega) ?_
  refine LE.sipush (n := 10) (nI 700) dL_makes_7 rfl (by decide) ?_
  refine LE.icmp_ne (n := 13) (tgt := 33) dL_makes_10 rfl (by decide) (fun h10 => ?_) (fun h10 => ?_)
  · first | exact absurd rfl h10 | exact absurd h10 (by decide)
  refine LE.aload_n (n := 14) dL_makes_13 rfl rfl ?_
  refine LE.iconst (n := 15) (nI 1) dL_makes_14 rfl (by decide) ?_
  refine LE.aload_n (n := 16) dL_makes_15 rfl rfl ?_
  refine LE.iconst (n := 17) (nI 0) dL_makes_16 rfl (by decide) ?_
  refine LE.X2PI (M' := mL_at) (n := 20) SX.eb SX.eg dL_makes_17 rfl ch_L_149 ⟨⟨by decide, by decide⟩, (by show 1 + 0 ≤ 60; omega), (by show 6 + 0 ≤ 360; omega)⟩ (Nat.le_of_ble_eq_true rfl) (c_at hLs (0) (by omega) _ rfl _) (fun _ _ _ => rfl) (fun r17 σ17 q17 => ?_)
  subst q17
  refine LE.cu (cu' := 1) (su' := 6) (by show 1 + 0 = _; omega) (by show 6 + 0 = _; omega) ?_
  refine LE.bipush (n := 22) (nI 9) dL_makes_20 rfl (by decide) ?_
  refine LE.S2PI (M' := mL_some) (n := 25) dL_makes_22 rfl ch_L_153 ⟨⟨by decide, by decide⟩, (by show 1 + 0 ≤ 60; omega), (by show 6 + 0 ≤ 360; omega)⟩ (Nat.le_of_ble_eq_true rfl) (c_someP _ _ (by decide) _) (fun _ _ _ => rfl) (fun r22 σ22 q22 => ?_)
  obtain ⟨rfl, rfl⟩ := q22
  obtain ⟨k22, hk22, e22⟩ := smI_lt _ (n := 9) (by decide) (by decide)
  rw [e22]
  refine LE.cu (cu' := 1) (su' := 6) (by show 1 + 0 = _; omega) (by show 6 + 0 = _; omega) ?_
  refine LE.iadd (n := 26) dL_makes_25 rfl ?_
  rw [nI_add]
  refine LE.H2PI (M' := mL_ring) (n := 29) dL_makes_26 rfl ch_L_156 ⟨⟨by decide, by decide⟩, (by show 1 + 1 ≤ 60; omega), (by show 6 + 6 ≤ 360; omega)⟩ (Nat.le_of_ble_eq_true rfl) (HPc.ok (x_ring _ od _ H4 _) (s_ring (by omega) (by omega))) (fun _ _ _ => rfl) (fun r26 σ26 q26 => ?_)
  obtain ⟨c26, rfl, H26, rfl⟩ := q26
  refine LE.cu (cu' := 2) (su' := 12) (by show 1 + 1 = _; omega) (by show 6 + 6 = _; omega) ?_
  refine LE.iconst (n := 30) (nI 5) dL_makes_29 rfl (by decide) ?_
  refine LE.icmp_eq (n := 33) (tgt := 35) dL_makes_30 rfl (by decide) (fun h30 => ?_) (fun h30 => ?_)
  rotate_left
  · exact absurd h5 h30
  refine LE.iconst (n := 36) (nI 0) dL_makes_35 rfl (by decide) ?_
  refine LE.istore_n (n := 37) dL_makes_36 rfl (by decide) ?_
  refine LE.ofA (L' := [(0, .ref 0), (1, .ref SP), (2, .int (nI 0))]) ⟨rfl, rfl, rfl, trivial⟩ ?_
  refine mk_l1 hLs od R (fun c1 N1 h1 H1 M1 => ?_) 7 0 _ _ _ (by omega) (by omega) H26 ?_
  · refine LE.iconst (n := 86) (nI 0) dL_makes_85 rfl (by decide) ?_
    refine LE.istore_n (n := 87) dL_makes_86 rfl (by decide) ?_
    refine LE.ofA (L' := [(0, .ref 0), (1, .ref SP), (2, .int (nI 0))]) ⟨rfl, rfl, rfl, trivial⟩ ?_
    refine mk_l2 hLs od R (fun c2 N2 h2 H2 M2 => ?_) 5 0 _ _ _ (by omega) (by omega) H1 M1.to2
    refine LE.iconst (n := 219) (nI 0) dL_makes_218 rfl (by decide) ?_
    refine LE.istore_n (n := 220) dL_makes_219 rfl (by decide) ?_
    refine LE.ofA (L' := [(0, .ref 0), (1, .ref SP), (2, .int (nI 0))]) ⟨rfl, rfl, rfl, trivial⟩ ?_
    refine mk_l3 hLs od R (fun c3 N3 h3 H3 M3 => ?_) 15 0 _ _ _ (by omega) (by omega) H2 M2.to3
    refine LE.iconst (n := 272) (nI 1) dL_makes_271 rfl (by decide) ?_
    refine LE.iret (ty := .boolean) dL_makes_272 rfl (by first | rfl | decide) ⟨(by show 38 ≤ 60; omega), (by show 228 ≤ 360; omega)⟩ ?_
    exact PI.mk ⟨rfl, _, _, _, rfl, H3, M3⟩
  · refine ⟨rfl, h3, h4, fun q q0 q6 => ⟨?_, ?_⟩⟩
    · show upN (upN N 2 _) 1 _ _ = 0
      rw [upN_ne _ _ _ (by omega), upN_ne _ _ _ (by omega)]
      exact (hw q q0 q6).1
    · show upN (upN N 2 _) 1 _ _ = 0
      rw [upN_ne _ _ _ (by omega), upN_ne _ _ _ (by omega)]
      exact (hw q q0 q6).2
