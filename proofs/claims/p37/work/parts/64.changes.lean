/-! changes: one of sixteen changes; what it leaves for who asks only whether it came off -/
theorem bl_of (vs : List Nat) (h : ∀ v ∈ vs, v < 128) (hl : vs.length ≤ 40) : BL (vs.map nI) := by
  refine ⟨by rw [List.length_map]; exact hl, fun k hk => ?_⟩
  rw [List.length_map] at hk
  refine ⟨vs[k], h _ (List.getElem_mem hk), ?_⟩
  rw [List.getD_eq_getElem?_getD, List.getElem?_map, List.getElem?_eq_getElem hk]
  rfl
theorem F8.zero : F8 (fun _ => 0) := fun _ _ => rfl
theorem F8.cpy {g : Nat → Int32} {k : Nat} {bs : List Int32} (h : F8 g) (hB : BL bs) : F8 (va_cpy (fun j => bs.getD j 0) g 0 k bs.length) := fun j hj => by
  unfold va_cpy
  split
  · rename_i q
    obtain ⟨v, h1, h2⟩ := hB.2 (0 + (j - k)) (by omega)
    exact (congrArg (fun x => fits .byte (.int x)) h2).trans (fit8 v h1).1
  · exact h j hj
theorem F8.put {g : Nat → Int32} {k d : Nat} (h : F8 g) (hd : d < 10) : F8 (upd g k (nI (48 + d))) := fun j hj => by
  unfold upd
  split
  · exact (fit8 (48 + d) (by omega)).1
  · exact h j hj
theorem nz_add {n : Nat} (h : n < 2 ^ 30) : ¬ nI (n + 1) = 0 := fun q => by
  have := (nI_eq (a := n + 1) (b := 0) (by omega) (by decide)).mp q
  omega
theorem LE.tswN {M : MT} {E : ET} {pc : Nat} {L : List (Nat × Value)} {st : List Value} {σ : SS} {f : XF} {cu su : Nat} {G : GT} {dflt hi : Int} {offs : Array Int} {len : Nat} {k : Nat} {off : Int} {tgt : Nat} (hd : decode (mtC M) pc = .ok (.tableswitch dflt 0 hi offs, len)) (hk : (k : Int) ≤ hi) (hk2 : k < 2147483648) (ho : offs[k]? = some off) (ht : (pc : Int) + off = (tgt : Int)) (kk : LE M E tgt L st σ f cu su G) : LE M E pc L (.int (nI k) :: st) σ f cu su G :=
  LE.tsw hd (k : Int) (nI_toInt hk2) (by omega) (by omega) (by rw [show ((k : Int) - 0).toNat = k by omega]; exact ho) ht kk
theorem CHR.ofC {c9 : CC} {b : Int32} {A : AS} {R : OR} {n : Nat} (_ : CA c9 (stepC A R (n + 1)).2.2) (hb : b = 0 ∨ b = (-33 : Int32)) (h0 : A.2.2.2.1 = 0) (h1 : NNR b R) (h2 : OK2 R) : CHR b A (hvS (stepC A R (n + 1))) (stepC A R (n + 1)).2.2 := CHR.of hb h0 h1 h2
/-- how a change ends: it came off (1), or nothing that counts is changed (0) -/
def CHG (A : AS) (r : Int32) (A' : AS) : Prop := A'.2.2.1 = A.2.2.1 ∧ A'.2.2.2.1 = 0 ∧ ((r = nI 1 ∧ A'.2.1 = (A.1 :: A.2.1).take 8) ∨ (r = nI 0 ∧ A'.1 = A.1 ∧ A'.2.1 = A.2.1))
theorem CHG.lt {b r : Int32} {A A' : AS} (h : CHR b A r A') (hr : r < b) : CHG A (nI 0) A' := by
  obtain ⟨h1, h2, h3 | h3⟩ := h
  · exact absurd hr (Int32.not_lt.mpr h3.1)
  · exact ⟨h1, h2, Or.inr ⟨rfl, h3.2⟩⟩
theorem CHG.ge {b r : Int32} {A A' : AS} (h : CHR b A r A') (hr : ¬ r < b) : CHG A (nI 1) A' := by
  obtain ⟨h1, h2, h3 | h3⟩ := h
  · exact ⟨h1, h2, Or.inl ⟨rfl, h3.2⟩⟩
  · exact absurd h3.1 hr
def CHP (od : Int64 × UInt64) (A : AS) (r : Int32) (σ' : SS) : Prop := ∃ c' A', σ' = (c', od) ∧ CA c' A' ∧ CHG A r A'
abbrev mL_changes : MT := (yL_changes, cL_changes, 3, some .boolean, { frames := 11, cells := 80, slots := 460, locals := 352 }, [])
set_option maxRecDepth 20000 in
set_option maxHeartbeats 4000000 in
theorem ch_at_96 (od : Int64 × UInt64) (A : AS) (h0 : A.2.2.2.1 = 0) (x b2 : Int32) (c : CC) (H : CA c A) : LE mL_changes TE 96 [(2, .int b2), (0, .ref 0), (1, .int x)] [] (c, od) none 1 6 (GR mL_changes (PI (CHP od A))) := by
  refine LE.aload_n (n := 97) dL_changes_96 rfl rfl ?_
  refine LE.iload_n (n := 98) dL_changes_97 rfl rfl ?_
  refine LE.iconst (n := 99) (nI 4) dL_changes_98 rfl (by decide) ?_
  refine LE.ishr (n := 100) dL_changes_99 rfl ?_
  refine LE.bipush (n := 102) (nI 17) dL_changes_100 rfl (by decide) ?_
  refine LE.S2PI (M' := mL_some) (n := 105) dL_changes_102 rfl ch_L_153 ⟨⟨by decide, by decide⟩, (by show 1 + 0 ≤ 80; omega), (by show 6 + 0 ≤ 460; omega)⟩ (Nat.le_of_ble_eq_true rfl) (c_someP _ _ (by decide) _) (fun _ _ _ => rfl) (fun r102 σ102 q102 => ?_)
  obtain ⟨rfl, rfl⟩ := q102
  refine LE.cu (cu' := 1) (su' := 6) (by show 1 + 0 = _; omega) (by show 6 + 0 = _; omega) ?_
  refine LE.H2PI (M' := mL_ring) (n := 108) dL_changes_105 rfl ch_L_156 ⟨⟨by decide, by decide⟩, (by show 1 + 1 ≤ 80; omega), (by show 6 + 6 ≤ 460; omega)⟩ (Nat.le_of_ble_eq_true rfl) (x_ring _ od A H _) (fun _ _ _ => rfl) (fun r105 σ105 q105 => ?_)
  obtain ⟨c105, rfl, H9, rfl⟩ := q105
  have hc := CHR.ofC (n := 0) H9 (Or.inl rfl) h0 (nn_ring H.1 _) (o2_ring _ _)
  refine LE.cu (cu' := 1 + 1) (su' := 6 + 6) (by show 1 + 1 = _; omega) (by show 6 + 6 = _; omega) ?_
  refine LE.if_lt (n := 111) (tgt := 115) dL_changes_108 rfl (by decide) (fun h108 => ?_) (fun h108 => ?_)
  · skip
    have hg := CHG.lt hc h108
    refine LE.iconst (n := 116) (nI 0) dL_changes_115 rfl (by decide) ?_
    refine LE.iret (ty := .boolean) dL_changes_116 rfl (by first | rfl | decide) ⟨(by show 1 + 1 ≤ 80; omega), (by show 6 + 6 ≤ 460; omega)⟩ ?_
    exact PI.mk ⟨_, _, rfl, H9, hg⟩
  · skip
    have hg := CHG.ge hc h108
    refine LE.iconst (n := 112) (nI 1) dL_changes_111 rfl (by decide) ?_
    refine LE.goto (tgt := 116) dL_changes_112 (by decide) ?_
    refine LE.iret (ty := .boolean) dL_changes_116 rfl (by first | rfl | decide) ⟨(by show 1 + 1 ≤ 80; omega), (by show 6 + 6 ≤ 460; omega)⟩ ?_
    exact PI.mk ⟨_, _, rfl, H9, hg⟩
set_option maxRecDepth 20000 in
set_option maxHeartbeats 4000000 in
theorem ch_at_117 (od : Int64 × UInt64) (A : AS) (h0 : A.2.2.2.1 = 0) (x b2 : Int32) (c : CC) (H : CA c A) : LE mL_changes TE 117 [(2, .int b2), (0, .ref 0), (1, .int x)] [] (c, od) none 1 6 (GR mL_changes (PI (CHP od A))) := by
  refine LE.aload_n (n := 118) dL_changes_117 rfl rfl ?_
  refine LE.iload_n (n := 119) dL_changes_118 rfl rfl ?_
  refine LE.iconst (n := 120) (nI 4) dL_changes_119 rfl (by decide) ?_
  refine LE.ishr (n := 121) dL_changes_120 rfl ?_
  refine LE.bipush (n := 123) (nI 7) dL_changes_121 rfl (by decide) ?_
  refine LE.S2PI (M' := mL_some) (n := 126) dL_changes_123 rfl ch_L_153 ⟨⟨by decide, by decide⟩, (by show 1 + 0 ≤ 80; omega), (by show 6 + 0 ≤ 460; omega)⟩ (Nat.le_of_ble_eq_true rfl) (c_someP _ _ (by decide) _) (fun _ _ _ => rfl) (fun r123 σ123 q123 => ?_)
  obtain ⟨rfl, rfl⟩ := q123
  refine LE.cu (cu' := 1) (su' := 6) (by show 1 + 0 = _; omega) (by show 6 + 0 = _; omega) ?_
  refine LE.iload_n (n := 127) dL_changes_126 rfl rfl ?_
  refine LE.iconst (n := 128) (nI 5) dL_changes_127 rfl (by decide) ?_
  refine LE.ishr (n := 129) dL_changes_128 rfl ?_
  refine LE.bipush (n := 131) (nI 9) dL_changes_129 rfl (by decide) ?_
  refine LE.S2PI (M' := mL_some) (n := 134) dL_changes_131 rfl ch_L_153 ⟨⟨by decide, by decide⟩, (by show 1 + 0 ≤ 80; omega), (by show 6 + 0 ≤ 460; omega)⟩ (Nat.le_of_ble_eq_true rfl) (c_someP _ _ (by decide) _) (fun _ _ _ => rfl) (fun r131 σ131 q131 => ?_)
  obtain ⟨rfl, rfl⟩ := q131
  refine LE.cu (cu' := 1) (su' := 6) (by show 1 + 0 = _; omega) (by show 6 + 0 = _; omega) ?_
  refine LE.iconst (n := 135) (nI 4) dL_changes_134 rfl (by decide) ?_
  refine LE.isub (n := 136) dL_changes_135 rfl ?_
  refine LE.iload_n (n := 137) dL_changes_136 rfl rfl ?_
  refine LE.bipush (n := 139) (nI 6) dL_changes_137 rfl (by decide) ?_
  refine LE.ishr (n := 140) dL_changes_139 rfl ?_
  refine LE.bipush (n := 142) (nI 9) dL_changes_140 rfl (by decide) ?_
  refine LE.S2PI (M' := mL_some) (n := 145) dL_changes_142 rfl ch_L_153 ⟨⟨by decide, by decide⟩, (by show 1 + 0 ≤ 80; omega), (by show 6 + 0 ≤ 460; omega)⟩ (Nat.le_of_ble_eq_true rfl) (c_someP _ _ (by decide) _) (fun _ _ _ => rfl) (fun r142 σ142 q142 => ?_)
  obtain ⟨rfl, rfl⟩ := q142
  refine LE.cu (cu' := 1) (su' := 6) (by show 1 + 0 = _; omega) (by show 6 + 0 = _; omega) ?_
  refine LE.iconst (n := 146) (nI 4) dL_changes_145 rfl (by decide) ?_
  refine LE.isub (n := 147) dL_changes_146 rfl ?_
  refine LE.H4PI (M' := mL_wind) (n := 150) dL_changes_147 rfl ch_L_158 ⟨⟨by decide, by decide⟩, (by show 1 + 1 ≤ 80; omega), (by show 6 + 6 ≤ 460; omega)⟩ (Nat.le_of_ble_eq_true rfl) (x_wind _ od A H _ _ _) (fun _ _ _ => rfl) (fun r147 σ147 q147 => ?_)
  obtain ⟨c147, rfl, H9, rfl⟩ := q147
  have hc := CHR.ofC (n := 2) H9 (Or.inr rfl) h0 (nn_blows H.1 _ _ _) (o2_blows _ _ _ _)
  refine LE.cu (cu' := 1 + 1) (su' := 6 + 6) (by show 1 + 1 = _; omega) (by show 6 + 6 = _; omega) ?_
  refine LE.bipush (n := 152) ((-33 : Int32)) dL_changes_150 rfl (by decide) ?_
  refine LE.icmp_lt (n := 155) (tgt := 159) dL_changes_152 rfl (by decide) (fun h152 => ?_) (fun h152 => ?_)
  · skip
    have hg := CHG.lt hc h152
    refine LE.iconst (n := 160) (nI 0) dL_changes_159 rfl (by decide) ?_
    refine LE.iret (ty := .boolean) dL_changes_160 rfl (by first | rfl | decide) ⟨(by show 1 + 1 ≤ 80; omega), (by show 6 + 6 ≤ 460; omega)⟩ ?_
    exact PI.mk ⟨_, _, rfl, H9, hg⟩
  · skip
    have hg := CHG.ge hc h152
    refine LE.iconst (n := 156) (nI 1) dL_changes_155 rfl (by decide) ?_
    refine LE.goto (tgt := 160) dL_changes_156 (by decide) ?_
    refine LE.iret (ty := .boolean) dL_changes_160 rfl (by first | rfl | decide) ⟨(by show 1 + 1 ≤ 80; omega), (by show 6 + 6 ≤ 460; omega)⟩ ?_
    exact PI.mk ⟨_, _, rfl, H9, hg⟩
set_option maxRecDepth 20000 in
set_option maxHeartbeats 4000000 in
theorem ch_at_161 (od : Int64 × UInt64) (A : AS) (h0 : A.2.2.2.1 = 0) (x b2 : Int32) (c : CC) (H : CA c A) : LE mL_changes TE 161 [(2, .int b2), (0, .ref 0), (1, .int x)] [] (c, od) none 1 6 (GR mL_changes (PI (CHP od A))) := by
  refine LE.aload_n (n := 162) dL_changes_161 rfl rfl ?_
  refine LE.iload_n (n := 163) dL_changes_162 rfl rfl ?_
  refine LE.iconst (n := 164) (nI 4) dL_changes_163 rfl (by decide) ?_
  refine LE.ishr (n := 165) dL_changes_164 rfl ?_
  refine LE.sipush (n := 168) (nI 1001) dL_changes_165 rfl (by decide) ?_
  refine LE.S2PI (M' := mL_some) (n := 171) dL_changes_168 rfl ch_L_153 ⟨⟨by decide, by decide⟩, (by show 1 + 0 ≤ 80; omega), (by show 6 + 0 ≤ 460; omega)⟩ (Nat.le_of_ble_eq_true rfl) (c_someP _ _ (by decide) _) (fun _ _ _ => rfl) (fun r168 σ168 q168 => ?_)
  obtain ⟨rfl, rfl⟩ := q168
  refine LE.cu (cu' := 1) (su' := 6) (by show 1 + 0 = _; omega) (by show 6 + 0 = _; omega) ?_
  refine LE.H2PI (M' := mL_gas) (n := 174) dL_changes_171 rfl ch_L_146 ⟨⟨by decide, by decide⟩, (by show 1 + 1 ≤ 80; omega), (by show 6 + 6 ≤ 460; omega)⟩ (Nat.le_of_ble_eq_true rfl) (x_gas _ od A H _) (fun _ _ _ => rfl) (fun r171 σ171 q171 => ?_)
  obtain ⟨c171, rfl, H9, rfl⟩ := q171
  have hc := CHR.ofC (n := 0) H9 (Or.inl rfl) h0 (nn_gas H.1 _) (o2_gas _ _)
  refine LE.cu (cu' := 1 + 1) (su' := 6 + 6) (by show 1 + 1 = _; omega) (by show 6 + 6 = _; omega) ?_
  refine LE.if_lt (n := 177) (tgt := 181) dL_changes_174 rfl (by decide) (fun h174 => ?_) (fun h174 => ?_)
  · skip
    have hg := CHG.lt hc h174
    refine LE.iconst (n := 182) (nI 0) dL_changes_181 rfl (by decide) ?_
    refine LE.iret (ty := .boolean) dL_changes_182 rfl (by first | rfl | decide) ⟨(by show 1 + 1 ≤ 80; omega), (by show 6 + 6 ≤ 460; omega)⟩ ?_
    exact PI.mk ⟨_, _, rfl, H9, hg⟩
  · skip
    have hg := CHG.ge hc h174
    refine LE.iconst (n := 178) (nI 1) dL_changes_177 rfl (by decide) ?_
    refine LE.goto (tgt := 182) dL_changes_178 (by decide) ?_
    refine LE.iret (ty := .boolean) dL_changes_182 rfl (by first | rfl | decide) ⟨(by show 1 + 1 ≤ 80; omega), (by show 6 + 6 ≤ 460; omega)⟩ ?_
    exact PI.mk ⟨_, _, rfl, H9, hg⟩
set_option maxRecDepth 20000 in
set_option maxHeartbeats 4000000 in
theorem ch_at_183 (od : Int64 × UInt64) (A : AS) (h0 : A.2.2.2.1 = 0) (x b2 : Int32) (c : CC) (H : CA c A) : LE mL_changes TE 183 [(2, .int b2), (0, .ref 0), (1, .int x)] [] (c, od) none 1 6 (GR mL_changes (PI (CHP od A))) := by
  refine LE.aload_n (n := 184) dL_changes_183 rfl rfl ?_
  refine LE.iload_n (n := 185) dL_changes_184 rfl rfl ?_
  refine LE.iconst (n := 186) (nI 4) dL_changes_185 rfl (by decide) ?_
  refine LE.ishr (n := 187) dL_changes_186 rfl ?_
  refine LE.bipush (n := 189) (nI 110) dL_changes_187 rfl (by decide) ?_
  refine LE.S2PI (M' := mL_some) (n := 192) dL_changes_189 rfl ch_L_153 ⟨⟨by decide, by decide⟩, (by show 1 + 0 ≤ 80; omega), (by show 6 + 0 ≤ 460; omega)⟩ (Nat.le_of_ble_eq_true rfl) (c_someP _ _ (by decide) _) (fun _ _ _ => rfl) (fun r189 σ189 q189 => ?_)
  obtain ⟨rfl, rfl⟩ := q189
  refine LE.cu (cu' := 1) (su' := 6) (by show 1 + 0 = _; omega) (by show 6 + 0 = _; omega) ?_
  refine LE.H2PI (M' := mL_balloon) (n := 195) dL_changes_192 rfl ch_L_161 ⟨⟨by decide, by decide⟩, (by show 1 + 1 ≤ 80; omega), (by show 6 + 6 ≤ 460; omega)⟩ (Nat.le_of_ble_eq_true rfl) (x_balloon _ od A H _) (fun _ _ _ => rfl) (fun r192 σ192 q192 => ?_)
  obtain ⟨c192, rfl, H9, rfl⟩ := q192
  have hc := CHR.ofC (n := 1) H9 (Or.inl rfl) h0 (nn_balloon H.1 _) (o2_balloon _ _)
  refine LE.cu (cu' := 1 + 1) (su' := 6 + 6) (by show 1 + 1 = _; omega) (by show 6 + 6 = _; omega) ?_
  refine LE.if_lt (n := 198) (tgt := 202) dL_changes_195 rfl (by decide) (fun h195 => ?_) (fun h195 => ?_)
  · skip
    have hg := CHG.lt hc h195
    refine LE.iconst (n := 203) (nI 0) dL_changes_202 rfl (by decide) ?_
    refine LE.iret (ty := .boolean) dL_changes_203 rfl (by first | rfl | decide) ⟨(by show 1 + 1 ≤ 80; omega), (by show 6 + 6 ≤ 460; omega)⟩ ?_
    exact PI.mk ⟨_, _, rfl, H9, hg⟩
  · skip
    have hg := CHG.ge hc h195
    refine LE.iconst (n := 199) (nI 1) dL_changes_198 rfl (by decide) ?_
    refine LE.goto (tgt := 203) dL_changes_199 (by decide) ?_
    refine LE.iret (ty := .boolean) dL_changes_203 rfl (by first | rfl | decide) ⟨(by show 1 + 1 ≤ 80; omega), (by show 6 + 6 ≤ 460; omega)⟩ ?_
    exact PI.mk ⟨_, _, rfl, H9, hg⟩
set_option maxRecDepth 20000 in
set_option maxHeartbeats 4000000 in
theorem ch_at_204 (od : Int64 × UInt64) (A : AS) (h0 : A.2.2.2.1 = 0) (x b2 : Int32) (c : CC) (H : CA c A) : LE mL_changes TE 204 [(2, .int b2), (0, .ref 0), (1, .int x)] [] (c, od) none 1 6 (GR mL_changes (PI (CHP od A))) := by
  refine LE.aload_n (n := 205) dL_changes_204 rfl rfl ?_
  refine LE.iload_n (n := 206) dL_changes_205 rfl rfl ?_
  refine LE.iload_n (n := 207) dL_changes_206 rfl rfl ?_
  refine LE.bipush (n := 209) (nI 6) dL_changes_207 rfl (by decide) ?_
  refine LE.ishr (n := 210) dL_changes_209 rfl ?_
  refine LE.bipush (n := 212) (nI 60) dL_changes_210 rfl (by decide) ?_
  refine LE.S2PI (M' := mL_some) (n := 215) dL_changes_212 rfl ch_L_153 ⟨⟨by decide, by decide⟩, (by show 1 + 0 ≤ 80; omega), (by show 6 + 0 ≤ 460; omega)⟩ (Nat.le_of_ble_eq_true rfl) (c_someP _ _ (by decide) _) (fun _ _ _ => rfl) (fun r212 σ212 q212 => ?_)
  obtain ⟨rfl, rfl⟩ := q212
  refine LE.cu (cu' := 1) (su' := 6) (by show 1 + 0 = _; omega) (by show 6 + 0 = _; omega) ?_
  refine LE.H3PI (M' := mL_fill) (n := 218) dL_changes_215 rfl ch_L_163 ⟨⟨by decide, by decide⟩, (by show 1 + 1 ≤ 80; omega), (by show 6 + 6 ≤ 460; omega)⟩ (Nat.le_of_ble_eq_true rfl) (x_fill _ od A H _ _) (fun _ _ _ => rfl) (fun r215 σ215 q215 => ?_)
  obtain ⟨c215, rfl, H9, rfl⟩ := q215
  have hc := CHR.ofC (n := 2) H9 (Or.inl rfl) h0 (nn_fills H.1 _ _) (o2_fills _ _ _)
  refine LE.cu (cu' := 1 + 1) (su' := 6 + 6) (by show 1 + 1 = _; omega) (by show 6 + 6 = _; omega) ?_
  refine LE.if_lt (n := 221) (tgt := 225) dL_changes_218 rfl (by decide) (fun h218 => ?_) (fun h218 => ?_)
  · skip
    have hg := CHG.lt hc h218
    refine LE.iconst (n := 226) (nI 0) dL_changes_225 rfl (by decide) ?_
    refine LE.iret (ty := .boolean) dL_changes_226 rfl (by first | rfl | decide) ⟨(by show 1 + 1 ≤ 80; omega), (by show 6 + 6 ≤ 460; omega)⟩ ?_
    exact PI.mk ⟨_, _, rfl, H9, hg⟩
  · skip
    have hg := CHG.ge hc h218
    refine LE.iconst (n := 222) (nI 1) dL_changes_221 rfl (by decide) ?_
    refine LE.goto (tgt := 226) dL_changes_222 (by decide) ?_
    refine LE.iret (ty := .boolean) dL_changes_226 rfl (by first | rfl | decide) ⟨(by show 1 + 1 ≤ 80; omega), (by show 6 + 6 ≤ 460; omega)⟩ ?_
    exact PI.mk ⟨_, _, rfl, H9, hg⟩
set_option maxRecDepth 20000 in
set_option maxHeartbeats 4000000 in
theorem ch_at_227 (od : Int64 × UInt64) (A : AS) (h0 : A.2.2.2.1 = 0) (x b2 : Int32) (c : CC) (H : CA c A) : LE mL_changes TE 227 [(2, .int b2), (0, .ref 0), (1, .int x)] [] (c, od) none 1 6 (GR mL_changes (PI (CHP od A))) := by
  refine LE.aload_n (n := 228) dL_changes_227 rfl rfl ?_
  refine LE.iload_n (n := 229) dL_changes_228 rfl rfl ?_
  refine LE.iload_n (n := 230) dL_changes_229 rfl rfl ?_
  refine LE.bipush (n := 232) (nI 6) dL_changes_230 rfl (by decide) ?_
  refine LE.ishr (n := 233) dL_changes_232 rfl ?_
  refine LE.bipush (n := 235) (nI 30) dL_changes_233 rfl (by decide) ?_
  refine LE.S2PI (M' := mL_some) (n := 238) dL_changes_235 rfl ch_L_153 ⟨⟨by decide, by decide⟩, (by show 1 + 0 ≤ 80; omega), (by show 6 + 0 ≤ 460; omega)⟩ (Nat.le_of_ble_eq_true rfl) (c_someP _ _ (by decide) _) (fun _ _ _ => rfl) (fun r235 σ235 q235 => ?_)
  obtain ⟨rfl, rfl⟩ := q235
  refine LE.cu (cu' := 1) (su' := 6) (by show 1 + 0 = _; omega) (by show 6 + 0 = _; omega) ?_
  refine LE.H3PI (M' := mL_ballast) (n := 241) dL_changes_238 rfl ch_L_166 ⟨⟨by decide, by decide⟩, (by show 1 + 1 ≤ 80; omega), (by show 6 + 6 ≤ 460; omega)⟩ (Nat.le_of_ble_eq_true rfl) (x_ballast _ od A H _ _) (fun _ _ _ => rfl) (fun r238 σ238 q238 => ?_)
  obtain ⟨c238, rfl, H9, rfl⟩ := q238
  have hc := CHR.ofC (n := 2) H9 (Or.inl rfl) h0 (nn_lays H.1 _ _) (o2_lays _ _ _)
  refine LE.cu (cu' := 1 + 1) (su' := 6 + 6) (by show 1 + 1 = _; omega) (by show 6 + 6 = _; omega) ?_
  refine LE.if_lt (n := 244) (tgt := 248) dL_changes_241 rfl (by decide) (fun h241 => ?_) (fun h241 => ?_)
  · skip
    have hg := CHG.lt hc h241
    refine LE.iconst (n := 249) (nI 0) dL_changes_248 rfl (by decide) ?_
    refine LE.iret (ty := .boolean) dL_changes_249 rfl (by first | rfl | decide) ⟨(by show 1 + 1 ≤ 80; omega), (by show 6 + 6 ≤ 460; omega)⟩ ?_
    exact PI.mk ⟨_, _, rfl, H9, hg⟩
  · skip
    have hg := CHG.ge hc h241
    refine LE.iconst (n := 245) (nI 1) dL_changes_244 rfl (by decide) ?_
    refine LE.goto (tgt := 249) dL_changes_245 (by decide) ?_
    refine LE.iret (ty := .boolean) dL_changes_249 rfl (by first | rfl | decide) ⟨(by show 1 + 1 ≤ 80; omega), (by show 6 + 6 ≤ 460; omega)⟩ ?_
    exact PI.mk ⟨_, _, rfl, H9, hg⟩
set_option maxRecDepth 20000 in
set_option maxHeartbeats 4000000 in
theorem ch_at_250 (od : Int64 × UInt64) (A : AS) (h0 : A.2.2.2.1 = 0) (x b2 : Int32) (c : CC) (H : CA c A) : LE mL_changes TE 250 [(2, .int b2), (0, .ref 0), (1, .int x)] [] (c, od) none 1 6 (GR mL_changes (PI (CHP od A))) := by
  refine LE.aload_n (n := 251) dL_changes_250 rfl rfl ?_
  refine LE.iload_n (n := 252) dL_changes_251 rfl rfl ?_
  refine LE.iload_n (n := 253) dL_changes_252 rfl rfl ?_
  refine LE.bipush (n := 255) (nI 6) dL_changes_253 rfl (by decide) ?_
  refine LE.ishr (n := 256) dL_changes_255 rfl ?_
  refine LE.bipush (n := 258) (nI 15) dL_changes_256 rfl (by decide) ?_
  refine LE.S2PI (M' := mL_some) (n := 261) dL_changes_258 rfl ch_L_153 ⟨⟨by decide, by decide⟩, (by show 1 + 0 ≤ 80; omega), (by show 6 + 0 ≤ 460; omega)⟩ (Nat.le_of_ble_eq_true rfl) (c_someP _ _ (by decide) _) (fun _ _ _ => rfl) (fun r258 σ258 q258 => ?_)
  obtain ⟨rfl, rfl⟩ := q258
  refine LE.cu (cu' := 1) (su' := 6) (by show 1 + 0 = _; omega) (by show 6 + 0 = _; omega) ?_
  refine LE.H3PI (M' := mL_courier) (n := 264) dL_changes_261 rfl ch_L_168 ⟨⟨by decide, by decide⟩, (by show 1 + 1 ≤ 80; omega), (by show 6 + 6 ≤ 460; omega)⟩ (Nat.le_of_ble_eq_true rfl) (x_courier _ od A H _ _) (fun _ _ _ => rfl) (fun r261 σ261 q261 => ?_)
  obtain ⟨c261, rfl, H9, rfl⟩ := q261
  have hc := CHR.ofC (n := 2) H9 (Or.inl rfl) h0 (nn_courier H.1 _ _) (o2_courier _ _ _)
  refine LE.cu (cu' := 1 + 1) (su' := 6 + 6) (by show 1 + 1 = _; omega) (by show 6 + 6 = _; omega) ?_
  refine LE.if_lt (n := 267) (tgt := 271) dL_changes_264 rfl (by decide) (fun h264 => ?_) (fun h264 => ?_)
  · skip
    have hg := CHG.lt hc h264
    refine LE.iconst (n := 272) (nI 0) dL_changes_271 rfl (by decide) ?_
    refine LE.iret (ty := .boolean) dL_changes_272 rfl (by first | rfl | decide) ⟨(by show 1 + 1 ≤ 80; omega), (by show 6 + 6 ≤ 460; omega)⟩ ?_
    exact PI.mk ⟨_, _, rfl, H9, hg⟩
  · skip
    have hg := CHG.ge hc h264
    refine LE.iconst (n := 268) (nI 1) dL_changes_267 rfl (by decide) ?_
    refine LE.goto (tgt := 272) dL_changes_268 (by decide) ?_
    refine LE.iret (ty := .boolean) dL_changes_272 rfl (by first | rfl | decide) ⟨(by show 1 + 1 ≤ 80; omega), (by show 6 + 6 ≤ 460; omega)⟩ ?_
    exact PI.mk ⟨_, _, rfl, H9, hg⟩
set_option maxRecDepth 20000 in
set_option maxHeartbeats 4000000 in
theorem ch_at_273 (od : Int64 × UInt64) (A : AS) (h0 : A.2.2.2.1 = 0) (x b2 : Int32) (c : CC) (H : CA c A) : LE mL_changes TE 273 [(2, .int b2), (0, .ref 0), (1, .int x)] [] (c, od) none 1 6 (GR mL_changes (PI (CHP od A))) := by
  refine LE.aload_n (n := 274) dL_changes_273 rfl rfl ?_
  refine LE.iload_n (n := 275) dL_changes_274 rfl rfl ?_
  refine LE.iconst (n := 276) (nI 4) dL_changes_275 rfl (by decide) ?_
  refine LE.ishr (n := 277) dL_changes_276 rfl ?_
  refine LE.bipush (n := 279) (nI 11) dL_changes_277 rfl (by decide) ?_
  refine LE.S2PI (M' := mL_some) (n := 282) dL_changes_279 rfl ch_L_153 ⟨⟨by decide, by decide⟩, (by show 1 + 0 ≤ 80; omega), (by show 6 + 0 ≤ 460; omega)⟩ (Nat.le_of_ble_eq_true rfl) (c_someP _ _ (by decide) _) (fun _ _ _ => rfl) (fun r279 σ279 q279 => ?_)
  obtain ⟨rfl, rfl⟩ := q279
  refine LE.cu (cu' := 1) (su' := 6) (by show 1 + 0 = _; omega) (by show 6 + 0 = _; omega) ?_
  refine LE.iload_n (n := 283) dL_changes_282 rfl rfl ?_
  refine LE.iconst (n := 284) (nI 5) dL_changes_283 rfl (by decide) ?_
  refine LE.ishr (n := 285) dL_changes_284 rfl ?_
  refine LE.iconst (n := 286) (nI 4) dL_changes_285 rfl (by decide) ?_
  refine LE.S2PI (M' := mL_some) (n := 289) dL_changes_286 rfl ch_L_153 ⟨⟨by decide, by decide⟩, (by show 1 + 0 ≤ 80; omega), (by show 6 + 0 ≤ 460; omega)⟩ (Nat.le_of_ble_eq_true rfl) (c_someP _ _ (by decide) _) (fun _ _ _ => rfl) (fun r286 σ286 q286 => ?_)
  obtain ⟨rfl, rfl⟩ := q286
  refine LE.cu (cu' := 1) (su' := 6) (by show 1 + 0 = _; omega) (by show 6 + 0 = _; omega) ?_
  refine LE.H3PI (M' := mL_letter) (n := 292) dL_changes_289 rfl ch_L_170 ⟨⟨by decide, by decide⟩, (by show 1 + 1 ≤ 80; omega), (by show 6 + 6 ≤ 460; omega)⟩ (Nat.le_of_ble_eq_true rfl) (x_letter _ od A H _ _) (fun _ _ _ => rfl) (fun r289 σ289 q289 => ?_)
  obtain ⟨c289, rfl, H9, rfl⟩ := q289
  have hc := CHR.ofC (n := 1) H9 (Or.inl rfl) h0 (nn_letter H.1 _ _) (o2_letter _ _ _)
  refine LE.cu (cu' := 1 + 1) (su' := 6 + 6) (by show 1 + 1 = _; omega) (by show 6 + 6 = _; omega) ?_
  refine LE.if_lt (n := 295) (tgt := 299) dL_changes_292 rfl (by decide) (fun h292 => ?_) (fun h292 => ?_)
  · skip
    have hg := CHG.lt hc h292
    refine LE.iconst (n := 300) (nI 0) dL_changes_299 rfl (by decide) ?_
    refine LE.iret (ty := .boolean) dL_changes_300 rfl (by first | rfl | decide) ⟨(by show 1 + 1 ≤ 80; omega), (by show 6 + 6 ≤ 460; omega)⟩ ?_
    exact PI.mk ⟨_, _, rfl, H9, hg⟩
  · skip
    have hg := CHG.ge hc h292
    refine LE.iconst (n := 296) (nI 1) dL_changes_295 rfl (by decide) ?_
    refine LE.goto (tgt := 300) dL_changes_296 (by decide) ?_
    refine LE.iret (ty := .boolean) dL_changes_300 rfl (by first | rfl | decide) ⟨(by show 1 + 1 ≤ 80; omega), (by show 6 + 6 ≤ 460; omega)⟩ ?_
    exact PI.mk ⟨_, _, rfl, H9, hg⟩
set_option maxRecDepth 20000 in
set_option maxHeartbeats 4000000 in
theorem ch_at_301 (od : Int64 × UInt64) (A : AS) (h0 : A.2.2.2.1 = 0) (x b2 : Int32) (c : CC) (H : CA c A) : LE mL_changes TE 301 [(2, .int b2), (0, .ref 0), (1, .int x)] [] (c, od) none 1 6 (GR mL_changes (PI (CHP od A))) := by
  refine LE.aload_n (n := 302) dL_changes_301 rfl rfl ?_
  refine LE.iload_n (n := 303) dL_changes_302 rfl rfl ?_
  refine LE.iconst (n := 304) (nI 5) dL_changes_303 rfl (by decide) ?_
  refine LE.ishr (n := 305) dL_changes_304 rfl ?_
  refine LE.aload_n (n := 306) dL_changes_305 rfl rfl ?_
  refine LE.bipush (n := 308) (nI 8) dL_changes_306 rfl (by decide) ?_
  refine LE.H2PI (M' := mL_account) (n := 311) dL_changes_308 rfl ch_L_192 ⟨⟨by decide, by decide⟩, (by show 1 + 1 ≤ 80; omega), (by show 6 + 6 ≤ 460; omega)⟩ (Nat.le_of_ble_eq_true rfl) (y_account _ od A H _) (fun _ _ _ => rfl) (fun r308 σ308 q308 => ?_)
  obtain ⟨c308, rfl, H, rfl⟩ := q308
  rw [acc8 H.1]
  refine LE.cu (cu' := 1 + 1) (su' := 6 + 6) (by show 1 + 1 = _; omega) (by show 6 + 6 = _; omega) ?_
  refine LE.iconst (n := 312) (nI 1) dL_changes_311 rfl (by decide) ?_
  refine LE.iadd (n := 313) dL_changes_312 rfl ?_
  rw [nI_add]
  refine LE.S2PI (M' := mL_some) (n := 316) dL_changes_313 rfl ch_L_153 ⟨⟨by decide, by decide⟩, (by show 1 + 1 + 0 ≤ 80; omega), (by show 6 + 6 + 0 ≤ 460; omega)⟩ (Nat.le_of_ble_eq_true rfl) (c_someP _ _ (nz_add (by have := H.1.cn.1; have := H.1.cn.2.2.1; omega)) _) (fun _ _ _ => rfl) (fun r313 σ313 q313 => ?_)
  obtain ⟨rfl, rfl⟩ := q313
  refine LE.cu (cu' := 1 + 1) (su' := 6 + 6) (by show 1 + 1 + 0 = _; omega) (by show 6 + 6 + 0 = _; omega) ?_
  refine LE.iload_n (n := 317) dL_changes_316 rfl rfl ?_
  refine LE.H3PI (M' := mL_load) (n := 320) dL_changes_317 rfl ch_L_218 ⟨⟨by decide, by decide⟩, (by show 1 + 1 + 1 ≤ 80; omega), (by show 6 + 6 + 6 ≤ 460; omega)⟩ (Nat.le_of_ble_eq_true rfl) (x_load _ od A H _ _) (fun _ _ _ => rfl) (fun r317 σ317 q317 => ?_)
  obtain ⟨c317, rfl, H9, rfl⟩ := q317
  have hc := CHR.ofC (n := 1) H9 (Or.inl rfl) h0 (nn_loads H.1 _ _) (o2_loads _ _ _)
  refine LE.cu (cu' := 1 + 2) (su' := 6 + 12) (by show 1 + 1 + 1 = _; omega) (by show 6 + 6 + 6 = _; omega) ?_
  refine LE.if_lt (n := 323) (tgt := 327) dL_changes_320 rfl (by decide) (fun h320 => ?_) (fun h320 => ?_)
  · skip
    have hg := CHG.lt hc h320
    refine LE.iconst (n := 328) (nI 0) dL_changes_327 rfl (by decide) ?_
    refine LE.iret (ty := .boolean) dL_changes_328 rfl (by first | rfl | decide) ⟨(by show 1 + 2 ≤ 80; omega), (by show 6 + 12 ≤ 460; omega)⟩ ?_
    exact PI.mk ⟨_, _, rfl, H9, hg⟩
  · skip
    have hg := CHG.ge hc h320
    refine LE.iconst (n := 324) (nI 1) dL_changes_323 rfl (by decide) ?_
    refine LE.goto (tgt := 328) dL_changes_324 (by decide) ?_
    refine LE.iret (ty := .boolean) dL_changes_328 rfl (by first | rfl | decide) ⟨(by show 1 + 2 ≤ 80; omega), (by show 6 + 12 ≤ 460; omega)⟩ ?_
    exact PI.mk ⟨_, _, rfl, H9, hg⟩
set_option maxRecDepth 20000 in
set_option maxHeartbeats 4000000 in
theorem ch_at_329 (od : Int64 × UInt64) (A : AS) (h0 : A.2.2.2.1 = 0) (x b2 : Int32) (c : CC) (H : CA c A) : LE mL_changes TE 329 [(2, .int b2), (0, .ref 0), (1, .int x)] [] (c, od) none 1 6 (GR mL_changes (PI (CHP od A))) := by
  refine LE.aload_n (n := 330) dL_changes_329 rfl rfl ?_
  refine LE.iload_n (n := 331) dL_changes_330 rfl rfl ?_
  refine LE.H2PI (M' := mL_loadAll) (n := 334) dL_changes_331 rfl ch_L_220 ⟨⟨by decide, by decide⟩, (by show 1 + 1 ≤ 80; omega), (by show 6 + 6 ≤ 460; omega)⟩ (Nat.le_of_ble_eq_true rfl) (x_loadAll _ od A H _) (fun _ _ _ => rfl) (fun r331 σ331 q331 => ?_)
  obtain ⟨c331, rfl, H9, rfl⟩ := q331
  have hc := CHR.ofC (n := 1) H9 (Or.inl rfl) h0 (nn_loadAll H.1 _) (o2_loadAll _ _)
  refine LE.cu (cu' := 1 + 1) (su' := 6 + 6) (by show 1 + 1 = _; omega) (by show 6 + 6 = _; omega) ?_
  refine LE.if_lt (n := 337) (tgt := 341) dL_changes_334 rfl (by decide) (fun h334 => ?_) (fun h334 => ?_)
  · skip
    have hg := CHG.lt hc h334
    refine LE.iconst (n := 342) (nI 0) dL_changes_341 rfl (by decide) ?_
    refine LE.iret (ty := .boolean) dL_changes_342 rfl (by first | rfl | decide) ⟨(by show 1 + 1 ≤ 80; omega), (by show 6 + 6 ≤ 460; omega)⟩ ?_
    exact PI.mk ⟨_, _, rfl, H9, hg⟩
  · skip
    have hg := CHG.ge hc h334
    refine LE.iconst (n := 338) (nI 1) dL_changes_337 rfl (by decide) ?_
    refine LE.goto (tgt := 342) dL_changes_338 (by decide) ?_
    refine LE.iret (ty := .boolean) dL_changes_342 rfl (by first | rfl | decide) ⟨(by show 1 + 1 ≤ 80; omega), (by show 6 + 6 ≤ 460; omega)⟩ ?_
    exact PI.mk ⟨_, _, rfl, H9, hg⟩
set_option maxRecDepth 20000 in
set_option maxHeartbeats 4000000 in
theorem ch_at_343 (od : Int64 × UInt64) (A : AS) (h0 : A.2.2.2.1 = 0) (x b2 : Int32) (c : CC) (H : CA c A) : LE mL_changes TE 343 [(2, .int b2), (0, .ref 0), (1, .int x)] [] (c, od) none 1 6 (GR mL_changes (PI (CHP od A))) := by
  refine LE.aload_n (n := 344) dL_changes_343 rfl rfl ?_
  refine LE.iload_n (n := 345) dL_changes_344 rfl rfl ?_
  refine LE.H2PI (M' := mL_launch) (n := 348) dL_changes_345 rfl ch_L_222 ⟨⟨by decide, by decide⟩, (by show 1 + 1 ≤ 80; omega), (by show 6 + 6 ≤ 460; omega)⟩ (Nat.le_of_ble_eq_true rfl) (x_launch _ od A H _) (fun _ _ _ => rfl) (fun r345 σ345 q345 => ?_)
  obtain ⟨c345, rfl, H9, rfl⟩ := q345
  have hc := CHR.ofC (n := 1) H9 (Or.inl rfl) h0 (nn_launches _) (o2_launches _ _)
  refine LE.cu (cu' := 1 + 1) (su' := 6 + 6) (by show 1 + 1 = _; omega) (by show 6 + 6 = _; omega) ?_
  refine LE.if_lt (n := 351) (tgt := 355) dL_changes_348 rfl (by decide) (fun h348 => ?_) (fun h348 => ?_)
  · skip
    have hg := CHG.lt hc h348
    refine LE.iconst (n := 356) (nI 0) dL_changes_355 rfl (by decide) ?_
    refine LE.iret (ty := .boolean) dL_changes_356 rfl (by first | rfl | decide) ⟨(by show 1 + 1 ≤ 80; omega), (by show 6 + 6 ≤ 460; omega)⟩ ?_
    exact PI.mk ⟨_, _, rfl, H9, hg⟩
  · skip
    have hg := CHG.ge hc h348
    refine LE.iconst (n := 352) (nI 1) dL_changes_351 rfl (by decide) ?_
    refine LE.goto (tgt := 356) dL_changes_352 (by decide) ?_
    refine LE.iret (ty := .boolean) dL_changes_356 rfl (by first | rfl | decide) ⟨(by show 1 + 1 ≤ 80; omega), (by show 6 + 6 ≤ 460; omega)⟩ ?_
    exact PI.mk ⟨_, _, rfl, H9, hg⟩
set_option maxRecDepth 20000 in
set_option maxHeartbeats 4000000 in
theorem ch_at_357 (od : Int64 × UInt64) (A : AS) (h0 : A.2.2.2.1 = 0) (x b2 : Int32) (c : CC) (H : CA c A) : LE mL_changes TE 357 [(2, .int b2), (0, .ref 0), (1, .int x)] [] (c, od) none 1 6 (GR mL_changes (PI (CHP od A))) := by
  refine LE.aload_n (n := 358) dL_changes_357 rfl rfl ?_
  refine LE.iload_n (n := 359) dL_changes_358 rfl rfl ?_
  refine LE.iload_n (n := 360) dL_changes_359 rfl rfl ?_
  refine LE.bipush (n := 362) (nI 6) dL_changes_360 rfl (by decide) ?_
  refine LE.ishr (n := 363) dL_changes_362 rfl ?_
  refine LE.bipush (n := 365) (nI 8) dL_changes_363 rfl (by decide) ?_
  refine LE.S2PI (M' := mL_some) (n := 368) dL_changes_365 rfl ch_L_153 ⟨⟨by decide, by decide⟩, (by show 1 + 0 ≤ 80; omega), (by show 6 + 0 ≤ 460; omega)⟩ (Nat.le_of_ble_eq_true rfl) (c_someP _ _ (by decide) _) (fun _ _ _ => rfl) (fun r365 σ365 q365 => ?_)
  obtain ⟨rfl, rfl⟩ := q365
  refine LE.cu (cu' := 1) (su' := 6) (by show 1 + 0 = _; omega) (by show 6 + 0 = _; omega) ?_
  refine LE.H3PI (M' := mL_drop) (n := 371) dL_changes_368 rfl ch_L_224 ⟨⟨by decide, by decide⟩, (by show 1 + 1 ≤ 80; omega), (by show 6 + 6 ≤ 460; omega)⟩ (Nat.le_of_ble_eq_true rfl) (x_drop _ od A H _ _) (fun _ _ _ => rfl) (fun r368 σ368 q368 => ?_)
  obtain ⟨c368, rfl, H9, rfl⟩ := q368
  have hc := CHR.ofC (n := 2) H9 (Or.inl rfl) h0 (nn_drops H.1 _ _) (o2_drops _ _ _)
  refine LE.cu (cu' := 1 + 1) (su' := 6 + 6) (by show 1 + 1 = _; omega) (by show 6 + 6 = _; omega) ?_
  refine LE.if_lt (n := 374) (tgt := 378) dL_changes_371 rfl (by decide) (fun h371 => ?_) (fun h371 => ?_)
  · skip
    have hg := CHG.lt hc h371
    refine LE.iconst (n := 379) (nI 0) dL_changes_378 rfl (by decide) ?_
    refine LE.iret (ty := .boolean) dL_changes_379 rfl (by first | rfl | decide) ⟨(by show 1 + 1 ≤ 80; omega), (by show 6 + 6 ≤ 460; omega)⟩ ?_
    exact PI.mk ⟨_, _, rfl, H9, hg⟩
  · skip
    have hg := CHG.ge hc h371
    refine LE.iconst (n := 375) (nI 1) dL_changes_374 rfl (by decide) ?_
    refine LE.goto (tgt := 379) dL_changes_375 (by decide) ?_
    refine LE.iret (ty := .boolean) dL_changes_379 rfl (by first | rfl | decide) ⟨(by show 1 + 1 ≤ 80; omega), (by show 6 + 6 ≤ 460; omega)⟩ ?_
    exact PI.mk ⟨_, _, rfl, H9, hg⟩
set_option maxRecDepth 20000 in
set_option maxHeartbeats 4000000 in
theorem ch_at_380 (od : Int64 × UInt64) (A : AS) (h0 : A.2.2.2.1 = 0) (x b2 : Int32) (c : CC) (H : CA c A) : LE mL_changes TE 380 [(2, .int b2), (0, .ref 0), (1, .int x)] [] (c, od) none 1 6 (GR mL_changes (PI (CHP od A))) := by
  refine LE.aload_n (n := 381) dL_changes_380 rfl rfl ?_
  refine LE.iload_n (n := 382) dL_changes_381 rfl rfl ?_
  refine LE.iconst (n := 383) (nI 4) dL_changes_382 rfl (by decide) ?_
  refine LE.ishr (n := 384) dL_changes_383 rfl ?_
  refine LE.bipush (n := 386) (nI 10) dL_changes_384 rfl (by decide) ?_
  refine LE.S2PI (M' := mL_some) (n := 389) dL_changes_386 rfl ch_L_153 ⟨⟨by decide, by decide⟩, (by show 1 + 0 ≤ 80; omega), (by show 6 + 0 ≤ 460; omega)⟩ (Nat.le_of_ble_eq_true rfl) (c_someP _ _ (by decide) _) (fun _ _ _ => rfl) (fun r386 σ386 q386 => ?_)
  obtain ⟨rfl, rfl⟩ := q386
  refine LE.cu (cu' := 1) (su' := 6) (by show 1 + 0 = _; omega) (by show 6 + 0 = _; omega) ?_
  refine LE.H2PI (M' := mL_pass) (n := 392) dL_changes_389 rfl ch_L_226 ⟨⟨by decide, by decide⟩, (by show 1 + 1 ≤ 80; omega), (by show 6 + 6 ≤ 460; omega)⟩ (Nat.le_of_ble_eq_true rfl) (x_pass _ od A H _) (fun _ _ _ => rfl) (fun r389 σ389 q389 => ?_)
  obtain ⟨c389, rfl, H9, rfl⟩ := q389
  have hc := CHR.ofC (n := 0) H9 (Or.inl rfl) h0 (nn_passes H.1 _) (o2_passes _ _)
  refine LE.cu (cu' := 1 + 1) (su' := 6 + 6) (by show 1 + 1 = _; omega) (by show 6 + 6 = _; omega) ?_
  refine LE.if_lt (n := 395) (tgt := 399) dL_changes_392 rfl (by decide) (fun h392 => ?_) (fun h392 => ?_)
  · skip
    have hg := CHG.lt hc h392
    refine LE.iconst (n := 400) (nI 0) dL_changes_399 rfl (by decide) ?_
    refine LE.iret (ty := .boolean) dL_changes_400 rfl (by first | rfl | decide) ⟨(by show 1 + 1 ≤ 80; omega), (by show 6 + 6 ≤ 460; omega)⟩ ?_
    exact PI.mk ⟨_, _, rfl, H9, hg⟩
  · skip
    have hg := CHG.ge hc h392
    refine LE.iconst (n := 396) (nI 1) dL_changes_395 rfl (by decide) ?_
    refine LE.goto (tgt := 400) dL_changes_396 (by decide) ?_
    refine LE.iret (ty := .boolean) dL_changes_400 rfl (by first | rfl | decide) ⟨(by show 1 + 1 ≤ 80; omega), (by show 6 + 6 ≤ 460; omega)⟩ ?_
    exact PI.mk ⟨_, _, rfl, H9, hg⟩
set_option maxRecDepth 20000 in
set_option maxHeartbeats 4000000 in
theorem ch_at_401 (od : Int64 × UInt64) (A : AS) (h0 : A.2.2.2.1 = 0) (x b2 : Int32) (c : CC) (H : CA c A) : LE mL_changes TE 401 [(2, .int b2), (0, .ref 0), (1, .int x)] [] (c, od) none 1 6 (GR mL_changes (PI (CHP od A))) := by
  refine LE.aload_n (n := 402) dL_changes_401 rfl rfl ?_
  refine LE.iload_n (n := 403) dL_changes_402 rfl rfl ?_
  refine LE.bipush (n := 405) (nI 6) dL_changes_403 rfl (by decide) ?_
  refine LE.ishr (n := 406) dL_changes_405 rfl ?_
  refine LE.iconst (n := 407) (nI 1) dL_changes_406 rfl (by decide) ?_
  refine LE.iand (n := 408) dL_changes_407 rfl ?_
  refine LE.if_ne (n := 411) (tgt := 460) dL_changes_408 rfl (by decide) (fun h408 => ?_) (fun h408 => ?_)
  · skip
    refine LE.sbNew (n := 467) rfl dL_changes_460 dL_changes_463 dL_changes_464 rfl ⟨by decide, by decide, (by show 1 + 2 ≤ 80; omega), (by show 6 + 20 ≤ 460; omega)⟩ (Nat.le_of_ble_eq_true rfl) (fun _ _ _ _ => rfl) (fun _ _ _ _ => rfl) ?_
    refine LE.cu (cu' := 1 + 2) (su' := 6 + 20) (by show 1 + 2 = _; omega) (by show 6 + 20 = _; omega) ?_
    refine LE.sbS (247, "u", [117]) (by decide) (bl_of [117] (by decide) (by decide)) rfl (n := 472) dL_changes_467 dL_changes_469 rfl (by decide) ⟨by decide, by decide, (by show 1 + 2 ≤ 80; omega), (by show 6 + 20 ≤ 460; omega)⟩ (Nat.le_of_ble_eq_true rfl) ?_
    refine LE.iload_n (n := 473) dL_changes_472 rfl rfl ?_
    refine LE.iconst (n := 474) (nI 3) dL_changes_473 rfl (by decide) ?_
    refine LE.ishr (n := 475) dL_changes_474 rfl ?_
    refine LE.iconst (n := 476) (nI 5) dL_changes_475 rfl (by decide) ?_
    refine LE.S2PI (M' := mL_some) (n := 479) dL_changes_476 rfl ch_L_153 ⟨⟨by decide, by decide⟩, (by show 1 + 2 + 0 ≤ 80; omega), (by show 6 + 20 + 0 ≤ 460; omega)⟩ (Nat.le_of_ble_eq_true rfl) (c_someP _ _ (by decide) _) (fun _ _ _ => rfl) (fun r476 σ476 q476 => ?_)
    obtain ⟨rfl, rfl⟩ := q476
    obtain ⟨k476, hk476, e476⟩ := smI_lt _ (n := 5) (by decide) (by decide)
    rw [e476]
    refine LE.cu (cu' := 1 + 2) (su' := 6 + 20) (by show 1 + 2 + 0 = _; omega) (by show 6 + 20 + 0 = _; omega) ?_
    refine LE.sbI k476 (by omega) rfl rfl (n := 482) dL_changes_479 rfl (by decide) ⟨by decide, by decide, (by show 1 + 2 ≤ 80; omega), (by show 6 + 20 ≤ 460; omega)⟩ (Nat.le_of_ble_eq_true rfl) ?_
    refine LE.sbS (249, ";h1;d", [59, 104, 49, 59, 100]) (by decide) (bl_of [59, 104, 49, 59, 100] (by decide) (by decide)) rfl (n := 487) dL_changes_482 dL_changes_484 rfl (by decide) ⟨by decide, by decide, (by show 1 + 2 ≤ 80; omega), (by show 6 + 20 ≤ 460; omega)⟩ (Nat.le_of_ble_eq_true rfl) ?_
    refine LE.iload_n (n := 488) dL_changes_487 rfl rfl ?_
    refine LE.iconst (n := 489) (nI 4) dL_changes_488 rfl (by decide) ?_
    refine LE.ishr (n := 490) dL_changes_489 rfl ?_
    refine LE.iconst (n := 491) (nI 5) dL_changes_490 rfl (by decide) ?_
    refine LE.S2PI (M' := mL_some) (n := 494) dL_changes_491 rfl ch_L_153 ⟨⟨by decide, by decide⟩, (by show 1 + 2 + 0 ≤ 80; omega), (by show 6 + 20 + 0 ≤ 460; omega)⟩ (Nat.le_of_ble_eq_true rfl) (c_someP _ _ (by decide) _) (fun _ _ _ => rfl) (fun r491 σ491 q491 => ?_)
    obtain ⟨rfl, rfl⟩ := q491
    obtain ⟨k491, hk491, e491⟩ := smI_lt _ (n := 5) (by decide) (by decide)
    rw [e491]
    refine LE.cu (cu' := 1 + 2) (su' := 6 + 20) (by show 1 + 2 + 0 = _; omega) (by show 6 + 20 + 0 = _; omega) ?_
    refine LE.sbI k491 (by omega) rfl rfl (n := 497) dL_changes_494 rfl (by decide) ⟨by decide, by decide, (by show 1 + 2 ≤ 80; omega), (by show 6 + 20 ≤ 460; omega)⟩ (Nat.le_of_ble_eq_true rfl) ?_
    refine LE.sbS (251, "-1", [45, 49]) (by decide) (bl_of [45, 49] (by decide) (by decide)) rfl (n := 502) dL_changes_497 dL_changes_499 rfl (by decide) ⟨by decide, by decide, (by show 1 + 2 ≤ 80; omega), (by show 6 + 20 ≤ 460; omega)⟩ (Nat.le_of_ble_eq_true rfl) ?_
    have hbl : BL ([117, 48 + k476, 59, 104, 49, 59, 100, 48 + k491, 45, 49].map nI) := bl_of [117, 48 + k476, 59, 104, 49, 59, 100, 48 + k491, 45, 49] (fun v hv => by
      simp only [List.mem_cons, List.not_mem_nil, or_false] at hv
      omega) (Nat.le_of_ble_eq_true rfl)
    refine LE.sbRead (bs := [117, 48 + k476, 59, 104, 49, 59, 100, 48 + k491, 45, 49].map nI) (pr := 505) (n := 508) rfl dL_changes_502 (Or.inl rfl) dL_changes_505 rfl ch_L_253 rfl (by decide) (fun j hj => ?_) (F8.cpy (F8.put (F8.cpy (F8.put (F8.cpy (F8.zero) (bl_of [117] (by decide) (by decide))) (by omega)) (bl_of [59, 104, 49, 59, 100] (by decide) (by decide))) (by omega)) (bl_of [45, 49] (by decide) (by decide))) ⟨by decide, by decide, (by show 1 + 2 + 62 ≤ 80; omega), (by show 6 + 20 + 380 ≤ 460; omega)⟩ (Nat.le_of_ble_eq_true rfl) (fun _ _ _ _ => rfl) (c_reads hbl od A _ H h0) (fun r502 σ502 q502 => ?_)
    · have hj : j < 10 := hj
      rcases (show j = 0 ∨ j = 1 ∨ j = 2 ∨ j = 3 ∨ j = 4 ∨ j = 5 ∨ j = 6 ∨ j = 7 ∨ j = 8 ∨ j = 9 by omega) with rfl | rfl | rfl | rfl | rfl | rfl | rfl | rfl | rfl | rfl <;> rfl
    obtain ⟨c502, rfl, H9, rfl⟩ := q502
    have hc : CHR 0 A _ _ := CHR.read (AR A ([117, 48 + k476, 59, 104, 49, 59, 100, 48 + k491, 45, 49].map nI) ([117, 48 + k476, 59, 104, 49, 59, 100, 48 + k491, 45, 49].map nI).length)
    refine LE.cu (cu' := 1 + 64) (su' := 6 + 400) (by show 1 + 2 + 62 = _; omega) (by show 6 + 20 + 380 = _; omega) ?_
    refine LE.if_lt (n := 511) (tgt := 515) dL_changes_508 rfl (by decide) (fun h508 => ?_) (fun h508 => ?_)
    · skip
      have hg := CHG.lt hc h508
      refine LE.iconst (n := 516) (nI 0) dL_changes_515 rfl (by decide) ?_
      refine LE.iret (ty := .boolean) dL_changes_516 rfl (by first | rfl | decide) ⟨(by show 1 + 64 ≤ 80; omega), (by show 6 + 400 ≤ 460; omega)⟩ ?_
      exact PI.mk ⟨_, _, rfl, H9, hg⟩
    · skip
      have hg := CHG.ge hc h508
      refine LE.iconst (n := 512) (nI 1) dL_changes_511 rfl (by decide) ?_
      refine LE.goto (tgt := 516) dL_changes_512 (by decide) ?_
      refine LE.iret (ty := .boolean) dL_changes_516 rfl (by first | rfl | decide) ⟨(by show 1 + 64 ≤ 80; omega), (by show 6 + 400 ≤ 460; omega)⟩ ?_
      exact PI.mk ⟨_, _, rfl, H9, hg⟩
  · skip
    refine LE.sbNew (n := 418) rfl dL_changes_411 dL_changes_414 dL_changes_415 rfl ⟨by decide, by decide, (by show 1 + 2 ≤ 80; omega), (by show 6 + 20 ≤ 460; omega)⟩ (Nat.le_of_ble_eq_true rfl) (fun _ _ _ _ => rfl) (fun _ _ _ _ => rfl) ?_
    refine LE.cu (cu' := 1 + 2) (su' := 6 + 20) (by show 1 + 2 = _; omega) (by show 6 + 20 = _; omega) ?_
    refine LE.sbS (231, "h", [104]) (by decide) (bl_of [104] (by decide) (by decide)) rfl (n := 423) dL_changes_418 dL_changes_420 rfl (by decide) ⟨by decide, by decide, (by show 1 + 2 ≤ 80; omega), (by show 6 + 20 ≤ 460; omega)⟩ (Nat.le_of_ble_eq_true rfl) ?_
    refine LE.iload_n (n := 424) dL_changes_423 rfl rfl ?_
    refine LE.iconst (n := 425) (nI 3) dL_changes_424 rfl (by decide) ?_
    refine LE.ishr (n := 426) dL_changes_425 rfl ?_
    refine LE.bipush (n := 428) (nI 9) dL_changes_426 rfl (by decide) ?_
    refine LE.S2PI (M' := mL_some) (n := 431) dL_changes_428 rfl ch_L_153 ⟨⟨by decide, by decide⟩, (by show 1 + 2 + 0 ≤ 80; omega), (by show 6 + 20 + 0 ≤ 460; omega)⟩ (Nat.le_of_ble_eq_true rfl) (c_someP _ _ (by decide) _) (fun _ _ _ => rfl) (fun r428 σ428 q428 => ?_)
    obtain ⟨rfl, rfl⟩ := q428
    obtain ⟨k428, hk428, e428⟩ := smI_lt _ (n := 9) (by decide) (by decide)
    rw [e428]
    refine LE.cu (cu' := 1 + 2) (su' := 6 + 20) (by show 1 + 2 + 0 = _; omega) (by show 6 + 20 + 0 = _; omega) ?_
    refine LE.sbI k428 (by omega) rfl rfl (n := 434) dL_changes_431 rfl (by decide) ⟨by decide, by decide, (by show 1 + 2 ≤ 80; omega), (by show 6 + 20 ≤ 460; omega)⟩ (Nat.le_of_ble_eq_true rfl) ?_
    refine LE.sbS (239, ";b", [59, 98]) (by decide) (bl_of [59, 98] (by decide) (by decide)) rfl (n := 439) dL_changes_434 dL_changes_436 rfl (by decide) ⟨by decide, by decide, (by show 1 + 2 ≤ 80; omega), (by show 6 + 20 ≤ 460; omega)⟩ (Nat.le_of_ble_eq_true rfl) ?_
    refine LE.iload_n (n := 440) dL_changes_439 rfl rfl ?_
    refine LE.iconst (n := 441) (nI 4) dL_changes_440 rfl (by decide) ?_
    refine LE.ishr (n := 442) dL_changes_441 rfl ?_
    refine LE.iconst (n := 443) (nI 5) dL_changes_442 rfl (by decide) ?_
    refine LE.S2PI (M' := mL_some) (n := 446) dL_changes_443 rfl ch_L_153 ⟨⟨by decide, by decide⟩, (by show 1 + 2 + 0 ≤ 80; omega), (by show 6 + 20 + 0 ≤ 460; omega)⟩ (Nat.le_of_ble_eq_true rfl) (c_someP _ _ (by decide) _) (fun _ _ _ => rfl) (fun r443 σ443 q443 => ?_)
    obtain ⟨rfl, rfl⟩ := q443
    obtain ⟨k443, hk443, e443⟩ := smI_lt _ (n := 5) (by decide) (by decide)
    rw [e443]
    refine LE.cu (cu' := 1 + 2) (su' := 6 + 20) (by show 1 + 2 + 0 = _; omega) (by show 6 + 20 + 0 = _; omega) ?_
    refine LE.sbI k443 (by omega) rfl rfl (n := 449) dL_changes_446 rfl (by decide) ⟨by decide, by decide, (by show 1 + 2 ≤ 80; omega), (by show 6 + 20 ≤ 460; omega)⟩ (Nat.le_of_ble_eq_true rfl) ?_
    refine LE.sbS (241, "+9", [43, 57]) (by decide) (bl_of [43, 57] (by decide) (by decide)) rfl (n := 454) dL_changes_449 dL_changes_451 rfl (by decide) ⟨by decide, by decide, (by show 1 + 2 ≤ 80; omega), (by show 6 + 20 ≤ 460; omega)⟩ (Nat.le_of_ble_eq_true rfl) ?_
    have hbl : BL ([104, 48 + k428, 59, 98, 48 + k443, 43, 57].map nI) := bl_of [104, 48 + k428, 59, 98, 48 + k443, 43, 57] (fun v hv => by
      simp only [List.mem_cons, List.not_mem_nil, or_false] at hv
      omega) (Nat.le_of_ble_eq_true rfl)
    refine LE.sbRead (bs := [104, 48 + k428, 59, 98, 48 + k443, 43, 57].map nI) (pr := 505) (n := 508) rfl dL_changes_454 (Or.inr ⟨48, dL_changes_457, by decide⟩) dL_changes_505 rfl ch_L_253 rfl (by decide) (fun j hj => ?_) (F8.cpy (F8.put (F8.cpy (F8.put (F8.cpy (F8.zero) (bl_of [104] (by decide) (by decide))) (by omega)) (bl_of [59, 98] (by decide) (by decide))) (by omega)) (bl_of [43, 57] (by decide) (by decide))) ⟨by decide, by decide, (by show 1 + 2 + 62 ≤ 80; omega), (by show 6 + 20 + 380 ≤ 460; omega)⟩ (Nat.le_of_ble_eq_true rfl) (fun _ _ _ _ => rfl) (c_reads hbl od A _ H h0) (fun r454 σ454 q454 => ?_)
    · have hj : j < 7 := hj
      rcases (show j = 0 ∨ j = 1 ∨ j = 2 ∨ j = 3 ∨ j = 4 ∨ j = 5 ∨ j = 6 by omega) with rfl | rfl | rfl | rfl | rfl | rfl | rfl <;> rfl
    obtain ⟨c454, rfl, H9, rfl⟩ := q454
    have hc : CHR 0 A _ _ := CHR.read (AR A ([104, 48 + k428, 59, 98, 48 + k443, 43, 57].map nI) ([104, 48 + k428, 59, 98, 48 + k443, 43, 57].map nI).length)
    refine LE.cu (cu' := 1 + 64) (su' := 6 + 400) (by show 1 + 2 + 62 = _; omega) (by show 6 + 20 + 380 = _; omega) ?_
    refine LE.if_lt (n := 511) (tgt := 515) dL_changes_508 rfl (by decide) (fun h508 => ?_) (fun h508 => ?_)
    · skip
      have hg := CHG.lt hc h508
      refine LE.iconst (n := 516) (nI 0) dL_changes_515 rfl (by decide) ?_
      refine LE.iret (ty := .boolean) dL_changes_516 rfl (by first | rfl | decide) ⟨(by show 1 + 64 ≤ 80; omega), (by show 6 + 400 ≤ 460; omega)⟩ ?_
      exact PI.mk ⟨_, _, rfl, H9, hg⟩
    · skip
      have hg := CHG.ge hc h508
      refine LE.iconst (n := 512) (nI 1) dL_changes_511 rfl (by decide) ?_
      refine LE.goto (tgt := 516) dL_changes_512 (by decide) ?_
      refine LE.iret (ty := .boolean) dL_changes_516 rfl (by first | rfl | decide) ⟨(by show 1 + 64 ≤ 80; omega), (by show 6 + 400 ≤ 460; omega)⟩ ?_
      exact PI.mk ⟨_, _, rfl, H9, hg⟩
set_option maxRecDepth 20000 in
set_option maxHeartbeats 2000000 in
theorem c_changes (c : CC) (od : Int64 × UInt64) (A : AS) (H : CA c A) (h0 : A.2.2.2.1 = 0) (x : Int32) : CX TE mL_changes [.ref 0, .int x] (c, od) (PI (CHP od A)) := by
  refine CX.of TE.eb [(0, .ref 0), (1, .int x)] rfl (by decide +kernel) rfl (Nat.le_of_ble_eq_true rfl) ?_
  refine LE.iload_n (n := 1) dL_changes_0 rfl rfl ?_
  refine LE.iconst (n := 2) (nI 4) dL_changes_1 rfl (by decide) ?_
  refine LE.ishr (n := 3) dL_changes_2 rfl ?_
  refine LE.aload_n (n := 4) dL_changes_3 rfl rfl ?_
  refine LE.iconst (n := 5) (nI 3) dL_changes_4 rfl (by decide) ?_
  refine LE.H2PI (M' := mL_account) (n := 8) dL_changes_5 rfl ch_L_192 ⟨⟨by decide, by decide⟩, (by show 0 + 1 ≤ 80; omega), (by show 0 + 6 ≤ 460; omega)⟩ (Nat.le_of_ble_eq_true rfl) (y_account _ od A H _) (fun _ _ _ => rfl) (fun r5 σ5 q5 => ?_)
  obtain ⟨c5, rfl, H, rfl⟩ := q5
  rw [acc3 H.1]
  refine LE.cu (cu' := 1) (su' := 6) (by show 0 + 1 = _; omega) (by show 0 + 6 = _; omega) ?_
  refine LE.iconst (n := 9) (nI 1) dL_changes_8 rfl (by decide) ?_
  refine LE.iadd (n := 10) dL_changes_9 rfl ?_
  rw [nI_add]
  refine LE.S2PI (M' := mL_some) (n := 13) dL_changes_10 rfl ch_L_153 ⟨⟨by decide, by decide⟩, (by show 1 + 0 ≤ 80; omega), (by show 6 + 0 ≤ 460; omega)⟩ (Nat.le_of_ble_eq_true rfl) (c_someP _ _ (nz_add (by have := H.1.cn.1; have := H.1.cn.2.2.1; omega)) _) (fun _ _ _ => rfl) (fun r10 σ10 q10 => ?_)
  obtain ⟨rfl, rfl⟩ := q10
  refine LE.cu (cu' := 1) (su' := 6) (by show 1 + 0 = _; omega) (by show 6 + 0 = _; omega) ?_
  refine LE.istore_n (n := 14) dL_changes_13 rfl (by decide) ?_
  refine LE.iload_n (n := 15) dL_changes_14 rfl rfl ?_
  refine LE.bipush (n := 17) (nI 16) dL_changes_15 rfl (by decide) ?_
  refine LE.S2PI (M' := mL_some) (n := 20) dL_changes_17 rfl ch_L_153 ⟨⟨by decide, by decide⟩, (by show 1 + 0 ≤ 80; omega), (by show 6 + 0 ≤ 460; omega)⟩ (Nat.le_of_ble_eq_true rfl) (c_someP _ _ (by decide) _) (fun _ _ _ => rfl) (fun r17 σ17 q17 => ?_)
  obtain ⟨rfl, rfl⟩ := q17
  obtain ⟨k17, hk17, e17⟩ := smI_lt _ (n := 16) (by decide) (by decide)
  rw [e17]
  refine LE.cu (cu' := 1) (su' := 6) (by show 1 + 0 = _; omega) (by show 6 + 0 = _; omega) ?_
  rcases (show k17 = 0 ∨ k17 = 1 ∨ k17 = 2 ∨ k17 = 3 ∨ k17 = 4 ∨ k17 = 5 ∨ k17 = 6 ∨ k17 = 7 ∨ k17 = 8 ∨ k17 = 9 ∨ k17 = 10 ∨ k17 = 11 ∨ k17 = 12 ∨ k17 = 13 ∨ k17 = 14 ∨ k17 = 15 by omega) with rfl | rfl | rfl | rfl | rfl | rfl | rfl | rfl | rfl | rfl | rfl | rfl | rfl | rfl | rfl | rfl
  · refine LE.tswN (k := 0) (tgt := 96) dL_changes_20 (by decide) (by decide) rfl (by decide) ?_
    exact LE.ofA (L' := [(2, .int _), (0, .ref 0), (1, .int x)]) ⟨rfl, rfl, rfl, trivial⟩ (LE.cu (by omega) (by omega) (ch_at_96 od A h0 x _ _ H))
  · refine LE.tswN (k := 1) (tgt := 117) dL_changes_20 (by decide) (by decide) rfl (by decide) ?_
    exact LE.ofA (L' := [(2, .int _), (0, .ref 0), (1, .int x)]) ⟨rfl, rfl, rfl, trivial⟩ (LE.cu (by omega) (by omega) (ch_at_117 od A h0 x _ _ H))
  · refine LE.tswN (k := 2) (tgt := 161) dL_changes_20 (by decide) (by decide) rfl (by decide) ?_
    exact LE.ofA (L' := [(2, .int _), (0, .ref 0), (1, .int x)]) ⟨rfl, rfl, rfl, trivial⟩ (LE.cu (by omega) (by omega) (ch_at_161 od A h0 x _ _ H))
  · refine LE.tswN (k := 3) (tgt := 183) dL_changes_20 (by decide) (by decide) rfl (by decide) ?_
    exact LE.ofA (L' := [(2, .int _), (0, .ref 0), (1, .int x)]) ⟨rfl, rfl, rfl, trivial⟩ (LE.cu (by omega) (by omega) (ch_at_183 od A h0 x _ _ H))
  · refine LE.tswN (k := 4) (tgt := 204) dL_changes_20 (by decide) (by decide) rfl (by decide) ?_
    exact LE.ofA (L' := [(2, .int _), (0, .ref 0), (1, .int x)]) ⟨rfl, rfl, rfl, trivial⟩ (LE.cu (by omega) (by omega) (ch_at_204 od A h0 x _ _ H))
  · refine LE.tswN (k := 5) (tgt := 204) dL_changes_20 (by decide) (by decide) rfl (by decide) ?_
    exact LE.ofA (L' := [(2, .int _), (0, .ref 0), (1, .int x)]) ⟨rfl, rfl, rfl, trivial⟩ (LE.cu (by omega) (by omega) (ch_at_204 od A h0 x _ _ H))
  · refine LE.tswN (k := 6) (tgt := 227) dL_changes_20 (by decide) (by decide) rfl (by decide) ?_
    exact LE.ofA (L' := [(2, .int _), (0, .ref 0), (1, .int x)]) ⟨rfl, rfl, rfl, trivial⟩ (LE.cu (by omega) (by omega) (ch_at_227 od A h0 x _ _ H))
  · refine LE.tswN (k := 7) (tgt := 250) dL_changes_20 (by decide) (by decide) rfl (by decide) ?_
    exact LE.ofA (L' := [(2, .int _), (0, .ref 0), (1, .int x)]) ⟨rfl, rfl, rfl, trivial⟩ (LE.cu (by omega) (by omega) (ch_at_250 od A h0 x _ _ H))
  · refine LE.tswN (k := 8) (tgt := 273) dL_changes_20 (by decide) (by decide) rfl (by decide) ?_
    exact LE.ofA (L' := [(2, .int _), (0, .ref 0), (1, .int x)]) ⟨rfl, rfl, rfl, trivial⟩ (LE.cu (by omega) (by omega) (ch_at_273 od A h0 x _ _ H))
  · refine LE.tswN (k := 9) (tgt := 301) dL_changes_20 (by decide) (by decide) rfl (by decide) ?_
    exact LE.ofA (L' := [(2, .int _), (0, .ref 0), (1, .int x)]) ⟨rfl, rfl, rfl, trivial⟩ (LE.cu (by omega) (by omega) (ch_at_301 od A h0 x _ _ H))
  · refine LE.tswN (k := 10) (tgt := 329) dL_changes_20 (by decide) (by decide) rfl (by decide) ?_
    exact LE.ofA (L' := [(2, .int _), (0, .ref 0), (1, .int x)]) ⟨rfl, rfl, rfl, trivial⟩ (LE.cu (by omega) (by omega) (ch_at_329 od A h0 x _ _ H))
  · refine LE.tswN (k := 11) (tgt := 343) dL_changes_20 (by decide) (by decide) rfl (by decide) ?_
    exact LE.ofA (L' := [(2, .int _), (0, .ref 0), (1, .int x)]) ⟨rfl, rfl, rfl, trivial⟩ (LE.cu (by omega) (by omega) (ch_at_343 od A h0 x _ _ H))
  · refine LE.tswN (k := 12) (tgt := 343) dL_changes_20 (by decide) (by decide) rfl (by decide) ?_
    exact LE.ofA (L' := [(2, .int _), (0, .ref 0), (1, .int x)]) ⟨rfl, rfl, rfl, trivial⟩ (LE.cu (by omega) (by omega) (ch_at_343 od A h0 x _ _ H))
  · refine LE.tswN (k := 13) (tgt := 357) dL_changes_20 (by decide) (by decide) rfl (by decide) ?_
    exact LE.ofA (L' := [(2, .int _), (0, .ref 0), (1, .int x)]) ⟨rfl, rfl, rfl, trivial⟩ (LE.cu (by omega) (by omega) (ch_at_357 od A h0 x _ _ H))
  · refine LE.tswN (k := 14) (tgt := 380) dL_changes_20 (by decide) (by decide) rfl (by decide) ?_
    exact LE.ofA (L' := [(2, .int _), (0, .ref 0), (1, .int x)]) ⟨rfl, rfl, rfl, trivial⟩ (LE.cu (by omega) (by omega) (ch_at_380 od A h0 x _ _ H))
  · refine LE.tswO (tgt := 401) dL_changes_20 (Or.inr (by decide)) (by decide) ?_
    exact LE.ofA (L' := [(2, .int _), (0, .ref 0), (1, .int x)]) ⟨rfl, rfl, rfl, trivial⟩ (LE.cu (by omega) (by omega) (ch_at_401 od A h0 x _ _ H))
