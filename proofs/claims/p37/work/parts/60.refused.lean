/-! refused -/
section WERD
variable {M M' : MT} {pc n idx : Nat} {L : List (Nat × Value)} {st : List Value} {σ : SS} {cu su : Nat} {G : GT}
theorem va_ldcSW {p : Program} {l : Launch} {e : Env} {R : Room} {s : State} {m : MethodId} {args : Array Value} {below : List Frame} {meth : Method} {c : Code} {H : Heap} {locs : List Loc} {cells slots : Nat} {Q : State → Prop} {cc : ByteArray} {ls : Array Slot} {rest : List Value} (hexec : p.tables.exec = Jvm.exec) (hb : c.code = cc) {own tx : String} {index q : Nat} (hown : s.vm.findClass own = some m.cls) (hZ : vk_R own index tx q s) (hdg : decode cc pc = .ok (.ldc_w index, 3))
    (k : W p l e R s m args below meth c H locs cells slots Q (F0 m (pc + 3) ls (.ref q :: rest))) : W p l e R s m args below meth c H locs cells slots Q (F0 m pc ls rest) := by
  intro T hT X
  obtain ⟨t, a1, b1⟩ := k T hT X
  exact ⟨t, X.ldcStringW hexec hown (text := tx) (a := q) hZ.1 hZ.2 (g := F0 m pc ls rest) rfl (by rw [hb]; exact hdg) t a1, b1⟩
/-- reads of a text that stands at sa -/
theorem WE.readsAt {bs : List Int32} {p9 : Int32 → SS → Prop} (hd : decode (mtC M) pc = .ok (.invokestatic idx, 3)) (hn : pc + 3 = n) (cv : CSL (mtY M).cls idx mL_reads 2) (hR : rC M mL_reads cu su) (hst : (st.map fun v => v.category).sum ≤ 8) (hM : CX (SE bs) mL_reads [.ref 0, .ref SP] σ (PI p9))
    (kk : ∀ r σ', p9 r σ' → WE M n L (.int r :: st) σ' (cu + 60) (su + 360) G)
    {l : Launch} {D : va_G} {aC : Nat → ClassId} {z : Nat} {p : Program} {e : Env} {s : State} {m : MethodId} {args : Array Value} {below : List Frame} {meth : Method} {c : Code} {H : Heap} {locs : List Loc} {ls : Array Slot}
    (C : Cx l M D aC z p s m args meth c) (hP : va_P D vwc (wl z aC σ) H) (hS : va_S (AA z s.heap.size) s.heap H locs) (hl : lv_has ls (mtL M) (trL z L))
    {sa va : Nat} (hT : ∀ U : State, U.heap = H → s.WarmedH U.vm → vk_S 1 [bs.length] [bs] (fun _ => sa) (fun _ => va) (AA z U.heap.size) U U.heap) :
    W p l e (mtR M) s m args below meth c H locs cu su (G z D aC below args s) (F0 m pc ls (.ref sa :: .ref (z + 0) :: st.map (trv z))) := by
  subst hn
  obtain ⟨c1, c2, c4, c5, c6, c7⟩ := cv
  have hw := C.2.2.2.2.2.2.1
  have hwM := wM_nil c6
  refine WE.ofRun (M' := mL_reads) (Q' := PI p9) (a := ([.ref 0, .ref SP].map (trw z sa 0)).toArray) C hS hl ?_ (fun v s h => by obtain ⟨r, h1, h2⟩ := h; cases h1; exact kk r s h2) (fun E s h => by obtain ⟨r, h1, h2⟩ := h; cases h1)
  have hr := va_runS (As := [.ref 0, .ref SP].map (trw z sa 0)) (rest := st.map (trv z)) (Ts := WG) (own := (mtY M).cls) (n := 2) (bytes := mtC mL_reads) (maxL := mtL mL_reads) (ret := mtT mL_reads) (e := e) (l := l) (R := mtR M) (below := below) (meth := meth) (H := H) (locs := locs) (cells := cu) (slots := su) (g := F0 m pc ls (.ref sa :: .ref (z + 0) :: st.map (trv z))) ⟨C.2.1, C.2.2.1, C.2.2.2.1, C.2.2.2.2.2.1, hw⟩ (hM l D aC z H.size sa C.1)
    ⟨⟨rfl, rfl, hR.1.1, hR.1.2, pay_in hw (WG_in c5), by rw [hwM]; exact List.mem_cons_self, by rw [← hwM]; exact hw _ c5, hw _ c4, ⟨c7.1, c7.2.1⟩, fun sig h => by
      have h2 := c7.2.2
      rw [h] at h2
      exact (Option.some.inj h2).symm, hw _ c1⟩, hw _ c2⟩
    ⟨CX.blind SE.eb, fun U hU hW => ⟨rfl, SW.at C hP hS hU hW, va, hT U hU hW⟩⟩ rfl rfl hl.1 rfl (by
      show 2 * 0 + _ ≤ 8
      rw [cat_trv]
      omega) hd hR.2
  intro T hT X
  exact Or.inl (hr T hT X)
/-- reads of a literal -/
theorem WE.readsL (q : Nat × String × List Int32) (hq : q ∈ LitL) (hown : (mtY M).cls = "SiegePostLaw") {p9 : Int32 → SS → Prop} (hd0 : decode (mtC M) pc = .ok (.ldc_w q.1, 3)) (hd : decode (mtC M) (pc + 3) = .ok (.invokestatic idx, 3)) (hn : pc + 6 = n) (cv : CSL (mtY M).cls idx mL_reads 2) (hR : rC M mL_reads cu su) (hst : (st.map fun v => v.category).sum ≤ 8) (hM : CX (SE q.2.2) mL_reads [.ref 0, .ref SP] σ (PI p9))
    (kk : ∀ r σ', p9 r σ' → WE M n L (.int r :: st) σ' (cu + 60) (su + 360) G) : WE M pc L (.ref 0 :: st) σ cu su G := by
  subst hn
  intro l D aC z p e s m args below meth c H locs ls C hP hS hl
  obtain ⟨sa, va, h1, h2⟩ := C.2.2.2.2.2.2.2.2.2.1.2.2.2.2.2 q hq
  refine va_ldcSW (own := "SiegePostLaw") (tx := q.2.1) C.2.1 C.2.2.1 (hown ▸ C.2.2.2.2.2.1) h1 hd0 ?_
  refine WE.readsAt (M := M) (va := va) hd rfl cv hR hst hM kk C hP hS hl (fun U hU hW => ?_)
  rw [hU]
  exact vk_S.moved hW.alike ((h2.kept hS.2.1).narrow (AA_in hS))
theorem WE.S1L {v0 : Value} {od : Int64 × UInt64} {A : AS} {v : Int64} (hd : decode (mtC M) pc = .ok (.invokestatic idx, 3)) (hn : pc + 3 = n) (cv : CSL (mtY M).cls idx M' 1) (hR : rC M M' cu su) (hst : (st.map fun v => v.category).sum ≤ 8) (hM : CM M' [v0] σ (LQ od A v)) (kk : ∀ c', CA c' A → WE M n L (.long v :: st) (c', od) (cu + (mtR M').cells) (su + (mtR M').slots) G) : WE M pc L (v0 :: st) σ cu su G :=
  WE.callS (M' := M') [v0] hd hn cv rfl hR hst hM (fun v s h => by obtain ⟨c', h1, rfl, h2⟩ := h; cases h1; exact kk c' h2) (fun E s h => by obtain ⟨c', h1, h2⟩ := h; cases h1)
end WERD
theorem R44.nb {N : NA} (h : R44 N) : nbN N = 4 := by
  unfold nbN
  rw [h.1]
  rfl
theorem lg_self (x : Int64) : lg_cmp x x = 0 := by
  unfold lg_cmp
  first
    | simp
    | (split <;> simp_all)
theorem bl_q : BL [113] := ⟨by decide, fun k hk => ⟨113, by decide, by
  have : k = 0 := by
    have hk : k < 1 := hk
    omega
  subst this
  rfl⟩⟩
theorem bl_h : BL [104, 49, 59, 104, 48] := ⟨by decide, fun k hk => by
  have hk : k < 5 := hk
  rcases (show k = 0 ∨ k = 1 ∨ k = 2 ∨ k = 3 ∨ k = 4 by omega) with rfl | rfl | rfl | rfl | rfl
  · exact ⟨104, by decide, rfl⟩
  · exact ⟨49, by decide, rfl⟩
  · exact ⟨59, by decide, rfl⟩
  · exact ⟨104, by decide, rfl⟩
  · exact ⟨48, by decide, rfl⟩⟩
theorem ps_q (t : NA) : pSeq (tW t [113] 1) 1 20 0 = (0, none) := rfl
theorem num1 {T : NA} {n p : Nat} {v : Int32} (hp : p < n) (e : T p = v) (hv : nI 48 ≤ v ∧ v ≤ nI 57) (h2 : ¬ isDg T n (p + 1)) : pNum T n p = (p + 1, some (v - nI 48)) := by
  unfold pNum
  rw [if_pos ⟨hp, by rw [e]; exact hv.1, by rw [e]; exact hv.2⟩, if_neg h2, e]
theorem ord_h {T : NA} {n p q : Nat} {v : Int32} (hp : p < n) (e : T p = nI 104) (hR : pNum T n (p + 1) = (q, some v)) : pOrd T n p = (q, some (nI 104, v, nI 0, nI 0)) := by
  unfold pOrd
  rw [if_pos hp, e, if_neg (by decide), if_neg (by decide), if_neg (by decide), if_neg (by decide), if_neg (by decide), if_pos rfl, hR]
  rfl
theorem ps_h (t : NA) : pSeq (tW t [104, 49, 59, 104, 48] 5) 5 20 0 = (5, some [(nI 104, nI 1, nI 0, nI 0), (nI 104, nI 0, nI 0, nI 0)]) := by
  have T0 : tW t [104, 49, 59, 104, 48] 5 0 = nI 104 := rfl
  have T1 : tW t [104, 49, 59, 104, 48] 5 1 = nI 49 := rfl
  have T2 : tW t [104, 49, 59, 104, 48] 5 2 = nI 59 := rfl
  have T3 : tW t [104, 49, 59, 104, 48] 5 3 = nI 104 := rfl
  have T4 : tW t [104, 49, 59, 104, 48] 5 4 = nI 48 := rfl
  generalize tW t [104, 49, 59, 104, 48] 5 = T at *
  have o1 : pOrd T 5 0 = (2, some (nI 104, nI 1, nI 0, nI 0)) := ord_h (by decide) T0 (num1 (by decide) T1 (by decide) (fun q => absurd q.2.2 (by rw [T2]; decide)))
  have o2 : pOrd T 5 3 = (5, some (nI 104, nI 0, nI 0, nI 0)) := ord_h (by decide) T3 (num1 (by decide) T4 (by decide) (fun q => absurd q.1 (by decide)))
  have s2 : pSeq T 5 19 3 = (5, some [(nI 104, nI 0, nI 0, nI 0)]) := by
    rw [pSeq_end (f := 18) (o := (nI 104, nI 0, nI 0, nI 0)) (by rw [o2]) (by rw [o2]; decide), o2]
  rw [pSeq_more (f := 19) (o := (nI 104, nI 1, nI 0, nI 0)) (by rw [o1]) (by rw [o1]; decide) (by rw [o1]; exact T2), o1]
  show ((pSeq T 5 19 3).1, (pSeq T 5 19 3).2.map _) = _
  rw [s2]
  rfl
theorem ex_h (N : NA) : ∃ k, exL N [(nI 104, nI 1, nI 0, nI 0), (nI 104, nI 0, nI 0, nI 0)] = .inr (.inr k) := by
  have e1 : S_ord N (nI 104, nI 1, nI 0, nI 0) = S_passes N (nI 1) := rfl
  have e2 : ∀ M : NA, S_ord M (nI 104, nI 0, nI 0, nI 0) = .inr (.inr 1) := fun M => by
    have : S_ord M (nI 104, nI 0, nI 0, nI 0) = S_passes M (nI 0) := rfl
    rw [this]
    unfold S_passes
    exact if_neg (by decide)
  refine ⟨1, ?_⟩
  unfold exL
  rw [e1]
  unfold S_passes
  rw [if_pos (by decide)]
  show exL _ [(nI 104, nI 0, nI 0, nI 0)] = _
  unfold exL
  rw [e2]
theorem sd_none {A : AS} {q : Nat} (h : pSeq A.2.2.2.2.1 A.2.2.2.1 20 0 = (q, none)) : stepD A = (1, nI 0, (A.1, A.2.1, A.2.2.1, 0, A.2.2.2.2.1, nI q, A.2.2.2.2.2.2)) := by
  unfold stepD
  rw [h]
theorem sd_thr {A : AS} {q k : Nat} {os : List Ord} (h : pSeq A.2.2.2.2.1 A.2.2.2.1 20 0 = (q, some os)) (h2 : exL A.1 os = .inr (.inr k)) : stepD A = (1, nI 0, (A.1, A.2.1, A.2.2.1, 0, A.2.2.2.2.1, (-1 : Int32), A.2.2.2.2.2.2)) := by
  unfold stepD
  rw [h]
  dsimp only
  rw [h2]
theorem sd_q (A : AS) : stepD (AR A [113] 1) = (1, nI 0, (A.1, A.2.1, A.2.2.1, 0, tW A.2.2.2.2.1 [113] 1, nI 0, A.2.2.2.2.2.2)) := sd_none (A := AR A [113] 1) (ps_q _)
theorem sd_h (A : AS) : stepD (AR A [104, 49, 59, 104, 48] 5) = (1, nI 0, (A.1, A.2.1, A.2.2.1, 0, tW A.2.2.2.2.1 [104, 49, 59, 104, 48] 5, (-1 : Int32), A.2.2.2.2.2.2)) := by
  obtain ⟨k, hk⟩ := ex_h A.1
  exact sd_thr (A := AR A [104, 49, 59, 104, 48] 5) (ps_h _) hk
abbrev mL_refused : MT := (yL_refused, cL_refused, 6, some .boolean, { frames := 10, cells := 1500, slots := 9000, locals := 320 }, [])
theorem ch_L_257 : CSL RL 257 mL_asks 1 := ⟨g_960, g_961, g_20, g_962, rfl, ⟨by decide +kernel, by decide +kernel, by decide +kernel⟩⟩
theorem ch_L_218 : CHL RL 218 mL_load 3 := ⟨g_536, g_537, g_20, g_538, rfl, ⟨by decide +kernel, by decide +kernel, by decide +kernel⟩⟩
theorem ch_L_220 : CHL RL 220 mL_loadAll 2 := ⟨g_563, g_564, g_20, g_565, rfl, ⟨by decide +kernel, by decide +kernel, by decide +kernel⟩⟩
theorem ch_L_222 : CHL RL 222 mL_launch 2 := ⟨g_579, g_580, g_20, g_581, rfl, ⟨by decide +kernel, by decide +kernel, by decide +kernel⟩⟩
theorem ch_L_224 : CHL RL 224 mL_drop 3 := ⟨g_1029, g_1030, g_20, g_1031, rfl, ⟨by decide +kernel, by decide +kernel, by decide +kernel⟩⟩
theorem ch_L_226 : CHL RL 226 mL_pass 2 := ⟨g_594, g_595, g_20, g_596, rfl, ⟨by decide +kernel, by decide +kernel, by decide +kernel⟩⟩
theorem ch_L_253 : CSL RL 253 mL_reads 2 := ⟨g_1277, g_1278, g_20, g_1279, rfl, ⟨by decide +kernel, by decide +kernel, by decide +kernel⟩⟩
theorem cv_L_263 : CVL RL 263 mX5_errorPosition 5 0 := ⟨g_290, g_291, g_292, g_21, g_293, rfl, ⟨by decide +kernel, by decide +kernel, by decide +kernel⟩, rfl, by decide⟩
set_option maxRecDepth 20000 in
set_option maxHeartbeats 4000000 in
theorem c_refused (c : CC) (od : Int64 × UInt64) (A : AS) (H : CA c A) (hR : R44 A.1) (h0 : A.2.2.2.1 = 0) : CM mL_refused [.ref 0] (c, od) (PI fun r σ' => r = nI 1 ∧ ∃ c' t e, σ' = (c', od) ∧ CA c' (A.1, A.2.1, A.2.2.1, 0, t, e, A.2.2.2.2.2.2)) := by
  have hB := isB44 hR
  have hL := isL44 hR
  refine CM.of [(0, .ref 0)] rfl (by decide +kernel) rfl (Nat.le_of_ble_eq_true rfl) ?_
  refine WE.aload_n (n := 1) dL_refused_0 rfl rfl ?_
  refine WE.S1L (M' := mL_asks) (n := 4) dL_refused_1 rfl ch_L_257 ⟨⟨by decide, by decide⟩, (by show 0 + 500 ≤ 1500; omega), (by show 0 + 3000 ≤ 9000; omega)⟩ (Nat.le_of_ble_eq_true rfl) (c_asks _ od A H) (fun c1 H => ?_)
  refine WE.cu (cu' := 500) (su' := 3000) (by show 0 + 500 = _; omega) (by show 0 + 3000 = _; omega) ?_
  refine WE.lstore_n (n := 5) dL_refused_4 rfl (by decide) ?_
  refine WE.aload_n (n := 6) dL_refused_5 rfl rfl ?_
  refine WE.iconst (n := 7) (nI 3) dL_refused_6 rfl (by decide) ?_
  refine WE.H2PI (M' := mL_account) (n := 10) dL_refused_7 rfl ch_L_192 ⟨⟨by decide, by decide⟩, (by show 500 + 1 ≤ 1500; omega), (by show 3000 + 6 ≤ 9000; omega)⟩ (Nat.le_of_ble_eq_true rfl) (y_account _ od A H _) (fun r7 σ7 q7 => ?_)
  obtain ⟨c7, rfl, H, rfl⟩ := q7
  rw [acc3 H.1, hR.nb]
  refine WE.cu (cu' := 501) (su' := 3006) (by show 500 + 1 = _; omega) (by show 3000 + 6 = _; omega) ?_
  refine WE.istore_n (n := 11) dL_refused_10 rfl (by decide) ?_
  refine WE.aload_n (n := 12) dL_refused_11 rfl rfl ?_
  refine WE.bipush (n := 14) (nI 8) dL_refused_12 rfl (by decide) ?_
  refine WE.H2PI (M' := mL_account) (n := 17) dL_refused_14 rfl ch_L_192 ⟨⟨by decide, by decide⟩, (by show 501 + 1 ≤ 1500; omega), (by show 3006 + 6 ≤ 9000; omega)⟩ (Nat.le_of_ble_eq_true rfl) (y_account _ od A H _) (fun r14 σ14 q14 => ?_)
  obtain ⟨c14, rfl, H, rfl⟩ := q14
  rw [acc8 H.1, hR.nl]
  refine WE.cu (cu' := 502) (su' := 3012) (by show 501 + 1 = _; omega) (by show 3006 + 6 = _; omega) ?_
  refine WE.istore (n := 19) dL_refused_17 rfl (by decide) ?_
  refine WE.aload_n (n := 20) dL_refused_19 rfl rfl ?_
  refine WE.iconst (n := 21) (nI 0) dL_refused_20 rfl (by decide) ?_
  refine WE.H2PI (M' := mL_ring) (n := 24) dL_refused_21 rfl ch_L_156 ⟨⟨by decide, by decide⟩, (by show 502 + 1 ≤ 1500; omega), (by show 3012 + 6 ≤ 9000; omega)⟩ (Nat.le_of_ble_eq_true rfl) (HPc.thr 0 (x_ring _ od A H _) (by unfold S_ring; rw [if_neg (by decide)])) (fun r21 σ21 q21 => ?_)
  obtain ⟨c21, rfl, H, rfl⟩ := q21
  refine WE.cu (cu' := 503) (su' := 3018) (by show 502 + 1 = _; omega) (by show 3012 + 6 = _; omega) ?_
  refine WE.sipush (n := 27) ((-1001 : Int32)) dL_refused_24 rfl (by decide) ?_
  refine WE.icmp_ne (n := 30) (tgt := 299) dL_refused_27 rfl (by decide) (fun h27 => ?_) (fun h27 => ?_)
  · first | exact absurd rfl h27 | exact absurd h27 (by decide)
  refine WE.aload_n (n := 31) dL_refused_30 rfl rfl ?_
  refine WE.bipush (n := 33) (nI 16) dL_refused_31 rfl (by decide) ?_
  refine WE.H2PI (M' := mL_ring) (n := 36) dL_refused_33 rfl ch_L_156 ⟨⟨by decide, by decide⟩, (by show 503 + 1 ≤ 1500; omega), (by show 3018 + 6 ≤ 9000; omega)⟩ (Nat.le_of_ble_eq_true rfl) (HPc.thr 0 (x_ring _ od A H _) (by unfold S_ring; rw [if_neg (by decide)])) (fun r33 σ33 q33 => ?_)
  obtain ⟨c33, rfl, H, rfl⟩ := q33
  refine WE.cu (cu' := 504) (su' := 3024) (by show 503 + 1 = _; omega) (by show 3018 + 6 = _; omega) ?_
  refine WE.sipush (n := 39) ((-1001 : Int32)) dL_refused_36 rfl (by decide) ?_
  refine WE.icmp_ne (n := 42) (tgt := 299) dL_refused_39 rfl (by decide) (fun h39 => ?_) (fun h39 => ?_)
  · first | exact absurd rfl h39 | exact absurd h39 (by decide)
  refine WE.aload_n (n := 43) dL_refused_42 rfl rfl ?_
  refine WE.bipush (n := 45) (nI 6) dL_refused_43 rfl (by decide) ?_
  refine WE.bipush (n := 47) (nI 9) dL_refused_45 rfl (by decide) ?_
  refine WE.iconst (n := 48) (nI 0) dL_refused_47 rfl (by decide) ?_
  refine WE.H4PI (M' := mL_wind) (n := 51) dL_refused_48 rfl ch_L_158 ⟨⟨by decide, by decide⟩, (by show 504 + 1 ≤ 1500; omega), (by show 3024 + 6 ≤ 9000; omega)⟩ (Nat.le_of_ble_eq_true rfl) (HPc.thr 0 (x_wind _ od A H _ _ _) (by unfold S_blows; rw [if_neg (by decide)])) (fun r48 σ48 q48 => ?_)
  obtain ⟨c48, rfl, H, rfl⟩ := q48
  refine WE.cu (cu' := 505) (su' := 3030) (by show 504 + 1 = _; omega) (by show 3024 + 6 = _; omega) ?_
  refine WE.sipush (n := 54) ((-1001 : Int32)) dL_refused_51 rfl (by decide) ?_
  refine WE.icmp_ne (n := 57) (tgt := 299) dL_refused_54 rfl (by decide) (fun h54 => ?_) (fun h54 => ?_)
  · first | exact absurd rfl h54 | exact absurd h54 (by decide)
  refine WE.aload_n (n := 58) dL_refused_57 rfl rfl ?_
  refine WE.iconst (n := 59) ((-1 : Int32)) dL_refused_58 rfl (by decide) ?_
  refine WE.iconst (n := 60) (nI 0) dL_refused_59 rfl (by decide) ?_
  refine WE.iconst (n := 61) (nI 0) dL_refused_60 rfl (by decide) ?_
  refine WE.H4PI (M' := mL_wind) (n := 64) dL_refused_61 rfl ch_L_158 ⟨⟨by decide, by decide⟩, (by show 505 + 1 ≤ 1500; omega), (by show 3030 + 6 ≤ 9000; omega)⟩ (Nat.le_of_ble_eq_true rfl) (HPc.thr 0 (x_wind _ od A H _ _ _) (by unfold S_blows; rw [if_neg (by decide)])) (fun r61 σ61 q61 => ?_)
  obtain ⟨c61, rfl, H, rfl⟩ := q61
  refine WE.cu (cu' := 506) (su' := 3036) (by show 505 + 1 = _; omega) (by show 3030 + 6 = _; omega) ?_
  refine WE.sipush (n := 67) ((-1001 : Int32)) dL_refused_64 rfl (by decide) ?_
  refine WE.icmp_ne (n := 70) (tgt := 299) dL_refused_67 rfl (by decide) (fun h67 => ?_) (fun h67 => ?_)
  · first | exact absurd rfl h67 | exact absurd h67 (by decide)
  refine WE.aload_n (n := 71) dL_refused_70 rfl rfl ?_
  refine WE.iconst (n := 72) (nI 0) dL_refused_71 rfl (by decide) ?_
  refine WE.iconst (n := 73) (nI 4) dL_refused_72 rfl (by decide) ?_
  refine WE.iconst (n := 74) (nI 0) dL_refused_73 rfl (by decide) ?_
  refine WE.H4PI (M' := mL_wind) (n := 77) dL_refused_74 rfl ch_L_158 ⟨⟨by decide, by decide⟩, (by show 506 + 1 ≤ 1500; omega), (by show 3036 + 6 ≤ 9000; omega)⟩ (Nat.le_of_ble_eq_true rfl) (HPc.thr 1 (x_wind _ od A H _ _ _) (by unfold S_blows; rw [if_pos (by decide), if_neg (by decide)])) (fun r74 σ74 q74 => ?_)
  obtain ⟨c74, rfl, H, rfl⟩ := q74
  refine WE.cu (cu' := 507) (su' := 3042) (by show 506 + 1 = _; omega) (by show 3036 + 6 = _; omega) ?_
  refine WE.sipush (n := 80) ((-1002 : Int32)) dL_refused_77 rfl (by decide) ?_
  refine WE.icmp_ne (n := 83) (tgt := 299) dL_refused_80 rfl (by decide) (fun h80 => ?_) (fun h80 => ?_)
  · first | exact absurd rfl h80 | exact absurd h80 (by decide)
  refine WE.aload_n (n := 84) dL_refused_83 rfl rfl ?_
  refine WE.iconst (n := 85) (nI 0) dL_refused_84 rfl (by decide) ?_
  refine WE.bipush (n := 87) ((-4 : Int32)) dL_refused_85 rfl (by decide) ?_
  refine WE.iconst (n := 88) (nI 0) dL_refused_87 rfl (by decide) ?_
  refine WE.H4PI (M' := mL_wind) (n := 91) dL_refused_88 rfl ch_L_158 ⟨⟨by decide, by decide⟩, (by show 507 + 1 ≤ 1500; omega), (by show 3042 + 6 ≤ 9000; omega)⟩ (Nat.le_of_ble_eq_true rfl) (HPc.thr 1 (x_wind _ od A H _ _ _) (by unfold S_blows; rw [if_pos (by decide), if_neg (by decide)])) (fun r88 σ88 q88 => ?_)
  obtain ⟨c88, rfl, H, rfl⟩ := q88
  refine WE.cu (cu' := 508) (su' := 3048) (by show 507 + 1 = _; omega) (by show 3042 + 6 = _; omega) ?_
  refine WE.sipush (n := 94) ((-1002 : Int32)) dL_refused_91 rfl (by decide) ?_
  refine WE.icmp_ne (n := 97) (tgt := 299) dL_refused_94 rfl (by decide) (fun h94 => ?_) (fun h94 => ?_)
  · first | exact absurd rfl h94 | exact absurd h94 (by decide)
  refine WE.aload_n (n := 98) dL_refused_97 rfl rfl ?_
  refine WE.iconst (n := 99) (nI 0) dL_refused_98 rfl (by decide) ?_
  refine WE.iconst (n := 100) (nI 0) dL_refused_99 rfl (by decide) ?_
  refine WE.iconst (n := 101) (nI 4) dL_refused_100 rfl (by decide) ?_
  refine WE.H4PI (M' := mL_wind) (n := 104) dL_refused_101 rfl ch_L_158 ⟨⟨by decide, by decide⟩, (by show 508 + 1 ≤ 1500; omega), (by show 3048 + 6 ≤ 9000; omega)⟩ (Nat.le_of_ble_eq_true rfl) (HPc.thr 1 (x_wind _ od A H _ _ _) (by unfold S_blows; rw [if_pos (by decide), if_pos (by decide), if_neg (by decide)])) (fun r101 σ101 q101 => ?_)
  obtain ⟨c101, rfl, H, rfl⟩ := q101
  refine WE.cu (cu' := 509) (su' := 3054) (by show 508 + 1 = _; omega) (by show 3048 + 6 = _; omega) ?_
  refine WE.sipush (n := 107) ((-1002 : Int32)) dL_refused_104 rfl (by decide) ?_
  refine WE.icmp_ne (n := 110) (tgt := 299) dL_refused_107 rfl (by decide) (fun h107 => ?_) (fun h107 => ?_)
  · first | exact absurd rfl h107 | exact absurd h107 (by decide)
  refine WE.aload_n (n := 111) dL_refused_110 rfl rfl ?_
  refine WE.iconst (n := 112) (nI 0) dL_refused_111 rfl (by decide) ?_
  refine WE.iconst (n := 113) (nI 0) dL_refused_112 rfl (by decide) ?_
  refine WE.bipush (n := 115) ((-4 : Int32)) dL_refused_113 rfl (by decide) ?_
  refine WE.H4PI (M' := mL_wind) (n := 118) dL_refused_115 rfl ch_L_158 ⟨⟨by decide, by decide⟩, (by show 509 + 1 ≤ 1500; omega), (by show 3054 + 6 ≤ 9000; omega)⟩ (Nat.le_of_ble_eq_true rfl) (HPc.thr 1 (x_wind _ od A H _ _ _) (by unfold S_blows; rw [if_pos (by decide), if_pos (by decide), if_neg (by decide)])) (fun r115 σ115 q115 => ?_)
  obtain ⟨c115, rfl, H, rfl⟩ := q115
  refine WE.cu (cu' := 510) (su' := 3060) (by show 509 + 1 = _; omega) (by show 3054 + 6 = _; omega) ?_
  refine WE.sipush (n := 121) ((-1002 : Int32)) dL_refused_118 rfl (by decide) ?_
  refine WE.icmp_ne (n := 124) (tgt := 299) dL_refused_121 rfl (by decide) (fun h121 => ?_) (fun h121 => ?_)
  · first | exact absurd rfl h121 | exact absurd h121 (by decide)
  refine WE.aload_n (n := 125) dL_refused_124 rfl rfl ?_
  refine WE.iconst (n := 126) (nI 0) dL_refused_125 rfl (by decide) ?_
  refine WE.H2PI (M' := mL_gas) (n := 129) dL_refused_126 rfl ch_L_146 ⟨⟨by decide, by decide⟩, (by show 510 + 1 ≤ 1500; omega), (by show 3060 + 6 ≤ 9000; omega)⟩ (Nat.le_of_ble_eq_true rfl) (HPc.thr 0 (x_gas _ od A H _) (by unfold S_gas; rw [if_neg (by decide)])) (fun r126 σ126 q126 => ?_)
  obtain ⟨c126, rfl, H, rfl⟩ := q126
  refine WE.cu (cu' := 511) (su' := 3066) (by show 510 + 1 = _; omega) (by show 3060 + 6 = _; omega) ?_
  refine WE.sipush (n := 132) ((-1001 : Int32)) dL_refused_129 rfl (by decide) ?_
  refine WE.icmp_ne (n := 135) (tgt := 299) dL_refused_132 rfl (by decide) (fun h132 => ?_) (fun h132 => ?_)
  · first | exact absurd rfl h132 | exact absurd h132 (by decide)
  refine WE.aload_n (n := 136) dL_refused_135 rfl rfl ?_
  refine WE.sipush (n := 139) (nI 1000) dL_refused_136 rfl (by decide) ?_
  refine WE.H2PI (M' := mL_gas) (n := 142) dL_refused_139 rfl ch_L_146 ⟨⟨by decide, by decide⟩, (by show 511 + 1 ≤ 1500; omega), (by show 3066 + 6 ≤ 9000; omega)⟩ (Nat.le_of_ble_eq_true rfl) (HPc.thr 0 (x_gas _ od A H _) (by unfold S_gas; rw [if_neg (by decide)])) (fun r139 σ139 q139 => ?_)
  obtain ⟨c139, rfl, H, rfl⟩ := q139
  refine WE.cu (cu' := 512) (su' := 3072) (by show 511 + 1 = _; omega) (by show 3066 + 6 = _; omega) ?_
  refine WE.sipush (n := 145) ((-1001 : Int32)) dL_refused_142 rfl (by decide) ?_
  refine WE.icmp_ne (n := 148) (tgt := 299) dL_refused_145 rfl (by decide) (fun h145 => ?_) (fun h145 => ?_)
  · first | exact absurd rfl h145 | exact absurd h145 (by decide)
  refine WE.aload_n (n := 149) dL_refused_148 rfl rfl ?_
  refine WE.bipush (n := 151) (nI 9) dL_refused_149 rfl (by decide) ?_
  refine WE.H2PI (M' := mL_balloon) (n := 154) dL_refused_151 rfl ch_L_161 ⟨⟨by decide, by decide⟩, (by show 512 + 1 ≤ 1500; omega), (by show 3072 + 6 ≤ 9000; omega)⟩ (Nat.le_of_ble_eq_true rfl) (HPc.thr 0 (x_balloon _ od A H _) (by unfold S_balloon; rw [if_neg (by decide)])) (fun r151 σ151 q151 => ?_)
  obtain ⟨c151, rfl, H, rfl⟩ := q151
  refine WE.cu (cu' := 513) (su' := 3078) (by show 512 + 1 = _; omega) (by show 3072 + 6 = _; omega) ?_
  refine WE.sipush (n := 157) ((-1001 : Int32)) dL_refused_154 rfl (by decide) ?_
  refine WE.icmp_ne (n := 160) (tgt := 299) dL_refused_157 rfl (by decide) (fun h157 => ?_) (fun h157 => ?_)
  · first | exact absurd rfl h157 | exact absurd h157 (by decide)
  refine WE.aload_n (n := 161) dL_refused_160 rfl rfl ?_
  refine WE.bipush (n := 163) (nI 100) dL_refused_161 rfl (by decide) ?_
  refine WE.H2PI (M' := mL_balloon) (n := 166) dL_refused_163 rfl ch_L_161 ⟨⟨by decide, by decide⟩, (by show 513 + 1 ≤ 1500; omega), (by show 3078 + 6 ≤ 9000; omega)⟩ (Nat.le_of_ble_eq_true rfl) (HPc.thr 0 (x_balloon _ od A H _) (by unfold S_balloon; rw [if_neg (by decide)])) (fun r163 σ163 q163 => ?_)
  obtain ⟨c163, rfl, H, rfl⟩ := q163
  refine WE.cu (cu' := 514) (su' := 3084) (by show 513 + 1 = _; omega) (by show 3078 + 6 = _; omega) ?_
  refine WE.sipush (n := 169) ((-1001 : Int32)) dL_refused_166 rfl (by decide) ?_
  refine WE.icmp_ne (n := 172) (tgt := 299) dL_refused_169 rfl (by decide) (fun h169 => ?_) (fun h169 => ?_)
  · first | exact absurd rfl h169 | exact absurd h169 (by decide)
  refine WE.aload_n (n := 173) dL_refused_172 rfl rfl ?_
  refine WE.iload_n (n := 174) dL_refused_173 rfl rfl ?_
  refine WE.iconst (n := 175) (nI 0) dL_refused_174 rfl (by decide) ?_
  refine WE.H3PI (M' := mL_fill) (n := 178) dL_refused_175 rfl ch_L_163 ⟨⟨by decide, by decide⟩, (by show 514 + 1 ≤ 1500; omega), (by show 3084 + 6 ≤ 9000; omega)⟩ (Nat.le_of_ble_eq_true rfl) (HPc.thr 0 (x_fill _ od A H _ _) (by unfold S_fills; rw [if_neg hB.1])) (fun r175 σ175 q175 => ?_)
  obtain ⟨c175, rfl, H, rfl⟩ := q175
  refine WE.cu (cu' := 515) (su' := 3090) (by show 514 + 1 = _; omega) (by show 3084 + 6 = _; omega) ?_
  refine WE.sipush (n := 181) ((-1001 : Int32)) dL_refused_178 rfl (by decide) ?_
  refine WE.icmp_ne (n := 184) (tgt := 299) dL_refused_181 rfl (by decide) (fun h181 => ?_) (fun h181 => ?_)
  · first | exact absurd rfl h181 | exact absurd h181 (by decide)
  refine WE.aload_n (n := 185) dL_refused_184 rfl rfl ?_
  refine WE.iconst (n := 186) ((-1 : Int32)) dL_refused_185 rfl (by decide) ?_
  refine WE.iconst (n := 187) (nI 1) dL_refused_186 rfl (by decide) ?_
  refine WE.H3PI (M' := mL_fill) (n := 190) dL_refused_187 rfl ch_L_163 ⟨⟨by decide, by decide⟩, (by show 515 + 1 ≤ 1500; omega), (by show 3090 + 6 ≤ 9000; omega)⟩ (Nat.le_of_ble_eq_true rfl) (HPc.thr 0 (x_fill _ od A H _ _) (by unfold S_fills; rw [if_neg hB.2.1])) (fun r187 σ187 q187 => ?_)
  obtain ⟨c187, rfl, H, rfl⟩ := q187
  refine WE.cu (cu' := 516) (su' := 3096) (by show 515 + 1 = _; omega) (by show 3090 + 6 = _; omega) ?_
  refine WE.sipush (n := 193) ((-1001 : Int32)) dL_refused_190 rfl (by decide) ?_
  refine WE.icmp_ne (n := 196) (tgt := 299) dL_refused_193 rfl (by decide) (fun h193 => ?_) (fun h193 => ?_)
  · first | exact absurd rfl h193 | exact absurd h193 (by decide)
  refine WE.aload_n (n := 197) dL_refused_196 rfl rfl ?_
  refine WE.iconst (n := 198) (nI 0) dL_refused_197 rfl (by decide) ?_
  refine WE.iconst (n := 199) (nI 0) dL_refused_198 rfl (by decide) ?_
  refine WE.H3PI (M' := mL_fill) (n := 202) dL_refused_199 rfl ch_L_163 ⟨⟨by decide, by decide⟩, (by show 516 + 1 ≤ 1500; omega), (by show 3096 + 6 ≤ 9000; omega)⟩ (Nat.le_of_ble_eq_true rfl) (HPc.thr 1 (x_fill _ od A H _ _) (by unfold S_fills; rw [if_pos hB.2.2, if_neg (by decide)])) (fun r199 σ199 q199 => ?_)
  obtain ⟨c199, rfl, H, rfl⟩ := q199
  refine WE.cu (cu' := 517) (su' := 3102) (by show 516 + 1 = _; omega) (by show 3096 + 6 = _; omega) ?_
  refine WE.sipush (n := 205) ((-1002 : Int32)) dL_refused_202 rfl (by decide) ?_
  refine WE.icmp_ne (n := 208) (tgt := 299) dL_refused_205 rfl (by decide) (fun h205 => ?_) (fun h205 => ?_)
  · first | exact absurd rfl h205 | exact absurd h205 (by decide)
  refine WE.aload_n (n := 209) dL_refused_208 rfl rfl ?_
  refine WE.iconst (n := 210) (nI 0) dL_refused_209 rfl (by decide) ?_
  refine WE.bipush (n := 212) (nI 100) dL_refused_210 rfl (by decide) ?_
  refine WE.H3PI (M' := mL_fill) (n := 215) dL_refused_212 rfl ch_L_163 ⟨⟨by decide, by decide⟩, (by show 517 + 1 ≤ 1500; omega), (by show 3102 + 6 ≤ 9000; omega)⟩ (Nat.le_of_ble_eq_true rfl) (HPc.thr 1 (x_fill _ od A H _ _) (by unfold S_fills; rw [if_pos hB.2.2, if_neg (by decide)])) (fun r212 σ212 q212 => ?_)
  obtain ⟨c212, rfl, H, rfl⟩ := q212
  refine WE.cu (cu' := 518) (su' := 3108) (by show 517 + 1 = _; omega) (by show 3102 + 6 = _; omega) ?_
  refine WE.sipush (n := 218) ((-1002 : Int32)) dL_refused_215 rfl (by decide) ?_
  refine WE.icmp_ne (n := 221) (tgt := 299) dL_refused_218 rfl (by decide) (fun h218 => ?_) (fun h218 => ?_)
  · first | exact absurd rfl h218 | exact absurd h218 (by decide)
  refine WE.aload_n (n := 222) dL_refused_221 rfl rfl ?_
  refine WE.iload_n (n := 223) dL_refused_222 rfl rfl ?_
  refine WE.iconst (n := 224) (nI 0) dL_refused_223 rfl (by decide) ?_
  refine WE.H3PI (M' := mL_ballast) (n := 227) dL_refused_224 rfl ch_L_166 ⟨⟨by decide, by decide⟩, (by show 518 + 1 ≤ 1500; omega), (by show 3108 + 6 ≤ 9000; omega)⟩ (Nat.le_of_ble_eq_true rfl) (HPc.thr 0 (x_ballast _ od A H _ _) (by unfold S_lays; rw [if_neg hB.1])) (fun r224 σ224 q224 => ?_)
  obtain ⟨c224, rfl, H, rfl⟩ := q224
  refine WE.cu (cu' := 519) (su' := 3114) (by show 518 + 1 = _; omega) (by show 3108 + 6 = _; omega) ?_
  refine WE.sipush (n := 230) ((-1001 : Int32)) dL_refused_227 rfl (by decide) ?_
  refine WE.icmp_ne (n := 233) (tgt := 299) dL_refused_230 rfl (by decide) (fun h230 => ?_) (fun h230 => ?_)
  · first | exact absurd rfl h230 | exact absurd h230 (by decide)
  refine WE.aload_n (n := 234) dL_refused_233 rfl rfl ?_
  refine WE.iconst (n := 235) (nI 0) dL_refused_234 rfl (by decide) ?_
  refine WE.iconst (n := 236) (nI 0) dL_refused_235 rfl (by decide) ?_
  refine WE.H3PI (M' := mL_ballast) (n := 239) dL_refused_236 rfl ch_L_166 ⟨⟨by decide, by decide⟩, (by show 519 + 1 ≤ 1500; omega), (by show 3114 + 6 ≤ 9000; omega)⟩ (Nat.le_of_ble_eq_true rfl) (HPc.thr 1 (x_ballast _ od A H _ _) (by unfold S_lays; rw [if_pos hB.2.2, if_neg (by decide)])) (fun r236 σ236 q236 => ?_)
  obtain ⟨c236, rfl, H, rfl⟩ := q236
  refine WE.cu (cu' := 520) (su' := 3120) (by show 519 + 1 = _; omega) (by show 3114 + 6 = _; omega) ?_
  refine WE.sipush (n := 242) ((-1002 : Int32)) dL_refused_239 rfl (by decide) ?_
  refine WE.icmp_ne (n := 245) (tgt := 299) dL_refused_242 rfl (by decide) (fun h242 => ?_) (fun h242 => ?_)
  · first | exact absurd rfl h242 | exact absurd h242 (by decide)
  refine WE.aload_n (n := 246) dL_refused_245 rfl rfl ?_
  refine WE.iconst (n := 247) (nI 0) dL_refused_246 rfl (by decide) ?_
  refine WE.bipush (n := 249) (nI 51) dL_refused_247 rfl (by decide) ?_
  refine WE.H3PI (M' := mL_ballast) (n := 252) dL_refused_249 rfl ch_L_166 ⟨⟨by decide, by decide⟩, (by show 520 + 1 ≤ 1500; omega), (by show 3120 + 6 ≤ 9000; omega)⟩ (Nat.le_of_ble_eq_true rfl) (HPc.thr 1 (x_ballast _ od A H _ _) (by unfold S_lays; rw [if_pos hB.2.2, if_neg (by decide)])) (fun r249 σ249 q249 => ?_)
  obtain ⟨c249, rfl, H, rfl⟩ := q249
  refine WE.cu (cu' := 521) (su' := 3126) (by show 520 + 1 = _; omega) (by show 3120 + 6 = _; omega) ?_
  refine WE.sipush (n := 255) ((-1002 : Int32)) dL_refused_252 rfl (by decide) ?_
  refine WE.icmp_ne (n := 258) (tgt := 299) dL_refused_255 rfl (by decide) (fun h255 => ?_) (fun h255 => ?_)
  · first | exact absurd rfl h255 | exact absurd h255 (by decide)
  refine WE.aload_n (n := 259) dL_refused_258 rfl rfl ?_
  refine WE.iload_n (n := 260) dL_refused_259 rfl rfl ?_
  refine WE.iconst (n := 261) (nI 0) dL_refused_260 rfl (by decide) ?_
  refine WE.H3PI (M' := mL_courier) (n := 264) dL_refused_261 rfl ch_L_168 ⟨⟨by decide, by decide⟩, (by show 521 + 1 ≤ 1500; omega), (by show 3126 + 6 ≤ 9000; omega)⟩ (Nat.le_of_ble_eq_true rfl) (HPc.thr 0 (x_courier _ od A H _ _) (by unfold S_courier; rw [if_neg hB.1])) (fun r261 σ261 q261 => ?_)
  obtain ⟨c261, rfl, H, rfl⟩ := q261
  refine WE.cu (cu' := 522) (su' := 3132) (by show 521 + 1 = _; omega) (by show 3126 + 6 = _; omega) ?_
  refine WE.sipush (n := 267) ((-1001 : Int32)) dL_refused_264 rfl (by decide) ?_
  refine WE.icmp_ne (n := 270) (tgt := 299) dL_refused_267 rfl (by decide) (fun h267 => ?_) (fun h267 => ?_)
  · first | exact absurd rfl h267 | exact absurd h267 (by decide)
  refine WE.aload_n (n := 271) dL_refused_270 rfl rfl ?_
  refine WE.iconst (n := 272) (nI 0) dL_refused_271 rfl (by decide) ?_
  refine WE.iconst (n := 273) (nI 4) dL_refused_272 rfl (by decide) ?_
  refine WE.H3PI (M' := mL_courier) (n := 276) dL_refused_273 rfl ch_L_168 ⟨⟨by decide, by decide⟩, (by show 522 + 1 ≤ 1500; omega), (by show 3132 + 6 ≤ 9000; omega)⟩ (Nat.le_of_ble_eq_true rfl) (HPc.thr 1 (x_courier _ od A H _ _) (by unfold S_courier; rw [if_pos hB.2.2, if_neg (by decide)])) (fun r273 σ273 q273 => ?_)
  obtain ⟨c273, rfl, H, rfl⟩ := q273
  refine WE.cu (cu' := 523) (su' := 3138) (by show 522 + 1 = _; omega) (by show 3132 + 6 = _; omega) ?_
  refine WE.sipush (n := 279) ((-1002 : Int32)) dL_refused_276 rfl (by decide) ?_
  refine WE.icmp_ne (n := 282) (tgt := 299) dL_refused_279 rfl (by decide) (fun h279 => ?_) (fun h279 => ?_)
  · first | exact absurd rfl h279 | exact absurd h279 (by decide)
  refine WE.aload_n (n := 283) dL_refused_282 rfl rfl ?_
  refine WE.iconst (n := 284) (nI 0) dL_refused_283 rfl (by decide) ?_
  refine WE.bipush (n := 286) (nI 13) dL_refused_284 rfl (by decide) ?_
  refine WE.H3PI (M' := mL_courier) (n := 289) dL_refused_286 rfl ch_L_168 ⟨⟨by decide, by decide⟩, (by show 523 + 1 ≤ 1500; omega), (by show 3138 + 6 ≤ 9000; omega)⟩ (Nat.le_of_ble_eq_true rfl) (HPc.thr 1 (x_courier _ od A H _ _) (by unfold S_courier; rw [if_pos hB.2.2, if_neg (by decide)])) (fun r286 σ286 q286 => ?_)
  obtain ⟨c286, rfl, H, rfl⟩ := q286
  refine WE.cu (cu' := 524) (su' := 3144) (by show 523 + 1 = _; omega) (by show 3138 + 6 = _; omega) ?_
  refine WE.sipush (n := 292) ((-1002 : Int32)) dL_refused_289 rfl (by decide) ?_
  refine WE.icmp_ne (n := 295) (tgt := 299) dL_refused_292 rfl (by decide) (fun h292 => ?_) (fun h292 => ?_)
  · first | exact absurd rfl h292 | exact absurd h292 (by decide)
  refine WE.iconst (n := 296) (nI 1) dL_refused_295 rfl (by decide) ?_
  refine WE.goto (tgt := 300) dL_refused_296 (by decide) ?_
  refine WE.istore (n := 302) dL_refused_300 rfl (by decide) ?_
  refine WE.iload (n := 304) dL_refused_302 rfl rfl ?_
  refine WE.if_eq (n := 307) (tgt := 600) dL_refused_304 rfl (by decide) (fun h304 => ?_) (fun h304 => ?_)
  · first | exact absurd rfl h304 | exact absurd h304 (by decide)
  refine WE.aload_n (n := 308) dL_refused_307 rfl rfl ?_
  refine WE.iconst (n := 309) (nI 0) dL_refused_308 rfl (by decide) ?_
  refine WE.iconst (n := 310) (nI 0) dL_refused_309 rfl (by decide) ?_
  refine WE.H3PI (M' := mL_letter) (n := 313) dL_refused_310 rfl ch_L_170 ⟨⟨by decide, by decide⟩, (by show 524 + 1 ≤ 1500; omega), (by show 3144 + 6 ≤ 9000; omega)⟩ (Nat.le_of_ble_eq_true rfl) (HPc.thr 0 (x_letter _ od A H _ _) (by unfold S_letter; rw [if_neg (by decide)])) (fun r310 σ310 q310 => ?_)
  obtain ⟨c310, rfl, H, rfl⟩ := q310
  refine WE.cu (cu' := 525) (su' := 3150) (by show 524 + 1 = _; omega) (by show 3144 + 6 = _; omega) ?_
  refine WE.sipush (n := 316) ((-1001 : Int32)) dL_refused_313 rfl (by decide) ?_
  refine WE.icmp_ne (n := 319) (tgt := 600) dL_refused_316 rfl (by decide) (fun h316 => ?_) (fun h316 => ?_)
  · first | exact absurd rfl h316 | exact absurd h316 (by decide)
  refine WE.aload_n (n := 320) dL_refused_319 rfl rfl ?_
  refine WE.bipush (n := 322) (nI 10) dL_refused_320 rfl (by decide) ?_
  refine WE.iconst (n := 323) (nI 0) dL_refused_322 rfl (by decide) ?_
  refine WE.H3PI (M' := mL_letter) (n := 326) dL_refused_323 rfl ch_L_170 ⟨⟨by decide, by decide⟩, (by show 525 + 1 ≤ 1500; omega), (by show 3150 + 6 ≤ 9000; omega)⟩ (Nat.le_of_ble_eq_true rfl) (HPc.thr 0 (x_letter _ od A H _ _) (by unfold S_letter; rw [if_neg (by decide)])) (fun r323 σ323 q323 => ?_)
  obtain ⟨c323, rfl, H, rfl⟩ := q323
  refine WE.cu (cu' := 526) (su' := 3156) (by show 525 + 1 = _; omega) (by show 3150 + 6 = _; omega) ?_
  refine WE.sipush (n := 329) ((-1001 : Int32)) dL_refused_326 rfl (by decide) ?_
  refine WE.icmp_ne (n := 332) (tgt := 600) dL_refused_329 rfl (by decide) (fun h329 => ?_) (fun h329 => ?_)
  · first | exact absurd rfl h329 | exact absurd h329 (by decide)
  refine WE.aload_n (n := 333) dL_refused_332 rfl rfl ?_
  refine WE.iconst (n := 334) (nI 1) dL_refused_333 rfl (by decide) ?_
  refine WE.iconst (n := 335) (nI 3) dL_refused_334 rfl (by decide) ?_
  refine WE.H3PI (M' := mL_letter) (n := 338) dL_refused_335 rfl ch_L_170 ⟨⟨by decide, by decide⟩, (by show 526 + 1 ≤ 1500; omega), (by show 3156 + 6 ≤ 9000; omega)⟩ (Nat.le_of_ble_eq_true rfl) (HPc.thr 0 (x_letter _ od A H _ _) (by unfold S_letter; rw [if_pos (by decide), if_neg (by decide)])) (fun r335 σ335 q335 => ?_)
  obtain ⟨c335, rfl, H, rfl⟩ := q335
  refine WE.cu (cu' := 527) (su' := 3162) (by show 526 + 1 = _; omega) (by show 3156 + 6 = _; omega) ?_
  refine WE.sipush (n := 341) ((-1001 : Int32)) dL_refused_338 rfl (by decide) ?_
  refine WE.icmp_ne (n := 344) (tgt := 600) dL_refused_341 rfl (by decide) (fun h341 => ?_) (fun h341 => ?_)
  · first | exact absurd rfl h341 | exact absurd h341 (by decide)
  refine WE.aload_n (n := 345) dL_refused_344 rfl rfl ?_
  refine WE.iconst (n := 346) (nI 1) dL_refused_345 rfl (by decide) ?_
  refine WE.iconst (n := 347) ((-1 : Int32)) dL_refused_346 rfl (by decide) ?_
  refine WE.H3PI (M' := mL_letter) (n := 350) dL_refused_347 rfl ch_L_170 ⟨⟨by decide, by decide⟩, (by show 527 + 1 ≤ 1500; omega), (by show 3162 + 6 ≤ 9000; omega)⟩ (Nat.le_of_ble_eq_true rfl) (HPc.thr 0 (x_letter _ od A H _ _) (by unfold S_letter; rw [if_pos (by decide), if_neg (by decide)])) (fun r347 σ347 q347 => ?_)
  obtain ⟨c347, rfl, H, rfl⟩ := q347
  refine WE.cu (cu' := 528) (su' := 3168) (by show 527 + 1 = _; omega) (by show 3162 + 6 = _; omega) ?_
  refine WE.sipush (n := 353) ((-1001 : Int32)) dL_refused_350 rfl (by decide) ?_
  refine WE.icmp_ne (n := 356) (tgt := 600) dL_refused_353 rfl (by decide) (fun h353 => ?_) (fun h353 => ?_)
  · first | exact absurd rfl h353 | exact absurd h353 (by decide)
  refine WE.aload_n (n := 357) dL_refused_356 rfl rfl ?_
  refine WE.iload (n := 359) dL_refused_357 rfl rfl ?_
  refine WE.iconst (n := 360) (nI 0) dL_refused_359 rfl (by decide) ?_
  refine WE.H3PI (M' := mL_load) (n := 363) dL_refused_360 rfl ch_L_218 ⟨⟨by decide, by decide⟩, (by show 528 + 1 ≤ 1500; omega), (by show 3168 + 6 ≤ 9000; omega)⟩ (Nat.le_of_ble_eq_true rfl) (HPc.thr 0 (x_load _ od A H _ _) (by unfold S_loads; rw [if_neg hL.1])) (fun r360 σ360 q360 => ?_)
  obtain ⟨c360, rfl, H, rfl⟩ := q360
  refine WE.cu (cu' := 529) (su' := 3174) (by show 528 + 1 = _; omega) (by show 3168 + 6 = _; omega) ?_
  refine WE.sipush (n := 366) ((-1001 : Int32)) dL_refused_363 rfl (by decide) ?_
  refine WE.icmp_ne (n := 369) (tgt := 600) dL_refused_366 rfl (by decide) (fun h366 => ?_) (fun h366 => ?_)
  · first | exact absurd rfl h366 | exact absurd h366 (by decide)
  refine WE.aload_n (n := 370) dL_refused_369 rfl rfl ?_
  refine WE.iconst (n := 371) (nI 0) dL_refused_370 rfl (by decide) ?_
  refine WE.iload_n (n := 372) dL_refused_371 rfl rfl ?_
  refine WE.H3PI (M' := mL_load) (n := 375) dL_refused_372 rfl ch_L_218 ⟨⟨by decide, by decide⟩, (by show 529 + 1 ≤ 1500; omega), (by show 3174 + 6 ≤ 9000; omega)⟩ (Nat.le_of_ble_eq_true rfl) (HPc.thr 0 (x_load _ od A H _ _) (by unfold S_loads; rw [if_pos hL.2.2, if_neg hB.1])) (fun r372 σ372 q372 => ?_)
  obtain ⟨c372, rfl, H, rfl⟩ := q372
  refine WE.cu (cu' := 530) (su' := 3180) (by show 529 + 1 = _; omega) (by show 3174 + 6 = _; omega) ?_
  refine WE.sipush (n := 378) ((-1001 : Int32)) dL_refused_375 rfl (by decide) ?_
  refine WE.icmp_ne (n := 381) (tgt := 600) dL_refused_378 rfl (by decide) (fun h378 => ?_) (fun h378 => ?_)
  · first | exact absurd rfl h378 | exact absurd h378 (by decide)
  refine WE.aload_n (n := 382) dL_refused_381 rfl rfl ?_
  refine WE.iconst (n := 383) ((-1 : Int32)) dL_refused_382 rfl (by decide) ?_
  refine WE.iconst (n := 384) ((-1 : Int32)) dL_refused_383 rfl (by decide) ?_
  refine WE.H3PI (M' := mL_load) (n := 387) dL_refused_384 rfl ch_L_218 ⟨⟨by decide, by decide⟩, (by show 530 + 1 ≤ 1500; omega), (by show 3180 + 6 ≤ 9000; omega)⟩ (Nat.le_of_ble_eq_true rfl) (HPc.thr 0 (x_load _ od A H _ _) (by unfold S_loads; rw [if_neg hL.2.1])) (fun r384 σ384 q384 => ?_)
  obtain ⟨c384, rfl, H, rfl⟩ := q384
  refine WE.cu (cu' := 531) (su' := 3186) (by show 530 + 1 = _; omega) (by show 3180 + 6 = _; omega) ?_
  refine WE.sipush (n := 390) ((-1001 : Int32)) dL_refused_387 rfl (by decide) ?_
  refine WE.icmp_ne (n := 393) (tgt := 600) dL_refused_390 rfl (by decide) (fun h390 => ?_) (fun h390 => ?_)
  · first | exact absurd rfl h390 | exact absurd h390 (by decide)
  refine WE.aload_n (n := 394) dL_refused_393 rfl rfl ?_
  refine WE.iload_n (n := 395) dL_refused_394 rfl rfl ?_
  refine WE.H2PI (M' := mL_loadAll) (n := 398) dL_refused_395 rfl ch_L_220 ⟨⟨by decide, by decide⟩, (by show 531 + 1 ≤ 1500; omega), (by show 3186 + 6 ≤ 9000; omega)⟩ (Nat.le_of_ble_eq_true rfl) (HPc.thr 0 (x_loadAll _ od A H _) (by unfold S_loadAll; rw [if_neg hB.1])) (fun r395 σ395 q395 => ?_)
  obtain ⟨c395, rfl, H, rfl⟩ := q395
  refine WE.cu (cu' := 532) (su' := 3192) (by show 531 + 1 = _; omega) (by show 3186 + 6 = _; omega) ?_
  refine WE.sipush (n := 401) ((-1001 : Int32)) dL_refused_398 rfl (by decide) ?_
  refine WE.icmp_ne (n := 404) (tgt := 600) dL_refused_401 rfl (by decide) (fun h401 => ?_) (fun h401 => ?_)
  · first | exact absurd rfl h401 | exact absurd h401 (by decide)
  refine WE.aload_n (n := 405) dL_refused_404 rfl rfl ?_
  refine WE.iload_n (n := 406) dL_refused_405 rfl rfl ?_
  refine WE.H2PI (M' := mL_launch) (n := 409) dL_refused_406 rfl ch_L_222 ⟨⟨by decide, by decide⟩, (by show 532 + 1 ≤ 1500; omega), (by show 3192 + 6 ≤ 9000; omega)⟩ (Nat.le_of_ble_eq_true rfl) (HPc.thr 0 (x_launch _ od A H _) (by unfold S_launches; rw [if_neg hB.1])) (fun r406 σ406 q406 => ?_)
  obtain ⟨c406, rfl, H, rfl⟩ := q406
  refine WE.cu (cu' := 533) (su' := 3198) (by show 532 + 1 = _; omega) (by show 3192 + 6 = _; omega) ?_
  refine WE.sipush (n := 412) ((-1001 : Int32)) dL_refused_409 rfl (by decide) ?_
  refine WE.icmp_ne (n := 415) (tgt := 600) dL_refused_412 rfl (by decide) (fun h412 => ?_) (fun h412 => ?_)
  · first | exact absurd rfl h412 | exact absurd h412 (by decide)
  refine WE.aload_n (n := 416) dL_refused_415 rfl rfl ?_
  refine WE.iconst (n := 417) ((-1 : Int32)) dL_refused_416 rfl (by decide) ?_
  refine WE.H2PI (M' := mL_launch) (n := 420) dL_refused_417 rfl ch_L_222 ⟨⟨by decide, by decide⟩, (by show 533 + 1 ≤ 1500; omega), (by show 3198 + 6 ≤ 9000; omega)⟩ (Nat.le_of_ble_eq_true rfl) (HPc.thr 0 (x_launch _ od A H _) (by unfold S_launches; rw [if_neg hB.2.1])) (fun r417 σ417 q417 => ?_)
  obtain ⟨c417, rfl, H, rfl⟩ := q417
  refine WE.cu (cu' := 534) (su' := 3204) (by show 533 + 1 = _; omega) (by show 3198 + 6 = _; omega) ?_
  refine WE.sipush (n := 423) ((-1001 : Int32)) dL_refused_420 rfl (by decide) ?_
  refine WE.icmp_ne (n := 426) (tgt := 600) dL_refused_423 rfl (by decide) (fun h423 => ?_) (fun h423 => ?_)
  · first | exact absurd rfl h423 | exact absurd h423 (by decide)
  refine WE.aload_n (n := 427) dL_refused_426 rfl rfl ?_
  refine WE.iload_n (n := 428) dL_refused_427 rfl rfl ?_
  refine WE.iconst (n := 429) (nI 0) dL_refused_428 rfl (by decide) ?_
  refine WE.H3PI (M' := mL_drop) (n := 432) dL_refused_429 rfl ch_L_224 ⟨⟨by decide, by decide⟩, (by show 534 + 1 ≤ 1500; omega), (by show 3204 + 6 ≤ 9000; omega)⟩ (Nat.le_of_ble_eq_true rfl) (HPc.thr 0 (x_drop _ od A H _ _) (by unfold S_drops; rw [if_neg hB.1])) (fun r429 σ429 q429 => ?_)
  obtain ⟨c429, rfl, H, rfl⟩ := q429
  refine WE.cu (cu' := 535) (su' := 3210) (by show 534 + 1 = _; omega) (by show 3204 + 6 = _; omega) ?_
  refine WE.sipush (n := 435) ((-1001 : Int32)) dL_refused_432 rfl (by decide) ?_
  refine WE.icmp_ne (n := 438) (tgt := 600) dL_refused_435 rfl (by decide) (fun h435 => ?_) (fun h435 => ?_)
  · first | exact absurd rfl h435 | exact absurd h435 (by decide)
  refine WE.aload_n (n := 439) dL_refused_438 rfl rfl ?_
  refine WE.iconst (n := 440) (nI 0) dL_refused_439 rfl (by decide) ?_
  refine WE.iconst (n := 441) (nI 0) dL_refused_440 rfl (by decide) ?_
  refine WE.H3PI (M' := mL_drop) (n := 444) dL_refused_441 rfl ch_L_224 ⟨⟨by decide, by decide⟩, (by show 535 + 1 ≤ 1500; omega), (by show 3210 + 6 ≤ 9000; omega)⟩ (Nat.le_of_ble_eq_true rfl) (HPc.thr 1 (x_drop _ od A H _ _) (by unfold S_drops; rw [if_pos hB.2.2, if_neg (by decide)])) (fun r441 σ441 q441 => ?_)
  obtain ⟨c441, rfl, H, rfl⟩ := q441
  refine WE.cu (cu' := 536) (su' := 3216) (by show 535 + 1 = _; omega) (by show 3210 + 6 = _; omega) ?_
  refine WE.sipush (n := 447) ((-1002 : Int32)) dL_refused_444 rfl (by decide) ?_
  refine WE.icmp_ne (n := 450) (tgt := 600) dL_refused_447 rfl (by decide) (fun h447 => ?_) (fun h447 => ?_)
  · first | exact absurd rfl h447 | exact absurd h447 (by decide)
  refine WE.aload_n (n := 451) dL_refused_450 rfl rfl ?_
  refine WE.iconst (n := 452) (nI 0) dL_refused_451 rfl (by decide) ?_
  refine WE.bipush (n := 454) (nI 51) dL_refused_452 rfl (by decide) ?_
  refine WE.H3PI (M' := mL_drop) (n := 457) dL_refused_454 rfl ch_L_224 ⟨⟨by decide, by decide⟩, (by show 536 + 1 ≤ 1500; omega), (by show 3216 + 6 ≤ 9000; omega)⟩ (Nat.le_of_ble_eq_true rfl) (HPc.thr 1 (x_drop _ od A H _ _) (by unfold S_drops; rw [if_pos hB.2.2, if_neg (by decide)])) (fun r454 σ454 q454 => ?_)
  obtain ⟨c454, rfl, H, rfl⟩ := q454
  refine WE.cu (cu' := 537) (su' := 3222) (by show 536 + 1 = _; omega) (by show 3216 + 6 = _; omega) ?_
  refine WE.sipush (n := 460) ((-1002 : Int32)) dL_refused_457 rfl (by decide) ?_
  refine WE.icmp_ne (n := 463) (tgt := 600) dL_refused_460 rfl (by decide) (fun h460 => ?_) (fun h460 => ?_)
  · first | exact absurd rfl h460 | exact absurd h460 (by decide)
  refine WE.aload_n (n := 464) dL_refused_463 rfl rfl ?_
  refine WE.iconst (n := 465) (nI 0) dL_refused_464 rfl (by decide) ?_
  refine WE.H2PI (M' := mL_pass) (n := 468) dL_refused_465 rfl ch_L_226 ⟨⟨by decide, by decide⟩, (by show 537 + 1 ≤ 1500; omega), (by show 3222 + 6 ≤ 9000; omega)⟩ (Nat.le_of_ble_eq_true rfl) (HPc.thr 0 (x_pass _ od A H _) (by unfold S_passes; rw [if_neg (by decide)])) (fun r465 σ465 q465 => ?_)
  obtain ⟨c465, rfl, H, rfl⟩ := q465
  refine WE.cu (cu' := 538) (su' := 3228) (by show 537 + 1 = _; omega) (by show 3222 + 6 = _; omega) ?_
  refine WE.sipush (n := 471) ((-1001 : Int32)) dL_refused_468 rfl (by decide) ?_
  refine WE.icmp_ne (n := 474) (tgt := 600) dL_refused_471 rfl (by decide) (fun h471 => ?_) (fun h471 => ?_)
  · first | exact absurd rfl h471 | exact absurd h471 (by decide)
  refine WE.aload_n (n := 475) dL_refused_474 rfl rfl ?_
  refine WE.bipush (n := 477) (nI 49) dL_refused_475 rfl (by decide) ?_
  refine WE.H2PI (M' := mL_pass) (n := 480) dL_refused_477 rfl ch_L_226 ⟨⟨by decide, by decide⟩, (by show 538 + 1 ≤ 1500; omega), (by show 3228 + 6 ≤ 9000; omega)⟩ (Nat.le_of_ble_eq_true rfl) (HPc.thr 0 (x_pass _ od A H _) (by unfold S_passes; rw [if_neg (by decide)])) (fun r477 σ477 q477 => ?_)
  obtain ⟨c477, rfl, H, rfl⟩ := q477
  refine WE.cu (cu' := 539) (su' := 3234) (by show 538 + 1 = _; omega) (by show 3228 + 6 = _; omega) ?_
  refine WE.sipush (n := 483) ((-1001 : Int32)) dL_refused_480 rfl (by decide) ?_
  refine WE.icmp_ne (n := 486) (tgt := 600) dL_refused_483 rfl (by decide) (fun h483 => ?_) (fun h483 => ?_)
  · first | exact absurd rfl h483 | exact absurd h483 (by decide)
  refine WE.aload_n (n := 487) dL_refused_486 rfl rfl ?_
  refine WE.iload_n (n := 488) dL_refused_487 rfl rfl ?_
  refine WE.bipush (n := 490) (nI 99) dL_refused_488 rfl (by decide) ?_
  refine WE.H3PI (M' := mL_balloonOf) (n := 493) dL_refused_490 rfl ch_L_194 ⟨⟨by decide, by decide⟩, (by show 539 + 2 ≤ 1500; omega), (by show 3234 + 12 ≤ 9000; omega)⟩ (Nat.le_of_ble_eq_true rfl) (HPq.thr 0 (x_balloonOf _ od A H _ _) (by unfold Q_balloonOf; rw [if_neg hB.1])) (fun r490 σ490 q490 => ?_)
  obtain ⟨c490, rfl, H, rfl⟩ := q490
  refine WE.cu (cu' := 541) (su' := 3246) (by show 539 + 2 = _; omega) (by show 3234 + 12 = _; omega) ?_
  refine WE.sipush (n := 496) ((-1001 : Int32)) dL_refused_493 rfl (by decide) ?_
  refine WE.icmp_ne (n := 499) (tgt := 600) dL_refused_496 rfl (by decide) (fun h496 => ?_) (fun h496 => ?_)
  · first | exact absurd rfl h496 | exact absurd h496 (by decide)
  refine WE.aload_n (n := 500) dL_refused_499 rfl rfl ?_
  refine WE.iconst (n := 501) (nI 0) dL_refused_500 rfl (by decide) ?_
  refine WE.bipush (n := 503) (nI 12) dL_refused_501 rfl (by decide) ?_
  refine WE.H3PI (M' := mL_balloonOf) (n := 506) dL_refused_503 rfl ch_L_194 ⟨⟨by decide, by decide⟩, (by show 541 + 2 ≤ 1500; omega), (by show 3246 + 12 ≤ 9000; omega)⟩ (Nat.le_of_ble_eq_true rfl) (HPq.thr 1 (x_balloonOf _ od A H _ _) (by unfold Q_balloonOf; rw [if_pos hB.2.2, if_neg (by decide)])) (fun r503 σ503 q503 => ?_)
  obtain ⟨c503, rfl, H, rfl⟩ := q503
  refine WE.cu (cu' := 543) (su' := 3258) (by show 541 + 2 = _; omega) (by show 3246 + 12 = _; omega) ?_
  refine WE.sipush (n := 509) ((-1002 : Int32)) dL_refused_506 rfl (by decide) ?_
  refine WE.icmp_ne (n := 512) (tgt := 600) dL_refused_509 rfl (by decide) (fun h509 => ?_) (fun h509 => ?_)
  · first | exact absurd rfl h509 | exact absurd h509 (by decide)
  refine WE.aload_n (n := 513) dL_refused_512 rfl rfl ?_
  refine WE.iconst (n := 514) (nI 0) dL_refused_513 rfl (by decide) ?_
  refine WE.iconst (n := 515) ((-1 : Int32)) dL_refused_514 rfl (by decide) ?_
  refine WE.H3PI (M' := mL_balloonOf) (n := 518) dL_refused_515 rfl ch_L_194 ⟨⟨by decide, by decide⟩, (by show 543 + 2 ≤ 1500; omega), (by show 3258 + 12 ≤ 9000; omega)⟩ (Nat.le_of_ble_eq_true rfl) (HPq.thr 1 (x_balloonOf _ od A H _ _) (by unfold Q_balloonOf; rw [if_pos hB.2.2, if_neg (by decide)])) (fun r515 σ515 q515 => ?_)
  obtain ⟨c515, rfl, H, rfl⟩ := q515
  refine WE.cu (cu' := 545) (su' := 3270) (by show 543 + 2 = _; omega) (by show 3258 + 12 = _; omega) ?_
  refine WE.sipush (n := 521) ((-1002 : Int32)) dL_refused_518 rfl (by decide) ?_
  refine WE.icmp_ne (n := 524) (tgt := 600) dL_refused_521 rfl (by decide) (fun h521 => ?_) (fun h521 => ?_)
  · first | exact absurd rfl h521 | exact absurd h521 (by decide)
  refine WE.aload_n (n := 525) dL_refused_524 rfl rfl ?_
  refine WE.iload (n := 527) dL_refused_525 rfl rfl ?_
  refine WE.bipush (n := 529) (nI 9) dL_refused_527 rfl (by decide) ?_
  refine WE.H3PI (M' := mL_letterOf) (n := 532) dL_refused_529 rfl ch_L_208 ⟨⟨by decide, by decide⟩, (by show 545 + 1 ≤ 1500; omega), (by show 3270 + 6 ≤ 9000; omega)⟩ (Nat.le_of_ble_eq_true rfl) (HPq.thr 0 (x_letterOf _ od A H _ _) (by unfold Q_letterOf; rw [if_neg hL.1])) (fun r529 σ529 q529 => ?_)
  obtain ⟨c529, rfl, H, rfl⟩ := q529
  refine WE.cu (cu' := 546) (su' := 3276) (by show 545 + 1 = _; omega) (by show 3270 + 6 = _; omega) ?_
  refine WE.sipush (n := 535) ((-1001 : Int32)) dL_refused_532 rfl (by decide) ?_
  refine WE.icmp_ne (n := 538) (tgt := 600) dL_refused_535 rfl (by decide) (fun h535 => ?_) (fun h535 => ?_)
  · first | exact absurd rfl h535 | exact absurd h535 (by decide)
  refine WE.aload_n (n := 539) dL_refused_538 rfl rfl ?_
  refine WE.iconst (n := 540) (nI 0) dL_refused_539 rfl (by decide) ?_
  refine WE.iconst (n := 541) (nI 4) dL_refused_540 rfl (by decide) ?_
  refine WE.H3PI (M' := mL_letterOf) (n := 544) dL_refused_541 rfl ch_L_208 ⟨⟨by decide, by decide⟩, (by show 546 + 1 ≤ 1500; omega), (by show 3276 + 6 ≤ 9000; omega)⟩ (Nat.le_of_ble_eq_true rfl) (HPq.thr 1 (x_letterOf _ od A H _ _) (by unfold Q_letterOf; rw [if_pos hL.2.2, if_neg (by decide)])) (fun r541 σ541 q541 => ?_)
  obtain ⟨c541, rfl, H, rfl⟩ := q541
  refine WE.cu (cu' := 547) (su' := 3282) (by show 546 + 1 = _; omega) (by show 3276 + 6 = _; omega) ?_
  refine WE.sipush (n := 547) ((-1002 : Int32)) dL_refused_544 rfl (by decide) ?_
  refine WE.icmp_ne (n := 550) (tgt := 600) dL_refused_547 rfl (by decide) (fun h547 => ?_) (fun h547 => ?_)
  · first | exact absurd rfl h547 | exact absurd h547 (by decide)
  refine WE.aload_n (n := 551) dL_refused_550 rfl rfl ?_
  refine WE.iconst (n := 552) (nI 0) dL_refused_551 rfl (by decide) ?_
  refine WE.iconst (n := 553) ((-1 : Int32)) dL_refused_552 rfl (by decide) ?_
  refine WE.H3PI (M' := mL_letterOf) (n := 556) dL_refused_553 rfl ch_L_208 ⟨⟨by decide, by decide⟩, (by show 547 + 1 ≤ 1500; omega), (by show 3282 + 6 ≤ 9000; omega)⟩ (Nat.le_of_ble_eq_true rfl) (HPq.thr 1 (x_letterOf _ od A H _ _) (by unfold Q_letterOf; rw [if_pos hL.2.2, if_neg (by decide)])) (fun r553 σ553 q553 => ?_)
  obtain ⟨c553, rfl, H, rfl⟩ := q553
  refine WE.cu (cu' := 548) (su' := 3288) (by show 547 + 1 = _; omega) (by show 3282 + 6 = _; omega) ?_
  refine WE.sipush (n := 559) ((-1002 : Int32)) dL_refused_556 rfl (by decide) ?_
  refine WE.icmp_ne (n := 562) (tgt := 600) dL_refused_559 rfl (by decide) (fun h559 => ?_) (fun h559 => ?_)
  · first | exact absurd rfl h559 | exact absurd h559 (by decide)
  refine WE.aload_n (n := 563) dL_refused_562 rfl rfl ?_
  refine WE.iload_n (n := 564) dL_refused_563 rfl rfl ?_
  refine WE.H2PI (M' := mL_weightAgain) (n := 567) dL_refused_564 rfl ch_L_196 ⟨⟨by decide, by decide⟩, (by show 548 + 1 ≤ 1500; omega), (by show 3288 + 6 ≤ 9000; omega)⟩ (Nat.le_of_ble_eq_true rfl) (HPq.thr 0 (x_weightAgain _ od A H _) (by unfold Q_weight; rw [if_neg hB.1])) (fun r564 σ564 q564 => ?_)
  obtain ⟨c564, rfl, H, rfl⟩ := q564
  refine WE.cu (cu' := 549) (su' := 3294) (by show 548 + 1 = _; omega) (by show 3288 + 6 = _; omega) ?_
  refine WE.sipush (n := 570) ((-1001 : Int32)) dL_refused_567 rfl (by decide) ?_
  refine WE.icmp_ne (n := 573) (tgt := 600) dL_refused_570 rfl (by decide) (fun h570 => ?_) (fun h570 => ?_)
  · first | exact absurd rfl h570 | exact absurd h570 (by decide)
  refine WE.aload_n (n := 574) dL_refused_573 rfl rfl ?_
  refine WE.iconst (n := 575) ((-1 : Int32)) dL_refused_574 rfl (by decide) ?_
  refine WE.H2PI (M' := mL_waiting) (n := 578) dL_refused_575 rfl ch_L_210 ⟨⟨by decide, by decide⟩, (by show 549 + 1 ≤ 1500; omega), (by show 3294 + 6 ≤ 9000; omega)⟩ (Nat.le_of_ble_eq_true rfl) (HPq.thr 0 (x_waiting _ od A H _) (by unfold Q_waiting; rw [if_neg (by decide)])) (fun r575 σ575 q575 => ?_)
  obtain ⟨c575, rfl, H, rfl⟩ := q575
  refine WE.cu (cu' := 550) (su' := 3300) (by show 549 + 1 = _; omega) (by show 3294 + 6 = _; omega) ?_
  refine WE.sipush (n := 581) ((-1001 : Int32)) dL_refused_578 rfl (by decide) ?_
  refine WE.icmp_ne (n := 584) (tgt := 600) dL_refused_581 rfl (by decide) (fun h581 => ?_) (fun h581 => ?_)
  · first | exact absurd rfl h581 | exact absurd h581 (by decide)
  refine WE.aload_n (n := 585) dL_refused_584 rfl rfl ?_
  refine WE.bipush (n := 587) (nI 24) dL_refused_585 rfl (by decide) ?_
  refine WE.H2PI (M' := mL_waiting) (n := 590) dL_refused_587 rfl ch_L_210 ⟨⟨by decide, by decide⟩, (by show 550 + 1 ≤ 1500; omega), (by show 3300 + 6 ≤ 9000; omega)⟩ (Nat.le_of_ble_eq_true rfl) (HPq.thr 0 (x_waiting _ od A H _) (wait24 hR)) (fun r587 σ587 q587 => ?_)
  obtain ⟨c587, rfl, H, rfl⟩ := q587
  refine WE.cu (cu' := 551) (su' := 3306) (by show 550 + 1 = _; omega) (by show 3300 + 6 = _; omega) ?_
  refine WE.sipush (n := 593) ((-1001 : Int32)) dL_refused_590 rfl (by decide) ?_
  refine WE.icmp_ne (n := 596) (tgt := 600) dL_refused_593 rfl (by decide) (fun h593 => ?_) (fun h593 => ?_)
  · first | exact absurd rfl h593 | exact absurd h593 (by decide)
  refine WE.iconst (n := 597) (nI 1) dL_refused_596 rfl (by decide) ?_
  refine WE.goto (tgt := 601) dL_refused_597 (by decide) ?_
  refine WE.istore (n := 603) dL_refused_601 rfl (by decide) ?_
  refine WE.iload (n := 605) dL_refused_603 rfl rfl ?_
  refine WE.if_eq (n := 608) (tgt := 741) dL_refused_605 rfl (by decide) (fun h605 => ?_) (fun h605 => ?_)
  · first | exact absurd rfl h605 | exact absurd h605 (by decide)
  refine WE.aload_n (n := 609) dL_refused_608 rfl rfl ?_
  refine WE.iload_n (n := 610) dL_refused_609 rfl rfl ?_
  refine WE.H2PI (M' := mL_word) (n := 613) dL_refused_610 rfl ch_L_198 ⟨⟨by decide, by decide⟩, (by show 551 + 2 ≤ 1500; omega), (by show 3306 + 12 ≤ 9000; omega)⟩ (Nat.le_of_ble_eq_true rfl) (HPq.thr 0 (x_word _ od A H _) (by unfold Q_word; rw [if_neg hB.1])) (fun r610 σ610 q610 => ?_)
  obtain ⟨c610, rfl, H, rfl⟩ := q610
  refine WE.cu (cu' := 553) (su' := 3318) (by show 551 + 2 = _; omega) (by show 3306 + 12 = _; omega) ?_
  refine WE.sipush (n := 616) ((-1001 : Int32)) dL_refused_613 rfl (by decide) ?_
  refine WE.icmp_ne (n := 619) (tgt := 741) dL_refused_616 rfl (by decide) (fun h616 => ?_) (fun h616 => ?_)
  · first | exact absurd rfl h616 | exact absurd h616 (by decide)
  refine WE.aload_n (n := 620) dL_refused_619 rfl rfl ?_
  refine WE.iload_n (n := 621) dL_refused_620 rfl rfl ?_
  refine WE.H2PI (M' := mL_sign) (n := 624) dL_refused_621 rfl ch_L_200 ⟨⟨by decide, by decide⟩, (by show 553 + 1 ≤ 1500; omega), (by show 3318 + 6 ≤ 9000; omega)⟩ (Nat.le_of_ble_eq_true rfl) (HPq.thr 0 (x_sign _ od A H _) (by unfold Q_sign; rw [if_neg hB.1])) (fun r621 σ621 q621 => ?_)
  obtain ⟨c621, rfl, H, rfl⟩ := q621
  refine WE.cu (cu' := 554) (su' := 3324) (by show 553 + 1 = _; omega) (by show 3318 + 6 = _; omega) ?_
  refine WE.sipush (n := 627) ((-1001 : Int32)) dL_refused_624 rfl (by decide) ?_
  refine WE.icmp_ne (n := 630) (tgt := 741) dL_refused_627 rfl (by decide) (fun h627 => ?_) (fun h627 => ?_)
  · first | exact absurd rfl h627 | exact absurd h627 (by decide)
  refine WE.aload_n (n := 631) dL_refused_630 rfl rfl ?_
  refine WE.iconst (n := 632) ((-1 : Int32)) dL_refused_631 rfl (by decide) ?_
  refine WE.iconst (n := 633) (nI 0) dL_refused_632 rfl (by decide) ?_
  refine WE.H3PI (M' := mL_isWithin) (n := 636) dL_refused_633 rfl ch_L_212 ⟨⟨by decide, by decide⟩, (by show 554 + 1 ≤ 1500; omega), (by show 3324 + 6 ≤ 9000; omega)⟩ (Nat.le_of_ble_eq_true rfl) (HPq.thr 0 (x_isWithin _ od A H _ _) (by unfold Q_within; rw [if_neg (by decide)])) (fun r633 σ633 q633 => ?_)
  obtain ⟨c633, rfl, H, rfl⟩ := q633
  refine WE.cu (cu' := 555) (su' := 3330) (by show 554 + 1 = _; omega) (by show 3324 + 6 = _; omega) ?_
  refine WE.sipush (n := 639) ((-1001 : Int32)) dL_refused_636 rfl (by decide) ?_
  refine WE.icmp_ne (n := 642) (tgt := 741) dL_refused_639 rfl (by decide) (fun h639 => ?_) (fun h639 => ?_)
  · first | exact absurd rfl h639 | exact absurd h639 (by decide)
  refine WE.aload_n (n := 643) dL_refused_642 rfl rfl ?_
  refine WE.iconst (n := 644) (nI 0) dL_refused_643 rfl (by decide) ?_
  refine WE.bipush (n := 646) (nI 40) dL_refused_644 rfl (by decide) ?_
  refine WE.H3PI (M' := mL_isWithin) (n := 649) dL_refused_646 rfl ch_L_212 ⟨⟨by decide, by decide⟩, (by show 555 + 1 ≤ 1500; omega), (by show 3330 + 6 ≤ 9000; omega)⟩ (Nat.le_of_ble_eq_true rfl) (HPq.thr 0 (x_isWithin _ od A H _ _) (by unfold Q_within; rw [if_pos (by decide), if_neg (by decide)])) (fun r646 σ646 q646 => ?_)
  obtain ⟨c646, rfl, H, rfl⟩ := q646
  refine WE.cu (cu' := 556) (su' := 3336) (by show 555 + 1 = _; omega) (by show 3330 + 6 = _; omega) ?_
  refine WE.sipush (n := 652) ((-1001 : Int32)) dL_refused_649 rfl (by decide) ?_
  refine WE.icmp_ne (n := 655) (tgt := 741) dL_refused_652 rfl (by decide) (fun h652 => ?_) (fun h652 => ?_)
  · first | exact absurd rfl h652 | exact absurd h652 (by decide)
  refine WE.aload_n (n := 656) dL_refused_655 rfl rfl ?_
  refine WE.iload_n (n := 657) dL_refused_656 rfl rfl ?_
  refine WE.H2PI (M' := mL_endsIn) (n := 660) dL_refused_657 rfl ch_L_202 ⟨⟨by decide, by decide⟩, (by show 556 + 2 ≤ 1500; omega), (by show 3336 + 12 ≤ 9000; omega)⟩ (Nat.le_of_ble_eq_true rfl) (HPq.thr 0 (x_endsIn _ od A H _) (by unfold Q_endsIn; rw [if_neg hB.1])) (fun r657 σ657 q657 => ?_)
  obtain ⟨c657, rfl, H, rfl⟩ := q657
  refine WE.cu (cu' := 558) (su' := 3348) (by show 556 + 2 = _; omega) (by show 3336 + 12 = _; omega) ?_
  refine WE.sipush (n := 663) ((-1001 : Int32)) dL_refused_660 rfl (by decide) ?_
  refine WE.icmp_ne (n := 666) (tgt := 741) dL_refused_663 rfl (by decide) (fun h663 => ?_) (fun h663 => ?_)
  · first | exact absurd rfl h663 | exact absurd h663 (by decide)
  refine WE.aload_n (n := 667) dL_refused_666 rfl rfl ?_
  refine WE.iload_n (n := 668) dL_refused_667 rfl rfl ?_
  refine WE.bipush (n := 670) (nI 9) dL_refused_668 rfl (by decide) ?_
  refine WE.H3PI (M' := mL_ends) (n := 673) dL_refused_670 rfl ch_L_204 ⟨⟨by decide, by decide⟩, (by show 558 + 3 ≤ 1500; omega), (by show 3348 + 18 ≤ 9000; omega)⟩ (Nat.le_of_ble_eq_true rfl) (HPq.thr 0 (x_ends _ od A H _ _) (by unfold Q_ends; rw [if_neg hB.1])) (fun r670 σ670 q670 => ?_)
  obtain ⟨c670, rfl, H, rfl⟩ := q670
  refine WE.cu (cu' := 561) (su' := 3366) (by show 558 + 3 = _; omega) (by show 3348 + 18 = _; omega) ?_
  refine WE.sipush (n := 676) ((-1001 : Int32)) dL_refused_673 rfl (by decide) ?_
  refine WE.icmp_ne (n := 679) (tgt := 741) dL_refused_676 rfl (by decide) (fun h676 => ?_) (fun h676 => ?_)
  · first | exact absurd rfl h676 | exact absurd h676 (by decide)
  refine WE.aload_n (n := 680) dL_refused_679 rfl rfl ?_
  refine WE.iconst (n := 681) (nI 0) dL_refused_680 rfl (by decide) ?_
  refine WE.iconst (n := 682) (nI 3) dL_refused_681 rfl (by decide) ?_
  refine WE.H3PI (M' := mL_ends) (n := 685) dL_refused_682 rfl ch_L_204 ⟨⟨by decide, by decide⟩, (by show 561 + 3 ≤ 1500; omega), (by show 3366 + 18 ≤ 9000; omega)⟩ (Nat.le_of_ble_eq_true rfl) (HPq.thr 1 (x_ends _ od A H _ _) (by unfold Q_ends; rw [if_pos hB.2.2, if_neg (by decide)])) (fun r682 σ682 q682 => ?_)
  obtain ⟨c682, rfl, H, rfl⟩ := q682
  refine WE.cu (cu' := 564) (su' := 3384) (by show 561 + 3 = _; omega) (by show 3366 + 18 = _; omega) ?_
  refine WE.sipush (n := 688) ((-1002 : Int32)) dL_refused_685 rfl (by decide) ?_
  refine WE.icmp_ne (n := 691) (tgt := 741) dL_refused_688 rfl (by decide) (fun h688 => ?_) (fun h688 => ?_)
  · first | exact absurd rfl h688 | exact absurd h688 (by decide)
  refine WE.aload_n (n := 692) dL_refused_691 rfl rfl ?_
  refine WE.iconst (n := 693) (nI 0) dL_refused_692 rfl (by decide) ?_
  refine WE.iconst (n := 694) ((-1 : Int32)) dL_refused_693 rfl (by decide) ?_
  refine WE.H3PI (M' := mL_ends) (n := 697) dL_refused_694 rfl ch_L_204 ⟨⟨by decide, by decide⟩, (by show 564 + 3 ≤ 1500; omega), (by show 3384 + 18 ≤ 9000; omega)⟩ (Nat.le_of_ble_eq_true rfl) (HPq.thr 1 (x_ends _ od A H _ _) (by unfold Q_ends; rw [if_pos hB.2.2, if_neg (by decide)])) (fun r694 σ694 q694 => ?_)
  obtain ⟨c694, rfl, H, rfl⟩ := q694
  refine WE.cu (cu' := 567) (su' := 3402) (by show 564 + 3 = _; omega) (by show 3384 + 18 = _; omega) ?_
  refine WE.sipush (n := 700) ((-1002 : Int32)) dL_refused_697 rfl (by decide) ?_
  refine WE.icmp_ne (n := 703) (tgt := 741) dL_refused_700 rfl (by decide) (fun h700 => ?_) (fun h700 => ?_)
  · first | exact absurd rfl h700 | exact absurd h700 (by decide)
  refine WE.aload_n (n := 704) dL_refused_703 rfl rfl ?_
  refine WE.iconst (n := 705) ((-1 : Int32)) dL_refused_704 rfl (by decide) ?_
  refine WE.H2PI (M' := mL_bestDrop) (n := 708) dL_refused_705 rfl ch_L_206 ⟨⟨by decide, by decide⟩, (by show 567 + 3 ≤ 1500; omega), (by show 3402 + 18 ≤ 9000; omega)⟩ (Nat.le_of_ble_eq_true rfl) (HPb.thr 0 (by decide) (x_bestDrop _ od A H _) (by unfold Q_bestDrop; rw [if_neg hB.2.1])) (fun r705 σ705 q705 => ?_)
  obtain ⟨c705, rfl, H, rfl⟩ := q705
  refine WE.cu (cu' := 570) (su' := 3420) (by show 567 + 3 = _; omega) (by show 3402 + 18 = _; omega) ?_
  refine WE.sipush (n := 711) ((-1001 : Int32)) dL_refused_708 rfl (by decide) ?_
  refine WE.icmp_ne (n := 714) (tgt := 741) dL_refused_711 rfl (by decide) (fun h711 => ?_) (fun h711 => ?_)
  · first | exact absurd rfl h711 | exact absurd h711 (by decide)
  refine WE.aload_n (n := 715) dL_refused_714 rfl rfl ?_
  refine WE.bipush (n := 717) (nI 21) dL_refused_715 rfl (by decide) ?_
  refine WE.H2PI (M' := mL_account) (n := 720) dL_refused_717 rfl ch_L_192 ⟨⟨by decide, by decide⟩, (by show 570 + 1 ≤ 1500; omega), (by show 3420 + 6 ≤ 9000; omega)⟩ (Nat.le_of_ble_eq_true rfl) (HPq.thr 0 (x_account _ od A H _) (by unfold Q_acc; rw [if_neg (by decide)])) (fun r717 σ717 q717 => ?_)
  obtain ⟨c717, rfl, H, rfl⟩ := q717
  refine WE.cu (cu' := 571) (su' := 3426) (by show 570 + 1 = _; omega) (by show 3420 + 6 = _; omega) ?_
  refine WE.sipush (n := 723) ((-1001 : Int32)) dL_refused_720 rfl (by decide) ?_
  refine WE.icmp_ne (n := 726) (tgt := 741) dL_refused_723 rfl (by decide) (fun h723 => ?_) (fun h723 => ?_)
  · first | exact absurd rfl h723 | exact absurd h723 (by decide)
  refine WE.aload_n (n := 727) dL_refused_726 rfl rfl ?_
  refine WE.iconst (n := 728) ((-1 : Int32)) dL_refused_727 rfl (by decide) ?_
  refine WE.H2PI (M' := mL_account) (n := 731) dL_refused_728 rfl ch_L_192 ⟨⟨by decide, by decide⟩, (by show 571 + 1 ≤ 1500; omega), (by show 3426 + 6 ≤ 9000; omega)⟩ (Nat.le_of_ble_eq_true rfl) (HPq.thr 0 (x_account _ od A H _) (by unfold Q_acc; rw [if_neg (by decide)])) (fun r728 σ728 q728 => ?_)
  obtain ⟨c728, rfl, H, rfl⟩ := q728
  refine WE.cu (cu' := 572) (su' := 3432) (by show 571 + 1 = _; omega) (by show 3426 + 6 = _; omega) ?_
  refine WE.sipush (n := 734) ((-1001 : Int32)) dL_refused_731 rfl (by decide) ?_
  refine WE.icmp_ne (n := 737) (tgt := 741) dL_refused_734 rfl (by decide) (fun h734 => ?_) (fun h734 => ?_)
  · first | exact absurd rfl h734 | exact absurd h734 (by decide)
  refine WE.iconst (n := 738) (nI 1) dL_refused_737 rfl (by decide) ?_
  refine WE.goto (tgt := 742) dL_refused_738 (by decide) ?_
  refine WE.istore (n := 744) dL_refused_742 rfl (by decide) ?_
  refine WE.iload (n := 746) dL_refused_744 rfl rfl ?_
  refine WE.if_eq (n := 749) (tgt := 803) dL_refused_746 rfl (by decide) (fun h746 => ?_) (fun h746 => ?_)
  · first | exact absurd rfl h746 | exact absurd h746 (by decide)
  refine WE.aload_n (n := 750) dL_refused_749 rfl rfl ?_
  refine WE.readsL ((261, "q", [113])) (by decide) rfl (n := 756) dL_refused_750 dL_refused_753 rfl ch_L_253 ⟨⟨by decide, by decide⟩, (by show 572 + 60 ≤ 1500; omega), (by show 3432 + 360 ≤ 9000; omega)⟩ (Nat.le_of_ble_eq_true rfl) (c_reads bl_q od A _ H h0) (fun r750 σ750 q750 => ?_)
  obtain ⟨c750, rfl, H, e750⟩ := q750
  change CA _ (stepD (AR A [113] 1)).2.2 at H
  rw [sd_q A] at H
  obtain rfl : r750 = (-1001 : Int32) := e750.trans (by
    show hvS (stepD (AR A [113] 1)) = _
    rw [sd_q A]
    rfl)
  refine WE.cu (cu' := 632) (su' := 3792) (by show 572 + 60 = _; omega) (by show 3432 + 360 = _; omega) ?_
  refine WE.sipush (n := 759) ((-1001 : Int32)) dL_refused_756 rfl (by decide) ?_
  refine WE.icmp_ne (n := 762) (tgt := 803) dL_refused_759 rfl (by decide) (fun h759 => ?_) (fun h759 => ?_)
  · first | exact absurd rfl h759 | exact absurd h759 (by decide)
  refine WE.aload_n (n := 763) dL_refused_762 rfl rfl ?_
  refine WE.V0I (M' := mX5_errorPosition) (n := 766) dL_refused_763 rfl cv_L_263 (by decide) ⟨⟨by decide, by decide⟩, (by show 632 + 0 ≤ 1500; omega), (by show 3792 + 0 ≤ 9000; omega)⟩ (Nat.le_of_ble_eq_true rfl) (x_errorPosition _ od (A.1, A.2.1, A.2.2.1, 0, tW A.2.2.2.2.1 [113] 1, nI 0, A.2.2.2.2.2.2) H) ?_
  refine WE.cu (cu' := 632) (su' := 3792) (by show 632 + 0 = _; omega) (by show 3792 + 0 = _; omega) ?_
  refine WE.if_ne (n := 769) (tgt := 803) dL_refused_766 rfl (by decide) (fun h766 => ?_) (fun h766 => ?_)
  · first | exact absurd rfl h766 | exact absurd h766 (by decide)
  refine WE.aload_n (n := 770) dL_refused_769 rfl rfl ?_
  refine WE.readsL ((266, "h1;h0", [104, 49, 59, 104, 48])) (by decide) rfl (n := 776) dL_refused_770 dL_refused_773 rfl ch_L_253 ⟨⟨by decide, by decide⟩, (by show 632 + 60 ≤ 1500; omega), (by show 3792 + 360 ≤ 9000; omega)⟩ (Nat.le_of_ble_eq_true rfl) (c_reads bl_h od (A.1, A.2.1, A.2.2.1, 0, tW A.2.2.2.2.1 [113] 1, nI 0, A.2.2.2.2.2.2) _ H rfl) (fun r770 σ770 q770 => ?_)
  obtain ⟨c770, rfl, H, e770⟩ := q770
  change CA _ (stepD (AR (A.1, A.2.1, A.2.2.1, 0, tW A.2.2.2.2.1 [113] 1, nI 0, A.2.2.2.2.2.2) [104, 49, 59, 104, 48] 5)).2.2 at H
  rw [sd_h (A.1, A.2.1, A.2.2.1, 0, tW A.2.2.2.2.1 [113] 1, nI 0, A.2.2.2.2.2.2)] at H
  obtain rfl : r770 = (-1001 : Int32) := e770.trans (by
    show hvS (stepD (AR (A.1, A.2.1, A.2.2.1, 0, tW A.2.2.2.2.1 [113] 1, nI 0, A.2.2.2.2.2.2) [104, 49, 59, 104, 48] 5)) = _
    rw [sd_h (A.1, A.2.1, A.2.2.1, 0, tW A.2.2.2.2.1 [113] 1, nI 0, A.2.2.2.2.2.2)]
    rfl)
  refine WE.cu (cu' := 692) (su' := 4152) (by show 632 + 60 = _; omega) (by show 3792 + 360 = _; omega) ?_
  refine WE.sipush (n := 779) ((-1001 : Int32)) dL_refused_776 rfl (by decide) ?_
  refine WE.icmp_ne (n := 782) (tgt := 803) dL_refused_779 rfl (by decide) (fun h779 => ?_) (fun h779 => ?_)
  · first | exact absurd rfl h779 | exact absurd h779 (by decide)
  refine WE.aload_n (n := 783) dL_refused_782 rfl rfl ?_
  refine WE.V0I (M' := mX5_errorPosition) (n := 786) dL_refused_783 rfl cv_L_263 (by decide) ⟨⟨by decide, by decide⟩, (by show 692 + 0 ≤ 1500; omega), (by show 4152 + 0 ≤ 9000; omega)⟩ (Nat.le_of_ble_eq_true rfl) (x_errorPosition _ od (A.1, A.2.1, A.2.2.1, 0, tW (tW A.2.2.2.2.1 [113] 1) [104, 49, 59, 104, 48] 5, (-1 : Int32), A.2.2.2.2.2.2) H) ?_
  refine WE.cu (cu' := 692) (su' := 4152) (by show 692 + 0 = _; omega) (by show 4152 + 0 = _; omega) ?_
  refine WE.iconst (n := 787) ((-1 : Int32)) dL_refused_786 rfl (by decide) ?_
  refine WE.icmp_ne (n := 790) (tgt := 803) dL_refused_787 rfl (by decide) (fun h787 => ?_) (fun h787 => ?_)
  · first | exact absurd rfl h787 | exact absurd h787 (by decide)
  refine WE.aload_n (n := 791) dL_refused_790 rfl rfl ?_
  refine WE.S1L (M' := mL_asks) (n := 794) dL_refused_791 rfl ch_L_257 ⟨⟨by decide, by decide⟩, (by show 692 + 500 ≤ 1500; omega), (by show 4152 + 3000 ≤ 9000; omega)⟩ (Nat.le_of_ble_eq_true rfl) (c_asks _ od (A.1, A.2.1, A.2.2.1, 0, tW (tW A.2.2.2.2.1 [113] 1) [104, 49, 59, 104, 48] 5, (-1 : Int32), A.2.2.2.2.2.2) H) (fun c791 H => ?_)
  refine WE.cu (cu' := 1192) (su' := 7152) (by show 692 + 500 = _; omega) (by show 4152 + 3000 = _; omega) ?_
  refine WE.lload_n (n := 795) dL_refused_794 rfl rfl ?_
  refine WE.lcmp (n := 796) dL_refused_795 rfl ?_
  refine WE.if_ne (n := 799) (tgt := 803) dL_refused_796 rfl (by decide) (fun h796 => ?_) (fun h796 => ?_)
  · exact absurd (lg_self _) h796
  refine WE.iconst (n := 800) (nI 1) dL_refused_799 rfl (by decide) ?_
  refine WE.goto (tgt := 804) dL_refused_800 (by decide) ?_
  refine WE.iret (ty := .boolean) dL_refused_804 rfl (by first | rfl | decide) ⟨(by show 1192 ≤ 1500; omega), (by show 7152 ≤ 9000; omega)⟩ ?_
  exact PI.mk ⟨rfl, _, _, _, rfl, H⟩
