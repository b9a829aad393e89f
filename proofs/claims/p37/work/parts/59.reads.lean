/-! String.length, String.charAt: the JDK's methods, walked, of a text that stands outside the world -/
/-- a text of letters below 128, not long -/
def BL (bs : List Int32) : Prop := bs.length ≤ 40 ∧ ∀ k, k < bs.length → ∃ v : Nat, v < 128 ∧ bs.getD k 0 = nI v
def JS (bs : List Int32) (sa va : Nat) (A : Nat → Prop) (sz : Nat) (U : State) : Prop := U.heap.size = sz ∧ va_Z "java/lang/String" "COMPACT_STRINGS" "Z" (.int 1) A U U.heap ∧ va_Zq "jdk/internal/util/Preconditions" "SIOOBE_FORMATTER" "Ljava/util/function/BiFunction;" A U U.heap ∧ vk_S 1 [bs.length] [bs] (fun _ => sa) (fun _ => va) A U U.heap
theorem JS.blind {bs : List Int32} {sa va sz : Nat} {A : Nat → Prop} {av : List Value} : FrameBlind (va_Pc av (JS bs sa va A sz)) := by
  intro a U g mk h
  obtain ⟨h0, h1, h2, h3, h4⟩ := h
  exact ⟨h0, h1, va_Z.moved (u := U) (U := U.calling g mk a) (Vm.Alike.refl U.vm) h2, va_Zq.moved (u := U) (U := U.calling g mk a) (Vm.Alike.refl U.vm) h3, vk_S.moved (u := U) (U := U.calling g mk a) (Vm.Alike.refl U.vm) h4⟩
theorem JS.go {bs : List Int32} {sa va sz : Nat} {A : Nat → Prop} {s U : State} (h : JS bs sa va A sz s) (hh : U.heap = s.heap) (hW : s.WarmedH U.vm) : JS bs sa va A sz U := by
  obtain ⟨h1, h2, h3, h4⟩ := h
  unfold JS
  rw [hh]
  exact ⟨h1, va_Z.moved hW.alike h2, va_Zq.moved hW.alike h3, vk_S.moved hW.alike h4⟩
def JQ (r : Option Value) : Array Value → State → Outcome → State → Prop := fun _ st o t => o = .returned r ∧ t.heap = st.heap
section JC
variable {p : Program} {l : Launch} {e : Env} {R : Room} {s : State} {m : MethodId} {args : Array Value} {below : List Frame} {meth : Method} {c : Code} {H : Heap} {locs : List Loc} {cells slots : Nat} {Q : State → Prop}
theorem j_call {pc : Nat} {ls : Array Slot} {st0 rest : List Value} {r : Option Value} {a : Array Value} (hr : va_Run p l e R s m args below meth c H locs cells slots 0 0 (F0 m pc ls st0) rest (JQ r a) (fun _ => False)) (kk : W p l e R s m args below meth c H locs cells slots Q (F0 m (pc + 3) ls (r.toList ++ rest))) : W p l e R s m args below meth c H locs cells slots Q (F0 m pc ls st0) := by
  intro T hT X
  obtain ⟨v, st₀, t, T', L, h0, X', hL, e1, e2, ⟨hv, hh⟩, st⟩ := hr T hT X
  cases hv
  have hL0 : L = [] := by
    cases L with
    | nil => rfl
    | cons q r => exact absurd (hL q List.mem_cons_self) id
  subst hL0
  rw [List.append_nil] at X'
  obtain ⟨t2, a1, b1⟩ := kk T' (by rw [e1, hh, h0]) X'
  exact ⟨t2, st t2 a1, b1⟩
theorem j_cb {M' : MT} {own : String} {idx np : Nat} (hw : ∀ w ∈ WG, w.before args s = true) (c1 : Cond.methodLink own idx (mtY M') ∈ WG) (c4 : Cond.initialized (mtY M').cls ∈ WG) (c5 : wM M' ∈ WG) (c6 : mtH M' = []) (c7 : dOK (mtY M') np) (hR : (mtR M').frames + 1 ≤ R.frames ∧ 8 + (mtL M' + 11) + (mtR M').locals ≤ R.locals) : CallB R s args own idx (mtY M') (mtC M') (mtL M') (mtT M') (wM M' :: WG) (mtR M') (mtR M').cells (mtR M').slots np := by
  refine ⟨rfl, rfl, hR.1, hR.2, pay_in hw (WG_in c5), by rw [wM_nil c6]; exact List.mem_cons_self, by rw [← wM_nil c6]; exact hw _ c5, hw _ c4, ⟨c7.1, c7.2.1⟩, fun sig h => ?_, hw _ c1⟩
  have h2 := c7.2.2
  rw [h] at h2
  exact (Option.some.inj h2).symm
end JC
abbrev mJ_pchk : MT := (⟨"jdk/internal/util/Preconditions", "checkIndex", "(IILjava/util/function/BiFunction;)I"⟩, prog_39_method_11_code, 3, some .int, { frames := 1, cells := 0, slots := 0, locals := 32 }, [])
theorem j_pchk_0 : decode prog_39_method_11_code 0 = .ok (.iload_n 0, 1) := by decide +kernel
theorem j_pchk_1 : decode prog_39_method_11_code 1 = .ok (.ifCond .lt 8, 3) := by decide +kernel
theorem j_pchk_4 : decode prog_39_method_11_code 4 = .ok (.iload_n 0, 1) := by decide +kernel
theorem j_pchk_5 : decode prog_39_method_11_code 5 = .ok (.iload_n 1, 1) := by decide +kernel
theorem j_pchk_6 : decode prog_39_method_11_code 6 = .ok (.if_icmp .lt 10, 3) := by decide +kernel
theorem j_pchk_9 : decode prog_39_method_11_code 9 = .ok (.aload_n 2, 1) := by decide +kernel
theorem j_pchk_10 : decode prog_39_method_11_code 10 = .ok (.iload_n 0, 1) := by decide +kernel
theorem j_pchk_11 : decode prog_39_method_11_code 11 = .ok (.iload_n 1, 1) := by decide +kernel
theorem j_pchk_12 : decode prog_39_method_11_code 12 = .ok (.invokestatic 95, 3) := by decide +kernel
theorem j_pchk_15 : decode prog_39_method_11_code 15 = .ok (.athrow, 1) := by decide +kernel
theorem j_pchk_16 : decode prog_39_method_11_code 16 = .ok (.iload_n 0, 1) := by decide +kernel
theorem j_pchk_17 : decode prog_39_method_11_code 17 = .ok (.ireturn, 1) := by decide +kernel
abbrev mJ_schk : MT := (⟨"java/lang/String", "checkIndex", "(II)V"⟩, prog_27_method_155_code, 2, none, { frames := 2, cells := 0, slots := 0, locals := 64 }, [])
theorem j_schk_0 : decode prog_27_method_155_code 0 = .ok (.iload_n 0, 1) := by decide +kernel
theorem j_schk_1 : decode prog_27_method_155_code 1 = .ok (.iload_n 1, 1) := by decide +kernel
theorem j_schk_2 : decode prog_27_method_155_code 2 = .ok (.getstatic 1053, 3) := by decide +kernel
theorem j_schk_5 : decode prog_27_method_155_code 5 = .ok (.invokestatic 1059, 3) := by decide +kernel
theorem j_schk_8 : decode prog_27_method_155_code 8 = .ok (.pop, 1) := by decide +kernel
theorem j_schk_9 : decode prog_27_method_155_code 9 = .ok (.return_, 1) := by decide +kernel
abbrev mJ_lat : MT := (⟨"java/lang/StringLatin1", "charAt", "([BI)C"⟩, prog_29_method_2_code, 2, some .char, { frames := 3, cells := 0, slots := 0, locals := 96 }, [])
theorem j_lat_0 : decode prog_29_method_2_code 0 = .ok (.iload_n 1, 1) := by decide +kernel
theorem j_lat_1 : decode prog_29_method_2_code 1 = .ok (.aload_n 0, 1) := by decide +kernel
theorem j_lat_2 : decode prog_29_method_2_code 2 = .ok (.arraylength, 1) := by decide +kernel
theorem j_lat_3 : decode prog_29_method_2_code 3 = .ok (.invokestatic 9, 3) := by decide +kernel
theorem j_lat_6 : decode prog_29_method_2_code 6 = .ok (.aload_n 0, 1) := by decide +kernel
theorem j_lat_7 : decode prog_29_method_2_code 7 = .ok (.iload_n 1, 1) := by decide +kernel
theorem j_lat_8 : decode prog_29_method_2_code 8 = .ok (.baload, 1) := by decide +kernel
theorem j_lat_9 : decode prog_29_method_2_code 9 = .ok (.sipush 255, 3) := by decide +kernel
theorem j_lat_12 : decode prog_29_method_2_code 12 = .ok (.iand, 1) := by decide +kernel
theorem j_lat_13 : decode prog_29_method_2_code 13 = .ok (.i2c, 1) := by decide +kernel
theorem j_lat_14 : decode prog_29_method_2_code 14 = .ok (.ireturn, 1) := by decide +kernel
abbrev mJ_isl : MT := (⟨"java/lang/String", "isLatin1", "()Z"⟩, prog_27_method_154_code, 1, some .boolean, { frames := 1, cells := 0, slots := 0, locals := 32 }, [])
theorem j_isl_0 : decode prog_27_method_154_code 0 = .ok (.getstatic 38, 3) := by decide +kernel
theorem j_isl_3 : decode prog_27_method_154_code 3 = .ok (.ifCond .eq 14, 3) := by decide +kernel
theorem j_isl_6 : decode prog_27_method_154_code 6 = .ok (.aload_n 0, 1) := by decide +kernel
theorem j_isl_7 : decode prog_27_method_154_code 7 = .ok (.getfield 15, 3) := by decide +kernel
theorem j_isl_10 : decode prog_27_method_154_code 10 = .ok (.ifCond .ne 7, 3) := by decide +kernel
theorem j_isl_13 : decode prog_27_method_154_code 13 = .ok (.iconst 1, 1) := by decide +kernel
theorem j_isl_14 : decode prog_27_method_154_code 14 = .ok (.goto 4, 3) := by decide +kernel
theorem j_isl_17 : decode prog_27_method_154_code 17 = .ok (.iconst 0, 1) := by decide +kernel
theorem j_isl_18 : decode prog_27_method_154_code 18 = .ok (.ireturn, 1) := by decide +kernel
abbrev mJ_cat : MT := (⟨"java/lang/String", "charAt", "(I)C"⟩, prog_27_method_56_code, 2, some .char, { frames := 4, cells := 0, slots := 0, locals := 128 }, [])
theorem j_cat_0 : decode prog_27_method_56_code 0 = .ok (.aload_n 0, 1) := by decide +kernel
theorem j_cat_1 : decode prog_27_method_56_code 1 = .ok (.invokevirtual 492, 3) := by decide +kernel
theorem j_cat_4 : decode prog_27_method_56_code 4 = .ok (.ifCond .eq 12, 3) := by decide +kernel
theorem j_cat_7 : decode prog_27_method_56_code 7 = .ok (.aload_n 0, 1) := by decide +kernel
theorem j_cat_8 : decode prog_27_method_56_code 8 = .ok (.getfield 9, 3) := by decide +kernel
theorem j_cat_11 : decode prog_27_method_56_code 11 = .ok (.iload_n 1, 1) := by decide +kernel
theorem j_cat_12 : decode prog_27_method_56_code 12 = .ok (.invokestatic 495, 3) := by decide +kernel
theorem j_cat_15 : decode prog_27_method_56_code 15 = .ok (.ireturn, 1) := by decide +kernel
theorem j_cat_16 : decode prog_27_method_56_code 16 = .ok (.aload_n 0, 1) := by decide +kernel
theorem j_cat_17 : decode prog_27_method_56_code 17 = .ok (.getfield 9, 3) := by decide +kernel
theorem j_cat_20 : decode prog_27_method_56_code 20 = .ok (.iload_n 1, 1) := by decide +kernel
theorem j_cat_21 : decode prog_27_method_56_code 21 = .ok (.invokestatic 498, 3) := by decide +kernel
theorem j_cat_24 : decode prog_27_method_56_code 24 = .ok (.ireturn, 1) := by decide +kernel
abbrev mJ_cod : MT := (⟨"java/lang/String", "coder", "()B"⟩, prog_27_method_152_code, 1, some .byte, { frames := 1, cells := 0, slots := 0, locals := 32 }, [])
theorem j_cod_0 : decode prog_27_method_152_code 0 = .ok (.getstatic 38, 3) := by decide +kernel
theorem j_cod_3 : decode prog_27_method_152_code 3 = .ok (.ifCond .eq 10, 3) := by decide +kernel
theorem j_cod_6 : decode prog_27_method_152_code 6 = .ok (.aload_n 0, 1) := by decide +kernel
theorem j_cod_7 : decode prog_27_method_152_code 7 = .ok (.getfield 15, 3) := by decide +kernel
theorem j_cod_10 : decode prog_27_method_152_code 10 = .ok (.goto 4, 3) := by decide +kernel
theorem j_cod_13 : decode prog_27_method_152_code 13 = .ok (.iconst 1, 1) := by decide +kernel
theorem j_cod_14 : decode prog_27_method_152_code 14 = .ok (.ireturn, 1) := by decide +kernel
abbrev mJ_len : MT := (⟨"java/lang/String", "length", "()I"⟩, prog_27_method_54_code, 1, some .int, { frames := 2, cells := 0, slots := 0, locals := 64 }, [])
theorem j_len_0 : decode prog_27_method_54_code 0 = .ok (.aload_n 0, 1) := by decide +kernel
theorem j_len_1 : decode prog_27_method_54_code 1 = .ok (.getfield 9, 3) := by decide +kernel
theorem j_len_4 : decode prog_27_method_54_code 4 = .ok (.arraylength, 1) := by decide +kernel
theorem j_len_5 : decode prog_27_method_54_code 5 = .ok (.aload_n 0, 1) := by decide +kernel
theorem j_len_6 : decode prog_27_method_54_code 6 = .ok (.invokevirtual 335, 3) := by decide +kernel
theorem j_len_9 : decode prog_27_method_54_code 9 = .ok (.ishr, 1) := by decide +kernel
theorem j_len_10 : decode prog_27_method_54_code 10 = .ok (.ireturn, 1) := by decide +kernel
set_option maxRecDepth 20000 in
set_option maxHeartbeats 2000000 in
theorem jj_pchk (l : Launch) (bs : List Int32) (hB : BL bs) (sa va sz : Nat) (A : Nat → Prop) (k : Nat) (hk : k < bs.length) (f : Value) (hf : f.category = 1) : Met l (mtY mJ_pchk) (wM mJ_pchk :: WG) (mtR mJ_pchk) (va_Pc [.int (nI k), .int (nI bs.length), f] (JS bs sa va A sz)) (JQ (some (.int (nI k)))) 0 0 (fun _ => False) := by
  refine Met.ofW (cc := mtC mJ_pchk) (maxL := mtL mJ_pchk) (ret := mtT mJ_pchk) (by decide +kernel) rfl ?_
  intro p e s m args below meth c s₁ B hml hv
  obtain ⟨rfl, hJ⟩ := hv
  have hx := B.exec
  have hb := B.bytes
  have hts := atoms_spec (ws := wM mJ_pchk :: WG) B.pre
  have hw : ∀ w ∈ WG, w.before _ s = true := fun w h => hts w (List.mem_cons_of_mem _ h)
  have hown : s.vm.findClass "jdk/internal/util/Preconditions" = some m.cls := findClass_of_methodNamed B.named
  have hS : va_S A s.heap s.heap [] := va_S.rf
  have h40 := hB.1
  have hl : lv_has (lg_sl [.int (nI k), .int (nI bs.length), f] ++ List.replicate (3 - (lg_sl [.int (nI k), .int (nI bs.length), f]).length) Slot.unset).toArray 3 [(0, .int (nI k)), (1, .int (nI bs.length))] := by
    have h0 := lv_entry [.int (nI k), .int (nI bs.length), f] (n := 3) (by simp only [lg_sl, List.flatMap_cons, List.flatMap_nil, hf]; exact Nat.le_of_ble_eq_true rfl)
    exact ⟨h0.1, h0.2.1, fun q hq => h0.2.2 q (by
      simp only [List.mem_cons, List.not_mem_nil, or_false] at hq
      rcases hq with rfl | rfl
      · exact List.mem_cons_self
      · exact List.mem_cons_of_mem _ List.mem_cons_self)⟩
  rw [lg_entry_eq]
  refine lv_iload_n hx hb j_pchk_0 rfl (lv_at hl 0 rfl) ?_
  refine lv_if_lt (tgt := 9) hx hb j_pchk_1 (by decide) (fun q => absurd q (nI_pos (by omega))) (fun q => ?_)
  refine lv_iload_n hx hb j_pchk_4 rfl (lv_at hl 0 rfl) ?_
  refine lv_iload_n hx hb j_pchk_5 rfl (lv_at hl 1 rfl) ?_
  refine lv_icmp_lt (tgt := 16) hx hb j_pchk_6 (by decide) (fun q => ?_) (fun q => absurd (nI_lt hk (by omega)) q)
  refine lv_iload_n hx hb j_pchk_16 rfl (lv_at hl 0 rfl) ?_
  exact W.iret (v := nI k) hx hb B.returns (fun t ht hW => ⟨rfl, ht⟩) (fun q h => by cases h) j_pchk_17 B.notSynchronized
set_option maxRecDepth 20000 in
set_option maxHeartbeats 2000000 in
theorem jj_schk (l : Launch) (bs : List Int32) (hB : BL bs) (sa va sz : Nat) (A : Nat → Prop) (k : Nat) (hk : k < bs.length) : Met l (mtY mJ_schk) (wM mJ_schk :: WG) (mtR mJ_schk) (va_Pc [.int (nI k), .int (nI bs.length)] (JS bs sa va A sz)) (JQ none) 0 0 (fun _ => False) := by
  refine Met.ofW (cc := mtC mJ_schk) (maxL := mtL mJ_schk) (ret := mtT mJ_schk) (by decide +kernel) rfl ?_
  intro p e s m args below meth c s₁ B hml hv
  obtain ⟨rfl, hJ⟩ := hv
  have hx := B.exec
  have hb := B.bytes
  have hts := atoms_spec (ws := wM mJ_schk :: WG) B.pre
  have hw : ∀ w ∈ WG, w.before _ s = true := fun w h => hts w (List.mem_cons_of_mem _ h)
  have hown : s.vm.findClass "java/lang/String" = some m.cls := findClass_of_methodNamed B.named
  have hS : va_S A s.heap s.heap [] := va_S.rf
  have hl := lv_entry [.int (nI k), .int (nI bs.length)] (n := 2) (Nat.le_of_ble_eq_true rfl)
  rw [lg_entry_eq]
  refine lv_iload_n hx hb j_schk_0 rfl (lv_at hl 0 rfl) ?_
  refine lv_iload_n hx hb j_schk_1 rfl (lv_at hl 1 rfl) ?_
  have go : ∀ f : Value, f.category = 1 → W p l e (mtR mJ_schk) s m #[Value.int (nI k), Value.int (nI bs.length)] below meth c s.heap [] 0 0 (MQ below (JQ none) #[Value.int (nI k), Value.int (nI bs.length)] s 0 0 (fun _ => False)) (F0 m 5 (lg_sl [.int (nI k), .int (nI bs.length)] ++ List.replicate (2 - (lg_sl [.int (nI k), .int (nI bs.length)]).length) Slot.unset).toArray [f, .int (nI bs.length), .int (nI k)]) := by
    intro f hf
    refine j_call (r := some (.int (nI k))) (rest := []) (va_runS (As := [.int (nI k), .int (nI bs.length), f]) (rest := []) (nL := 2) (n := 3) (own := "java/lang/String") (cc := mtC mJ_schk) (Ts := WG) ⟨hx, hb, hml, hown, hw⟩ (jj_pchk l bs hB sa va sz A k hk f hf) ⟨j_cb (M' := mJ_pchk) (np := 3) hw g_1295 g_43 g_1297 rfl ⟨by decide +kernel, by decide +kernel, by decide +kernel⟩ ⟨by decide, by decide⟩, hw _ g_1296⟩ ⟨JS.blind, fun U hU hW => ⟨rfl, hJ.go hU hW⟩⟩ rfl rfl hl.1 rfl (Nat.le_of_ble_eq_true rfl) j_schk_5 ⟨by decide, by decide⟩) ?_
    refine lv_pop hx hb j_schk_8 rfl ?_
    exact W.vret hx hb B.returns (fun t ht hW => ⟨rfl, ht⟩) (fun q h => by cases h) j_schk_9 B.notSynchronized
  rcases hJ.2.2.1 with hZ | ⟨t, hZ⟩
  · exact va_gets hx hb hZ hS hown (hw _ g_1127) (fun _ h => h) j_schk_2 (go .null rfl)
  · exact va_gets hx hb hZ hS hown (hw _ g_1127) (fun _ h => h) j_schk_2 (go (.ref t) rfl)
theorem ch7 : ∀ v, v < 128 → (((nI v) &&& 255).toUInt32 % 65536).toInt32 = nI v ∧ vp_nar .char (nI v) = nI v := by decide +kernel
set_option maxRecDepth 20000 in
set_option maxHeartbeats 2000000 in
theorem jj_lat (l : Launch) (bs : List Int32) (hB : BL bs) (sa va sz : Nat) (A : Nat → Prop) (k : Nat) (hk : k < bs.length) : Met l (mtY mJ_lat) (wM mJ_lat :: WG) (mtR mJ_lat) (va_Pc [.ref va, .int (nI k)] (JS bs sa va A sz)) (JQ (some (.int (bs.getD k 0)))) 0 0 (fun _ => False) := by
  refine Met.ofW (cc := mtC mJ_lat) (maxL := mtL mJ_lat) (ret := mtT mJ_lat) (by decide +kernel) rfl ?_
  intro p e s m args below meth c s₁ B hml hv
  obtain ⟨rfl, hJ⟩ := hv
  have hx := B.exec
  have hb := B.bytes
  have hts := atoms_spec (ws := wM mJ_lat :: WG) B.pre
  have hw : ∀ w ∈ WG, w.before _ s = true := fun w h => hts w (List.mem_cons_of_mem _ h)
  have hown : s.vm.findClass "java/lang/StringLatin1" = some m.cls := findClass_of_methodNamed B.named
  have hS : va_S A s.heap s.heap [] := va_S.rf
  have h40 := hB.1
  obtain ⟨v, hv, ev⟩ := hB.2 k hk
  have hl := lv_entry [.ref va, .int (nI k)] (n := 2) (Nat.le_of_ble_eq_true rfl)
  have hT := (hJ.2.2.2.1 0 (by decide)).2.2.2
  rw [lg_entry_eq]
  refine lv_iload_n hx hb j_lat_0 rfl (lv_at hl 1 rfl) ?_
  refine lv_aload_n hx hb j_lat_1 rfl (lv_at hl 0 rfl) ?_
  refine va_tlen (v := nI bs.length) hx hb hT hS rfl j_lat_2 ?_
  refine j_call (r := none) (rest := []) (va_runS (As := [.int (nI k), .int (nI bs.length)]) (rest := []) (nL := 2) (n := 2) (own := "java/lang/StringLatin1") (cc := mtC mJ_lat) (Ts := WG) ⟨hx, hb, hml, hown, hw⟩ (jj_schk l bs hB sa va sz A k hk) ⟨j_cb (M' := mJ_schk) (np := 2) hw g_1292 g_36 g_1294 rfl ⟨by decide +kernel, by decide +kernel, by decide +kernel⟩ ⟨by decide, by decide⟩, hw _ g_1293⟩ ⟨JS.blind, fun U hU hW => ⟨rfl, hJ.go hU hW⟩⟩ rfl rfl hl.1 rfl (Nat.le_of_ble_eq_true rfl) j_lat_3 ⟨by decide, by decide⟩) ?_
  refine lv_aload_n hx hb j_lat_6 rfl (lv_at hl 0 rfl) ?_
  refine lv_iload_n hx hb j_lat_7 rfl (lv_at hl 1 rfl) ?_
  refine va_tb (v := .int (nI v)) hx hb hT hS (show vp_in (nI k) bs.length from vp_in_nI hk (by omega)) (by
    rw [nI_clamp (by omega)]
    exact congrArg Value.int ev) j_lat_8 ?_
  refine lv_sipush (v := 255) hx hb j_lat_9 (by decide) ?_
  refine lv_iand hx hb j_lat_12 ?_
  refine lv_i2c hx hb j_lat_13 (ch7 v hv).1 ?_
  rw [ev]
  exact W.zret (v := nI v) (ty := .char) hx hb B.returns (congrArg Value.int (ch7 v hv).2) (fun t ht hW => ⟨rfl, ht⟩) (fun q h => by cases h) j_lat_14 B.notSynchronized
set_option maxRecDepth 20000 in
set_option maxHeartbeats 2000000 in
theorem jj_isl (l : Launch) (bs : List Int32) (hB : BL bs) (sa va sz : Nat) (A : Nat → Prop) : Met l (mtY mJ_isl) (wM mJ_isl :: WG) (mtR mJ_isl) (va_Pc [.ref sa] (JS bs sa va A sz)) (JQ (some (.int (nI 1)))) 0 0 (fun _ => False) := by
  refine Met.ofW (cc := mtC mJ_isl) (maxL := mtL mJ_isl) (ret := mtT mJ_isl) (by decide +kernel) rfl ?_
  intro p e s m args below meth c s₁ B hml hv
  obtain ⟨rfl, hJ⟩ := hv
  have hx := B.exec
  have hb := B.bytes
  have hts := atoms_spec (ws := wM mJ_isl :: WG) B.pre
  have hw : ∀ w ∈ WG, w.before _ s = true := fun w h => hts w (List.mem_cons_of_mem _ h)
  have hown : s.vm.findClass "java/lang/String" = some m.cls := findClass_of_methodNamed B.named
  have hS : va_S A s.heap s.heap [] := va_S.rf
  have hl := lv_entry [.ref sa] (n := 1) (Nat.le_of_ble_eq_true rfl)
  rw [lg_entry_eq]
  refine va_gets hx hb hJ.2.1 hS hown (hw _ g_1149) (fun _ h => h) j_isl_0 ?_
  refine lv_if_eq (tgt := 17) hx hb j_isl_3 (by decide) (fun q => absurd q (by decide)) (fun q => ?_)
  refine lv_aload_n hx hb j_isl_6 rfl (lv_at hl 0 rfl) ?_
  refine vk_getf hx hb (hJ.2.2.2.1 0 (by decide)).2.1 hS hown (hw _ g_1268) (fun _ h => h) j_isl_7 ?_
  refine lv_if_ne (tgt := 17) hx hb j_isl_10 (by decide) (fun q => absurd rfl q) (fun q => ?_)
  refine lv_iconst (v := nI 1) hx hb j_isl_13 (by decide) ?_
  refine lv_goto (tgt := 18) hx hb j_isl_14 (by decide) ?_
  exact W.zret (v := nI 1) (ty := .boolean) hx hb B.returns rfl (fun t ht hW => ⟨rfl, ht⟩) (fun q h => by cases h) j_isl_18 B.notSynchronized
set_option maxRecDepth 20000 in
set_option maxHeartbeats 2000000 in
theorem jj_cod (l : Launch) (bs : List Int32) (hB : BL bs) (sa va sz : Nat) (A : Nat → Prop) : Met l (mtY mJ_cod) (wM mJ_cod :: WG) (mtR mJ_cod) (va_Pc [.ref sa] (JS bs sa va A sz)) (JQ (some (.int (nI 0)))) 0 0 (fun _ => False) := by
  refine Met.ofW (cc := mtC mJ_cod) (maxL := mtL mJ_cod) (ret := mtT mJ_cod) (by decide +kernel) rfl ?_
  intro p e s m args below meth c s₁ B hml hv
  obtain ⟨rfl, hJ⟩ := hv
  have hx := B.exec
  have hb := B.bytes
  have hts := atoms_spec (ws := wM mJ_cod :: WG) B.pre
  have hw : ∀ w ∈ WG, w.before _ s = true := fun w h => hts w (List.mem_cons_of_mem _ h)
  have hown : s.vm.findClass "java/lang/String" = some m.cls := findClass_of_methodNamed B.named
  have hS : va_S A s.heap s.heap [] := va_S.rf
  have hl := lv_entry [.ref sa] (n := 1) (Nat.le_of_ble_eq_true rfl)
  rw [lg_entry_eq]
  refine va_gets hx hb hJ.2.1 hS hown (hw _ g_1149) (fun _ h => h) j_cod_0 ?_
  refine lv_if_eq (tgt := 13) hx hb j_cod_3 (by decide) (fun q => absurd q (by decide)) (fun q => ?_)
  refine lv_aload_n hx hb j_cod_6 rfl (lv_at hl 0 rfl) ?_
  refine vk_getf hx hb (hJ.2.2.2.1 0 (by decide)).2.1 hS hown (hw _ g_1268) (fun _ h => h) j_cod_7 ?_
  refine lv_goto (tgt := 14) hx hb j_cod_10 (by decide) ?_
  exact W.zret (v := 0) (ty := .byte) hx hb B.returns rfl (fun t ht hW => ⟨rfl, ht⟩) (fun q h => by cases h) j_cod_14 B.notSynchronized
set_option maxRecDepth 20000 in
set_option maxHeartbeats 2000000 in
theorem jj_len (l : Launch) (bs : List Int32) (hB : BL bs) (sa va sz : Nat) (A : Nat → Prop) : Met l (mtY mJ_len) (wM mJ_len :: WG) (mtR mJ_len) (va_Pc [.ref sa] (JS bs sa va A sz)) (JQ (some (.int (nI bs.length)))) 0 0 (fun _ => False) := by
  refine Met.ofW (cc := mtC mJ_len) (maxL := mtL mJ_len) (ret := mtT mJ_len) (by decide +kernel) rfl ?_
  intro p e s m args below meth c s₁ B hml hv
  obtain ⟨rfl, hJ⟩ := hv
  have hx := B.exec
  have hb := B.bytes
  have hts := atoms_spec (ws := wM mJ_len :: WG) B.pre
  have hw : ∀ w ∈ WG, w.before _ s = true := fun w h => hts w (List.mem_cons_of_mem _ h)
  have hown : s.vm.findClass "java/lang/String" = some m.cls := findClass_of_methodNamed B.named
  have hS : va_S A s.heap s.heap [] := va_S.rf
  have h40 := hB.1
  have hl := lv_entry [.ref sa] (n := 1) (Nat.le_of_ble_eq_true rfl)
  rw [lg_entry_eq]
  refine lv_aload_n hx hb j_len_0 rfl (lv_at hl 0 rfl) ?_
  refine vk_getf hx hb (hJ.2.2.2.1 0 (by decide)).2.2.1 hS hown (hw _ g_1267) (fun _ h => h) j_len_1 ?_
  refine va_tlen (v := nI bs.length) hx hb (hJ.2.2.2.1 0 (by decide)).2.2.2 hS rfl j_len_4 ?_
  refine lv_aload_n hx hb j_len_5 rfl (lv_at hl 0 rfl) ?_
  refine j_call (r := some (.int (nI 0))) (rest := [.int (nI bs.length)]) (va_runV (As := []) (rest := [.int (nI bs.length)]) (nL := 1) (n := 0) (own := "java/lang/String") (C := "java/lang/String") (b := sa) (cc := mtC mJ_len) (Ts := WG) ⟨hx, hb, hml, hown, hw⟩ (jj_cod l bs hB sa va sz A) ⟨j_cb (M' := mJ_cod) (np := 0) hw g_1145 g_36 g_1148 rfl ⟨by decide +kernel, by decide +kernel, by decide +kernel⟩ ⟨by decide, by decide⟩, hw _ g_1146, hw _ g_1147⟩ ⟨JS.blind, vk_recv hJ.2.2.2 (by decide : 0 < 1) hS, fun U hU hW => ⟨rfl, hJ.go hU hW⟩⟩ rfl rfl hl.1 rfl (Nat.le_of_ble_eq_true rfl) j_len_6 ⟨by decide, by decide⟩) ?_
  refine lv_ishr hx hb j_len_9 ?_
  have e9 : nI bs.length >>> (nI 0 &&& 31) = nI bs.length := sb_shr0 _
  first
    | exact W.iret (v := nI bs.length) hx hb B.returns (fun t ht hW => ⟨rfl, ht⟩) (fun q h => by cases h) j_len_10 B.notSynchronized
    | (rw [e9]; exact W.iret (v := nI bs.length) hx hb B.returns (fun t ht hW => ⟨rfl, ht⟩) (fun q h => by cases h) j_len_10 B.notSynchronized)
    | (rw [show nI bs.length >>> nI 0 = nI bs.length from Int32.shiftRight_zero]; exact W.iret (v := nI bs.length) hx hb B.returns (fun t ht hW => ⟨rfl, ht⟩) (fun q h => by cases h) j_len_10 B.notSynchronized)
set_option maxRecDepth 20000 in
set_option maxHeartbeats 2000000 in
theorem jj_cat (l : Launch) (bs : List Int32) (hB : BL bs) (sa va sz : Nat) (A : Nat → Prop) (k : Nat) (hk : k < bs.length) : Met l (mtY mJ_cat) (wM mJ_cat :: WG) (mtR mJ_cat) (va_Pc [.ref sa, .int (nI k)] (JS bs sa va A sz)) (JQ (some (.int (bs.getD k 0)))) 0 0 (fun _ => False) := by
  refine Met.ofW (cc := mtC mJ_cat) (maxL := mtL mJ_cat) (ret := mtT mJ_cat) (by decide +kernel) rfl ?_
  intro p e s m args below meth c s₁ B hml hv
  obtain ⟨rfl, hJ⟩ := hv
  have hx := B.exec
  have hb := B.bytes
  have hts := atoms_spec (ws := wM mJ_cat :: WG) B.pre
  have hw : ∀ w ∈ WG, w.before _ s = true := fun w h => hts w (List.mem_cons_of_mem _ h)
  have hown : s.vm.findClass "java/lang/String" = some m.cls := findClass_of_methodNamed B.named
  have hS : va_S A s.heap s.heap [] := va_S.rf
  obtain ⟨v, hv, ev⟩ := hB.2 k hk
  have hl := lv_entry [.ref sa, .int (nI k)] (n := 2) (Nat.le_of_ble_eq_true rfl)
  rw [lg_entry_eq]
  refine lv_aload_n hx hb j_cat_0 rfl (lv_at hl 0 rfl) ?_
  refine j_call (r := some (.int (nI 1))) (rest := []) (va_runV (As := []) (rest := []) (nL := 2) (n := 0) (own := "java/lang/String") (C := "java/lang/String") (b := sa) (cc := mtC mJ_cat) (Ts := WG) ⟨hx, hb, hml, hown, hw⟩ (jj_isl l bs hB sa va sz A) ⟨j_cb (M' := mJ_isl) (np := 0) hw g_1285 g_36 g_1288 rfl ⟨by decide +kernel, by decide +kernel, by decide +kernel⟩ ⟨by decide, by decide⟩, hw _ g_1286, hw _ g_1287⟩ ⟨JS.blind, vk_recv hJ.2.2.2 (by decide : 0 < 1) hS, fun U hU hW => ⟨rfl, hJ.go hU hW⟩⟩ rfl rfl hl.1 rfl (Nat.le_of_ble_eq_true rfl) j_cat_1 ⟨by decide, by decide⟩) ?_
  refine lv_if_eq (tgt := 16) hx hb j_cat_4 (by decide) (fun q => absurd q (by decide)) (fun q => ?_)
  refine lv_aload_n hx hb j_cat_7 rfl (lv_at hl 0 rfl) ?_
  refine vk_getf hx hb (hJ.2.2.2.1 0 (by decide)).2.2.1 hS hown (hw _ g_1267) (fun _ h => h) j_cat_8 ?_
  refine lv_iload_n hx hb j_cat_11 rfl (lv_at hl 1 rfl) ?_
  refine j_call (r := some (.int (bs.getD k 0))) (rest := []) (va_runS (As := [.ref va, .int (nI k)]) (rest := []) (nL := 2) (n := 2) (own := "java/lang/String") (cc := mtC mJ_cat) (Ts := WG) ⟨hx, hb, hml, hown, hw⟩ (jj_lat l bs hB sa va sz A k hk) ⟨j_cb (M' := mJ_lat) (np := 2) hw g_1289 g_42 g_1291 rfl ⟨by decide +kernel, by decide +kernel, by decide +kernel⟩ ⟨by decide, by decide⟩, hw _ g_1290⟩ ⟨JS.blind, fun U hU hW => ⟨rfl, hJ.go hU hW⟩⟩ rfl rfl hl.1 rfl (Nat.le_of_ble_eq_true rfl) j_cat_12 ⟨by decide, by decide⟩) ?_
  rw [ev]
  exact W.zret (v := nI v) (ty := .char) hx hb B.returns (congrArg Value.int (ch7 v hv).2) (fun t ht hW => ⟨rfl, ht⟩) (fun q h => by cases h) j_cat_15 B.notSynchronized
/-- a text stands outside -/
def SE (bs : List Int32) : ET := fun z b s => ∃ va, vk_S 1 [bs.length] [bs] (fun _ => b) (fun _ => va) (AA z s.heap.size) s s.heap
theorem SE.eb {bs : List Int32} : EB (SE bs) := fun z b u U hh hv h => by
  obtain ⟨va, h⟩ := h
  refine ⟨va, ?_⟩
  rw [hh]
  exact vk_S.moved hv h
theorem js_at {bs : List Int32} {l : Launch} {M : MT} {D : va_G} {aC : Nat → ClassId} {z b va : Nat} {p : Program} {s : State} {m : MethodId} {args : Array Value} {meth : Method} {c : Code} {H : Heap} {locs : List Loc} (C : Lx l M D aC z p s m args meth c) (hT : vk_S 1 [bs.length] [bs] (fun _ => b) (fun _ => va) (AA z s.heap.size) s s.heap) (hS : va_S (AA z s.heap.size) s.heap H locs) {U : State} (hU : U.heap = H) (hW : s.WarmedH U.vm) : JS bs b va (AA z s.heap.size) H.size U := by
  have hZ := C.2.2.2.2.2.2.2.2.2.1.2.2
  unfold JS
  rw [hU]
  exact ⟨rfl, va_Z.moved hW.alike (hZ.1.kept hS.2.1), va_Zq.moved hW.alike (hZ.2.1.kept hS.2.1), vk_S.moved hW.alike (hT.kept hS.2.1)⟩
section LEJ
variable {M : MT} {pc n idx : Nat} {L : List (Nat × Value)} {st : List Value} {σ : SS} {f : XF} {cu su : Nat} {G : GT} {bs : List Int32}
theorem vk_recv9 {A : Nat → Prop} {s : State} {H : Heap} {locs : List Loc} {b va : Nat} (hE : vk_S 1 [bs.length] [bs] (fun _ => b) (fun _ => va) A s s.heap) (hS : va_S A s.heap H locs) : ∃ cell : Cell, H[b]? = some cell ∧ cell.vm.isStatics = false ∧ s.vm.findClass "java/lang/String" = some cell.cls := vk_recv hE (by decide : 0 < 1) hS
theorem LE.jlen (hB : BL bs) (hd : decode (mtC M) pc = .ok (.invokevirtual idx, 3)) (hn : pc + 3 = n) (h1 : Cond.methodLink (mtY M).cls idx (mtY mJ_len) ∈ WG) (hR : 3 ≤ (mtR M).frames ∧ 84 ≤ (mtR M).locals) (hc : rE M cu su) (hst : (st.map fun v => v.category).sum ≤ 8) (kk : LE M (SE bs) n L (.int (nI bs.length) :: st) σ f cu su G) : LE M (SE bs) pc L (.ref SP :: st) σ f cu su G := by
  subst hn
  intro l D aC z b w p e s m args below meth c H locs ls C hE hzz hX hP hS hl
  obtain ⟨va, hT⟩ := id hE
  have hw := C.2.2.2.2.2.2.1
  refine j_call (r := some (.int (nI bs.length))) (rest := st.map (trw z b w)) (va_runV (As := []) (rest := st.map (trw z b w)) (nL := mtL M) (n := 0) (own := (mtY M).cls) (C := "java/lang/String") (b := b) (cc := mtC M) (Ts := WG) ⟨C.2.1, C.2.2.1, C.2.2.2.1, C.2.2.2.2.2.1, hw⟩ (jj_len l bs hB b va H.size (AA z s.heap.size)) ⟨j_cb (M' := mJ_len) (np := 0) hw h1 g_36 g_1144 rfl ⟨by decide +kernel, by decide +kernel, by decide +kernel⟩ ⟨hR.1, hR.2⟩, hw _ g_1142, hw _ g_1143⟩ ⟨JS.blind, vk_recv9 hT hS, fun U hU hW => ⟨rfl, js_at C hT hS hU hW⟩⟩ rfl rfl hl.1 rfl (by
    show 2 * 0 + _ ≤ 8
    rw [List.map_map, show ((fun v => v.category) ∘ trw z b w) = fun v : Value => v.category from funext fun v => trw_cat z b w v]
    omega) hd ⟨by rw [show cu + 0 = cu from rfl]; exact hc.1, by rw [show su + 0 = su from rfl]; exact hc.2⟩) ?_
  exact kk l D aC z b w p e s m args below meth c H locs ls C hE hzz hX hP hS hl
theorem LE.jcat (hB : BL bs) {i : Int32} (k : Nat) (hk : k < bs.length) (hi : i = nI k) (hd : decode (mtC M) pc = .ok (.invokevirtual idx, 3)) (hn : pc + 3 = n) (h1 : Cond.methodLink (mtY M).cls idx (mtY mJ_cat) ∈ WG) (hR : 5 ≤ (mtR M).frames ∧ 149 ≤ (mtR M).locals) (hc : rE M cu su) (hst : (st.map fun v => v.category).sum ≤ 8) (kk : LE M (SE bs) n L (.int (bs.getD k 0) :: st) σ f cu su G) : LE M (SE bs) pc L (.int i :: .ref SP :: st) σ f cu su G := by
  subst hn
  subst hi
  intro l D aC z b w p e s m args below meth c H locs ls C hE hzz hX hP hS hl
  obtain ⟨va, hT⟩ := id hE
  have hw := C.2.2.2.2.2.2.1
  refine j_call (r := some (.int (bs.getD k 0))) (rest := st.map (trw z b w)) (va_runV (As := [.int (nI k)]) (rest := st.map (trw z b w)) (nL := mtL M) (n := 1) (own := (mtY M).cls) (C := "java/lang/String") (b := b) (cc := mtC M) (Ts := WG) ⟨C.2.1, C.2.2.1, C.2.2.2.1, C.2.2.2.2.2.1, hw⟩ (jj_cat l bs hB b va H.size (AA z s.heap.size) k hk) ⟨j_cb (M' := mJ_cat) (np := 1) hw h1 g_36 g_1284 rfl ⟨by decide +kernel, by decide +kernel, by decide +kernel⟩ ⟨hR.1, hR.2⟩, hw _ g_1282, hw _ g_1283⟩ ⟨JS.blind, vk_recv9 hT hS, fun U hU hW => ⟨rfl, js_at C hT hS hU hW⟩⟩ rfl rfl hl.1 rfl (by
    show 2 * 0 + _ ≤ 8
    rw [List.map_map, show ((fun v => v.category) ∘ trw z b w) = fun v : Value => v.category from funext fun v => trw_cat z b w v]
    omega) hd ⟨by rw [show cu + 0 = cu from rfl]; exact hc.1, by rw [show su + 0 = su from rfl]; exact hc.2⟩) ?_
  exact kk l D aC z b w p e s m args below meth c H locs ls C hE hzz hX hP hS hl
end LEJ
/-- the text with the first j letters of bs ahead -/
def tW (t : NA) (bs : List Int32) : Nat → NA
  | 0 => t
  | j + 1 => upN (tW t bs j) j (bs.getD j 0)
def AR (A : AS) (bs : List Int32) (j : Nat) : AS := (A.1, A.2.1, A.2.2.1, j, tW A.2.2.2.2.1 bs j, A.2.2.2.2.2)
theorem stepA_R {A : AS} {bs : List Int32} {j : Nat} (hj : j < 60) : stepA (AR A bs j) (bs.getD j 0) = (0, nI (j + 1), AR A bs (j + 1)) := by
  unfold stepA
  exact if_neg (by show ¬ j = 60; omega)
theorem AR.zero {A : AS} {bs : List Int32} (h : A.2.2.2.1 = 0) : AR A bs 0 = A := by
  obtain ⟨N, h1, s, n, t, e⟩ := A
  have h : n = 0 := h
  subst h
  rfl
abbrev mL_reads : MT := (yL_reads, cL_reads, 3, some .int, { frames := 9, cells := 60, slots := 360, locals := 288 }, [])
theorem ch_L_135 : CHL RL 135 mL_append 2 := ⟨g_740, g_741, g_20, g_742, rfl, ⟨by decide +kernel, by decide +kernel, by decide +kernel⟩⟩
set_option maxRecDepth 20000 in
set_option maxHeartbeats 2000000 in
theorem reads_l {G : GT} {bs : List Int32} (hB : BL bs) (od : Int64 × UInt64) (A : AS) (k : ∀ c, CA c (AR A bs bs.length) → LE mL_reads (SE bs) 34 [(0, .ref 0), (1, .ref SP)] [] (c, od) none 40 240 G) : ∀ (n i : Nat) (c : CC), i ≤ bs.length → bs.length < i + n → CA c (AR A bs i) → LE mL_reads (SE bs) 2 [(0, .ref 0), (1, .ref SP), (2, .int (nI i))] [] (c, od) none i (6 * i) G := by
  have h40 := hB.1
  intro n
  induction n with
  | zero =>
    intro i c h1 h2
    exact absurd h2 (by omega)
  | succ n ih =>
    intro i c hi hn H
    refine LE.iload_n (n := 3) dL_reads_2 rfl rfl ?_
    refine LE.aload_n (n := 4) dL_reads_3 rfl rfl ?_
    refine LE.jlen hB (n := 7) dL_reads_4 rfl g_1280 ⟨by decide, by decide⟩ ⟨(by show i ≤ 60; omega), (by show 6 * i ≤ 360; omega)⟩ (Nat.le_of_ble_eq_true rfl) ?_
    refine LE.icmp_ge (n := 10) (tgt := 34) dL_reads_7 rfl (by decide) (fun h7 => ?_) (fun h7 => ?_)
    · skip
      have hx : i = bs.length := by have := ge_t (by omega) (by omega) h7; omega
      subst hx
      exact LE.ofA (L' := [(0, .ref 0), (1, .ref SP)]) ⟨rfl, rfl, trivial⟩ (LE.wid (by omega) (by omega) (k _ H))
    · skip
      have hlt : i < bs.length := ge_f (by omega) (by omega) h7
      have hch : vp_nar .char (bs.getD i 0) = bs.getD i 0 := by
        obtain ⟨v, hv, ev⟩ := hB.2 i hlt
        rw [ev]
        exact (ch7 v hv).2
      refine LE.aload_n (n := 11) dL_reads_10 rfl rfl ?_
      refine LE.aload_n (n := 12) dL_reads_11 rfl rfl ?_
      refine LE.iload_n (n := 13) dL_reads_12 rfl rfl ?_
      refine LE.jcat hB i hlt rfl (n := 16) dL_reads_13 rfl g_1281 ⟨by decide, by decide⟩ ⟨(by show i ≤ 60; omega), (by show 6 * i ≤ 360; omega)⟩ (Nat.le_of_ble_eq_true rfl) ?_
      refine LE.H2PI (M' := mL_append) (n := 19) dL_reads_16 rfl ch_L_135 ⟨⟨by decide, by decide⟩, (by show i + 1 ≤ 60; omega), (by show 6 * i + 6 ≤ 360; omega)⟩ (Nat.le_of_ble_eq_true rfl) (x_append _ od _ H _ hch) (fun _ _ _ => rfl) (fun r16 σ16 q16 => ?_)
      obtain ⟨c1, rfl, H1, rfl⟩ := q16
      rw [stepA_R (by omega)] at H1
      rw [show hvS (stepA (AR A bs i) (bs.getD i 0)) = nI (i + 1) by rw [stepA_R (by omega)]; rfl]
      refine LE.cu (cu' := i + 1) (su' := 6 * i + 6) (by show i + 1 = _; omega) (by show 6 * i + 6 = _; omega) ?_
      refine LE.iload_n (n := 20) dL_reads_19 rfl rfl ?_
      refine LE.iconst (n := 21) (nI 1) dL_reads_20 rfl (by decide) ?_
      refine LE.iadd (n := 22) dL_reads_21 rfl ?_
      refine LE.icmp_eq (n := 25) (tgt := 28) dL_reads_22 rfl (by decide) (fun h22 => ?_) (fun h22 => ?_)
      rotate_left
      · exact absurd (nI_add i 1).symm h22
      refine LE.iincV (n := 31) (nI (i + 1)) dL_reads_28 rfl rfl (by decide) (nI_inc i) ?_
      refine LE.goto (tgt := 2) dL_reads_31 (by decide) ?_
      exact LE.ofA (L' := [(0, .ref 0), (1, .ref SP), (2, .int (nI (i + 1)))]) ⟨rfl, rfl, rfl, trivial⟩ (LE.cu (by omega) (by omega) (ih (i + 1) _ (by omega) (by omega) H1))
theorem ch_L_140 : CHL RL 140 mL_read 1 := ⟨g_768, g_769, g_20, g_770, rfl, ⟨by decide +kernel, by decide +kernel, by decide +kernel⟩⟩
set_option maxRecDepth 20000 in
set_option maxHeartbeats 2000000 in
theorem c_reads {bs : List Int32} (hB : BL bs) (od : Int64 × UInt64) (A : AS) (c : CC) (H : CA c A) (h0 : A.2.2.2.1 = 0) : CX (SE bs) mL_reads [.ref 0, .ref SP] (c, od) (PI (HP od (stepD (AR A bs bs.length)))) := by
  have h40 := hB.1
  refine CX.of SE.eb [(0, .ref 0), (1, .ref SP)] rfl (by decide +kernel) rfl (Nat.le_of_ble_eq_true rfl) ?_
  refine LE.iconst (n := 1) (nI 0) dL_reads_0 rfl (by decide) ?_
  refine LE.istore_n (n := 2) dL_reads_1 rfl (by decide) ?_
  refine LE.ofA (L' := [(0, .ref 0), (1, .ref SP), (2, .int (nI 0))]) ⟨rfl, rfl, rfl, trivial⟩ ?_
  refine reads_l hB od A (fun c H => ?_) (bs.length + 1) 0 c (by omega) (by omega) (by rw [AR.zero h0]; exact H)
  refine LE.aload_n (n := 35) dL_reads_34 rfl rfl ?_
  refine LE.H1PI (M' := mL_read) (n := 38) dL_reads_35 rfl ch_L_140 ⟨⟨by decide, by decide⟩, (by show 40 + 3 ≤ 60; omega), (by show 240 + 18 ≤ 360; omega)⟩ (Nat.le_of_ble_eq_true rfl) (x_read _ od _ H) (fun _ _ _ => rfl) (fun r35 σ35 q35 => ?_)

  refine LE.cu (cu' := 40 + 3) (su' := 240 + 18) (by show 40 + 3 = _; omega) (by show 240 + 18 = _; omega) ?_
  refine LE.iret (ty := .int) dL_reads_38 rfl rfl ⟨(by show 40 + 3 ≤ 60; omega), (by show 240 + 18 ≤ 360; omega)⟩ ?_
  exact PI.mk q35
