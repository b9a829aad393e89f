/-! String.charAt of the reference's one literal: the JDK's five methods, walked; then the reference's sign -/
def JS (sa va : Nat) (A : Nat → Prop) (sz : Nat) (U : State) : Prop := U.heap.size = sz ∧ va_Z "java/lang/String" "COMPACT_STRINGS" "Z" (.int 1) A U U.heap ∧ va_Zq "jdk/internal/util/Preconditions" "SIOOBE_FORMATTER" "Ljava/util/function/BiFunction;" A U U.heap ∧ vk_S 1 [4] [[116, 97, 108, 120]] (fun _ => sa) (fun _ => va) A U U.heap
theorem JS.blind {sa va sz : Nat} {A : Nat → Prop} {av : List Value} : FrameBlind (va_Pc av (JS sa va A sz)) := by
  intro a U g mk h
  obtain ⟨h0, h1, h2, h3, h4⟩ := h
  exact ⟨h0, h1, va_Z.moved (u := U) (U := U.calling g mk a) (Vm.Alike.refl U.vm) h2, va_Zq.moved (u := U) (U := U.calling g mk a) (Vm.Alike.refl U.vm) h3, vk_S.moved (u := U) (U := U.calling g mk a) (Vm.Alike.refl U.vm) h4⟩
theorem JS.go {sa va sz : Nat} {A : Nat → Prop} {s U : State} (h : JS sa va A sz s) (hh : U.heap = s.heap) (hW : s.WarmedH U.vm) : JS sa va A sz U := by
  obtain ⟨h1, h2, h3, h4⟩ := h
  unfold JS
  rw [hh]
  exact ⟨h1, va_Z.moved hW.alike h2, va_Zq.moved hW.alike h3, vk_S.moved hW.alike h4⟩
def JQ (r : Option Value) : Array Value → State → Outcome → State → Prop := fun _ st o t => o = .returned r ∧ t.heap = st.heap
section JC
variable {p : Program} {l : Launch} {e : Env} {R : Room} {s : State} {m : MethodId} {args : Array Value} {below : List Frame} {meth : Method} {c : Code} {H : Heap} {locs : List Loc} {cells slots : Nat} {Q : State → Prop}
theorem j_call {pc : Nat} {ls : Array Slot} {st0 rest : List Value} {r : Option Value} {a : Array Value} (hr : va_Run p l e R s m args below meth c H locs cells slots 0 0 (F0 m pc ls st0) rest (JQ r a) (fun _ => False)) (kk : W p l e R s m args below meth c H locs cells slots Q (F0 m (pc + 3) ls (r.toList ++ rest))) : W p l e R s m args below meth c H locs cells slots Q (F0 m pc ls st0) := by
  intro T hT X
  obtain ⟨v, st₀, t, T', L, h0, X', hL, e1, e2, ⟨hv, hh⟩, st⟩ := hr T hT X
  cases hv
  have hL0 : L = [] := by
    cases L with
    | nil => rfl
    | cons q r => exact absurd (hL q List.mem_cons_self) id
  subst hL0
  rw [List.append_nil] at X'
  obtain ⟨t2, a1, b1⟩ := kk T' (by rw [e1, hh, h0]) X'
  exact ⟨t2, st t2 a1, b1⟩
theorem j_cb {M' : MT} {own : String} {idx np : Nat} (hw : ∀ w ∈ WG, w.before args s = true) (c1 : Cond.methodLink own idx (mtY M') ∈ WG) (c4 : Cond.initialized (mtY M').cls ∈ WG) (c5 : wM M' ∈ WG) (c6 : mtH M' = []) (c7 : dOK (mtY M') np) (hR : (mtR M').frames + 1 ≤ R.frames ∧ 8 + (mtL M' + 11) + (mtR M').locals ≤ R.locals) : CallB R s args own idx (mtY M') (mtC M') (mtL M') (mtT M') (wM M' :: WG) (mtR M') (mtR M').cells (mtR M').slots np := by
  refine ⟨rfl, rfl, hR.1, hR.2, pay_in hw (WG_in c5), by rw [wM_nil c6]; exact List.mem_cons_self, by rw [← wM_nil c6]; exact hw _ c5, hw _ c4, ⟨c7.1, c7.2.1⟩, fun sig h => ?_, hw _ c1⟩
  have h2 := c7.2.2
  rw [h] at h2
  exact (Option.some.inj h2).symm
end JC
abbrev mJ_pchk : MT := (⟨"jdk/internal/util/Preconditions", "checkIndex", "(IILjava/util/function/BiFunction;)I"⟩, prog_28_method_11_code, 3, some .int, { frames := 1, cells := 0, slots := 0, locals := 32 }, [])
abbrev mJ_schk : MT := (⟨"java/lang/String", "checkIndex", "(II)V"⟩, prog_20_method_155_code, 2, none, { frames := 2, cells := 0, slots := 0, locals := 64 }, [])
abbrev mJ_lat : MT := (⟨"java/lang/StringLatin1", "charAt", "([BI)C"⟩, prog_21_method_2_code, 2, some .char, { frames := 3, cells := 0, slots := 0, locals := 96 }, [])
abbrev mJ_isl : MT := (⟨"java/lang/String", "isLatin1", "()Z"⟩, prog_20_method_154_code, 1, some .boolean, { frames := 1, cells := 0, slots := 0, locals := 32 }, [])
abbrev mJ_at : MT := (⟨"java/lang/String", "charAt", "(I)C"⟩, prog_20_method_56_code, 2, some .char, { frames := 4, cells := 0, slots := 0, locals := 128 }, [])
theorem jp_0 : decode prog_28_method_11_code 0 = .ok (.iload_n 0, 1) := by decide +kernel
theorem jp_1 : decode prog_28_method_11_code 1 = .ok (.ifCond .lt 8, 3) := by decide +kernel
theorem jp_4 : decode prog_28_method_11_code 4 = .ok (.iload_n 0, 1) := by decide +kernel
theorem jp_5 : decode prog_28_method_11_code 5 = .ok (.iload_n 1, 1) := by decide +kernel
theorem jp_6 : decode prog_28_method_11_code 6 = .ok (.if_icmp .lt 10, 3) := by decide +kernel
theorem jp_16 : decode prog_28_method_11_code 16 = .ok (.iload_n 0, 1) := by decide +kernel
theorem jp_17 : decode prog_28_method_11_code 17 = .ok (.ireturn, 1) := by decide +kernel
theorem js_0 : decode prog_20_method_155_code 0 = .ok (.iload_n 0, 1) := by decide +kernel
theorem js_1 : decode prog_20_method_155_code 1 = .ok (.iload_n 1, 1) := by decide +kernel
theorem js_2 : decode prog_20_method_155_code 2 = .ok (.getstatic 1053, 3) := by decide +kernel
theorem js_5 : decode prog_20_method_155_code 5 = .ok (.invokestatic 1059, 3) := by decide +kernel
theorem js_8 : decode prog_20_method_155_code 8 = .ok (.pop, 1) := by decide +kernel
theorem js_9 : decode prog_20_method_155_code 9 = .ok (.return_, 1) := by decide +kernel
theorem jl_0 : decode prog_21_method_2_code 0 = .ok (.iload_n 1, 1) := by decide +kernel
theorem jl_1 : decode prog_21_method_2_code 1 = .ok (.aload_n 0, 1) := by decide +kernel
theorem jl_2 : decode prog_21_method_2_code 2 = .ok (.arraylength, 1) := by decide +kernel
theorem jl_3 : decode prog_21_method_2_code 3 = .ok (.invokestatic 9, 3) := by decide +kernel
theorem jl_6 : decode prog_21_method_2_code 6 = .ok (.aload_n 0, 1) := by decide +kernel
theorem jl_7 : decode prog_21_method_2_code 7 = .ok (.iload_n 1, 1) := by decide +kernel
theorem jl_8 : decode prog_21_method_2_code 8 = .ok (.baload, 1) := by decide +kernel
theorem jl_9 : decode prog_21_method_2_code 9 = .ok (.sipush 255, 3) := by decide +kernel
theorem jl_12 : decode prog_21_method_2_code 12 = .ok (.iand, 1) := by decide +kernel
theorem jl_13 : decode prog_21_method_2_code 13 = .ok (.i2c, 1) := by decide +kernel
theorem jl_14 : decode prog_21_method_2_code 14 = .ok (.ireturn, 1) := by decide +kernel
theorem ji_0 : decode prog_20_method_154_code 0 = .ok (.getstatic 38, 3) := by decide +kernel
theorem ji_3 : decode prog_20_method_154_code 3 = .ok (.ifCond .eq 14, 3) := by decide +kernel
theorem ji_6 : decode prog_20_method_154_code 6 = .ok (.aload_n 0, 1) := by decide +kernel
theorem ji_7 : decode prog_20_method_154_code 7 = .ok (.getfield 15, 3) := by decide +kernel
theorem ji_10 : decode prog_20_method_154_code 10 = .ok (.ifCond .ne 7, 3) := by decide +kernel
theorem ji_13 : decode prog_20_method_154_code 13 = .ok (.iconst 1, 1) := by decide +kernel
theorem ji_14 : decode prog_20_method_154_code 14 = .ok (.goto 4, 3) := by decide +kernel
theorem ji_18 : decode prog_20_method_154_code 18 = .ok (.ireturn, 1) := by decide +kernel
theorem jc_0 : decode prog_20_method_56_code 0 = .ok (.aload_n 0, 1) := by decide +kernel
theorem jc_1 : decode prog_20_method_56_code 1 = .ok (.invokevirtual 492, 3) := by decide +kernel
theorem jc_4 : decode prog_20_method_56_code 4 = .ok (.ifCond .eq 12, 3) := by decide +kernel
theorem jc_7 : decode prog_20_method_56_code 7 = .ok (.aload_n 0, 1) := by decide +kernel
theorem jc_8 : decode prog_20_method_56_code 8 = .ok (.getfield 9, 3) := by decide +kernel
theorem jc_11 : decode prog_20_method_56_code 11 = .ok (.iload_n 1, 1) := by decide +kernel
theorem jc_12 : decode prog_20_method_56_code 12 = .ok (.invokestatic 495, 3) := by decide +kernel
theorem jc_15 : decode prog_20_method_56_code 15 = .ok (.ireturn, 1) := by decide +kernel
set_option maxHeartbeats 1000000 in
theorem jj_pchk (l : Launch) (sa va sz : Nat) (A : Nat → Prop) (k : Nat) (hk : k < 4) (f : Value) (hf : f.category = 1) : Met l (mtY mJ_pchk) (wM mJ_pchk :: WG) (mtR mJ_pchk) (va_Pc [.int (nI k), .int (nI 4), f] (JS sa va A sz)) (JQ (some (.int (nI k)))) 0 0 (fun _ => False) := by
  refine Met.ofW (cc := mtC mJ_pchk) (maxL := 3) (ret := some .int) (by decide +kernel) rfl ?_
  intro p e s m args below meth c s₁ B hml hv
  obtain ⟨rfl, hJ⟩ := hv
  have hx := B.exec
  have hb := B.bytes
  have hl : lv_has (lg_sl [.int (nI k), .int (nI 4), f] ++ List.replicate (3 - (lg_sl [.int (nI k), .int (nI 4), f]).length) Slot.unset).toArray 3 [(0, .int (nI k)), (1, .int (nI 4))] := by
    have h0 := lv_entry [.int (nI k), .int (nI 4), f] (n := 3) (by simp only [lg_sl, List.flatMap_cons, List.flatMap_nil, hf]; exact Nat.le_of_ble_eq_true rfl)
    exact ⟨h0.1, h0.2.1, fun q hq => h0.2.2 q (by
      simp only [List.mem_cons, List.not_mem_nil, or_false] at hq
      rcases hq with rfl | rfl
      · exact List.mem_cons_self
      · exact List.mem_cons_of_mem _ List.mem_cons_self)⟩
  rw [lg_entry_eq]
  refine lv_iload_n hx hb jp_0 rfl (lv_at hl 0 rfl) ?_
  refine lv_if_lt (tgt := 9) hx hb jp_1 (by decide) (fun q => ?_) (fun q => ?_)
  · exact absurd q (by
      rcases (show k = 0 ∨ k = 1 ∨ k = 2 ∨ k = 3 by omega) with rfl | rfl | rfl | rfl <;> decide)
  · refine lv_iload_n hx hb jp_4 rfl (lv_at hl 0 rfl) ?_
    refine lv_iload_n hx hb jp_5 rfl (lv_at hl 1 rfl) ?_
    refine lv_icmp_lt (tgt := 16) hx hb jp_6 (by decide) (fun q => ?_) (fun q => ?_)
    · refine lv_iload_n hx hb jp_16 rfl (lv_at hl 0 rfl) ?_
      exact W.iret (v := nI k) hx hb B.returns (fun t ht hW => ⟨rfl, ht⟩) (fun q h => by cases h) jp_17 B.notSynchronized
    · exact absurd (by
        rcases (show k = 0 ∨ k = 1 ∨ k = 2 ∨ k = 3 by omega) with rfl | rfl | rfl | rfl <;> decide) q
set_option maxHeartbeats 1000000 in
theorem jj_schk (l : Launch) (sa va sz : Nat) (A : Nat → Prop) (k : Nat) (hk : k < 4) : Met l (mtY mJ_schk) (wM mJ_schk :: WG) (mtR mJ_schk) (va_Pc [.int (nI k), .int (nI 4)] (JS sa va A sz)) (JQ none) 0 0 (fun _ => False) := by
  refine Met.ofW (cc := mtC mJ_schk) (maxL := 2) (ret := none) (by decide +kernel) rfl ?_
  intro p e s m args below meth c s₁ B hml hv
  obtain ⟨rfl, hJ⟩ := hv
  have hx := B.exec
  have hb := B.bytes
  have hts := atoms_spec (ws := wM mJ_schk :: WG) B.pre
  have hw : ∀ w ∈ WG, w.before _ s = true := fun w h => hts w (List.mem_cons_of_mem _ h)
  have hown : s.vm.findClass "java/lang/String" = some m.cls := findClass_of_methodNamed B.named
  have hl := lv_entry [.int (nI k), .int (nI 4)] (n := 2) (Nat.le_of_ble_eq_true rfl)
  rw [lg_entry_eq]
  refine lv_iload_n hx hb js_0 rfl (lv_at hl 0 rfl) ?_
  refine lv_iload_n hx hb js_1 rfl (lv_at hl 1 rfl) ?_
  have hS : va_S A s.heap s.heap [] := va_S.rf
  have go : ∀ f : Value, f.category = 1 → W p l e (mtR mJ_schk) s m #[Value.int (nI k), Value.int (nI 4)] below meth c s.heap [] 0 0 (MQ below (JQ none) #[Value.int (nI k), Value.int (nI 4)] s 0 0 (fun _ => False)) (F0 m 5 (lg_sl [.int (nI k), .int (nI 4)] ++ List.replicate (2 - (lg_sl [.int (nI k), .int (nI 4)]).length) Slot.unset).toArray [f, .int (nI 4), .int (nI k)]) := by
    intro f hf
    refine j_call (r := some (.int (nI k))) (rest := []) (va_runS (As := [.int (nI k), .int (nI 4), f]) (rest := []) (nL := 2) (n := 3) (own := "java/lang/String") (cc := mtC mJ_schk) (Ts := WG) ⟨hx, hb, hml, hown, hw⟩ (jj_pchk l sa va sz A k hk f hf) ⟨j_cb (M' := mJ_pchk) (np := 3) hw g_1305 g_79 g_1307 rfl ⟨by decide +kernel, by decide +kernel, by decide +kernel⟩ ⟨by decide, by decide⟩, hw _ g_1306⟩ ⟨JS.blind, fun U hU hW => ⟨rfl, hJ.go hU hW⟩⟩ rfl rfl hl.1 rfl (Nat.le_of_ble_eq_true rfl) js_5 ⟨by decide, by decide⟩) ?_
    refine lv_pop hx hb js_8 rfl ?_
    exact W.vret hx hb B.returns (fun t ht hW => ⟨rfl, ht⟩) (fun q h => by cases h) js_9 B.notSynchronized
  rcases hJ.2.2.1 with hZ | ⟨t, hZ⟩
  · exact va_gets hx hb hZ hS hown (hw _ g_1303) (fun _ h => h) js_2 (go .null rfl)
  · exact va_gets hx hb hZ hS hown (hw _ g_1303) (fun _ h => h) js_2 (go (.ref t) rfl)
def chJ (k : Nat) : Int32 := [nI 116, nI 97, nI 108, nI 120].getD k 0
set_option maxHeartbeats 1000000 in
theorem jj_lat (l : Launch) (sa va sz : Nat) (A : Nat → Prop) (k : Nat) (hk : k < 4) : Met l (mtY mJ_lat) (wM mJ_lat :: WG) (mtR mJ_lat) (va_Pc [.ref va, .int (nI k)] (JS sa va A sz)) (JQ (some (.int (chJ k)))) 0 0 (fun _ => False) := by
  refine Met.ofW (cc := mtC mJ_lat) (maxL := 2) (ret := some .char) (by decide +kernel) rfl ?_
  intro p e s m args below meth c s₁ B hml hv
  obtain ⟨rfl, hJ⟩ := hv
  have hx := B.exec
  have hb := B.bytes
  have hts := atoms_spec (ws := wM mJ_lat :: WG) B.pre
  have hw : ∀ w ∈ WG, w.before _ s = true := fun w h => hts w (List.mem_cons_of_mem _ h)
  have hown : s.vm.findClass "java/lang/StringLatin1" = some m.cls := findClass_of_methodNamed B.named
  have hl := lv_entry [.ref va, .int (nI k)] (n := 2) (Nat.le_of_ble_eq_true rfl)
  have hS : va_S A s.heap s.heap [] := va_S.rf
  have hT := (hJ.2.2.2.1 0 (by decide)).2.2.2
  rw [lg_entry_eq]
  refine lv_iload_n hx hb jl_0 rfl (lv_at hl 1 rfl) ?_
  refine lv_aload_n hx hb jl_1 rfl (lv_at hl 0 rfl) ?_
  refine va_tlen (v := nI 4) hx hb hT hS rfl jl_2 ?_
  refine j_call (r := none) (rest := []) (va_runS (As := [.int (nI k), .int (nI 4)]) (rest := []) (nL := 2) (n := 2) (own := "java/lang/StringLatin1") (cc := mtC mJ_lat) (Ts := WG) ⟨hx, hb, hml, hown, hw⟩ (jj_schk l sa va sz A k hk) ⟨j_cb (M' := mJ_schk) (np := 2) hw g_1300 g_75 g_1302 rfl ⟨by decide +kernel, by decide +kernel, by decide +kernel⟩ ⟨by decide, by decide⟩, hw _ g_1301⟩ ⟨JS.blind, fun U hU hW => ⟨rfl, hJ.go hU hW⟩⟩ rfl rfl hl.1 rfl (Nat.le_of_ble_eq_true rfl) jl_3 ⟨by decide, by decide⟩) ?_
  refine lv_aload_n hx hb jl_6 rfl (lv_at hl 0 rfl) ?_
  refine lv_iload_n hx hb jl_7 rfl (lv_at hl 1 rfl) ?_
  refine va_tb (v := .int (chJ k)) hx hb hT hS (vp_in_nI hk (by decide)) (by
    rw [nI_clamp (by omega)]
    rcases (show k = 0 ∨ k = 1 ∨ k = 2 ∨ k = 3 by omega) with rfl | rfl | rfl | rfl <;> rfl) jl_8 ?_
  refine lv_sipush (v := 255) hx hb jl_9 (by decide) ?_
  refine lv_iand hx hb jl_12 ?_
  have e1 : (((chJ k) &&& 255).toUInt32 % 65536).toInt32 = chJ k := by
    rcases (show k = 0 ∨ k = 1 ∨ k = 2 ∨ k = 3 by omega) with rfl | rfl | rfl | rfl <;> decide
  refine lv_i2c hx hb jl_13 e1 ?_
  exact W.zret (v := chJ k) (ty := .char) hx hb B.returns (by
    rcases (show k = 0 ∨ k = 1 ∨ k = 2 ∨ k = 3 by omega) with rfl | rfl | rfl | rfl <;> rfl) (fun t ht hW => ⟨rfl, ht⟩) (fun q h => by cases h) jl_14 B.notSynchronized
set_option maxHeartbeats 1000000 in
theorem jj_isl (l : Launch) (sa va sz : Nat) (A : Nat → Prop) : Met l (mtY mJ_isl) (wM mJ_isl :: WG) (mtR mJ_isl) (va_Pc [.ref sa] (JS sa va A sz)) (JQ (some (.int (nI 1)))) 0 0 (fun _ => False) := by
  refine Met.ofW (cc := mtC mJ_isl) (maxL := 1) (ret := some .boolean) (by decide +kernel) rfl ?_
  intro p e s m args below meth c s₁ B hml hv
  obtain ⟨rfl, hJ⟩ := hv
  have hx := B.exec
  have hb := B.bytes
  have hts := atoms_spec (ws := wM mJ_isl :: WG) B.pre
  have hw : ∀ w ∈ WG, w.before _ s = true := fun w h => hts w (List.mem_cons_of_mem _ h)
  have hown : s.vm.findClass "java/lang/String" = some m.cls := findClass_of_methodNamed B.named
  have hl := lv_entry [.ref sa] (n := 1) (Nat.le_of_ble_eq_true rfl)
  have hS : va_S A s.heap s.heap [] := va_S.rf
  rw [lg_entry_eq]
  refine va_gets hx hb hJ.2.1 hS hown (hw _ g_1295) (fun _ h => h) ji_0 ?_
  refine lv_if_eq (tgt := 17) hx hb ji_3 (by decide) (fun q => ?_) (fun q => ?_)
  · exact absurd q (by decide)
  · refine lv_aload_n hx hb ji_6 rfl (lv_at hl 0 rfl) ?_
    refine vk_getf hx hb (hJ.2.2.2.1 0 (by decide)).2.1 hS hown (hw _ g_1455) (fun _ h => h) ji_7 ?_
    refine lv_if_ne (tgt := 17) hx hb ji_10 (by decide) (fun q => ?_) (fun q => ?_)
    · exact absurd rfl q
    · refine lv_iconst (v := nI 1) hx hb ji_13 (by decide) ?_
      refine lv_goto (tgt := 18) hx hb ji_14 (by decide) ?_
      exact W.zret (v := nI 1) (ty := .boolean) hx hb B.returns rfl (fun t ht hW => ⟨rfl, ht⟩) (fun q h => by cases h) ji_18 B.notSynchronized
set_option maxHeartbeats 1000000 in
theorem jj_at (l : Launch) (sa va sz : Nat) (A : Nat → Prop) (k : Nat) (hk : k < 4) : Met l (mtY mJ_at) (wM mJ_at :: WG) (mtR mJ_at) (va_Pc [.ref sa, .int (nI k)] (JS sa va A sz)) (JQ (some (.int (chJ k)))) 0 0 (fun _ => False) := by
  refine Met.ofW (cc := mtC mJ_at) (maxL := 2) (ret := some .char) (by decide +kernel) rfl ?_
  intro p e s m args below meth c s₁ B hml hv
  obtain ⟨rfl, hJ⟩ := hv
  have hx := B.exec
  have hb := B.bytes
  have hts := atoms_spec (ws := wM mJ_at :: WG) B.pre
  have hw : ∀ w ∈ WG, w.before _ s = true := fun w h => hts w (List.mem_cons_of_mem _ h)
  have hown : s.vm.findClass "java/lang/String" = some m.cls := findClass_of_methodNamed B.named
  have hl := lv_entry [.ref sa, .int (nI k)] (n := 2) (Nat.le_of_ble_eq_true rfl)
  have hS : va_S A s.heap s.heap [] := va_S.rf
  rw [lg_entry_eq]
  refine lv_aload_n hx hb jc_0 rfl (lv_at hl 0 rfl) ?_
  refine j_call (r := some (.int (nI 1))) (rest := []) (va_runV (As := []) (rest := []) (nL := 2) (n := 0) (own := "java/lang/String") (C := "java/lang/String") (b := sa) (cc := mtC mJ_at) (Ts := WG) ⟨hx, hb, hml, hown, hw⟩ (jj_isl l sa va sz A) ⟨j_cb (M' := mJ_isl) (np := 0) hw g_1291 g_75 g_1294 rfl ⟨by decide +kernel, by decide +kernel, by decide +kernel⟩ ⟨by decide, by decide⟩, hw _ g_1292, hw _ g_1293⟩ ⟨JS.blind, vk_recv hJ.2.2.2 (by decide : 0 < 1) hS, fun U hU hW => ⟨rfl, hJ.go hU hW⟩⟩ rfl rfl hl.1 rfl (Nat.le_of_ble_eq_true rfl) jc_1 ⟨by decide, by decide⟩) ?_
  refine lv_if_eq (tgt := 16) hx hb jc_4 (by decide) (fun q => ?_) (fun q => ?_)
  · exact absurd q (by decide)
  · refine lv_aload_n hx hb jc_7 rfl (lv_at hl 0 rfl) ?_
    refine vk_getf hx hb (hJ.2.2.2.1 0 (by decide)).2.2.1 hS hown (hw _ g_1456) (fun _ h => h) jc_8 ?_
    refine lv_iload_n hx hb jc_11 rfl (lv_at hl 1 rfl) ?_
    refine j_call (r := some (.int (chJ k))) (rest := []) (va_runS (As := [.ref va, .int (nI k)]) (rest := []) (nL := 2) (n := 2) (own := "java/lang/String") (cc := mtC mJ_at) (Ts := WG) ⟨hx, hb, hml, hown, hw⟩ (jj_lat l sa va sz A k hk) ⟨j_cb (M' := mJ_lat) (np := 2) hw g_1297 g_78 g_1299 rfl ⟨by decide +kernel, by decide +kernel, by decide +kernel⟩ ⟨by decide, by decide⟩, hw _ g_1298⟩ ⟨JS.blind, fun U hU hW => ⟨rfl, hJ.go hU hW⟩⟩ rfl rfl hl.1 rfl (Nat.le_of_ble_eq_true rfl) jc_12 ⟨by decide, by decide⟩) ?_
    exact W.zret (v := chJ k) (ty := .char) hx hb B.returns (by
      rcases (show k = 0 ∨ k = 1 ∨ k = 2 ∨ k = 3 by omega) with rfl | rfl | rfl | rfl <;> rfl) (fun t ht hW => ⟨rfl, ht⟩) (fun q h => by cases h) jc_15 B.notSynchronized
/-- a call in the world with a reference from outside it below on the stack -/
theorem W.rawV {M M' : MT} {pc idx np cu su : Nat} {σ σ' : SS} {a d : Nat} {r : Int32} (As : List Value) (hd : decode (mtC M) pc = .ok (.invokevirtual idx, 3)) (cv : CVL (mtY M).cls idx M' d np) (hAs : As.length = np) (ha : KD a = d ∧ a < NN) (hR : rC M M' cu su) (hM : CM M' (.ref a :: As) σ (RI r σ')) {rest : List Value} (hst : (rest.map fun v => v.category).sum ≤ 8)
    {l : Launch} {D : va_G} {aC : Nat → ClassId} {z : Nat} {p : Program} {e : Env} {s : State} {m : MethodId} {args : Array Value} {below : List Frame} {meth : Method} {c : Code} {H : Heap} {locs : List Loc} {ls : Array Slot} {Q : State → Prop}
    (C : Cx l M D aC z p s m args meth c) (hP : va_P D vwc (wl z aC σ) H) (hS : va_S (AA z s.heap.size) s.heap H locs) (hl : ls.size = mtL M)
    (kk : ∀ (H1 : Heap) (locs1 : List Loc), va_P D vwc (wl z aC σ') H1 → va_S (AA z s.heap.size) s.heap H1 locs1 → W p l e (mtR M) s m args below meth c H1 locs1 (cu + (mtR M').cells) (su + (mtR M').slots) Q (F0 m (pc + 3) ls (.int r :: rest))) :
    W p l e (mtR M) s m args below meth c H locs cu su Q (F0 m pc ls ((As.map (trv z)).reverse ++ .ref (z + a) :: rest)) := by
  obtain ⟨c1, c2, c3, c4, c5, c6, c7, c8, c9⟩ := cv
  have hw := C.2.2.2.2.2.2.1
  have hwM := wM_nil c6
  have hr := vx_runV (As := As.map (trv z)) (rest := rest) (Ts := WG) (own := (mtY M).cls) (C := (mtY M').cls) (b := z + a) (n := np) (bytes := mtC M') (maxL := mtL M') (ret := mtT M') (e := e) (R := mtR M) (below := below) (meth := meth) (H := H) (locs := locs) (cells := cu) (slots := su) (g := F0 m pc ls ((As.map (trv z)).reverse ++ .ref (z + a) :: rest)) ⟨C.2.1, C.2.2.1, C.2.2.2.1, C.2.2.2.2.2.1, hw⟩ (hM l D aC z H.size C.1)
    ⟨⟨rfl, rfl, hR.1.1, hR.1.2, pay_in hw (WG_in c5), by rw [hwM]; exact List.mem_cons_self, by rw [← hwM]; exact hw _ c5, hw _ c4, ⟨c7.1, c7.2.1⟩, fun sig h => by
      have h2 := c7.2.2
      rw [h] at h2
      exact (Option.some.inj h2).symm, hw _ c1⟩, hw _ c2, hw _ c3⟩
    ⟨SW.blind, by
      have hv := va_recv (cl := vwc) C.2.2.2.2.2.2.2.1 hP (vwc_at c9) (q0 := a) ((wl_at z aC σ ha.2).trans (by rw [cE_obj ha.1 c9]))
      rw [c8]
      exact hv, fun U hU hW => ⟨rfl, SW.at C hP hS hU hW⟩⟩ rfl (by simpa using hAs) hl rfl (by show 2 * 0 + _ ≤ 8; omega) hd hR.2
  intro T hT X
  rcases hr T hT X with ⟨v, st₀, t, T', Lc, h0, X', hL, e1, e2, hq, stp⟩ | ⟨q, st₀, t, T', Lc, E, ce, h0, X', hL, e1, e2, hxq, hce, hcv, hcl, stp⟩
  · obtain ⟨⟨v', σ1, hv, ⟨hQ1, hQ2⟩, hP1⟩, hF⟩ := hq
    cases hQ1
    subst hQ2
    cases hv
    obtain ⟨-, -, k3⟩ := vx_keep h0 e1 hS (fun q _ h => AA_in hS q h) (AA_in hS) hL hF
    obtain ⟨t2, a1, b1⟩ := kk T'.heap (locs ++ Lc) (by rw [e1]; exact hP1) k3 T' rfl X'
    exact ⟨t2, stp t2 a1, b1⟩
  · obtain ⟨⟨σ1, ⟨hQ1, -⟩, -⟩, -⟩ := hxq
    cases hQ1
