/-! StringBuilder: what the law's sums of texts come down to; no growth beyond 16 letters, letters below 128 -/
theorem W0_D {A : Nat → Prop} {aC : Nat → ClassId} {q v k : Nat} {f : Nat → Int32} (h : A q ∧ A v ∧ q ≠ v) : va_D A (W0 aC q v k f) := by
  refine ⟨fun i j x y hi hj hxy => ?_, fun i x hx => ?_⟩
  · match i, j with
    | 0, 0 => rfl
    | 1, 1 => rfl
    | 0, 1 =>
      cases hi
      cases hj
      exact absurd hxy h.2.2
    | 1, 0 =>
      cases hi
      cases hj
      exact absurd hxy.symm h.2.2
    | n + 2, _ => cases hi
    | 0, n + 2 => cases hj
    | 1, n + 2 => cases hj
  · match i with
    | 0 =>
      cases hx
      exact h.1
    | 1 =>
      cases hx
      exact h.2.1
    | n + 2 => cases hx
def JB (D : va_G) (aC : Nat → ClassId) (q v k : Nat) (f : Nat → Int32) (A : Nat → Prop) (U : State) : Prop := KF U ∧ ZS A U U.heap ∧ va_K D vwc (tysOf aC) U ∧ va_P D vwc (W0 aC q v k f) U.heap
def JL (bs : List Int32) (sa va : Nat) (D : va_G) (aC : Nat → ClassId) (q v k : Nat) (f : Nat → Int32) (A : Nat → Prop) (U : State) : Prop := JB D aC q v k f A U ∧ vk_S 1 [bs.length] [bs] (fun _ => sa) (fun _ => va) A U U.heap
section JBS
variable {D : va_G} {aC : Nat → ClassId} {q v k k' sa va : Nat} {f f' : Nat → Int32} {A : Nat → Prop} {bs : List Int32} {av : List Value}
theorem JB.at {s U : State} {H : Heap} {locs : List Loc} (h : JB D aC q v k f A s) (hP : va_P D vwc (W0 aC q v k' f') H) (hS : va_S A s.heap H locs) (hU : U.heap = H) (hW : s.WarmedH U.vm) : JB D aC q v k' f' A U := by
  obtain ⟨h1, h2, h3, -⟩ := h
  refine ⟨h1.warm hW, ?_, va_K.moved hW.alike h3, by rw [hU]; exact hP⟩
  rw [hU]
  exact ZS.go hW h2 hS.2.1 (fun _ h => h)
theorem JL.at {s U : State} {H : Heap} {locs : List Loc} (h : JL bs sa va D aC q v k f A s) (hP : va_P D vwc (W0 aC q v k' f') H) (hS : va_S A s.heap H locs) (hU : U.heap = H) (hW : s.WarmedH U.vm) : JL bs sa va D aC q v k' f' A U := by
  refine ⟨h.1.at hP hS hU hW, ?_⟩
  rw [hU]
  exact vk_S.moved hW.alike (h.2.kept hS.2.1)
theorem JL.js {s U : State} {H : Heap} {locs : List Loc} (h : JL bs sa va D aC q v k f A s) (hS : va_S A s.heap H locs) (hU : U.heap = H) (hW : s.WarmedH U.vm) : JS bs sa va A H.size U := by
  obtain ⟨⟨-, h2, -, -⟩, hT⟩ := h
  have h9 := ZS.go (B := A) hW h2 hS.2.1 (fun _ h => h)
  unfold JS
  rw [hU]
  exact ⟨rfl, h9.1, h9.2.1, vk_S.moved hW.alike (hT.kept hS.2.1)⟩
theorem JB.blind : FrameBlind (va_Pc av (JB D aC q v k f A)) := by
  intro a U g mk h
  obtain ⟨h0, h1, h2, h3, h4⟩ := h
  exact ⟨h0, h1.calling, ZS.go (s := U) (U := U.calling g mk a) (State.WarmedH.refl U) h2 (fun _ _ _ => rfl) (fun _ h => h), va_K.moved (u := U) (U := U.calling g mk a) (Vm.Alike.refl U.vm) h3, h4⟩
theorem JL.blind : FrameBlind (va_Pc av (JL bs sa va D aC q v k f A)) := by
  intro a U g mk h
  obtain ⟨h0, h1, h2⟩ := h
  have h3 := JB.blind (av := av) a U g mk ⟨h0, h1⟩
  exact ⟨h3.1, h3.2, vk_S.moved (u := U) (U := U.calling g mk a) (Vm.Alike.refl U.vm) h2⟩
end JBS
theorem true_blind {av : List Value} : FrameBlind (va_Pc av (fun _ => True)) := fun a U g mk h => ⟨h.1, trivial⟩
def JBQ (D : va_G) (aC : Nat → ClassId) (q v k : Nat) (f : Nat → Int32) (A : Nat → Prop) (r : Option Value) : Array Value → State → Outcome → State → Prop := fun _ st o t => (o = .returned r ∧ va_P D vwc (W0 aC q v k f) t.heap) ∧ va_F A st t
theorem kf_at {w : Cond} {s : State} {args : Array Value} (hF : KF s) (ht : w ∈ lw_tbl) (hk : kfw w = true) (ho : w.onTables = true) : w.before args s = true := va_Nw.use ho (hF.1 w ht hk)
theorem sb_selp {args : Array Value} {s : State} (hw : ∀ w ∈ WG, w.before args s = true) (hF : KF s) {y : MethodName} (hy : y.cls = "java/lang/AbstractStringBuilder") (h1 : Cond.privateMethod y ∈ lw_tbl) (h2 : Cond.instanceMethod y ∈ WG) : (Cond.selects "java/lang/StringBuilder" y y).before args s = true := by
  obtain ⟨c, kc, hc, hk, -, hniab, -, -⟩ := Cond.instantiable_spec (hw _ g_1037)
  obtain ⟨mk, methM, hnamed, hmethM, -, -⟩ := Cond.instanceMethod_spec (hw _ h2)
  have hfound : s.methodFound? y.cls y.name y.desc = some mk := State.methodFound?_of_named hnamed ⟨by rw [hy]; decide, by rw [hy]; decide⟩
  have hsel : selectMethod {} s.vm c mk = .method mk := selectMethod_private hmethM (Cond.privateMethod_at (kf_at (args := args) hF h1 rfl rfl) mk methM hnamed hmethM)
  obtain ⟨cn, ck, r1, hcn, hck, hni, -, -⟩ := Cond.sameMethod_found (kf_at (args := args) hF t_1112 rfl rfl)
  have hcls : mk.cls = cn := by
    have h9 := findClass_of_methodNamed hnamed
    rw [hy] at h9
    exact Option.some.inj (h9.symm.trans hcn)
  simp only [Cond.before, Cond.holds, Cond.value, hc, hfound, hnamed, hsel, hcls, hck]
  simp
  exact hni
section JBC
variable {p : Program} {l : Launch} {e : Env} {R : Room} {s : State} {m : MethodId} {args : Array Value} {below : List Frame} {meth : Method} {c : Code} {H : Heap} {locs : List Loc} {cells slots : Nat} {Q : State → Prop}
theorem b_call {D : va_G} {aC : Nat → ClassId} {q v k' : Nat} {f' : Nat → Int32} {A : Nat → Prop} {pc dc ds : Nat} {ls : Array Slot} {st0 rest : List Value} {r : Option Value} {a : Array Value} (hr : va_Run p l e R s m args below meth c H locs cells slots dc ds (F0 m pc ls st0) rest (JBQ D aC q v k' f' A r a) A) (hS : va_S A s.heap H locs)
    (kk : ∀ (H1 : Heap) (locs1 : List Loc), va_P D vwc (W0 aC q v k' f') H1 → va_S A s.heap H1 locs1 → W p l e R s m args below meth c H1 locs1 (cells + dc) (slots + ds) Q (F0 m (pc + 3) ls (r.toList ++ rest))) : W p l e R s m args below meth c H locs cells slots Q (F0 m pc ls st0) := by
  intro T hT X
  obtain ⟨v9, st₀, t, T', L, h0, X', hL, e1, e2, ⟨⟨hv, hP1⟩, hFr⟩, stp⟩ := hr T hT X
  cases hv
  obtain ⟨-, -, k3⟩ := vx_keep h0 e1 hS (fun q _ h => h) (fun _ h => h) hL hFr
  obtain ⟨t2, a1, b1⟩ := kk T'.heap (locs ++ L) (by rw [e1]; exact hP1) k3 T' rfl X'
  exact ⟨t2, stp t2 a1, b1⟩
theorem j_cs {M' : MT} {own : String} {idx np : Nat} (hw : ∀ w ∈ WG, w.before args s = true) (hF : KF s) (c1 : Cond.methodLink own idx (mtY M') ∈ WG) (t1 : Cond.sameMethod (mtY M').cls (mtY M').cls (mtY M').name (mtY M').desc ∈ lw_tbl) (t2 : Cond.superclass own (mtY M').cls ∈ lw_tbl) (c3 : Cond.instanceMethod (mtY M') ∈ WG) (c4 : Cond.initialized (mtY M').cls ∈ WG) (c5 : wM M' ∈ WG) (c6 : mtH M' = []) (c7 : dOK (mtY M') np) (hn : (mtY M').name ≠ "<init>") (hR : (mtR M').frames + 1 ≤ R.frames ∧ 8 + (mtL M' + 11) + (mtR M').locals ≤ R.locals) : va_CS R s args own idx (mtY M') (mtC M') (mtL M') (mtT M') (wM M' :: WG) (mtR M') (mtR M').cells (mtR M').slots np := by
  refine ⟨⟨rfl, rfl, hR.1, hR.2, pay_in hw (WG_in c5), by rw [wM_nil c6]; exact List.mem_cons_self⟩, hw _ c1, kf_at hF t1 rfl rfl, kf_at hF t2 rfl rfl, hw _ c3, hw _ c4, by rw [← wM_nil c6]; exact hw _ c5, hn, fun sig h => ?_⟩
  have h2 := c7.2.2
  rw [h] at h2
  exact (Option.some.inj h2).symm
end JBC
theorem le16 : ∀ m, m < 17 → nI m - nI 16 ≤ 0 := by decide +kernel
theorem fit8 : ∀ v, v < 128 → fits .byte (.int (nI v)) = true ∧ vp_nar .byte (nI v) = nI v := by decide +kernel
theorem neg10 : ∀ d, d < 10 → (-100 : Int32) < -(nI d) ∧ (-9 : Int32) ≤ -(nI d) ∧ ¬ -(nI d) ≤ (-10 : Int32) := by decide +kernel
theorem nI_dec (k : Nat) : nI (k + 1) + Int32.ofInt (-1) = nI k := by
  rw [← nI_1, Int32.add_assoc, show (1 : Int32) + Int32.ofInt (-1) = 0 by decide, Int32.add_zero]
abbrev mJ_bisl : MT := (⟨"java/lang/AbstractStringBuilder", "isLatin1", "()Z"⟩, prog_10_method_68_code, 1, some .boolean, { frames := 1, cells := 0, slots := 0, locals := 32 }, [])
theorem j_bisl_0 : decode prog_10_method_68_code 0 = .ok (.getstatic 18, 3) := by decide +kernel
theorem j_bisl_3 : decode prog_10_method_68_code 3 = .ok (.ifCond .eq 14, 3) := by decide +kernel
theorem j_bisl_6 : decode prog_10_method_68_code 6 = .ok (.aload_n 0, 1) := by decide +kernel
theorem j_bisl_7 : decode prog_10_method_68_code 7 = .ok (.getfield 22, 3) := by decide +kernel
theorem j_bisl_10 : decode prog_10_method_68_code 10 = .ok (.ifCond .ne 7, 3) := by decide +kernel
theorem j_bisl_13 : decode prog_10_method_68_code 13 = .ok (.iconst 1, 1) := by decide +kernel
theorem j_bisl_14 : decode prog_10_method_68_code 14 = .ok (.goto 4, 3) := by decide +kernel
theorem j_bisl_17 : decode prog_10_method_68_code 17 = .ok (.iconst 0, 1) := by decide +kernel
theorem j_bisl_18 : decode prog_10_method_68_code 18 = .ok (.ireturn, 1) := by decide +kernel
abbrev mJ_binf : MT := (⟨"java/lang/AbstractStringBuilder", "inflateIfNeededFor", "(Ljava/lang/String;)V"⟩, prog_10_method_71_code, 2, none, { frames := 2, cells := 0, slots := 0, locals := 64 }, [])
theorem j_binf_0 : decode prog_10_method_71_code 0 = .ok (.getstatic 18, 3) := by decide +kernel
theorem j_binf_3 : decode prog_10_method_71_code 3 = .ok (.ifCond .eq 18, 3) := by decide +kernel
theorem j_binf_6 : decode prog_10_method_71_code 6 = .ok (.aload_n 0, 1) := by decide +kernel
theorem j_binf_7 : decode prog_10_method_71_code 7 = .ok (.getfield 22, 3) := by decide +kernel
theorem j_binf_10 : decode prog_10_method_71_code 10 = .ok (.aload_n 1, 1) := by decide +kernel
theorem j_binf_11 : decode prog_10_method_71_code 11 = .ok (.invokevirtual 40, 3) := by decide +kernel
theorem j_binf_14 : decode prog_10_method_71_code 14 = .ok (.if_icmp .eq 7, 3) := by decide +kernel
theorem j_binf_17 : decode prog_10_method_71_code 17 = .ok (.aload_n 0, 1) := by decide +kernel
theorem j_binf_18 : decode prog_10_method_71_code 18 = .ok (.invokevirtual 195, 3) := by decide +kernel
theorem j_binf_21 : decode prog_10_method_71_code 21 = .ok (.return_, 1) := by decide +kernel
abbrev mJ_bens : MT := (⟨"java/lang/AbstractStringBuilder", "ensureCapacityInternal", "(I)V"⟩, prog_10_method_9_code, 3, none, { frames := 1, cells := 0, slots := 0, locals := 32 }, [])
theorem j_bens_0 : decode prog_10_method_9_code 0 = .ok (.aload_n 0, 1) := by decide +kernel
theorem j_bens_1 : decode prog_10_method_9_code 1 = .ok (.getfield 15, 3) := by decide +kernel
theorem j_bens_4 : decode prog_10_method_9_code 4 = .ok (.arraylength, 1) := by decide +kernel
theorem j_bens_5 : decode prog_10_method_9_code 5 = .ok (.aload_n 0, 1) := by decide +kernel
theorem j_bens_6 : decode prog_10_method_9_code 6 = .ok (.getfield 22, 3) := by decide +kernel
theorem j_bens_9 : decode prog_10_method_9_code 9 = .ok (.ishr, 1) := by decide +kernel
theorem j_bens_10 : decode prog_10_method_9_code 10 = .ok (.istore_n 2, 1) := by decide +kernel
theorem j_bens_11 : decode prog_10_method_9_code 11 = .ok (.iload_n 1, 1) := by decide +kernel
theorem j_bens_12 : decode prog_10_method_9_code 12 = .ok (.iload_n 2, 1) := by decide +kernel
theorem j_bens_13 : decode prog_10_method_9_code 13 = .ok (.isub, 1) := by decide +kernel
theorem j_bens_14 : decode prog_10_method_9_code 14 = .ok (.ifCond .le 24, 3) := by decide +kernel
theorem j_bens_17 : decode prog_10_method_9_code 17 = .ok (.aload_n 0, 1) := by decide +kernel
theorem j_bens_18 : decode prog_10_method_9_code 18 = .ok (.aload_n 0, 1) := by decide +kernel
theorem j_bens_19 : decode prog_10_method_9_code 19 = .ok (.getfield 15, 3) := by decide +kernel
theorem j_bens_22 : decode prog_10_method_9_code 22 = .ok (.aload_n 0, 1) := by decide +kernel
theorem j_bens_23 : decode prog_10_method_9_code 23 = .ok (.iload_n 1, 1) := by decide +kernel
theorem j_bens_24 : decode prog_10_method_9_code 24 = .ok (.invokevirtual 104, 3) := by decide +kernel
theorem j_bens_27 : decode prog_10_method_9_code 27 = .ok (.aload_n 0, 1) := by decide +kernel
theorem j_bens_28 : decode prog_10_method_9_code 28 = .ok (.getfield 22, 3) := by decide +kernel
theorem j_bens_31 : decode prog_10_method_9_code 31 = .ok (.ishl, 1) := by decide +kernel
theorem j_bens_32 : decode prog_10_method_9_code 32 = .ok (.invokestatic 108, 3) := by decide +kernel
theorem j_bens_35 : decode prog_10_method_9_code 35 = .ok (.putfield 15, 3) := by decide +kernel
theorem j_bens_38 : decode prog_10_method_9_code 38 = .ok (.return_, 1) := by decide +kernel
abbrev mJ_bgb : MT := (⟨"java/lang/String", "getBytes", "([BIB)V"⟩, prog_27_method_147_code, 4, none, { frames := 2, cells := 0, slots := 0, locals := 64 }, [])
theorem j_bgb_0 : decode prog_27_method_147_code 0 = .ok (.aload_n 0, 1) := by decide +kernel
theorem j_bgb_1 : decode prog_27_method_147_code 1 = .ok (.invokevirtual 335, 3) := by decide +kernel
theorem j_bgb_4 : decode prog_27_method_147_code 4 = .ok (.iload_n 3, 1) := by decide +kernel
theorem j_bgb_5 : decode prog_27_method_147_code 5 = .ok (.if_icmp .ne 23, 3) := by decide +kernel
theorem j_bgb_8 : decode prog_27_method_147_code 8 = .ok (.aload_n 0, 1) := by decide +kernel
theorem j_bgb_9 : decode prog_27_method_147_code 9 = .ok (.getfield 9, 3) := by decide +kernel
theorem j_bgb_12 : decode prog_27_method_147_code 12 = .ok (.iconst 0, 1) := by decide +kernel
theorem j_bgb_13 : decode prog_27_method_147_code 13 = .ok (.aload_n 1, 1) := by decide +kernel
theorem j_bgb_14 : decode prog_27_method_147_code 14 = .ok (.iload_n 2, 1) := by decide +kernel
theorem j_bgb_15 : decode prog_27_method_147_code 15 = .ok (.iload_n 3, 1) := by decide +kernel
theorem j_bgb_16 : decode prog_27_method_147_code 16 = .ok (.ishl, 1) := by decide +kernel
theorem j_bgb_17 : decode prog_27_method_147_code 17 = .ok (.aload_n 0, 1) := by decide +kernel
theorem j_bgb_18 : decode prog_27_method_147_code 18 = .ok (.getfield 9, 3) := by decide +kernel
theorem j_bgb_21 : decode prog_27_method_147_code 21 = .ok (.arraylength, 1) := by decide +kernel
theorem j_bgb_22 : decode prog_27_method_147_code 22 = .ok (.invokestatic 212, 3) := by decide +kernel
theorem j_bgb_25 : decode prog_27_method_147_code 25 = .ok (.goto 18, 3) := by decide +kernel
theorem j_bgb_28 : decode prog_27_method_147_code 28 = .ok (.aload_n 0, 1) := by decide +kernel
theorem j_bgb_29 : decode prog_27_method_147_code 29 = .ok (.getfield 9, 3) := by decide +kernel
theorem j_bgb_32 : decode prog_27_method_147_code 32 = .ok (.iconst 0, 1) := by decide +kernel
theorem j_bgb_33 : decode prog_27_method_147_code 33 = .ok (.aload_n 1, 1) := by decide +kernel
theorem j_bgb_34 : decode prog_27_method_147_code 34 = .ok (.iload_n 2, 1) := by decide +kernel
theorem j_bgb_35 : decode prog_27_method_147_code 35 = .ok (.aload_n 0, 1) := by decide +kernel
theorem j_bgb_36 : decode prog_27_method_147_code 36 = .ok (.getfield 9, 3) := by decide +kernel
theorem j_bgb_39 : decode prog_27_method_147_code 39 = .ok (.arraylength, 1) := by decide +kernel
theorem j_bgb_40 : decode prog_27_method_147_code 40 = .ok (.invokestatic 106, 3) := by decide +kernel
theorem j_bgb_43 : decode prog_27_method_147_code 43 = .ok (.return_, 1) := by decide +kernel
abbrev mJ_bput : MT := (⟨"java/lang/AbstractStringBuilder", "putStringAt", "(ILjava/lang/String;)V"⟩, prog_10_method_73_code, 3, none, { frames := 3, cells := 0, slots := 0, locals := 96 }, [])
theorem j_bput_0 : decode prog_10_method_73_code 0 = .ok (.aload_n 0, 1) := by decide +kernel
theorem j_bput_1 : decode prog_10_method_73_code 1 = .ok (.aload_n 2, 1) := by decide +kernel
theorem j_bput_2 : decode prog_10_method_73_code 2 = .ok (.invokevirtual 397, 3) := by decide +kernel
theorem j_bput_5 : decode prog_10_method_73_code 5 = .ok (.aload_n 2, 1) := by decide +kernel
theorem j_bput_6 : decode prog_10_method_73_code 6 = .ok (.aload_n 0, 1) := by decide +kernel
theorem j_bput_7 : decode prog_10_method_73_code 7 = .ok (.getfield 15, 3) := by decide +kernel
theorem j_bput_10 : decode prog_10_method_73_code 10 = .ok (.iload_n 1, 1) := by decide +kernel
theorem j_bput_11 : decode prog_10_method_73_code 11 = .ok (.aload_n 0, 1) := by decide +kernel
theorem j_bput_12 : decode prog_10_method_73_code 12 = .ok (.getfield 22, 3) := by decide +kernel
theorem j_bput_15 : decode prog_10_method_73_code 15 = .ok (.invokevirtual 399, 3) := by decide +kernel
theorem j_bput_18 : decode prog_10_method_73_code 18 = .ok (.return_, 1) := by decide +kernel
abbrev mJ_baS : MT := (⟨"java/lang/AbstractStringBuilder", "append", "(Ljava/lang/String;)Ljava/lang/AbstractStringBuilder;"⟩, prog_10_method_22_code, 3, some (.object "java/lang/AbstractStringBuilder"), { frames := 4, cells := 0, slots := 0, locals := 128 }, [])
theorem j_baS_0 : decode prog_10_method_22_code 0 = .ok (.aload_n 1, 1) := by decide +kernel
theorem j_baS_1 : decode prog_10_method_22_code 1 = .ok (.ifnonnull 8, 3) := by decide +kernel
theorem j_baS_4 : decode prog_10_method_22_code 4 = .ok (.aload_n 0, 1) := by decide +kernel
theorem j_baS_5 : decode prog_10_method_22_code 5 = .ok (.invokevirtual 204, 3) := by decide +kernel
theorem j_baS_8 : decode prog_10_method_22_code 8 = .ok (.areturn, 1) := by decide +kernel
theorem j_baS_9 : decode prog_10_method_22_code 9 = .ok (.aload_n 1, 1) := by decide +kernel
theorem j_baS_10 : decode prog_10_method_22_code 10 = .ok (.invokevirtual 32, 3) := by decide +kernel
theorem j_baS_13 : decode prog_10_method_22_code 13 = .ok (.istore_n 2, 1) := by decide +kernel
theorem j_baS_14 : decode prog_10_method_22_code 14 = .ok (.aload_n 0, 1) := by decide +kernel
theorem j_baS_15 : decode prog_10_method_22_code 15 = .ok (.aload_n 0, 1) := by decide +kernel
theorem j_baS_16 : decode prog_10_method_22_code 16 = .ok (.getfield 79, 3) := by decide +kernel
theorem j_baS_19 : decode prog_10_method_22_code 19 = .ok (.iload_n 2, 1) := by decide +kernel
theorem j_baS_20 : decode prog_10_method_22_code 20 = .ok (.iadd, 1) := by decide +kernel
theorem j_baS_21 : decode prog_10_method_22_code 21 = .ok (.invokevirtual 100, 3) := by decide +kernel
theorem j_baS_24 : decode prog_10_method_22_code 24 = .ok (.aload_n 0, 1) := by decide +kernel
theorem j_baS_25 : decode prog_10_method_22_code 25 = .ok (.aload_n 0, 1) := by decide +kernel
theorem j_baS_26 : decode prog_10_method_22_code 26 = .ok (.getfield 79, 3) := by decide +kernel
theorem j_baS_29 : decode prog_10_method_22_code 29 = .ok (.aload_n 1, 1) := by decide +kernel
theorem j_baS_30 : decode prog_10_method_22_code 30 = .ok (.invokevirtual 208, 3) := by decide +kernel
theorem j_baS_33 : decode prog_10_method_22_code 33 = .ok (.aload_n 0, 1) := by decide +kernel
theorem j_baS_34 : decode prog_10_method_22_code 34 = .ok (.dup, 1) := by decide +kernel
theorem j_baS_35 : decode prog_10_method_22_code 35 = .ok (.getfield 79, 3) := by decide +kernel
theorem j_baS_38 : decode prog_10_method_22_code 38 = .ok (.iload_n 2, 1) := by decide +kernel
theorem j_baS_39 : decode prog_10_method_22_code 39 = .ok (.iadd, 1) := by decide +kernel
theorem j_baS_40 : decode prog_10_method_22_code 40 = .ok (.putfield 79, 3) := by decide +kernel
theorem j_baS_43 : decode prog_10_method_22_code 43 = .ok (.aload_n 0, 1) := by decide +kernel
theorem j_baS_44 : decode prog_10_method_22_code 44 = .ok (.areturn, 1) := by decide +kernel
abbrev mJ_bS : MT := (⟨"java/lang/StringBuilder", "append", "(Ljava/lang/String;)Ljava/lang/StringBuilder;"⟩, prog_28_method_7_code, 2, some (.object "java/lang/StringBuilder"), { frames := 5, cells := 0, slots := 0, locals := 160 }, [])
theorem j_bS_0 : decode prog_28_method_7_code 0 = .ok (.aload_n 0, 1) := by decide +kernel
theorem j_bS_1 : decode prog_28_method_7_code 1 = .ok (.aload_n 1, 1) := by decide +kernel
theorem j_bS_2 : decode prog_28_method_7_code 2 = .ok (.invokespecial 29, 3) := by decide +kernel
theorem j_bS_5 : decode prog_28_method_7_code 5 = .ok (.pop, 1) := by decide +kernel
theorem j_bS_6 : decode prog_28_method_7_code 6 = .ok (.aload_n 0, 1) := by decide +kernel
theorem j_bS_7 : decode prog_28_method_7_code 7 = .ok (.areturn, 1) := by decide +kernel
abbrev mJ_bss : MT := (⟨"java/lang/Integer", "stringSize", "(I)I"⟩, prog_23_method_13_code, 4, some .int, { frames := 1, cells := 0, slots := 0, locals := 32 }, [])
theorem j_bss_0 : decode prog_23_method_13_code 0 = .ok (.iconst 1, 1) := by decide +kernel
theorem j_bss_1 : decode prog_23_method_13_code 1 = .ok (.istore_n 1, 1) := by decide +kernel
theorem j_bss_2 : decode prog_23_method_13_code 2 = .ok (.iload_n 0, 1) := by decide +kernel
theorem j_bss_3 : decode prog_23_method_13_code 3 = .ok (.ifCond .lt 8, 3) := by decide +kernel
theorem j_bss_6 : decode prog_23_method_13_code 6 = .ok (.iconst 0, 1) := by decide +kernel
theorem j_bss_7 : decode prog_23_method_13_code 7 = .ok (.istore_n 1, 1) := by decide +kernel
theorem j_bss_8 : decode prog_23_method_13_code 8 = .ok (.iload_n 0, 1) := by decide +kernel
theorem j_bss_9 : decode prog_23_method_13_code 9 = .ok (.ineg, 1) := by decide +kernel
theorem j_bss_10 : decode prog_23_method_13_code 10 = .ok (.istore_n 0, 1) := by decide +kernel
theorem j_bss_11 : decode prog_23_method_13_code 11 = .ok (.bipush (-10), 2) := by decide +kernel
theorem j_bss_13 : decode prog_23_method_13_code 13 = .ok (.istore_n 2, 1) := by decide +kernel
theorem j_bss_14 : decode prog_23_method_13_code 14 = .ok (.iconst 1, 1) := by decide +kernel
theorem j_bss_15 : decode prog_23_method_13_code 15 = .ok (.istore_n 3, 1) := by decide +kernel
theorem j_bss_16 : decode prog_23_method_13_code 16 = .ok (.iload_n 3, 1) := by decide +kernel
theorem j_bss_17 : decode prog_23_method_13_code 17 = .ok (.bipush 10, 2) := by decide +kernel
theorem j_bss_19 : decode prog_23_method_13_code 19 = .ok (.if_icmp .ge 23, 3) := by decide +kernel
theorem j_bss_22 : decode prog_23_method_13_code 22 = .ok (.iload_n 0, 1) := by decide +kernel
theorem j_bss_23 : decode prog_23_method_13_code 23 = .ok (.iload_n 2, 1) := by decide +kernel
theorem j_bss_24 : decode prog_23_method_13_code 24 = .ok (.if_icmp .le 7, 3) := by decide +kernel
theorem j_bss_27 : decode prog_23_method_13_code 27 = .ok (.iload_n 3, 1) := by decide +kernel
theorem j_bss_28 : decode prog_23_method_13_code 28 = .ok (.iload_n 1, 1) := by decide +kernel
theorem j_bss_29 : decode prog_23_method_13_code 29 = .ok (.iadd, 1) := by decide +kernel
theorem j_bss_30 : decode prog_23_method_13_code 30 = .ok (.ireturn, 1) := by decide +kernel
theorem j_bss_31 : decode prog_23_method_13_code 31 = .ok (.bipush 10, 2) := by decide +kernel
theorem j_bss_33 : decode prog_23_method_13_code 33 = .ok (.iload_n 2, 1) := by decide +kernel
theorem j_bss_34 : decode prog_23_method_13_code 34 = .ok (.imul, 1) := by decide +kernel
theorem j_bss_35 : decode prog_23_method_13_code 35 = .ok (.istore_n 2, 1) := by decide +kernel
theorem j_bss_36 : decode prog_23_method_13_code 36 = .ok (.iinc 3 1, 3) := by decide +kernel
theorem j_bss_39 : decode prog_23_method_13_code 39 = .ok (.goto (-23), 3) := by decide +kernel
theorem j_bss_42 : decode prog_23_method_13_code 42 = .ok (.bipush 10, 2) := by decide +kernel
theorem j_bss_44 : decode prog_23_method_13_code 44 = .ok (.iload_n 1, 1) := by decide +kernel
theorem j_bss_45 : decode prog_23_method_13_code 45 = .ok (.iadd, 1) := by decide +kernel
theorem j_bss_46 : decode prog_23_method_13_code 46 = .ok (.ireturn, 1) := by decide +kernel
abbrev mJ_bgc : MT := (⟨"java/lang/Integer", "getChars", "(II[B)I"⟩, prog_23_method_12_code, 7, some .int, { frames := 1, cells := 0, slots := 0, locals := 32 }, [])
theorem j_bgc_0 : decode prog_23_method_12_code 0 = .ok (.iload_n 1, 1) := by decide +kernel
theorem j_bgc_1 : decode prog_23_method_12_code 1 = .ok (.istore 5, 2) := by decide +kernel
theorem j_bgc_3 : decode prog_23_method_12_code 3 = .ok (.iload_n 0, 1) := by decide +kernel
theorem j_bgc_4 : decode prog_23_method_12_code 4 = .ok (.ifCond .ge 7, 3) := by decide +kernel
theorem j_bgc_7 : decode prog_23_method_12_code 7 = .ok (.iconst 1, 1) := by decide +kernel
theorem j_bgc_8 : decode prog_23_method_12_code 8 = .ok (.goto 4, 3) := by decide +kernel
theorem j_bgc_11 : decode prog_23_method_12_code 11 = .ok (.iconst 0, 1) := by decide +kernel
theorem j_bgc_12 : decode prog_23_method_12_code 12 = .ok (.istore 6, 2) := by decide +kernel
theorem j_bgc_14 : decode prog_23_method_12_code 14 = .ok (.iload 6, 2) := by decide +kernel
theorem j_bgc_16 : decode prog_23_method_12_code 16 = .ok (.ifCond .ne 6, 3) := by decide +kernel
theorem j_bgc_19 : decode prog_23_method_12_code 19 = .ok (.iload_n 0, 1) := by decide +kernel
theorem j_bgc_20 : decode prog_23_method_12_code 20 = .ok (.ineg, 1) := by decide +kernel
theorem j_bgc_21 : decode prog_23_method_12_code 21 = .ok (.istore_n 0, 1) := by decide +kernel
theorem j_bgc_22 : decode prog_23_method_12_code 22 = .ok (.iload_n 0, 1) := by decide +kernel
theorem j_bgc_23 : decode prog_23_method_12_code 23 = .ok (.bipush (-100), 2) := by decide +kernel
theorem j_bgc_25 : decode prog_23_method_12_code 25 = .ok (.if_icmp .gt 47, 3) := by decide +kernel
theorem j_bgc_28 : decode prog_23_method_12_code 28 = .ok (.iload_n 0, 1) := by decide +kernel
theorem j_bgc_29 : decode prog_23_method_12_code 29 = .ok (.bipush 100, 2) := by decide +kernel
theorem j_bgc_31 : decode prog_23_method_12_code 31 = .ok (.idiv, 1) := by decide +kernel
theorem j_bgc_32 : decode prog_23_method_12_code 32 = .ok (.istore_n 3, 1) := by decide +kernel
theorem j_bgc_33 : decode prog_23_method_12_code 33 = .ok (.iload_n 3, 1) := by decide +kernel
theorem j_bgc_34 : decode prog_23_method_12_code 34 = .ok (.bipush 100, 2) := by decide +kernel
theorem j_bgc_36 : decode prog_23_method_12_code 36 = .ok (.imul, 1) := by decide +kernel
theorem j_bgc_37 : decode prog_23_method_12_code 37 = .ok (.iload_n 0, 1) := by decide +kernel
theorem j_bgc_38 : decode prog_23_method_12_code 38 = .ok (.isub, 1) := by decide +kernel
theorem j_bgc_39 : decode prog_23_method_12_code 39 = .ok (.istore 4, 2) := by decide +kernel
theorem j_bgc_41 : decode prog_23_method_12_code 41 = .ok (.iload_n 3, 1) := by decide +kernel
theorem j_bgc_42 : decode prog_23_method_12_code 42 = .ok (.istore_n 0, 1) := by decide +kernel
theorem j_bgc_43 : decode prog_23_method_12_code 43 = .ok (.aload_n 2, 1) := by decide +kernel
theorem j_bgc_44 : decode prog_23_method_12_code 44 = .ok (.iinc 5 (-1), 3) := by decide +kernel
theorem j_bgc_47 : decode prog_23_method_12_code 47 = .ok (.iload 5, 2) := by decide +kernel
theorem j_bgc_49 : decode prog_23_method_12_code 49 = .ok (.getstatic 83, 3) := by decide +kernel
theorem j_bgc_52 : decode prog_23_method_12_code 52 = .ok (.iload 4, 2) := by decide +kernel
theorem j_bgc_54 : decode prog_23_method_12_code 54 = .ok (.baload, 1) := by decide +kernel
theorem j_bgc_55 : decode prog_23_method_12_code 55 = .ok (.bastore, 1) := by decide +kernel
theorem j_bgc_56 : decode prog_23_method_12_code 56 = .ok (.aload_n 2, 1) := by decide +kernel
theorem j_bgc_57 : decode prog_23_method_12_code 57 = .ok (.iinc 5 (-1), 3) := by decide +kernel
theorem j_bgc_60 : decode prog_23_method_12_code 60 = .ok (.iload 5, 2) := by decide +kernel
theorem j_bgc_62 : decode prog_23_method_12_code 62 = .ok (.getstatic 87, 3) := by decide +kernel
theorem j_bgc_65 : decode prog_23_method_12_code 65 = .ok (.iload 4, 2) := by decide +kernel
theorem j_bgc_67 : decode prog_23_method_12_code 67 = .ok (.baload, 1) := by decide +kernel
theorem j_bgc_68 : decode prog_23_method_12_code 68 = .ok (.bastore, 1) := by decide +kernel
theorem j_bgc_69 : decode prog_23_method_12_code 69 = .ok (.goto (-47), 3) := by decide +kernel
theorem j_bgc_72 : decode prog_23_method_12_code 72 = .ok (.aload_n 2, 1) := by decide +kernel
theorem j_bgc_73 : decode prog_23_method_12_code 73 = .ok (.iinc 5 (-1), 3) := by decide +kernel
theorem j_bgc_76 : decode prog_23_method_12_code 76 = .ok (.iload 5, 2) := by decide +kernel
theorem j_bgc_78 : decode prog_23_method_12_code 78 = .ok (.getstatic 83, 3) := by decide +kernel
theorem j_bgc_81 : decode prog_23_method_12_code 81 = .ok (.iload_n 0, 1) := by decide +kernel
theorem j_bgc_82 : decode prog_23_method_12_code 82 = .ok (.ineg, 1) := by decide +kernel
theorem j_bgc_83 : decode prog_23_method_12_code 83 = .ok (.baload, 1) := by decide +kernel
theorem j_bgc_84 : decode prog_23_method_12_code 84 = .ok (.bastore, 1) := by decide +kernel
theorem j_bgc_85 : decode prog_23_method_12_code 85 = .ok (.iload_n 0, 1) := by decide +kernel
theorem j_bgc_86 : decode prog_23_method_12_code 86 = .ok (.bipush (-9), 2) := by decide +kernel
theorem j_bgc_88 : decode prog_23_method_12_code 88 = .ok (.if_icmp .ge 16, 3) := by decide +kernel
theorem j_bgc_91 : decode prog_23_method_12_code 91 = .ok (.aload_n 2, 1) := by decide +kernel
theorem j_bgc_92 : decode prog_23_method_12_code 92 = .ok (.iinc 5 (-1), 3) := by decide +kernel
theorem j_bgc_95 : decode prog_23_method_12_code 95 = .ok (.iload 5, 2) := by decide +kernel
theorem j_bgc_97 : decode prog_23_method_12_code 97 = .ok (.getstatic 87, 3) := by decide +kernel
theorem j_bgc_100 : decode prog_23_method_12_code 100 = .ok (.iload_n 0, 1) := by decide +kernel
theorem j_bgc_101 : decode prog_23_method_12_code 101 = .ok (.ineg, 1) := by decide +kernel
theorem j_bgc_102 : decode prog_23_method_12_code 102 = .ok (.baload, 1) := by decide +kernel
theorem j_bgc_103 : decode prog_23_method_12_code 103 = .ok (.bastore, 1) := by decide +kernel
theorem j_bgc_104 : decode prog_23_method_12_code 104 = .ok (.iload 6, 2) := by decide +kernel
theorem j_bgc_106 : decode prog_23_method_12_code 106 = .ok (.ifCond .eq 12, 3) := by decide +kernel
theorem j_bgc_109 : decode prog_23_method_12_code 109 = .ok (.aload_n 2, 1) := by decide +kernel
theorem j_bgc_110 : decode prog_23_method_12_code 110 = .ok (.iinc 5 (-1), 3) := by decide +kernel
theorem j_bgc_113 : decode prog_23_method_12_code 113 = .ok (.iload 5, 2) := by decide +kernel
theorem j_bgc_115 : decode prog_23_method_12_code 115 = .ok (.bipush 45, 2) := by decide +kernel
theorem j_bgc_117 : decode prog_23_method_12_code 117 = .ok (.bastore, 1) := by decide +kernel
theorem j_bgc_118 : decode prog_23_method_12_code 118 = .ok (.iload 5, 2) := by decide +kernel
theorem j_bgc_120 : decode prog_23_method_12_code 120 = .ok (.ireturn, 1) := by decide +kernel
abbrev mJ_baI : MT := (⟨"java/lang/AbstractStringBuilder", "append", "(I)Ljava/lang/AbstractStringBuilder;"⟩, prog_10_method_32_code, 4, some (.object "java/lang/AbstractStringBuilder"), { frames := 2, cells := 0, slots := 0, locals := 64 }, [])
theorem j_baI_0 : decode prog_10_method_32_code 0 = .ok (.aload_n 0, 1) := by decide +kernel
theorem j_baI_1 : decode prog_10_method_32_code 1 = .ok (.getfield 79, 3) := by decide +kernel
theorem j_baI_4 : decode prog_10_method_32_code 4 = .ok (.istore_n 2, 1) := by decide +kernel
theorem j_baI_5 : decode prog_10_method_32_code 5 = .ok (.iload_n 2, 1) := by decide +kernel
theorem j_baI_6 : decode prog_10_method_32_code 6 = .ok (.iload_n 1, 1) := by decide +kernel
theorem j_baI_7 : decode prog_10_method_32_code 7 = .ok (.invokestatic 245, 3) := by decide +kernel
theorem j_baI_10 : decode prog_10_method_32_code 10 = .ok (.iadd, 1) := by decide +kernel
theorem j_baI_11 : decode prog_10_method_32_code 11 = .ok (.istore_n 3, 1) := by decide +kernel
theorem j_baI_12 : decode prog_10_method_32_code 12 = .ok (.aload_n 0, 1) := by decide +kernel
theorem j_baI_13 : decode prog_10_method_32_code 13 = .ok (.iload_n 3, 1) := by decide +kernel
theorem j_baI_14 : decode prog_10_method_32_code 14 = .ok (.invokevirtual 100, 3) := by decide +kernel
theorem j_baI_17 : decode prog_10_method_32_code 17 = .ok (.aload_n 0, 1) := by decide +kernel
theorem j_baI_18 : decode prog_10_method_32_code 18 = .ok (.invokevirtual 83, 3) := by decide +kernel
theorem j_baI_21 : decode prog_10_method_32_code 21 = .ok (.ifCond .eq 16, 3) := by decide +kernel
theorem j_baI_24 : decode prog_10_method_32_code 24 = .ok (.iload_n 1, 1) := by decide +kernel
theorem j_baI_25 : decode prog_10_method_32_code 25 = .ok (.iload_n 3, 1) := by decide +kernel
theorem j_baI_26 : decode prog_10_method_32_code 26 = .ok (.aload_n 0, 1) := by decide +kernel
theorem j_baI_27 : decode prog_10_method_32_code 27 = .ok (.getfield 15, 3) := by decide +kernel
theorem j_baI_30 : decode prog_10_method_32_code 30 = .ok (.invokestatic 248, 3) := by decide +kernel
theorem j_baI_33 : decode prog_10_method_32_code 33 = .ok (.pop, 1) := by decide +kernel
theorem j_baI_34 : decode prog_10_method_32_code 34 = .ok (.goto 14, 3) := by decide +kernel
theorem j_baI_37 : decode prog_10_method_32_code 37 = .ok (.iload_n 1, 1) := by decide +kernel
theorem j_baI_38 : decode prog_10_method_32_code 38 = .ok (.iload_n 2, 1) := by decide +kernel
theorem j_baI_39 : decode prog_10_method_32_code 39 = .ok (.iload_n 3, 1) := by decide +kernel
theorem j_baI_40 : decode prog_10_method_32_code 40 = .ok (.aload_n 0, 1) := by decide +kernel
theorem j_baI_41 : decode prog_10_method_32_code 41 = .ok (.getfield 15, 3) := by decide +kernel
theorem j_baI_44 : decode prog_10_method_32_code 44 = .ok (.invokestatic 251, 3) := by decide +kernel
theorem j_baI_47 : decode prog_10_method_32_code 47 = .ok (.pop, 1) := by decide +kernel
theorem j_baI_48 : decode prog_10_method_32_code 48 = .ok (.aload_n 0, 1) := by decide +kernel
theorem j_baI_49 : decode prog_10_method_32_code 49 = .ok (.iload_n 3, 1) := by decide +kernel
theorem j_baI_50 : decode prog_10_method_32_code 50 = .ok (.putfield 79, 3) := by decide +kernel
theorem j_baI_53 : decode prog_10_method_32_code 53 = .ok (.aload_n 0, 1) := by decide +kernel
theorem j_baI_54 : decode prog_10_method_32_code 54 = .ok (.areturn, 1) := by decide +kernel
abbrev mJ_bI : MT := (⟨"java/lang/StringBuilder", "append", "(I)Ljava/lang/StringBuilder;"⟩, prog_28_method_15_code, 2, some (.object "java/lang/StringBuilder"), { frames := 3, cells := 0, slots := 0, locals := 96 }, [])
theorem j_bI_0 : decode prog_28_method_15_code 0 = .ok (.aload_n 0, 1) := by decide +kernel
theorem j_bI_1 : decode prog_28_method_15_code 1 = .ok (.iload_n 1, 1) := by decide +kernel
theorem j_bI_2 : decode prog_28_method_15_code 2 = .ok (.invokespecial 53, 3) := by decide +kernel
theorem j_bI_5 : decode prog_28_method_15_code 5 = .ok (.pop, 1) := by decide +kernel
theorem j_bI_6 : decode prog_28_method_15_code 6 = .ok (.aload_n 0, 1) := by decide +kernel
theorem j_bI_7 : decode prog_28_method_15_code 7 = .ok (.areturn, 1) := by decide +kernel
set_option maxRecDepth 20000 in
set_option maxHeartbeats 2000000 in
theorem jb_bisl (l : Launch) (D : va_G) (aC : Nat → ClassId) (q v k : Nat) (f : Nat → Int32) (A : Nat → Prop) : Met l (mtY mJ_bisl) (wM mJ_bisl :: WG) (mtR mJ_bisl) (va_Pc [.ref q] (JB D aC q v k f A)) (JQ (some (.int (nI 1)))) 0 0 (fun _ => False) := by
  refine Met.ofW (cc := mtC mJ_bisl) (maxL := mtL mJ_bisl) (ret := mtT mJ_bisl) (by decide +kernel) rfl ?_
  intro p e s m args below meth c s₁ B hml hv
  obtain ⟨rfl, hJ⟩ := hv
  have hx := B.exec
  have hb := B.bytes
  have hts := atoms_spec (ws := wM mJ_bisl :: WG) B.pre
  have hw : ∀ w ∈ WG, w.before _ s = true := fun w h => hts w (List.mem_cons_of_mem _ h)
  have hown : s.vm.findClass "java/lang/AbstractStringBuilder" = some m.cls := findClass_of_methodNamed B.named
  have hS : va_S A s.heap s.heap [] := va_S.rf
  have hF := hJ.1
  have hZ := hJ.2.1
  have hK := hJ.2.2.1
  have hP := hJ.2.2.2
  have hl := lv_entry [.ref q] (n := 1) (Nat.le_of_ble_eq_true rfl)
  rw [lg_entry_eq]
  refine va_gets hx hb hZ.1 hS hown (hw _ g_1045) (fun _ h => h) j_bisl_0 ?_
  refine lv_if_eq (tgt := 17) hx hb j_bisl_3 (by decide) (fun q => absurd q (by decide)) (fun _ => ?_)
  refine lv_aload_n hx hb j_bisl_6 rfl (lv_at hl 0 rfl) ?_
  refine va_get (D := D) (cl := vwc) (C := RJ4) (T := TJ4) (N := 4) hx hb hw inW7 hown hK hP 0 rfl (vwc_at8 (d := 7) (by decide)) 1 (by decide) (hw _ g_1055) (fun _ h => h) rfl j_bisl_7 ?_
  refine lv_if_ne (tgt := 17) hx hb j_bisl_10 (by decide) (fun q => absurd rfl q) (fun _ => ?_)
  refine lv_iconst (v := nI 1) hx hb j_bisl_13 (by decide) ?_
  refine lv_goto (tgt := 18) hx hb j_bisl_14 (by decide) ?_
  exact W.zret (v := nI 1) (ty := .boolean) hx hb B.returns rfl (fun t ht hW => ⟨rfl, ht⟩) (fun q h => by cases h) j_bisl_18 B.notSynchronized
set_option maxRecDepth 20000 in
set_option maxHeartbeats 2000000 in
theorem jb_binf (l : Launch) (D : va_G) (aC : Nat → ClassId) (q v k : Nat) (f : Nat → Int32) (A : Nat → Prop) {bs : List Int32} (hB : BL bs) (sa va : Nat) : Met l (mtY mJ_binf) (wM mJ_binf :: WG) (mtR mJ_binf) (va_Pc [.ref q, .ref sa] (JL bs sa va D aC q v k f A)) (JQ none) 0 0 (fun _ => False) := by
  refine Met.ofW (cc := mtC mJ_binf) (maxL := mtL mJ_binf) (ret := mtT mJ_binf) (by decide +kernel) rfl ?_
  intro p e s m args below meth c s₁ B hml hv
  obtain ⟨rfl, hJ⟩ := hv
  have hx := B.exec
  have hb := B.bytes
  have hts := atoms_spec (ws := wM mJ_binf :: WG) B.pre
  have hw : ∀ w ∈ WG, w.before _ s = true := fun w h => hts w (List.mem_cons_of_mem _ h)
  have hown : s.vm.findClass "java/lang/AbstractStringBuilder" = some m.cls := findClass_of_methodNamed B.named
  have hS : va_S A s.heap s.heap [] := va_S.rf
  have hF := hJ.1.1
  have hZ := hJ.1.2.1
  have hK := hJ.1.2.2.1
  have hP := hJ.1.2.2.2
  have hT := hJ.2
  have hl := lv_entry [.ref q, .ref sa] (n := 2) (Nat.le_of_ble_eq_true rfl)
  rw [lg_entry_eq]
  refine va_gets hx hb hZ.1 hS hown (hw _ g_1045) (fun _ h => h) j_binf_0 ?_
  refine lv_if_eq (tgt := 21) hx hb j_binf_3 (by decide) (fun q => absurd q (by decide)) (fun _ => ?_)
  refine lv_aload_n hx hb j_binf_6 rfl (lv_at hl 0 rfl) ?_
  refine va_get (D := D) (cl := vwc) (C := RJ4) (T := TJ4) (N := 4) hx hb hw inW7 hown hK hP 0 rfl (vwc_at8 (d := 7) (by decide)) 1 (by decide) (hw _ g_1055) (fun _ h => h) rfl j_binf_7 ?_
  refine lv_aload_n hx hb j_binf_10 rfl (lv_at hl 1 rfl) ?_
  refine j_call (r := some (.int (nI 0))) (rest := [.int 0]) (va_runV (As := []) (rest := [.int 0]) (nL := 2) (n := 0) (own := "java/lang/AbstractStringBuilder") (C := "java/lang/String") (b := sa) (cc := mtC mJ_binf) (Ts := WG) ⟨hx, hb, hml, hown, hw⟩ (jj_cod l bs hB sa va s.heap.size A) ⟨j_cb (M' := mJ_cod) (np := 0) hw g_1158 g_36 g_1148 rfl ⟨by decide +kernel, by decide +kernel, by decide +kernel⟩ ⟨by decide, by decide⟩, hw _ g_1146, hw _ g_1147⟩ ⟨JS.blind, vk_recv hT (by decide : 0 < 1) hS, fun U hU hW => ⟨rfl, (hJ.js hS hU hW)⟩⟩ rfl rfl hl.1 rfl (Nat.le_of_ble_eq_true rfl) j_binf_11 ⟨by decide, by decide⟩) ?_
  refine lv_icmp_eq (tgt := 21) hx hb j_binf_14 (by decide) (fun _ => ?_) (fun q => absurd (by decide) q)
  exact W.vret hx hb B.returns (fun t ht hW => ⟨rfl, ht⟩) (fun q h => by cases h) j_binf_21 B.notSynchronized
set_option maxRecDepth 20000 in
set_option maxHeartbeats 2000000 in
theorem jb_bens (l : Launch) (D : va_G) (aC : Nat → ClassId) (q v k : Nat) (f : Nat → Int32) (A : Nat → Prop) (n : Nat) (hn : n ≤ 16) : Met l (mtY mJ_bens) (wM mJ_bens :: WG) (mtR mJ_bens) (va_Pc [.ref q, .int (nI n)] (JB D aC q v k f A)) (JQ none) 0 0 (fun _ => False) := by
  refine Met.ofW (cc := mtC mJ_bens) (maxL := mtL mJ_bens) (ret := mtT mJ_bens) (by decide +kernel) rfl ?_
  intro p e s m args below meth c s₁ B hml hv
  obtain ⟨rfl, hJ⟩ := hv
  have hx := B.exec
  have hb := B.bytes
  have hts := atoms_spec (ws := wM mJ_bens :: WG) B.pre
  have hw : ∀ w ∈ WG, w.before _ s = true := fun w h => hts w (List.mem_cons_of_mem _ h)
  have hown : s.vm.findClass "java/lang/AbstractStringBuilder" = some m.cls := findClass_of_methodNamed B.named
  have hS : va_S A s.heap s.heap [] := va_S.rf
  have hF := hJ.1
  have hZ := hJ.2.1
  have hK := hJ.2.2.1
  have hP := hJ.2.2.2
  have hl := lv_entry [.ref q, .int (nI n)] (n := 3) (Nat.le_of_ble_eq_true rfl)
  rw [lg_entry_eq]
  refine lv_aload_n hx hb j_bens_0 rfl (lv_at hl 0 rfl) ?_
  refine va_get (D := D) (cl := vwc) (C := RJ4) (T := TJ4) (N := 4) hx hb hw inW7 hown hK hP 0 rfl (vwc_at8 (d := 7) (by decide)) 0 (by decide) (hw _ g_1054) (fun _ h => h) rfl j_bens_1 ?_
  refine va_alen (v := nI 16) hx hb hK hP 1 6 rfl rfl rfl j_bens_4 ?_
  refine lv_aload_n hx hb j_bens_5 rfl (lv_at hl 0 rfl) ?_
  refine va_get (D := D) (cl := vwc) (C := RJ4) (T := TJ4) (N := 4) hx hb hw inW7 hown hK hP 0 rfl (vwc_at8 (d := 7) (by decide)) 1 (by decide) (hw _ g_1055) (fun _ h => h) rfl j_bens_6 ?_
  refine lv_ishr hx hb j_bens_9 ?_
  rw [show nI 16 >>> ((0 : Int32) &&& 31) = nI 16 from sb_shr0 _]
  refine lv_istore_n hx hb j_bens_10 rfl hl (by decide) rfl (fun ls hl => ?_)
  refine lv_iload_n hx hb j_bens_11 rfl (lv_at hl 2 rfl) ?_
  refine lv_iload_n hx hb j_bens_12 rfl (lv_at hl 0 rfl) ?_
  refine lv_isub hx hb j_bens_13 ?_
  refine lv_if_le (tgt := 38) hx hb j_bens_14 (by decide) (fun _ => ?_) (fun q => absurd (le16 n (by omega)) q)
  exact W.vret hx hb B.returns (fun t ht hW => ⟨rfl, ht⟩) (fun q h => by cases h) j_bens_38 B.notSynchronized
set_option maxRecDepth 20000 in
set_option maxHeartbeats 2000000 in
theorem jb_bgb (l : Launch) (D : va_G) (aC : Nat → ClassId) (q v k : Nat) (f : Nat → Int32) (A : Nat → Prop) (hA : A q ∧ A v ∧ q ≠ v) {bs : List Int32} (hB : BL bs) (sa va : Nat) (hk : k + bs.length ≤ 16) : Met l (mtY mJ_bgb) (wM mJ_bgb :: WG) (mtR mJ_bgb) (va_Pc [.ref sa, .ref v, .int (nI k), .int 0] (JL bs sa va D aC q v k f A)) (JBQ D aC q v k (va_cpy (fun j => bs.getD j 0) f 0 k bs.length) A none) 0 0 (A) := by
  refine Met.ofW (cc := mtC mJ_bgb) (maxL := mtL mJ_bgb) (ret := mtT mJ_bgb) (by decide +kernel) rfl ?_
  intro p e s m args below meth c s₁ B hml hv
  obtain ⟨rfl, hJ⟩ := hv
  have hx := B.exec
  have hb := B.bytes
  have hts := atoms_spec (ws := wM mJ_bgb :: WG) B.pre
  have hw : ∀ w ∈ WG, w.before _ s = true := fun w h => hts w (List.mem_cons_of_mem _ h)
  have hown : s.vm.findClass "java/lang/String" = some m.cls := findClass_of_methodNamed B.named
  have hS : va_S A s.heap s.heap [] := va_S.rf
  have hF := hJ.1.1
  have hZ := hJ.1.2.1
  have hK := hJ.1.2.2.1
  have hP := hJ.1.2.2.2
  have hT := hJ.2
  have hl := lv_entry [.ref sa, .ref v, .int (nI k), .int 0] (n := 4) (Nat.le_of_ble_eq_true rfl)
  rw [lg_entry_eq]
  have h40 := hB.1
  refine lv_aload_n hx hb j_bgb_0 rfl (lv_at hl 0 rfl) ?_
  refine j_call (r := some (.int (nI 0))) (rest := []) (va_runV (As := []) (rest := []) (nL := 4) (n := 0) (own := "java/lang/String") (C := "java/lang/String") (b := sa) (cc := mtC mJ_bgb) (Ts := WG) ⟨hx, hb, hml, hown, hw⟩ (jj_cod l bs hB sa va s.heap.size A) ⟨j_cb (M' := mJ_cod) (np := 0) hw g_1145 g_36 g_1148 rfl ⟨by decide +kernel, by decide +kernel, by decide +kernel⟩ ⟨by decide, by decide⟩, hw _ g_1146, hw _ g_1147⟩ ⟨JS.blind, vk_recv hT (by decide : 0 < 1) hS, fun U hU hW => ⟨rfl, (hJ.js hS hU hW)⟩⟩ rfl rfl hl.1 rfl (Nat.le_of_ble_eq_true rfl) j_bgb_1 ⟨by decide, by decide⟩) ?_
  refine lv_iload_n hx hb j_bgb_4 rfl (lv_at hl 3 rfl) ?_
  refine lv_icmp_ne (tgt := 28) hx hb j_bgb_5 (by decide) (fun q => absurd (by decide) q) (fun _ => ?_)
  refine lv_aload_n hx hb j_bgb_8 rfl (lv_at hl 0 rfl) ?_
  refine vk_getf hx hb (hT.1 0 (by decide)).2.2.1 hS hown (hw _ g_1267) (fun _ h => h) j_bgb_9 ?_
  refine lv_iconst (v := nI 0) hx hb j_bgb_12 (by decide) ?_
  refine lv_aload_n hx hb j_bgb_13 rfl (lv_at hl 1 rfl) ?_
  refine lv_iload_n hx hb j_bgb_14 rfl (lv_at hl 2 rfl) ?_
  refine lv_iload_n hx hb j_bgb_15 rfl (lv_at hl 3 rfl) ?_
  refine lv_ishl hx hb j_bgb_16 ?_
  rw [show nI k <<< ((0 : Int32) &&& 31) = nI k from sb_shl0 _]
  refine lv_aload_n hx hb j_bgb_17 rfl (lv_at hl 0 rfl) ?_
  refine vk_getf hx hb (hT.1 0 (by decide)).2.2.1 hS hown (hw _ g_1267) (fun _ h => h) j_bgb_18 ?_
  refine va_tlen (v := nI bs.length) hx hb (hT.1 0 (by decide)).2.2.2 hS rfl j_bgb_21 ?_
  refine vk_copyt hx hb (hml.trans hl.1.symm) hown (hw _ g_1182) (kf_at hF t_1109 rfl rfl) (hw _ g_1108) (hw _ g_49) hK hP (W0_D hA) hS (hT.1 0 (by decide)).2.2.2 1 6 rfl rfl (nI_pos (by omega)) (nI_pos (by omega)) (nI_pos (by omega)) (by rw [nI_clamp (n := bs.length) (by omega)]; exact Nat.le_of_eq (Nat.zero_add _)) (by rw [nI_clamp (n := k) (by omega), nI_clamp (n := bs.length) (by omega)]; exact hk) (fun i hi => ?_) (by decide) (Nat.le_of_ble_eq_true rfl) j_bgb_22 (fun H1 locs1 hP hD hS => ?_)
  · rw [nI_clamp (n := bs.length) (by omega)] at hi
    obtain ⟨v9, h91, h92⟩ := hB.2 ((nI 0).toNatClampNeg + i) (by rw [show (nI 0).toNatClampNeg = 0 from rfl]; omega)
    exact (congrArg (fun x => fits .byte (.int x)) h92).trans (fit8 v9 h91).1
  rw [show (nI 0).toNatClampNeg = 0 from rfl, nI_clamp (n := k) (by omega), nI_clamp (n := bs.length) (by omega)] at hP
  refine lv_goto (tgt := 43) hx hb j_bgb_25 (by decide) ?_
  exact W.vret hx hb B.returns (fun t ht hW => ⟨⟨rfl, by rw [ht]; exact hP⟩, hS.F ht⟩) hS.2.2 j_bgb_43 B.notSynchronized
set_option maxRecDepth 20000 in
set_option maxHeartbeats 2000000 in
theorem jb_bput (l : Launch) (D : va_G) (aC : Nat → ClassId) (q v k : Nat) (f : Nat → Int32) (A : Nat → Prop) (hA : A q ∧ A v ∧ q ≠ v) {bs : List Int32} (hB : BL bs) (sa va : Nat) (hk : k + bs.length ≤ 16) : Met l (mtY mJ_bput) (wM mJ_bput :: WG) (mtR mJ_bput) (va_Pc [.ref q, .int (nI k), .ref sa] (JL bs sa va D aC q v k f A)) (JBQ D aC q v k (va_cpy (fun j => bs.getD j 0) f 0 k bs.length) A none) 0 0 (A) := by
  refine Met.ofW (cc := mtC mJ_bput) (maxL := mtL mJ_bput) (ret := mtT mJ_bput) (by decide +kernel) rfl ?_
  intro p e s m args below meth c s₁ B hml hv
  obtain ⟨rfl, hJ⟩ := hv
  have hx := B.exec
  have hb := B.bytes
  have hts := atoms_spec (ws := wM mJ_bput :: WG) B.pre
  have hw : ∀ w ∈ WG, w.before _ s = true := fun w h => hts w (List.mem_cons_of_mem _ h)
  have hown : s.vm.findClass "java/lang/AbstractStringBuilder" = some m.cls := findClass_of_methodNamed B.named
  have hS : va_S A s.heap s.heap [] := va_S.rf
  have hF := hJ.1.1
  have hZ := hJ.1.2.1
  have hK := hJ.1.2.2.1
  have hP := hJ.1.2.2.2
  have hT := hJ.2
  have hl := lv_entry [.ref q, .int (nI k), .ref sa] (n := 3) (Nat.le_of_ble_eq_true rfl)
  rw [lg_entry_eq]
  refine lv_aload_n hx hb j_bput_0 rfl (lv_at hl 0 rfl) ?_
  refine lv_aload_n hx hb j_bput_1 rfl (lv_at hl 2 rfl) ?_
  refine j_call (r := none) (rest := []) (va_runV (As := [.ref sa]) (rest := []) (nL := 3) (n := 1) (own := "java/lang/AbstractStringBuilder") (C := "java/lang/StringBuilder") (b := q) (cc := mtC mJ_bput) (Ts := WG) ⟨hx, hb, hml, hown, hw⟩ (jb_binf l D aC q v k f A hB sa va) ⟨j_cb (M' := mJ_binf) (np := 1) hw g_1154 g_45 g_1157 rfl ⟨by decide +kernel, by decide +kernel, by decide +kernel⟩ ⟨by decide, by decide⟩, hw _ g_1156, sb_selp hw hF rfl t_1155 g_1156⟩ ⟨JL.blind, va_recv hK hP (vwc_at8 (d := 7) (by decide)) (q0 := 0) rfl, fun U hU hW => ⟨rfl, hJ.at hP hS hU hW⟩⟩ rfl rfl hl.1 rfl (Nat.le_of_ble_eq_true rfl) j_bput_2 ⟨by decide, by decide⟩) ?_
  refine lv_aload_n hx hb j_bput_5 rfl (lv_at hl 2 rfl) ?_
  refine lv_aload_n hx hb j_bput_6 rfl (lv_at hl 0 rfl) ?_
  refine va_get (D := D) (cl := vwc) (C := RJ4) (T := TJ4) (N := 4) hx hb hw inW7 hown hK hP 0 rfl (vwc_at8 (d := 7) (by decide)) 0 (by decide) (hw _ g_1054) (fun _ h => h) rfl j_bput_7 ?_
  refine lv_iload_n hx hb j_bput_10 rfl (lv_at hl 1 rfl) ?_
  refine lv_aload_n hx hb j_bput_11 rfl (lv_at hl 0 rfl) ?_
  refine va_get (D := D) (cl := vwc) (C := RJ4) (T := TJ4) (N := 4) hx hb hw inW7 hown hK hP 0 rfl (vwc_at8 (d := 7) (by decide)) 1 (by decide) (hw _ g_1055) (fun _ h => h) rfl j_bput_12 ?_
  refine b_call (r := none) (rest := []) (va_runV (As := [.ref v, .int (nI k), .int 0]) (rest := []) (nL := 3) (n := 3) (own := "java/lang/AbstractStringBuilder") (C := "java/lang/String") (b := sa) (cc := mtC mJ_bput) (Ts := WG) ⟨hx, hb, hml, hown, hw⟩ (jb_bgb l D aC q v k f A hA hB sa va hk) ⟨j_cb (M' := mJ_bgb) (np := 3) hw g_1178 g_36 g_1181 rfl ⟨by decide +kernel, by decide +kernel, by decide +kernel⟩ ⟨by decide, by decide⟩, hw _ g_1179, hw _ g_1180⟩ ⟨JL.blind, vk_recv hT (by decide : 0 < 1) hS, fun U hU hW => ⟨rfl, hJ.at hP hS hU hW⟩⟩ rfl rfl hl.1 rfl (Nat.le_of_ble_eq_true rfl) j_bput_15 ⟨by decide, by decide⟩) hS (fun H1 locs1 hP hS => ?_)
  exact W.vret hx hb B.returns (fun t ht hW => ⟨⟨rfl, by rw [ht]; exact hP⟩, hS.F ht⟩) hS.2.2 j_bput_18 B.notSynchronized
set_option maxRecDepth 20000 in
set_option maxHeartbeats 2000000 in
theorem jb_baS (l : Launch) (D : va_G) (aC : Nat → ClassId) (q v k : Nat) (f : Nat → Int32) (A : Nat → Prop) (hA : A q ∧ A v ∧ q ≠ v) {bs : List Int32} (hB : BL bs) (sa va : Nat) (hk : k + bs.length ≤ 16) : Met l (mtY mJ_baS) (wM mJ_baS :: WG) (mtR mJ_baS) (va_Pc [.ref q, .ref sa] (JL bs sa va D aC q v k f A)) (JBQ D aC q v (k + bs.length) (va_cpy (fun j => bs.getD j 0) f 0 k bs.length) A (some (.ref q))) 0 0 (A) := by
  refine Met.ofW (cc := mtC mJ_baS) (maxL := mtL mJ_baS) (ret := mtT mJ_baS) (by decide +kernel) rfl ?_
  intro p e s m args below meth c s₁ B hml hv
  obtain ⟨rfl, hJ⟩ := hv
  have hx := B.exec
  have hb := B.bytes
  have hts := atoms_spec (ws := wM mJ_baS :: WG) B.pre
  have hw : ∀ w ∈ WG, w.before _ s = true := fun w h => hts w (List.mem_cons_of_mem _ h)
  have hown : s.vm.findClass "java/lang/AbstractStringBuilder" = some m.cls := findClass_of_methodNamed B.named
  have hS : va_S A s.heap s.heap [] := va_S.rf
  have hF := hJ.1.1
  have hZ := hJ.1.2.1
  have hK := hJ.1.2.2.1
  have hP := hJ.1.2.2.2
  have hT := hJ.2
  have hl := lv_entry [.ref q, .ref sa] (n := 3) (Nat.le_of_ble_eq_true rfl)
  rw [lg_entry_eq]
  refine lv_aload_n hx hb j_baS_0 rfl (lv_at hl 1 rfl) ?_
  refine lv_ifnonnull (tgt := 9) hx hb j_baS_1 (by decide) ?_
  refine lv_aload_n hx hb j_baS_9 rfl (lv_at hl 1 rfl) ?_
  refine j_call (r := some (.int (nI bs.length))) (rest := []) (va_runV (As := []) (rest := []) (nL := 3) (n := 0) (own := "java/lang/AbstractStringBuilder") (C := "java/lang/String") (b := sa) (cc := mtC mJ_baS) (Ts := WG) ⟨hx, hb, hml, hown, hw⟩ (jj_len l bs hB sa va s.heap.size A) ⟨j_cb (M' := mJ_len) (np := 0) hw g_1141 g_36 g_1144 rfl ⟨by decide +kernel, by decide +kernel, by decide +kernel⟩ ⟨by decide, by decide⟩, hw _ g_1142, hw _ g_1143⟩ ⟨JS.blind, vk_recv hT (by decide : 0 < 1) hS, fun U hU hW => ⟨rfl, (hJ.js hS hU hW)⟩⟩ rfl rfl hl.1 rfl (Nat.le_of_ble_eq_true rfl) j_baS_10 ⟨by decide, by decide⟩) ?_
  refine lv_istore_n hx hb j_baS_13 rfl hl (by decide) rfl (fun ls hl => ?_)
  refine lv_aload_n hx hb j_baS_14 rfl (lv_at hl 1 rfl) ?_
  refine lv_aload_n hx hb j_baS_15 rfl (lv_at hl 1 rfl) ?_
  refine va_get (D := D) (cl := vwc) (C := RJ4) (T := TJ4) (N := 4) hx hb hw inW7 hown hK hP 0 rfl (vwc_at8 (d := 7) (by decide)) 3 (by decide) (hw _ g_1057) (fun _ h => h) rfl j_baS_16 ?_
  refine lv_iload_n hx hb j_baS_19 rfl (lv_at hl 0 rfl) ?_
  refine lv_iadd hx hb j_baS_20 ?_
  rw [nI_add]
  refine j_call (r := none) (rest := []) (va_runV (As := [.int (nI (k + bs.length))]) (rest := []) (nL := 3) (n := 1) (own := "java/lang/AbstractStringBuilder") (C := "java/lang/StringBuilder") (b := q) (cc := mtC mJ_baS) (Ts := WG) ⟨hx, hb, hml, hown, hw⟩ (jb_bens l D aC q v k f A _ hk) ⟨j_cb (M' := mJ_bens) (np := 1) hw g_1079 g_45 g_1082 rfl ⟨by decide +kernel, by decide +kernel, by decide +kernel⟩ ⟨by decide, by decide⟩, hw _ g_1081, sb_selp hw hF rfl t_1080 g_1081⟩ ⟨JB.blind, va_recv hK hP (vwc_at8 (d := 7) (by decide)) (q0 := 0) rfl, fun U hU hW => ⟨rfl, hJ.1.at hP hS hU hW⟩⟩ rfl rfl hl.1 rfl (Nat.le_of_ble_eq_true rfl) j_baS_21 ⟨by decide, by decide⟩) ?_
  refine lv_aload_n hx hb j_baS_24 rfl (lv_at hl 1 rfl) ?_
  refine lv_aload_n hx hb j_baS_25 rfl (lv_at hl 1 rfl) ?_
  refine va_get (D := D) (cl := vwc) (C := RJ4) (T := TJ4) (N := 4) hx hb hw inW7 hown hK hP 0 rfl (vwc_at8 (d := 7) (by decide)) 3 (by decide) (hw _ g_1057) (fun _ h => h) rfl j_baS_26 ?_
  refine lv_aload_n hx hb j_baS_29 rfl (lv_at hl 2 rfl) ?_
  refine b_call (r := none) (rest := []) (va_runV (As := [.int (nI k), .ref sa]) (rest := []) (nL := 3) (n := 2) (own := "java/lang/AbstractStringBuilder") (C := "java/lang/StringBuilder") (b := q) (cc := mtC mJ_baS) (Ts := WG) ⟨hx, hb, hml, hown, hw⟩ (jb_bput l D aC q v k f A hA hB sa va hk) ⟨j_cb (M' := mJ_bput) (np := 2) hw g_1150 g_45 g_1153 rfl ⟨by decide +kernel, by decide +kernel, by decide +kernel⟩ ⟨by decide, by decide⟩, hw _ g_1152, sb_selp hw hF rfl t_1151 g_1152⟩ ⟨JL.blind, va_recv hK hP (vwc_at8 (d := 7) (by decide)) (q0 := 0) rfl, fun U hU hW => ⟨rfl, hJ.at hP hS hU hW⟩⟩ rfl rfl hl.1 rfl (Nat.le_of_ble_eq_true rfl) j_baS_30 ⟨by decide, by decide⟩) hS (fun H1 locs1 hP hS => ?_)
  refine lv_aload_n hx hb j_baS_33 rfl (lv_at hl 1 rfl) ?_
  refine lv_dup hx hb j_baS_34 rfl ?_
  refine va_get (D := D) (cl := vwc) (C := RJ4) (T := TJ4) (N := 4) hx hb hw inW7 hown hK hP 0 rfl (vwc_at8 (d := 7) (by decide)) 3 (by decide) (hw _ g_1057) (fun _ h => h) rfl j_baS_35 ?_
  refine lv_iload_n hx hb j_baS_38 rfl (lv_at hl 0 rfl) ?_
  refine lv_iadd hx hb j_baS_39 ?_
  rw [nI_add]
  refine va_put (D := D) (cl := vwc) (C := RJ4) (T := TJ4) (N := 4) (v := .int (nI (k + bs.length))) hx hb hw inW7 tyJ4 tyJ4_ok nmJ4 hown hK hP (W0_D hA) hS 0 rfl (vwc_at8 (d := 7) (by decide)) 3 (by decide) (hw _ g_1057) (fun _ h => h) rfl (tyJ4_ok 3 (by decide)) rfl rfl (Nat.le_of_ble_eq_true rfl) j_baS_40 (fun H1 locs1 hP hD hS => ?_)
  refine lv_aload_n hx hb j_baS_43 rfl (lv_at hl 1 rfl) ?_
  exact W.aret (v := .ref q) (rt := .object "java/lang/AbstractStringBuilder") hx hb B.returns (Or.inl ⟨_, rfl⟩) (Or.inr ⟨_, rfl⟩) (fun t ht hW => ⟨⟨rfl, by rw [ht]; exact hP⟩, hS.F ht⟩) hS.2.2 j_baS_44 B.notSynchronized
set_option maxRecDepth 20000 in
set_option maxHeartbeats 2000000 in
theorem jb_bS (l : Launch) (D : va_G) (aC : Nat → ClassId) (q v k : Nat) (f : Nat → Int32) (A : Nat → Prop) (hA : A q ∧ A v ∧ q ≠ v) {bs : List Int32} (hB : BL bs) (sa va : Nat) (hk : k + bs.length ≤ 16) : Met l (mtY mJ_bS) (wM mJ_bS :: WG) (mtR mJ_bS) (va_Pc [.ref q, .ref sa] (JL bs sa va D aC q v k f A)) (JBQ D aC q v (k + bs.length) (va_cpy (fun j => bs.getD j 0) f 0 k bs.length) A (some (.ref q))) 0 0 (A) := by
  refine Met.ofW (cc := mtC mJ_bS) (maxL := mtL mJ_bS) (ret := mtT mJ_bS) (by decide +kernel) rfl ?_
  intro p e s m args below meth c s₁ B hml hv
  obtain ⟨rfl, hJ⟩ := hv
  have hx := B.exec
  have hb := B.bytes
  have hts := atoms_spec (ws := wM mJ_bS :: WG) B.pre
  have hw : ∀ w ∈ WG, w.before _ s = true := fun w h => hts w (List.mem_cons_of_mem _ h)
  have hown : s.vm.findClass "java/lang/StringBuilder" = some m.cls := findClass_of_methodNamed B.named
  have hS : va_S A s.heap s.heap [] := va_S.rf
  have hF := hJ.1.1
  have hZ := hJ.1.2.1
  have hK := hJ.1.2.2.1
  have hP := hJ.1.2.2.2
  have hT := hJ.2
  have hl := lv_entry [.ref q, .ref sa] (n := 2) (Nat.le_of_ble_eq_true rfl)
  rw [lg_entry_eq]
  refine lv_aload_n hx hb j_bS_0 rfl (lv_at hl 0 rfl) ?_
  refine lv_aload_n hx hb j_bS_1 rfl (lv_at hl 1 rfl) ?_
  refine b_call (r := some (.ref q)) (rest := []) (va_runSU (As := [.ref sa]) (rest := []) (nL := 2) (n := 1) (own := "java/lang/StringBuilder") (C := "java/lang/StringBuilder") (b := q) (cc := mtC mJ_bS) (Ts := WG) (hK.1 7 _ (vwc_at8 (d := 7) (by decide))).2 ⟨hx, hb, hml, hown, hw⟩ (jb_baS l D aC q v k f A hA hB sa va hk) (j_cs (M' := mJ_baS) (np := 1) hw hF g_1072 t_1313 t_1066 g_1073 g_45 g_1074 rfl ⟨by decide +kernel, by decide +kernel, by decide +kernel⟩ (by decide) ⟨by decide, by decide⟩) ⟨JL.blind, va_recv hK hP (vwc_at8 (d := 7) (by decide)) (q0 := 0) rfl, fun U hU hW => ⟨rfl, hJ.at hP hS hU hW⟩⟩ rfl rfl hl.1 rfl (Nat.le_of_ble_eq_true rfl) j_bS_2 ⟨by decide, by decide⟩) hS (fun H1 locs1 hP hS => ?_)
  refine lv_pop hx hb j_bS_5 rfl ?_
  refine lv_aload_n hx hb j_bS_6 rfl (lv_at hl 0 rfl) ?_
  exact W.aret (v := .ref q) (rt := .object "java/lang/StringBuilder") hx hb B.returns (Or.inl ⟨_, rfl⟩) (Or.inr ⟨_, rfl⟩) (fun t ht hW => ⟨⟨rfl, by rw [ht]; exact hP⟩, hS.F ht⟩) hS.2.2 j_bS_7 B.notSynchronized
set_option maxRecDepth 20000 in
set_option maxHeartbeats 2000000 in
theorem jb_bss (l : Launch) (d : Nat) (hd : d < 10) : Met l (mtY mJ_bss) (wM mJ_bss :: WG) (mtR mJ_bss) (va_Pc [.int (nI d)] (fun _ => True)) (JQ (some (.int (nI 1)))) 0 0 (fun _ => False) := by
  refine Met.ofW (cc := mtC mJ_bss) (maxL := mtL mJ_bss) (ret := mtT mJ_bss) (by decide +kernel) rfl ?_
  intro p e s m args below meth c s₁ B hml hv
  obtain ⟨rfl, hJ⟩ := hv
  have hx := B.exec
  have hb := B.bytes
  have hts := atoms_spec (ws := wM mJ_bss :: WG) B.pre
  have hw : ∀ w ∈ WG, w.before _ s = true := fun w h => hts w (List.mem_cons_of_mem _ h)
  have hown : s.vm.findClass "java/lang/Integer" = some m.cls := findClass_of_methodNamed B.named
  have hl := lv_entry [.int (nI d)] (n := 4) (Nat.le_of_ble_eq_true rfl)
  rw [lg_entry_eq]
  refine lv_iconst (v := nI 1) hx hb j_bss_0 (by decide) ?_
  refine lv_istore_n hx hb j_bss_1 rfl hl (by decide) rfl (fun ls hl => ?_)
  refine lv_iload_n hx hb j_bss_2 rfl (lv_at hl 1 rfl) ?_
  refine lv_if_lt (tgt := 11) hx hb j_bss_3 (by decide) (fun q => absurd q (nI_pos (by omega))) (fun _ => ?_)
  refine lv_iconst (v := nI 0) hx hb j_bss_6 (by decide) ?_
  refine lv_istore_n hx hb j_bss_7 rfl hl (by decide) rfl (fun ls hl => ?_)
  refine lv_iload_n hx hb j_bss_8 rfl (lv_at hl 1 rfl) ?_
  refine lv_ineg hx hb j_bss_9 ?_
  refine lv_istore_n hx hb j_bss_10 rfl hl (by decide) rfl (fun ls hl => ?_)
  refine lv_bipush (v := (-10 : Int32)) hx hb j_bss_11 (by decide) ?_
  refine lv_istore_n hx hb j_bss_13 rfl hl (by decide) rfl (fun ls hl => ?_)
  refine lv_iconst (v := nI 1) hx hb j_bss_14 (by decide) ?_
  refine lv_istore_n hx hb j_bss_15 rfl hl (by decide) rfl (fun ls hl => ?_)
  refine lv_iload_n hx hb j_bss_16 rfl (lv_at hl 0 rfl) ?_
  refine lv_bipush (v := nI 10) hx hb j_bss_17 (by decide) ?_
  refine lv_icmp_ge (tgt := 42) hx hb j_bss_19 (by decide) (fun q => absurd q (by decide)) (fun _ => ?_)
  refine lv_iload_n hx hb j_bss_22 rfl (lv_at hl 2 rfl) ?_
  refine lv_iload_n hx hb j_bss_23 rfl (lv_at hl 1 rfl) ?_
  refine lv_icmp_le (tgt := 31) hx hb j_bss_24 (by decide) (fun q => absurd q (neg10 d hd).2.2) (fun _ => ?_)
  refine lv_iload_n hx hb j_bss_27 rfl (lv_at hl 0 rfl) ?_
  refine lv_iload_n hx hb j_bss_28 rfl (lv_at hl 3 rfl) ?_
  refine lv_iadd hx hb j_bss_29 ?_
  exact W.iret (v := nI 1 + nI 0) hx hb B.returns (fun t ht hW => ⟨rfl, ht⟩) (fun q h => by cases h) j_bss_30 B.notSynchronized
set_option maxRecDepth 20000 in
set_option maxHeartbeats 2000000 in
theorem jb_bgc (l : Launch) (D : va_G) (aC : Nat → ClassId) (q v k : Nat) (f : Nat → Int32) (A : Nat → Prop) (hA : A q ∧ A v ∧ q ≠ v) (d : Nat) (hd : d < 10) (hk : k < 16) : Met l (mtY mJ_bgc) (wM mJ_bgc :: WG) (mtR mJ_bgc) (va_Pc [.int (nI d), .int (nI (k + 1)), .ref v] (JB D aC q v k f A)) (JBQ D aC q v k (upd f k (nI (48 + d))) A (some (.int (nI k)))) 0 0 (A) := by
  refine Met.ofW (cc := mtC mJ_bgc) (maxL := mtL mJ_bgc) (ret := mtT mJ_bgc) (by decide +kernel) rfl ?_
  intro p e s m args below meth c s₁ B hml hv
  obtain ⟨rfl, hJ⟩ := hv
  have hx := B.exec
  have hb := B.bytes
  have hts := atoms_spec (ws := wM mJ_bgc :: WG) B.pre
  have hw : ∀ w ∈ WG, w.before _ s = true := fun w h => hts w (List.mem_cons_of_mem _ h)
  have hown : s.vm.findClass "java/lang/Integer" = some m.cls := findClass_of_methodNamed B.named
  have hS : va_S A s.heap s.heap [] := va_S.rf
  have hF := hJ.1
  have hZ := hJ.2.1
  have hK := hJ.2.2.1
  have hP := hJ.2.2.2
  have hl := lv_entry [.int (nI d), .int (nI (k + 1)), .ref v] (n := 7) (Nat.le_of_ble_eq_true rfl)
  rw [lg_entry_eq]
  obtain ⟨t9, hd1, hd2⟩ := hZ.2.2.1
  refine lv_iload_n hx hb j_bgc_0 rfl (lv_at hl 1 rfl) ?_
  refine lv_istore hx hb j_bgc_1 hl (by decide) rfl (fun ls hl => ?_)
  refine lv_iload_n hx hb j_bgc_3 rfl (lv_at hl 1 rfl) ?_
  refine lv_if_ge (tgt := 11) hx hb j_bgc_4 (by decide) (fun _ => ?_) (fun q => absurd (nI_pos' (by omega)) q)
  refine lv_iconst (v := nI 0) hx hb j_bgc_11 (by decide) ?_
  refine lv_istore hx hb j_bgc_12 hl (by decide) rfl (fun ls hl => ?_)
  refine lv_iload hx hb j_bgc_14 (lv_at hl 0 rfl) ?_
  refine lv_if_ne (tgt := 22) hx hb j_bgc_16 (by decide) (fun q => absurd rfl q) (fun _ => ?_)
  refine lv_iload_n hx hb j_bgc_19 rfl (lv_at hl 2 rfl) ?_
  refine lv_ineg hx hb j_bgc_20 ?_
  refine lv_istore_n hx hb j_bgc_21 rfl hl (by decide) rfl (fun ls hl => ?_)
  refine lv_iload_n hx hb j_bgc_22 rfl (lv_at hl 0 rfl) ?_
  refine lv_bipush (v := (-100 : Int32)) hx hb j_bgc_23 (by decide) ?_
  refine lv_icmp_gt (tgt := 72) hx hb j_bgc_25 (by decide) (fun _ => ?_) (fun q => absurd (neg10 d hd).1 q)
  refine lv_aload_n hx hb j_bgc_72 rfl (lv_at hl 4 rfl) ?_
  refine lv_iinc (k := 2) (v := nI k) hx hb j_bgc_73 hl rfl (nI_dec k) (by decide) rfl (fun ls hl => ?_)
  refine lv_iload hx hb j_bgc_76 (lv_at hl 0 rfl) ?_
  refine va_gets hx hb hd1 hS hown (hw _ g_1197) (fun _ h => h) j_bgc_78 ?_
  refine lv_iload_n hx hb j_bgc_81 rfl (lv_at hl 1 rfl) ?_
  refine lv_ineg hx hb j_bgc_82 ?_
  rw [Int32.neg_neg]
  refine va_tb (v := .int (nI (48 + d))) hx hb hd2 hS (vp_in_nI (by omega) (by decide)) (by
    rw [nI_clamp (by omega)]
    show Value.int (nI (48 + d % 10)) = _
    rw [Nat.mod_eq_of_lt hd]) j_bgc_83 ?_
  refine va_bast hx hb hK hP (W0_D hA) hS 1 6 rfl rfl (vp_in_nI (show k < 16 by omega) (by decide)) j_bgc_84 (fun H1 locs1 hP hD hS => ?_)
  rw [nI_clamp (n := k) (by omega), (fit8 (48 + d) (by omega)).2] at hP
  refine lv_iload_n hx hb j_bgc_85 rfl (lv_at hl 1 rfl) ?_
  refine lv_bipush (v := (-9 : Int32)) hx hb j_bgc_86 (by decide) ?_
  refine lv_icmp_ge (tgt := 104) hx hb j_bgc_88 (by decide) (fun _ => ?_) (fun q => absurd (neg10 d hd).2.1 q)
  refine lv_iload hx hb j_bgc_104 (lv_at hl 2 rfl) ?_
  refine lv_if_eq (tgt := 118) hx hb j_bgc_106 (by decide) (fun _ => ?_) (fun q => absurd rfl q)
  refine lv_iload hx hb j_bgc_118 (lv_at hl 0 rfl) ?_
  exact W.iret (v := nI k) hx hb B.returns (fun t ht hW => ⟨⟨rfl, by rw [ht]; exact hP⟩, hS.F ht⟩) hS.2.2 j_bgc_120 B.notSynchronized
set_option maxRecDepth 20000 in
set_option maxHeartbeats 2000000 in
theorem jb_baI (l : Launch) (D : va_G) (aC : Nat → ClassId) (q v k : Nat) (f : Nat → Int32) (A : Nat → Prop) (hA : A q ∧ A v ∧ q ≠ v) (d : Nat) (hd : d < 10) (hk : k < 16) : Met l (mtY mJ_baI) (wM mJ_baI :: WG) (mtR mJ_baI) (va_Pc [.ref q, .int (nI d)] (JB D aC q v k f A)) (JBQ D aC q v (k + 1) (upd f k (nI (48 + d))) A (some (.ref q))) 0 0 (A) := by
  refine Met.ofW (cc := mtC mJ_baI) (maxL := mtL mJ_baI) (ret := mtT mJ_baI) (by decide +kernel) rfl ?_
  intro p e s m args below meth c s₁ B hml hv
  obtain ⟨rfl, hJ⟩ := hv
  have hx := B.exec
  have hb := B.bytes
  have hts := atoms_spec (ws := wM mJ_baI :: WG) B.pre
  have hw : ∀ w ∈ WG, w.before _ s = true := fun w h => hts w (List.mem_cons_of_mem _ h)
  have hown : s.vm.findClass "java/lang/AbstractStringBuilder" = some m.cls := findClass_of_methodNamed B.named
  have hS : va_S A s.heap s.heap [] := va_S.rf
  have hF := hJ.1
  have hZ := hJ.2.1
  have hK := hJ.2.2.1
  have hP := hJ.2.2.2
  have hl := lv_entry [.ref q, .int (nI d)] (n := 4) (Nat.le_of_ble_eq_true rfl)
  rw [lg_entry_eq]
  refine lv_aload_n hx hb j_baI_0 rfl (lv_at hl 0 rfl) ?_
  refine va_get (D := D) (cl := vwc) (C := RJ4) (T := TJ4) (N := 4) hx hb hw inW7 hown hK hP 0 rfl (vwc_at8 (d := 7) (by decide)) 3 (by decide) (hw _ g_1057) (fun _ h => h) rfl j_baI_1 ?_
  refine lv_istore_n hx hb j_baI_4 rfl hl (by decide) rfl (fun ls hl => ?_)
  refine lv_iload_n hx hb j_baI_5 rfl (lv_at hl 0 rfl) ?_
  refine lv_iload_n hx hb j_baI_6 rfl (lv_at hl 2 rfl) ?_
  refine j_call (r := some (.int (nI 1))) (rest := [.int (nI k)]) (va_runS (As := [.int (nI d)]) (rest := [.int (nI k)]) (nL := 4) (n := 1) (own := "java/lang/AbstractStringBuilder") (cc := mtC mJ_baI) (Ts := WG) ⟨hx, hb, hml, hown, hw⟩ (jb_bss l d hd) ⟨j_cb (M' := mJ_bss) (np := 1) hw g_1191 g_50 g_1193 rfl ⟨by decide +kernel, by decide +kernel, by decide +kernel⟩ ⟨by decide, by decide⟩, hw _ g_1192⟩ ⟨true_blind, fun U hU hW => ⟨rfl, trivial⟩⟩ rfl rfl hl.1 rfl (Nat.le_of_ble_eq_true rfl) j_baI_7 ⟨by decide, by decide⟩) ?_
  refine lv_iadd hx hb j_baI_10 ?_
  rw [nI_add]
  refine lv_istore_n hx hb j_baI_11 rfl hl (by decide) rfl (fun ls hl => ?_)
  refine lv_aload_n hx hb j_baI_12 rfl (lv_at hl 2 rfl) ?_
  refine lv_iload_n hx hb j_baI_13 rfl (lv_at hl 0 rfl) ?_
  refine j_call (r := none) (rest := []) (va_runV (As := [.int (nI (k + 1))]) (rest := []) (nL := 4) (n := 1) (own := "java/lang/AbstractStringBuilder") (C := "java/lang/StringBuilder") (b := q) (cc := mtC mJ_baI) (Ts := WG) ⟨hx, hb, hml, hown, hw⟩ (jb_bens l D aC q v k f A _ (by omega)) ⟨j_cb (M' := mJ_bens) (np := 1) hw g_1079 g_45 g_1082 rfl ⟨by decide +kernel, by decide +kernel, by decide +kernel⟩ ⟨by decide, by decide⟩, hw _ g_1081, sb_selp hw hF rfl t_1080 g_1081⟩ ⟨JB.blind, va_recv hK hP (vwc_at8 (d := 7) (by decide)) (q0 := 0) rfl, fun U hU hW => ⟨rfl, hJ.at hP hS hU hW⟩⟩ rfl rfl hl.1 rfl (Nat.le_of_ble_eq_true rfl) j_baI_14 ⟨by decide, by decide⟩) ?_
  refine lv_aload_n hx hb j_baI_17 rfl (lv_at hl 2 rfl) ?_
  refine j_call (r := some (.int (nI 1))) (rest := []) (va_runV (As := []) (rest := []) (nL := 4) (n := 0) (own := "java/lang/AbstractStringBuilder") (C := "java/lang/StringBuilder") (b := q) (cc := mtC mJ_baI) (Ts := WG) ⟨hx, hb, hml, hown, hw⟩ (jb_bisl l D aC q v k f A) ⟨j_cb (M' := mJ_bisl) (np := 0) hw g_1110 g_45 g_1114 rfl ⟨by decide +kernel, by decide +kernel, by decide +kernel⟩ ⟨by decide, by decide⟩, hw _ g_1111, hw _ g_1113⟩ ⟨JB.blind, va_recv hK hP (vwc_at8 (d := 7) (by decide)) (q0 := 0) rfl, fun U hU hW => ⟨rfl, hJ.at hP hS hU hW⟩⟩ rfl rfl hl.1 rfl (Nat.le_of_ble_eq_true rfl) j_baI_18 ⟨by decide, by decide⟩) ?_
  refine lv_if_eq (tgt := 37) hx hb j_baI_21 (by decide) (fun q => absurd q (by decide)) (fun _ => ?_)
  refine lv_iload_n hx hb j_baI_24 rfl (lv_at hl 3 rfl) ?_
  refine lv_iload_n hx hb j_baI_25 rfl (lv_at hl 0 rfl) ?_
  refine lv_aload_n hx hb j_baI_26 rfl (lv_at hl 2 rfl) ?_
  refine va_get (D := D) (cl := vwc) (C := RJ4) (T := TJ4) (N := 4) hx hb hw inW7 hown hK hP 0 rfl (vwc_at8 (d := 7) (by decide)) 0 (by decide) (hw _ g_1054) (fun _ h => h) rfl j_baI_27 ?_
  refine b_call (r := some (.int (nI k))) (rest := []) (va_runS (As := [.int (nI d), .int (nI (k + 1)), .ref v]) (rest := []) (nL := 4) (n := 3) (own := "java/lang/AbstractStringBuilder") (cc := mtC mJ_baI) (Ts := WG) ⟨hx, hb, hml, hown, hw⟩ (jb_bgc l D aC q v k f A hA d hd hk) ⟨j_cb (M' := mJ_bgc) (np := 3) hw g_1194 g_50 g_1196 rfl ⟨by decide +kernel, by decide +kernel, by decide +kernel⟩ ⟨by decide, by decide⟩, hw _ g_1195⟩ ⟨JB.blind, fun U hU hW => ⟨rfl, hJ.at hP hS hU hW⟩⟩ rfl rfl hl.1 rfl (Nat.le_of_ble_eq_true rfl) j_baI_30 ⟨by decide, by decide⟩) hS (fun H1 locs1 hP hS => ?_)
  refine lv_pop hx hb j_baI_33 rfl ?_
  refine lv_goto (tgt := 48) hx hb j_baI_34 (by decide) ?_
  refine lv_aload_n hx hb j_baI_48 rfl (lv_at hl 2 rfl) ?_
  refine lv_iload_n hx hb j_baI_49 rfl (lv_at hl 0 rfl) ?_
  refine va_put (D := D) (cl := vwc) (C := RJ4) (T := TJ4) (N := 4) (v := .int (nI (k + 1))) hx hb hw inW7 tyJ4 tyJ4_ok nmJ4 hown hK hP (W0_D hA) hS 0 rfl (vwc_at8 (d := 7) (by decide)) 3 (by decide) (hw _ g_1057) (fun _ h => h) rfl (tyJ4_ok 3 (by decide)) rfl rfl (Nat.le_of_ble_eq_true rfl) j_baI_50 (fun H1 locs1 hP hD hS => ?_)
  refine lv_aload_n hx hb j_baI_53 rfl (lv_at hl 2 rfl) ?_
  exact W.aret (v := .ref q) (rt := .object "java/lang/AbstractStringBuilder") hx hb B.returns (Or.inl ⟨_, rfl⟩) (Or.inr ⟨_, rfl⟩) (fun t ht hW => ⟨⟨rfl, by rw [ht]; exact hP⟩, hS.F ht⟩) hS.2.2 j_baI_54 B.notSynchronized
set_option maxRecDepth 20000 in
set_option maxHeartbeats 2000000 in
theorem jb_bI (l : Launch) (D : va_G) (aC : Nat → ClassId) (q v k : Nat) (f : Nat → Int32) (A : Nat → Prop) (hA : A q ∧ A v ∧ q ≠ v) (d : Nat) (hd : d < 10) (hk : k < 16) : Met l (mtY mJ_bI) (wM mJ_bI :: WG) (mtR mJ_bI) (va_Pc [.ref q, .int (nI d)] (JB D aC q v k f A)) (JBQ D aC q v (k + 1) (upd f k (nI (48 + d))) A (some (.ref q))) 0 0 (A) := by
  refine Met.ofW (cc := mtC mJ_bI) (maxL := mtL mJ_bI) (ret := mtT mJ_bI) (by decide +kernel) rfl ?_
  intro p e s m args below meth c s₁ B hml hv
  obtain ⟨rfl, hJ⟩ := hv
  have hx := B.exec
  have hb := B.bytes
  have hts := atoms_spec (ws := wM mJ_bI :: WG) B.pre
  have hw : ∀ w ∈ WG, w.before _ s = true := fun w h => hts w (List.mem_cons_of_mem _ h)
  have hown : s.vm.findClass "java/lang/StringBuilder" = some m.cls := findClass_of_methodNamed B.named
  have hS : va_S A s.heap s.heap [] := va_S.rf
  have hF := hJ.1
  have hZ := hJ.2.1
  have hK := hJ.2.2.1
  have hP := hJ.2.2.2
  have hl := lv_entry [.ref q, .int (nI d)] (n := 2) (Nat.le_of_ble_eq_true rfl)
  rw [lg_entry_eq]
  refine lv_aload_n hx hb j_bI_0 rfl (lv_at hl 0 rfl) ?_
  refine lv_iload_n hx hb j_bI_1 rfl (lv_at hl 1 rfl) ?_
  refine b_call (r := some (.ref q)) (rest := []) (va_runSU (As := [.int (nI d)]) (rest := []) (nL := 2) (n := 1) (own := "java/lang/StringBuilder") (C := "java/lang/StringBuilder") (b := q) (cc := mtC mJ_bI) (Ts := WG) (hK.1 7 _ (vwc_at8 (d := 7) (by decide))).2 ⟨hx, hb, hml, hown, hw⟩ (jb_baI l D aC q v k f A hA d hd hk) (j_cs (M' := mJ_baI) (np := 1) hw hF g_1188 t_1320 t_1066 g_1189 g_45 g_1190 rfl ⟨by decide +kernel, by decide +kernel, by decide +kernel⟩ (by decide) ⟨by decide, by decide⟩) ⟨JB.blind, va_recv hK hP (vwc_at8 (d := 7) (by decide)) (q0 := 0) rfl, fun U hU hW => ⟨rfl, hJ.at hP hS hU hW⟩⟩ rfl rfl hl.1 rfl (Nat.le_of_ble_eq_true rfl) j_bI_2 ⟨by decide, by decide⟩) hS (fun H1 locs1 hP hS => ?_)
  refine lv_pop hx hb j_bI_5 rfl ?_
  refine lv_aload_n hx hb j_bI_6 rfl (lv_at hl 0 rfl) ?_
  exact W.aret (v := .ref q) (rt := .object "java/lang/StringBuilder") hx hb B.returns (Or.inl ⟨_, rfl⟩) (Or.inr ⟨_, rfl⟩) (fun t ht hW => ⟨⟨rfl, by rw [ht]; exact hP⟩, hS.F ht⟩) hS.2.2 j_bI_7 B.notSynchronized
