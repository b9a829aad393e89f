/-! StringBuilder made, and its toString -/
def JPQ (P : Option Value → Heap → Prop) (A : Nat → Prop) : Array Value → State → Outcome → State → Prop := fun _ st o t => (∃ r, o = .returned r ∧ P r t.heap) ∧ va_F A st t
section JPC
variable {p : Program} {l : Launch} {e : Env} {R : Room} {s : State} {m : MethodId} {args : Array Value} {below : List Frame} {meth : Method} {c : Code} {H : Heap} {locs : List Loc} {cells slots : Nat} {Q : State → Prop}
theorem p_call {A A' : Nat → Prop} {P : Option Value → Heap → Prop} {pc dc ds : Nat} {ls : Array Slot} {st0 rest : List Value} {a : Array Value} (hAA : ∀ x, A' x → A x) (hr : va_Run p l e R s m args below meth c H locs cells slots dc ds (F0 m pc ls st0) rest (JPQ P A' a) A') (hS : va_S A s.heap H locs)
    (kk : ∀ (r : Option Value) (H1 : Heap) (locs1 : List Loc), P r H1 → H.size ≤ H1.size → (∀ x : Nat, x < H.size → ¬ A' x → H1[x]? = H[x]?) → va_S A s.heap H1 locs1 → W p l e R s m args below meth c H1 locs1 (cells + dc) (slots + ds) Q (F0 m (pc + 3) ls (r.toList ++ rest))) : W p l e R s m args below meth c H locs cells slots Q (F0 m pc ls st0) := by
  intro T hT X
  obtain ⟨v9, st₀, t, T', L, h0, X', hL, e1, e2, ⟨⟨r, hv, hP1⟩, hFr⟩, stp⟩ := hr T hT X
  cases hv
  obtain ⟨k1, k2, k3⟩ := vx_keep h0 e1 hS (fun q _ h => hAA q h) hAA hL hFr
  obtain ⟨t2, a1, b1⟩ := kk _ T'.heap (locs ++ L) (by rw [e1]; exact hP1) k1 k2 k3 T' rfl X'
  exact ⟨t2, stp t2 a1, b1⟩
theorem o_init {own : String} {idx a pc : Nat} {cc : ByteArray} {ls : Array Slot} {rest : List Value} (hx : p.tables.exec = Jvm.exec) (hb : c.code = cc) (hsz : ls.size = c.maxLocals) (hown : s.vm.findClass own = some m.cls) (h1 : (Cond.methodLink own idx Lib.objectInit).before args s = true) (h2 : (Cond.instanceMethod Lib.objectInit).before args s = true) (h3 : (Cond.code Lib.objectInit ⟨#[0xb1]⟩ 1 none).before args s = true) (hd : decode cc pc = .ok (.invokespecial idx, 3)) (hf : 1 ≤ R.frames) (hlo : (rest.map fun v => v.category).sum + 12 ≤ R.locals) (k : W p l e R s m args below meth c H locs cells slots Q (F0 m (pc + 3) ls rest)) : W p l e R s m args below meth c H locs cells slots Q (F0 m pc ls (.ref a :: rest)) :=
  W.objInit hx hb hown h1 h2 h3 (g := F0 m pc ls (.ref a :: rest)) rfl hsz (a := a) (rest := rest) rfl hd hf (by show 2 * 0 + _ + 12 ≤ _; omega) k
/-- a new row of bytes -/
theorem n_row {D : va_G} {aC : Nat → ClassId} {A : Nat → Prop} {ws : va_W} {cc : ByteArray} {pc N : Nat} {ls : Array Slot} {rest : List Value} {H0 : Heap} (hx : p.tables.exec = Jvm.exec) (hb : c.code = cc) (hw : ∀ w ∈ WG, w.before args s = true) (hK : va_K D vwc (tysOf aC) s) (hP : va_P D vwc ws H) (hD : va_D A ws) (hS : va_S A H0 H locs) (hA : ∀ x, H0.size ≤ x → A x) (hN : N ≤ 1000) (hcells : cells + 1 ≤ R.cells) (hslots : slots + N ≤ R.slots) (hdg : decode cc pc = .ok (.newarray .byte, 2))
    (kk : ∀ H1 : Heap, H1.size = H.size + 1 → va_P D vwc (ws ++ [(H.size, .inl (aC 6, N, .inl fun _ => 0))]) H1 → va_D A (ws ++ [(H.size, .inl (aC 6, N, .inl fun _ => 0))]) → va_S A H0 H1 locs → (∀ x : Nat, x < H.size → H1[x]? = H[x]?) → W p l e R s m args below meth c H1 locs (cells + 1) (slots + N) Q (F0 m (pc + 2) ls (.ref H.size :: rest))) : W p l e R s m args below meth c H locs cells slots Q (F0 m pc ls (.int (nI N) :: rest)) := by
  refine va_newaK (atype := .byte) hx hb (hw _ g_414) rfl hdg (rest := rest) rfl (nI_pos (by omega)) (nI_clamp (by omega)) (by show N * 1 ≤ _; omega) hcells hslots rfl fun H1 cA e1 z1 o1 hAr hNm => ?_
  have hA6 : cA = aC 6 := by
    have h9 : s.vm.findClass ("[" ++ FieldType.byte.toString) = some (aC 6) := (hK.2 6 _ rfl).2
    exact Option.some.inj (hNm.symm.trans h9)
  subst hA6
  have hk : ∀ (k : Nat) (x : Nat × va_E), ws[k]? = some x → H1[x.1]? = H[x.1]? := fun k x hx => o1 x.1 ((hP k x hx).lt)
  refine kk H1 z1 ((hP.kept hk).app (fun k x hx => ?_)) (hD.push hP rfl (hA _ hS.1)) ⟨Nat.le_trans hS.1 (by omega), fun x h1 h2 => (o1 x (Nat.lt_of_lt_of_le h1 hS.1)).trans (hS.2.1 x h1 h2), hS.2.2⟩ o1
  have hz : k < 1 := (List.getElem?_eq_some_iff.mp hx).1
  rw [show k = 0 by omega] at hx
  cases hx
  exact e1
/-- String's two fields, in its constructor -/
theorem s_put {D : va_G} {aC : Nat → ClassId} {A : Nat → Prop} {ws : va_W} {cc : ByteArray} {pc idx k b q0 : Nat} {ls : Array Slot} {rest fs : List Value} {v : Value} (hx : p.tables.exec = Jvm.exec) (hb : c.code = cc) (hw : ∀ w ∈ WG, w.before args s = true) (hown : s.vm.findClass "java/lang/String" = some m.cls) (hnm : meth.name = "<init>") (hK : va_K D vwc (tysOf aC) s) (hP : va_P D vwc ws H) (hD : va_D A ws) (hS : va_S A s.heap H locs) (he0 : ws[q0]? = some (b, .inr (6, fs))) (hk : k < 2) (hf : Cond.fieldLink "java/lang/String" idx (TJ0 k).1 (TJ0 k).2.1 (TJ0 k).2.2.1 ∈ WG) (hv : narrow (tyJ0 k) v = v ∧ fits (tyJ0 k) v = true) (hlen : k < fs.length) (hdg : decode cc pc = .ok (.putfield idx, 3))
    (kk : ∀ (H1 : Heap) (locs1 : List Loc), va_P D vwc (ws.set q0 (b, .inr (6, fs.set k v))) H1 → va_D A (ws.set q0 (b, .inr (6, fs.set k v))) → va_S A s.heap H1 locs1 → H1.size = H.size → (∀ x : Nat, x ≠ b → H1[x]? = H[x]?) → W p l e R s m args below meth c H1 locs1 cells slots Q (F0 m (pc + 3) ls rest)) : W p l e R s m args below meth c H locs cells slots Q (F0 m pc ls (v :: .ref b :: rest)) := by
  have hkk : k < cN 6 := show k < 4 by omega
  have hap := va_apart (own := "java/lang/String") hw (inWd (d := 6) (by decide)) (cTy 6) (cTy_ok (by decide)) (cNm_ok (by decide)) hK (vwc_at (d := 6) (by decide))
  obtain ⟨r, h1, cell, q1, q2, q3, q4⟩ := hP q0 _ he0
  have hr : r = (cR 6, cT 6, cN 6) := Option.some.inj (h1.symm.trans (vwc_at (d := 6) (by decide)))
  subst hr
  obtain ⟨hSl, hfc, kC, hkC, hkind⟩ := hK.1 6 _ (vwc_at (by decide))
  obtain ⟨cf, kf, fi, f9, hi, hsl⟩ := hSl k hkk
  have hlay := hw _ (inWd (d := 6) (by decide) _ (u_in_lay hkk))
  have hst := (u_facts hfc hkC (u_lays hw (inWd (d := 6) (by decide)) hkk) hi).1
  have hfin : (cT 6 k).2.2.2 = true := by
    rcases (show k = 0 ∨ k = 1 by omega) with rfl | rfl <;> rfl
  have hdecl : (cT 6 k).1 = "java/lang/String" := by
    rcases (show k = 0 ∨ k = 1 by omega) with rfl | rfl <;> rfl
  unfold u_lay at hlay
  rw [if_pos hfin] at hlay
  have hcf : m.cls = cf := by
    obtain ⟨_, _, c', _, _, _, -, -, hf', -, -, -, hown2, -⟩ := Cond.laysFinal_spec hlay
    have e1 : c' = cf := by
      have := hi.symm.trans hf'
      simp at this
      exact this.1.symm
    rw [hdecl] at hown2
    rw [← e1]
    exact Option.some.inj (hown.symm.trans hown2)
  have h6 := u_fits hfc hkC hkind (Or.inr hlay) hi (cTy_ok (d := 6) (by decide) k hkk) hv.1 hv.2
  refine W.putFinK hx hb hown (hw _ hf) hi hst hcf hnm (by rw [q2]; exact h6) q1 q3 (by rw [hsl]; exact k2_hasslot (q4 k hkk)) rfl rfl hdg fun H' e1 e2 e3 => ?_
  rw [hsl] at e1 ⊢
  exact kk H' _ (hP.set hD he0 ⟨_, vwc_at (d := 6) (by decide), t_OB.to (V := updV (vp_V fs) k v) ⟨_, e1, q2, q3, t_set q4 hap hkk v⟩ (fun j _ => vp_updV_set hlen v j)⟩ e3) (hD.set he0) (hS.put e2 e3 (hD.2 q0 _ he0)) e2 e3
end JPC
theorem w1_D {A : Nat → Prop} {q : Nat} {e : va_E} (h : A q) : va_D A [(q, e)] := by
  refine ⟨fun i j x y hi hj hxy => ?_, fun i x hx => ?_⟩
  · match i, j with
    | 0, 0 => rfl
    | n + 1, _ => cases hi
    | 0, n + 1 => cases hj
  · match i with
    | 0 =>
      cases hx
      exact h
    | n + 1 => cases hx
/-- a StringBuilder as new makes it -/
def N0 (q : Nat) : va_W := [(q, .inr (7, [.null, .int 0, .int 0, .int 0]))]
def JN (D : va_G) (aC : Nat → ClassId) (q n : Nat) (A : Nat → Prop) (U : State) : Prop := n ≤ U.heap.size ∧ KF U ∧ ZS A U U.heap ∧ va_K D vwc (tysOf aC) U ∧ va_P D vwc (N0 q) U.heap
theorem JN.at {D : va_G} {aC : Nat → ClassId} {q n : Nat} {A : Nat → Prop} {s U : State} (h : JN D aC q n A s) (hU : U.heap = s.heap) (hW : s.WarmedH U.vm) : JN D aC q n A U := by
  obtain ⟨h0, h1, h2, h3, h4⟩ := h
  refine ⟨by rw [hU]; exact h0, h1.warm hW, ?_, va_K.moved hW.alike h3, by rw [hU]; exact h4⟩
  rw [hU]
  exact ZS.go hW h2 (fun _ _ _ => rfl) (fun _ h => h)
theorem JN.blind {D : va_G} {aC : Nat → ClassId} {q n : Nat} {A : Nat → Prop} {av : List Value} : FrameBlind (va_Pc av (JN D aC q n A)) := by
  intro a U g mk h
  obtain ⟨h0, h1⟩ := h
  exact ⟨h0, JN.at (s := U) (U := U.calling g mk a) h1 rfl (State.WarmedH.refl U)⟩
def PN (D : va_G) (aC : Nat → ClassId) (q n : Nat) (r : Option Value) (H : Heap) : Prop := r = none ∧ ∃ v, n ≤ v ∧ q ≠ v ∧ va_P D vwc (W0 aC q v 0 (fun _ => 0)) H
abbrev mJ_bi : MT := (⟨"java/lang/AbstractStringBuilder", "<init>", "(I)V"⟩, prog_10_method_2_code, 2, none, { frames := 2, cells := 1, slots := 16, locals := 64 }, [])
theorem j_bi_0 : decode prog_10_method_2_code 0 = .ok (.aload_n 0, 1) := by decide +kernel
theorem j_bi_1 : decode prog_10_method_2_code 1 = .ok (.invokespecial 3, 3) := by decide +kernel
theorem j_bi_4 : decode prog_10_method_2_code 4 = .ok (.getstatic 18, 3) := by decide +kernel
theorem j_bi_7 : decode prog_10_method_2_code 7 = .ok (.ifCond .eq 18, 3) := by decide +kernel
theorem j_bi_10 : decode prog_10_method_2_code 10 = .ok (.aload_n 0, 1) := by decide +kernel
theorem j_bi_11 : decode prog_10_method_2_code 11 = .ok (.iload_n 1, 1) := by decide +kernel
theorem j_bi_12 : decode prog_10_method_2_code 12 = .ok (.newarray .byte, 2) := by decide +kernel
theorem j_bi_14 : decode prog_10_method_2_code 14 = .ok (.putfield 15, 3) := by decide +kernel
theorem j_bi_17 : decode prog_10_method_2_code 17 = .ok (.aload_n 0, 1) := by decide +kernel
theorem j_bi_18 : decode prog_10_method_2_code 18 = .ok (.iconst 0, 1) := by decide +kernel
theorem j_bi_19 : decode prog_10_method_2_code 19 = .ok (.putfield 22, 3) := by decide +kernel
theorem j_bi_22 : decode prog_10_method_2_code 22 = .ok (.goto 16, 3) := by decide +kernel
theorem j_bi_25 : decode prog_10_method_2_code 25 = .ok (.aload_n 0, 1) := by decide +kernel
theorem j_bi_26 : decode prog_10_method_2_code 26 = .ok (.iload_n 1, 1) := by decide +kernel
theorem j_bi_27 : decode prog_10_method_2_code 27 = .ok (.invokestatic 26, 3) := by decide +kernel
theorem j_bi_30 : decode prog_10_method_2_code 30 = .ok (.putfield 15, 3) := by decide +kernel
theorem j_bi_33 : decode prog_10_method_2_code 33 = .ok (.aload_n 0, 1) := by decide +kernel
theorem j_bi_34 : decode prog_10_method_2_code 34 = .ok (.iconst 1, 1) := by decide +kernel
theorem j_bi_35 : decode prog_10_method_2_code 35 = .ok (.putfield 22, 3) := by decide +kernel
theorem j_bi_38 : decode prog_10_method_2_code 38 = .ok (.return_, 1) := by decide +kernel
abbrev mJ_bi0 : MT := (⟨"java/lang/StringBuilder", "<init>", "()V"⟩, prog_28_method_1_code, 1, none, { frames := 3, cells := 1, slots := 16, locals := 96 }, [])
theorem j_bi0_0 : decode prog_28_method_1_code 0 = .ok (.aload_n 0, 1) := by decide +kernel
theorem j_bi0_1 : decode prog_28_method_1_code 1 = .ok (.bipush 16, 2) := by decide +kernel
theorem j_bi0_3 : decode prog_28_method_1_code 3 = .ok (.invokespecial 1, 3) := by decide +kernel
theorem j_bi0_6 : decode prog_28_method_1_code 6 = .ok (.return_, 1) := by decide +kernel
set_option maxRecDepth 20000 in
set_option maxHeartbeats 2000000 in
theorem jb_bi (l : Launch) (D : va_G) (aC : Nat → ClassId) (q n : Nat) (A : Nat → Prop) (hA : A q) (hN : ∀ x, n ≤ x → A x) (hq : q < n) : Met l (mtY mJ_bi) (wM mJ_bi :: WG) (mtR mJ_bi) (va_Pc [.ref q, .int (nI 16)] (JN D aC q n A)) (JPQ (PN D aC q n) A) 1 16 (A) := by
  refine Met.ofW (cc := mtC mJ_bi) (maxL := mtL mJ_bi) (ret := mtT mJ_bi) (by decide +kernel) rfl ?_
  intro p e s m args below meth c s₁ B hml hv
  obtain ⟨rfl, hJ⟩ := hv
  have hx := B.exec
  have hb := B.bytes
  have hts := atoms_spec (ws := wM mJ_bi :: WG) B.pre
  have hw : ∀ w ∈ WG, w.before _ s = true := fun w h => hts w (List.mem_cons_of_mem _ h)
  have hown : s.vm.findClass "java/lang/AbstractStringBuilder" = some m.cls := findClass_of_methodNamed B.named
  have hS : va_S A s.heap s.heap [] := va_S.rf
  have hsz := hJ.1
  have hF := hJ.2.1
  have hZ := hJ.2.2.1
  have hK := hJ.2.2.2.1
  have hP := hJ.2.2.2.2
  have hl := lv_entry [.ref q, .int (nI 16)] (n := 2) (Nat.le_of_ble_eq_true rfl)
  rw [lg_entry_eq]
  refine lv_aload_n hx hb j_bi_0 rfl (lv_at hl 0 rfl) ?_
  refine o_init (a := q) hx hb (hl.1.trans hml.symm) hown (hw _ g_1044) (hw _ g_57) (hw _ g_58) j_bi_1 (by decide) (Nat.le_of_ble_eq_true rfl) ?_
  refine va_gets hx hb hZ.1 hS hown (hw _ g_1045) (fun _ h => h) j_bi_4 ?_
  refine lv_if_eq (tgt := 25) hx hb j_bi_7 (by decide) (fun q => absurd q (by decide)) (fun _ => ?_)
  refine lv_aload_n hx hb j_bi_10 rfl (lv_at hl 0 rfl) ?_
  refine lv_iload_n hx hb j_bi_11 rfl (lv_at hl 1 rfl) ?_
  refine n_row hx hb hw hK hP (w1_D hA) hS (fun x h => hN x (Nat.le_trans hsz h)) (by decide) (by decide) (by decide) j_bi_12 (fun H1 z1 hP hD hS o1 => ?_)
  refine va_put (D := D) (cl := vwc) (C := RJ4) (T := TJ4) (N := 4) (v := .ref s.heap.size) hx hb hw inW7 tyJ4 tyJ4_ok nmJ4 hown hK hP hD hS 0 rfl (vwc_at8 (d := 7) (by decide)) 0 (by decide) (hw _ g_1054) (fun _ h => h) rfl (tyJ4_ok 0 (by decide)) rfl rfl (Nat.le_of_ble_eq_true rfl) j_bi_14 (fun H1 locs1 hP hD hS => ?_)
  refine lv_aload_n hx hb j_bi_17 rfl (lv_at hl 0 rfl) ?_
  refine lv_iconst (v := nI 0) hx hb j_bi_18 (by decide) ?_
  refine va_put (D := D) (cl := vwc) (C := RJ4) (T := TJ4) (N := 4) (v := .int (nI 0)) hx hb hw inW7 tyJ4 tyJ4_ok nmJ4 hown hK hP hD hS 0 rfl (vwc_at8 (d := 7) (by decide)) 1 (by decide) (hw _ g_1055) (fun _ h => h) rfl (tyJ4_ok 1 (by decide)) rfl rfl (Nat.le_of_ble_eq_true rfl) j_bi_19 (fun H1 locs1 hP hD hS => ?_)
  refine lv_goto (tgt := 38) hx hb j_bi_22 (by decide) ?_
  exact W.vret hx hb B.returns (fun t ht hW => ⟨⟨none, rfl, rfl, s.heap.size, hsz, by omega, by rw [ht]; exact hP⟩, hS.F ht⟩) hS.2.2 j_bi_38 B.notSynchronized
set_option maxRecDepth 20000 in
set_option maxHeartbeats 2000000 in
theorem jb_bi0 (l : Launch) (D : va_G) (aC : Nat → ClassId) (q n : Nat) (A : Nat → Prop) (hA : A q) (hN : ∀ x, n ≤ x → A x) (hq : q < n) : Met l (mtY mJ_bi0) (wM mJ_bi0 :: WG) (mtR mJ_bi0) (va_Pc [.ref q] (JN D aC q n A)) (JPQ (PN D aC q n) A) 1 16 (A) := by
  refine Met.ofW (cc := mtC mJ_bi0) (maxL := mtL mJ_bi0) (ret := mtT mJ_bi0) (by decide +kernel) rfl ?_
  intro p e s m args below meth c s₁ B hml hv
  obtain ⟨rfl, hJ⟩ := hv
  have hx := B.exec
  have hb := B.bytes
  have hts := atoms_spec (ws := wM mJ_bi0 :: WG) B.pre
  have hw : ∀ w ∈ WG, w.before _ s = true := fun w h => hts w (List.mem_cons_of_mem _ h)
  have hown : s.vm.findClass "java/lang/StringBuilder" = some m.cls := findClass_of_methodNamed B.named
  have hS : va_S A s.heap s.heap [] := va_S.rf
  have hsz := hJ.1
  have hF := hJ.2.1
  have hZ := hJ.2.2.1
  have hK := hJ.2.2.2.1
  have hP := hJ.2.2.2.2
  have hl := lv_entry [.ref q] (n := 1) (Nat.le_of_ble_eq_true rfl)
  rw [lg_entry_eq]
  refine lv_aload_n hx hb j_bi0_0 rfl (lv_at hl 0 rfl) ?_
  refine lv_bipush (v := nI 16) hx hb j_bi0_1 (by decide) ?_
  refine p_call (rest := []) (fun _ h => h) (va_runI (As := [.int (nI 16)]) (rest := []) (nL := 1) (n := 1) (own := "java/lang/StringBuilder") (b := q) (cc := mtC mJ_bi0) (Ts := WG) ⟨hx, hb, hml, hown, hw⟩ (jb_bi l D aC q n A hA hN hq) ⟨j_cb (M' := mJ_bi) (np := 1) hw g_1041 g_45 g_1043 rfl ⟨by decide +kernel, by decide +kernel, by decide +kernel⟩ ⟨by decide, by decide⟩, rfl, hw _ g_1042⟩ ⟨JN.blind, fun U hU hW => ⟨rfl, hJ.at hU hW⟩⟩ rfl rfl hl.1 rfl (Nat.le_of_ble_eq_true rfl) j_bi0_3 ⟨by decide, by decide⟩) hS (fun r H1 locs1 hR h1 h2 hS => ?_)
  obtain ⟨rfl, hR⟩ := hR
  exact W.vret hx hb B.returns (fun t ht hW => ⟨⟨none, rfl, rfl, by rw [ht]; exact hR⟩, hS.F ht⟩) hS.2.2 j_bi0_6 B.notSynchronized
abbrev mJ_bgv : MT := (⟨"java/lang/AbstractStringBuilder", "getValue", "()[B"⟩, prog_10_method_64_code, 1, some (.array .byte), { frames := 1, cells := 0, slots := 0, locals := 32 }, [])
theorem j_bgv_0 : decode prog_10_method_64_code 0 = .ok (.aload_n 0, 1) := by decide +kernel
theorem j_bgv_1 : decode prog_10_method_64_code 1 = .ok (.getfield 15, 3) := by decide +kernel
theorem j_bgv_4 : decode prog_10_method_64_code 4 = .ok (.areturn, 1) := by decide +kernel
abbrev mJ_bln : MT := (⟨"java/lang/AbstractStringBuilder", "length", "()I"⟩, prog_10_method_6_code, 1, some .int, { frames := 1, cells := 0, slots := 0, locals := 32 }, [])
theorem j_bln_0 : decode prog_10_method_6_code 0 = .ok (.aload_n 0, 1) := by decide +kernel
theorem j_bln_1 : decode prog_10_method_6_code 1 = .ok (.getfield 79, 3) := by decide +kernel
theorem j_bln_4 : decode prog_10_method_6_code 4 = .ok (.ireturn, 1) := by decide +kernel
abbrev mJ_bsl : MT := (⟨"java/lang/StringBuilder", "length", "()I"⟩, prog_28_method_93_code, 1, some .int, { frames := 2, cells := 0, slots := 0, locals := 64 }, [])
theorem j_bsl_0 : decode prog_28_method_93_code 0 = .ok (.aload_n 0, 1) := by decide +kernel
theorem j_bsl_1 : decode prog_28_method_93_code 1 = .ok (.invokespecial 343, 3) := by decide +kernel
theorem j_bsl_4 : decode prog_28_method_93_code 4 = .ok (.ireturn, 1) := by decide +kernel
set_option maxRecDepth 20000 in
set_option maxHeartbeats 2000000 in
theorem jb_bgv (l : Launch) (D : va_G) (aC : Nat → ClassId) (q v k : Nat) (f : Nat → Int32) (A : Nat → Prop) : Met l (mtY mJ_bgv) (wM mJ_bgv :: WG) (mtR mJ_bgv) (va_Pc [.ref q] (JB D aC q v k f A)) (JQ (some (.ref v))) 0 0 (fun _ => False) := by
  refine Met.ofW (cc := mtC mJ_bgv) (maxL := mtL mJ_bgv) (ret := mtT mJ_bgv) (by decide +kernel) rfl ?_
  intro p e s m args below meth c s₁ B hml hv
  obtain ⟨rfl, hJ⟩ := hv
  have hx := B.exec
  have hb := B.bytes
  have hts := atoms_spec (ws := wM mJ_bgv :: WG) B.pre
  have hw : ∀ w ∈ WG, w.before _ s = true := fun w h => hts w (List.mem_cons_of_mem _ h)
  have hown : s.vm.findClass "java/lang/AbstractStringBuilder" = some m.cls := findClass_of_methodNamed B.named
  have hS : va_S A s.heap s.heap [] := va_S.rf
  have hF := hJ.1
  have hZ := hJ.2.1
  have hK := hJ.2.2.1
  have hP := hJ.2.2.2
  have hl := lv_entry [.ref q] (n := 1) (Nat.le_of_ble_eq_true rfl)
  rw [lg_entry_eq]
  refine lv_aload_n hx hb j_bgv_0 rfl (lv_at hl 0 rfl) ?_
  refine va_get (D := D) (cl := vwc) (C := RJ4) (T := TJ4) (N := 4) hx hb hw inW7 hown hK hP 0 rfl (vwc_at8 (d := 7) (by decide)) 0 (by decide) (hw _ g_1054) (fun _ h => h) rfl j_bgv_1 ?_
  exact W.aret (v := .ref v) (rt := .array .byte) hx hb B.returns (Or.inr ⟨_, rfl⟩) (Or.inr ⟨_, rfl⟩) (fun t ht hW => ⟨rfl, ht⟩) (fun q h => by cases h) j_bgv_4 B.notSynchronized
set_option maxRecDepth 20000 in
set_option maxHeartbeats 2000000 in
theorem jb_bln (l : Launch) (D : va_G) (aC : Nat → ClassId) (q v k : Nat) (f : Nat → Int32) (A : Nat → Prop) : Met l (mtY mJ_bln) (wM mJ_bln :: WG) (mtR mJ_bln) (va_Pc [.ref q] (JB D aC q v k f A)) (JQ (some (.int (nI k)))) 0 0 (fun _ => False) := by
  refine Met.ofW (cc := mtC mJ_bln) (maxL := mtL mJ_bln) (ret := mtT mJ_bln) (by decide +kernel) rfl ?_
  intro p e s m args below meth c s₁ B hml hv
  obtain ⟨rfl, hJ⟩ := hv
  have hx := B.exec
  have hb := B.bytes
  have hts := atoms_spec (ws := wM mJ_bln :: WG) B.pre
  have hw : ∀ w ∈ WG, w.before _ s = true := fun w h => hts w (List.mem_cons_of_mem _ h)
  have hown : s.vm.findClass "java/lang/AbstractStringBuilder" = some m.cls := findClass_of_methodNamed B.named
  have hS : va_S A s.heap s.heap [] := va_S.rf
  have hF := hJ.1
  have hZ := hJ.2.1
  have hK := hJ.2.2.1
  have hP := hJ.2.2.2
  have hl := lv_entry [.ref q] (n := 1) (Nat.le_of_ble_eq_true rfl)
  rw [lg_entry_eq]
  refine lv_aload_n hx hb j_bln_0 rfl (lv_at hl 0 rfl) ?_
  refine va_get (D := D) (cl := vwc) (C := RJ4) (T := TJ4) (N := 4) hx hb hw inW7 hown hK hP 0 rfl (vwc_at8 (d := 7) (by decide)) 3 (by decide) (hw _ g_1057) (fun _ h => h) rfl j_bln_1 ?_
  exact W.iret (v := nI k) hx hb B.returns (fun t ht hW => ⟨rfl, ht⟩) (fun q h => by cases h) j_bln_4 B.notSynchronized
set_option maxRecDepth 20000 in
set_option maxHeartbeats 2000000 in
theorem jb_bsl (l : Launch) (D : va_G) (aC : Nat → ClassId) (q v k : Nat) (f : Nat → Int32) (A : Nat → Prop) : Met l (mtY mJ_bsl) (wM mJ_bsl :: WG) (mtR mJ_bsl) (va_Pc [.ref q] (JB D aC q v k f A)) (JQ (some (.int (nI k)))) 0 0 (fun _ => False) := by
  refine Met.ofW (cc := mtC mJ_bsl) (maxL := mtL mJ_bsl) (ret := mtT mJ_bsl) (by decide +kernel) rfl ?_
  intro p e s m args below meth c s₁ B hml hv
  obtain ⟨rfl, hJ⟩ := hv
  have hx := B.exec
  have hb := B.bytes
  have hts := atoms_spec (ws := wM mJ_bsl :: WG) B.pre
  have hw : ∀ w ∈ WG, w.before _ s = true := fun w h => hts w (List.mem_cons_of_mem _ h)
  have hown : s.vm.findClass "java/lang/StringBuilder" = some m.cls := findClass_of_methodNamed B.named
  have hS : va_S A s.heap s.heap [] := va_S.rf
  have hF := hJ.1
  have hZ := hJ.2.1
  have hK := hJ.2.2.1
  have hP := hJ.2.2.2
  have hl := lv_entry [.ref q] (n := 1) (Nat.le_of_ble_eq_true rfl)
  rw [lg_entry_eq]
  refine lv_aload_n hx hb j_bsl_0 rfl (lv_at hl 0 rfl) ?_
  refine j_call (r := some (.int (nI k))) (rest := []) (va_runSU (As := []) (rest := []) (nL := 1) (n := 0) (own := "java/lang/StringBuilder") (C := "java/lang/StringBuilder") (b := q) (cc := mtC mJ_bsl) (Ts := WG) (hK.1 7 _ (vwc_at8 (d := 7) (by decide))).2 ⟨hx, hb, hml, hown, hw⟩ (jb_bln l D aC q v k f A) (j_cs (M' := mJ_bln) (np := 0) hw hF g_1234 t_1230 t_1066 g_1229 g_45 g_1235 rfl ⟨by decide +kernel, by decide +kernel, by decide +kernel⟩ (by decide) ⟨by decide, by decide⟩) ⟨JB.blind, va_recv hK hP (vwc_at8 (d := 7) (by decide)) (q0 := 0) rfl, fun U hU hW => ⟨rfl, hJ.at hP hS hU hW⟩⟩ rfl rfl hl.1 rfl (Nat.le_of_ble_eq_true rfl) j_bsl_1 ⟨by decide, by decide⟩) ?_
  exact W.iret (v := nI k) hx hb B.returns (fun t ht hW => ⟨rfl, ht⟩) (fun q h => by cases h) j_bsl_4 B.notSynchronized
abbrev mJ_bck : MT := (⟨"java/util/Arrays", "checkLength", "(II)V"⟩, prog_36_method_131_code, 2, none, { frames := 1, cells := 0, slots := 0, locals := 32 }, [])
theorem j_bck_0 : decode prog_36_method_131_code 0 = .ok (.iload_n 1, 1) := by decide +kernel
theorem j_bck_1 : decode prog_36_method_131_code 1 = .ok (.iload_n 0, 1) := by decide +kernel
theorem j_bck_2 : decode prog_36_method_131_code 2 = .ok (.if_icmp .ge 35, 3) := by decide +kernel
theorem j_bck_5 : decode prog_36_method_131_code 5 = .ok (.new 43, 3) := by decide +kernel
theorem j_bck_8 : decode prog_36_method_131_code 8 = .ok (.dup, 1) := by decide +kernel
theorem j_bck_9 : decode prog_36_method_131_code 9 = .ok (.new 45, 3) := by decide +kernel
theorem j_bck_12 : decode prog_36_method_131_code 12 = .ok (.dup, 1) := by decide +kernel
theorem j_bck_13 : decode prog_36_method_131_code 13 = .ok (.invokespecial 47, 3) := by decide +kernel
theorem j_bck_16 : decode prog_36_method_131_code 16 = .ok (.iload_n 0, 1) := by decide +kernel
theorem j_bck_17 : decode prog_36_method_131_code 17 = .ok (.invokevirtual 54, 3) := by decide +kernel
theorem j_bck_20 : decode prog_36_method_131_code 20 = .ok (.ldc_w 337, 3) := by decide +kernel
theorem j_bck_23 : decode prog_36_method_131_code 23 = .ok (.invokevirtual 50, 3) := by decide +kernel
theorem j_bck_26 : decode prog_36_method_131_code 26 = .ok (.iload_n 1, 1) := by decide +kernel
theorem j_bck_27 : decode prog_36_method_131_code 27 = .ok (.invokevirtual 54, 3) := by decide +kernel
theorem j_bck_30 : decode prog_36_method_131_code 30 = .ok (.invokevirtual 61, 3) := by decide +kernel
theorem j_bck_33 : decode prog_36_method_131_code 33 = .ok (.invokespecial 65, 3) := by decide +kernel
theorem j_bck_36 : decode prog_36_method_131_code 36 = .ok (.athrow, 1) := by decide +kernel
theorem j_bck_37 : decode prog_36_method_131_code 37 = .ok (.return_, 1) := by decide +kernel
abbrev mJ_bcb : MT := (⟨"java/util/Arrays", "copyOfRangeByte", "([BII)[B"⟩, prog_36_method_133_code, 5, some (.array .byte), { frames := 2, cells := 1, slots := 16, locals := 64 }, [])
theorem j_bcb_0 : decode prog_36_method_133_code 0 = .ok (.iload_n 1, 1) := by decide +kernel
theorem j_bcb_1 : decode prog_36_method_133_code 1 = .ok (.iload_n 2, 1) := by decide +kernel
theorem j_bcb_2 : decode prog_36_method_133_code 2 = .ok (.invokestatic 343, 3) := by decide +kernel
theorem j_bcb_5 : decode prog_36_method_133_code 5 = .ok (.iload_n 2, 1) := by decide +kernel
theorem j_bcb_6 : decode prog_36_method_133_code 6 = .ok (.iload_n 1, 1) := by decide +kernel
theorem j_bcb_7 : decode prog_36_method_133_code 7 = .ok (.isub, 1) := by decide +kernel
theorem j_bcb_8 : decode prog_36_method_133_code 8 = .ok (.istore_n 3, 1) := by decide +kernel
theorem j_bcb_9 : decode prog_36_method_133_code 9 = .ok (.iload_n 3, 1) := by decide +kernel
theorem j_bcb_10 : decode prog_36_method_133_code 10 = .ok (.newarray .byte, 2) := by decide +kernel
theorem j_bcb_12 : decode prog_36_method_133_code 12 = .ok (.astore 4, 2) := by decide +kernel
theorem j_bcb_14 : decode prog_36_method_133_code 14 = .ok (.aload_n 0, 1) := by decide +kernel
theorem j_bcb_15 : decode prog_36_method_133_code 15 = .ok (.iload_n 1, 1) := by decide +kernel
theorem j_bcb_16 : decode prog_36_method_133_code 16 = .ok (.aload 4, 2) := by decide +kernel
theorem j_bcb_18 : decode prog_36_method_133_code 18 = .ok (.iconst 0, 1) := by decide +kernel
theorem j_bcb_19 : decode prog_36_method_133_code 19 = .ok (.aload_n 0, 1) := by decide +kernel
theorem j_bcb_20 : decode prog_36_method_133_code 20 = .ok (.arraylength, 1) := by decide +kernel
theorem j_bcb_21 : decode prog_36_method_133_code 21 = .ok (.iload_n 1, 1) := by decide +kernel
theorem j_bcb_22 : decode prog_36_method_133_code 22 = .ok (.isub, 1) := by decide +kernel
theorem j_bcb_23 : decode prog_36_method_133_code 23 = .ok (.iload_n 3, 1) := by decide +kernel
theorem j_bcb_24 : decode prog_36_method_133_code 24 = .ok (.invokestatic 304, 3) := by decide +kernel
theorem j_bcb_27 : decode prog_36_method_133_code 27 = .ok (.invokestatic 150, 3) := by decide +kernel
theorem j_bcb_30 : decode prog_36_method_133_code 30 = .ok (.aload 4, 2) := by decide +kernel
theorem j_bcb_32 : decode prog_36_method_133_code 32 = .ok (.areturn, 1) := by decide +kernel
abbrev mJ_bcr : MT := (⟨"java/util/Arrays", "copyOfRange", "([BII)[B"⟩, prog_36_method_132_code, 3, some (.array .byte), { frames := 3, cells := 1, slots := 16, locals := 96 }, [])
theorem j_bcr_0 : decode prog_36_method_132_code 0 = .ok (.iload_n 1, 1) := by decide +kernel
theorem j_bcr_1 : decode prog_36_method_132_code 1 = .ok (.ifCond .ne 9, 3) := by decide +kernel
theorem j_bcr_4 : decode prog_36_method_132_code 4 = .ok (.iload_n 2, 1) := by decide +kernel
theorem j_bcr_5 : decode prog_36_method_132_code 5 = .ok (.aload_n 0, 1) := by decide +kernel
theorem j_bcr_6 : decode prog_36_method_132_code 6 = .ok (.arraylength, 1) := by decide +kernel
theorem j_bcr_7 : decode prog_36_method_132_code 7 = .ok (.if_icmp .eq 10, 3) := by decide +kernel
theorem j_bcr_10 : decode prog_36_method_132_code 10 = .ok (.aload_n 0, 1) := by decide +kernel
theorem j_bcr_11 : decode prog_36_method_132_code 11 = .ok (.iload_n 1, 1) := by decide +kernel
theorem j_bcr_12 : decode prog_36_method_132_code 12 = .ok (.iload_n 2, 1) := by decide +kernel
theorem j_bcr_13 : decode prog_36_method_132_code 13 = .ok (.invokestatic 339, 3) := by decide +kernel
theorem j_bcr_16 : decode prog_36_method_132_code 16 = .ok (.areturn, 1) := by decide +kernel
theorem j_bcr_17 : decode prog_36_method_132_code 17 = .ok (.aload_n 0, 1) := by decide +kernel
theorem j_bcr_18 : decode prog_36_method_132_code 18 = .ok (.invokevirtual 310, 3) := by decide +kernel
theorem j_bcr_21 : decode prog_36_method_132_code 21 = .ok (.checkcast 311, 3) := by decide +kernel
theorem j_bcr_24 : decode prog_36_method_132_code 24 = .ok (.areturn, 1) := by decide +kernel
set_option maxRecDepth 20000 in
set_option maxHeartbeats 2000000 in
theorem jb_bck (l : Launch) (n : Nat) (hn : n < 2 ^ 31) : Met l (mtY mJ_bck) (wM mJ_bck :: WG) (mtR mJ_bck) (va_Pc [.int (nI 0), .int (nI n)] (fun _ => True)) (JQ none) 0 0 (fun _ => False) := by
  refine Met.ofW (cc := mtC mJ_bck) (maxL := mtL mJ_bck) (ret := mtT mJ_bck) (by decide +kernel) rfl ?_
  intro p e s m args below meth c s₁ B hml hv
  obtain ⟨rfl, hJ⟩ := hv
  have hx := B.exec
  have hb := B.bytes
  have hts := atoms_spec (ws := wM mJ_bck :: WG) B.pre
  have hw : ∀ w ∈ WG, w.before _ s = true := fun w h => hts w (List.mem_cons_of_mem _ h)
  have hown : s.vm.findClass "java/util/Arrays" = some m.cls := findClass_of_methodNamed B.named
  have hl := lv_entry [.int (nI 0), .int (nI n)] (n := 2) (Nat.le_of_ble_eq_true rfl)
  rw [lg_entry_eq]
  refine lv_iload_n hx hb j_bck_0 rfl (lv_at hl 1 rfl) ?_
  refine lv_iload_n hx hb j_bck_1 rfl (lv_at hl 0 rfl) ?_
  refine lv_icmp_ge (tgt := 37) hx hb j_bck_2 (by decide) (fun _ => ?_) (fun q => absurd (nI_pos' (by omega)) q)
  exact W.vret hx hb B.returns (fun t ht hW => ⟨rfl, ht⟩) (fun q h => by cases h) j_bck_37 B.notSynchronized
/-- a row of bytes that stands at v, and the heap is n at least -/
def JV (D : va_G) (aC : Nat → ClassId) (v n : Nat) (f : Nat → Int32) (U : State) : Prop := n ≤ U.heap.size ∧ KF U ∧ va_K D vwc (tysOf aC) U ∧ va_T .byte v 16 (fun j => .int (f j)) (fun x => n ≤ x) U U.heap
theorem JV.at {D : va_G} {aC : Nat → ClassId} {v n n' : Nat} {f : Nat → Int32} {s U : State} {H : Heap} {locs : List Loc} (h : JV D aC v n f s) (hS : va_S (fun x => n ≤ x) s.heap H locs) (hn : n ≤ n') (hz : n' ≤ H.size) (hU : U.heap = H) (hW : s.WarmedH U.vm) : JV D aC v n' f U := by
  obtain ⟨h0, h1, h3, h4⟩ := h
  refine ⟨by rw [hU]; exact hz, h1.warm hW, va_K.moved hW.alike h3, ?_⟩
  rw [hU]
  exact va_T.moved hW.alike ((h4.kept hS.2.1).narrow (fun x hx => Nat.le_trans hn hx))
theorem JV.blind {D : va_G} {aC : Nat → ClassId} {v n : Nat} {f : Nat → Int32} {av : List Value} : FrameBlind (va_Pc av (JV D aC v n f)) := by
  intro a U g mk h
  obtain ⟨h0, h1⟩ := h
  exact ⟨h0, JV.at (s := U) (U := U.calling g mk a) h1 va_S.rf (Nat.le_refl _) h1.1 rfl (State.WarmedH.refl U)⟩
def F8 (f : Nat → Int32) : Prop := ∀ j, j < 16 → fits .byte (.int (f j)) = true
def PV9 (D : va_G) (aC : Nat → ClassId) (k n : Nat) (f : Nat → Int32) (r : Option Value) (H : Heap) : Prop := ∃ w, r = some (.ref w) ∧ n ≤ w ∧ va_P D vwc [(w, .inl (aC 6, k, .inl (va_cpy f (fun _ => 0) 0 0 k)))] H
set_option maxRecDepth 20000 in
set_option maxHeartbeats 2000000 in
theorem jb_bcb (l : Launch) (D : va_G) (aC : Nat → ClassId) (v k n : Nat) (f : Nat → Int32) (hf : F8 f) (hk : k < 16) : Met l (mtY mJ_bcb) (wM mJ_bcb :: WG) (mtR mJ_bcb) (va_Pc [.ref v, .int (nI 0), .int (nI k)] (JV D aC v n f)) (JPQ (PV9 D aC k n f) (fun x => n ≤ x)) 1 16 (fun x => n ≤ x) := by
  refine Met.ofW (cc := mtC mJ_bcb) (maxL := mtL mJ_bcb) (ret := mtT mJ_bcb) (by decide +kernel) rfl ?_
  intro p e s m args below meth c s₁ B hml hv
  obtain ⟨rfl, hJ⟩ := hv
  have hx := B.exec
  have hb := B.bytes
  have hts := atoms_spec (ws := wM mJ_bcb :: WG) B.pre
  have hw : ∀ w ∈ WG, w.before _ s = true := fun w h => hts w (List.mem_cons_of_mem _ h)
  have hown : s.vm.findClass "java/util/Arrays" = some m.cls := findClass_of_methodNamed B.named
  have hS : va_S (fun x => n ≤ x) s.heap s.heap [] := va_S.rf
  have hsz := hJ.1
  have hF := hJ.2.1
  have hK := hJ.2.2.1
  have hT := hJ.2.2.2
  have hl := lv_entry [.ref v, .int (nI 0), .int (nI k)] (n := 5) (Nat.le_of_ble_eq_true rfl)
  rw [lg_entry_eq]
  refine lv_iload_n hx hb j_bcb_0 rfl (lv_at hl 1 rfl) ?_
  refine lv_iload_n hx hb j_bcb_1 rfl (lv_at hl 2 rfl) ?_
  refine j_call (r := none) (rest := []) (va_runS (As := [.int (nI 0), .int (nI k)]) (rest := []) (nL := 5) (n := 2) (own := "java/util/Arrays") (cc := mtC mJ_bcb) (Ts := WG) ⟨hx, hb, hml, hown, hw⟩ (jb_bck l k (by omega)) ⟨j_cb (M' := mJ_bck) (np := 2) hw g_1243 g_48 g_1245 rfl ⟨by decide +kernel, by decide +kernel, by decide +kernel⟩ ⟨by decide, by decide⟩, hw _ g_1244⟩ ⟨true_blind, fun U hU hW => ⟨rfl, trivial⟩⟩ rfl rfl hl.1 rfl (Nat.le_of_ble_eq_true rfl) j_bcb_2 ⟨by decide, by decide⟩) ?_
  refine lv_iload_n hx hb j_bcb_5 rfl (lv_at hl 2 rfl) ?_
  refine lv_iload_n hx hb j_bcb_6 rfl (lv_at hl 1 rfl) ?_
  refine lv_isub hx hb j_bcb_7 ?_
  rw [show nI k - nI 0 = nI k from pk_sub (Nat.zero_le k)]
  refine lv_istore_n hx hb j_bcb_8 rfl hl (by decide) rfl (fun ls hl => ?_)
  refine lv_iload_n hx hb j_bcb_9 rfl (lv_at hl 0 rfl) ?_
  refine n_row (ws := []) hx hb hw hK (fun i x h => by cases h) ⟨fun i j x y h => by (cases h), fun i x h => by (cases h)⟩ hS (fun x h => Nat.le_trans hsz h) (by omega) (by decide) (show 0 + k ≤ 16 by omega) j_bcb_10 (fun H1 z1 hP hD hS o1 => ?_)
  refine lv_astore hx hb j_bcb_12 hl (by decide) rfl (fun ls hl => ?_)
  refine lv_aload_n hx hb j_bcb_14 rfl (lv_at hl 2 rfl) ?_
  refine lv_iload_n hx hb j_bcb_15 rfl (lv_at hl 3 rfl) ?_
  refine lv_aload hx hb j_bcb_16 (lv_at hl 0 rfl) ?_
  refine lv_iconst (v := nI 0) hx hb j_bcb_18 (by decide) ?_
  refine lv_aload_n hx hb j_bcb_19 rfl (lv_at hl 2 rfl) ?_
  refine va_tlen (v := nI 16) hx hb hT hS rfl j_bcb_20 ?_
  refine lv_iload_n hx hb j_bcb_21 rfl (lv_at hl 3 rfl) ?_
  refine lv_isub hx hb j_bcb_22 ?_
  rw [show nI 16 - nI 0 = nI 16 from pk_sub (Nat.zero_le 16)]
  refine lv_iload_n hx hb j_bcb_23 rfl (lv_at hl 1 rfl) ?_
  refine va_mmin hx hb (hml.trans hl.1.symm) hown (hw _ g_1106) (hw _ g_337) (hw _ g_31) (hw _ g_338) (by decide) (Nat.le_of_ble_eq_true rfl) (by decide) (show 0 + k ≤ 16 by omega) j_bcb_24 ?_
  rw [if_pos (nI_lt hk (by decide))]
  refine vk_copyt hx hb (hml.trans hl.1.symm) hown (hw _ g_1107) (kf_at hF t_1109 rfl rfl) (hw _ g_1108) (hw _ g_49) hK hP hD hS hT 0 6 rfl rfl (nI_pos (by omega)) (nI_pos (by omega)) (nI_pos (by omega)) (by rw [nI_clamp (n := k) (by omega)]; show 0 + k ≤ 16; omega) (by rw [nI_clamp (n := k) (by omega)]; show 0 + k ≤ k; omega) (fun i hi => ?_) (by decide) (Nat.le_of_ble_eq_true rfl) j_bcb_27 (fun H1 locs1 hP hD hS => ?_)
  · rw [nI_clamp (n := k) (by omega)] at hi
    exact hf _ (show 0 + i < 16 by omega)
  rw [show (nI 0).toNatClampNeg = 0 from rfl, nI_clamp (n := k) (by omega)] at hP
  refine lv_aload hx hb j_bcb_30 (lv_at hl 0 rfl) ?_
  exact W.widen (by decide) (show 0 + k ≤ 16 by omega) (W.aret (v := .ref s.heap.size) (rt := .array .byte) hx hb B.returns (Or.inr ⟨_, rfl⟩) (Or.inr ⟨_, rfl⟩) (fun t ht hW => ⟨⟨_, rfl, s.heap.size, rfl, hsz, by rw [ht]; exact hP⟩, hS.F ht⟩) hS.2.2 j_bcb_32 B.notSynchronized)
set_option maxRecDepth 20000 in
set_option maxHeartbeats 2000000 in
theorem jb_bcr (l : Launch) (D : va_G) (aC : Nat → ClassId) (v k n : Nat) (f : Nat → Int32) (hf : F8 f) (hk : k < 16) : Met l (mtY mJ_bcr) (wM mJ_bcr :: WG) (mtR mJ_bcr) (va_Pc [.ref v, .int (nI 0), .int (nI k)] (JV D aC v n f)) (JPQ (PV9 D aC k n f) (fun x => n ≤ x)) 1 16 (fun x => n ≤ x) := by
  refine Met.ofW (cc := mtC mJ_bcr) (maxL := mtL mJ_bcr) (ret := mtT mJ_bcr) (by decide +kernel) rfl ?_
  intro p e s m args below meth c s₁ B hml hv
  obtain ⟨rfl, hJ⟩ := hv
  have hx := B.exec
  have hb := B.bytes
  have hts := atoms_spec (ws := wM mJ_bcr :: WG) B.pre
  have hw : ∀ w ∈ WG, w.before _ s = true := fun w h => hts w (List.mem_cons_of_mem _ h)
  have hown : s.vm.findClass "java/util/Arrays" = some m.cls := findClass_of_methodNamed B.named
  have hS : va_S (fun x => n ≤ x) s.heap s.heap [] := va_S.rf
  have hsz := hJ.1
  have hF := hJ.2.1
  have hK := hJ.2.2.1
  have hT := hJ.2.2.2
  have hl := lv_entry [.ref v, .int (nI 0), .int (nI k)] (n := 3) (Nat.le_of_ble_eq_true rfl)
  rw [lg_entry_eq]
  refine lv_iload_n hx hb j_bcr_0 rfl (lv_at hl 1 rfl) ?_
  refine lv_if_ne (tgt := 10) hx hb j_bcr_1 (by decide) (fun q => absurd rfl q) (fun _ => ?_)
  refine lv_iload_n hx hb j_bcr_4 rfl (lv_at hl 2 rfl) ?_
  refine lv_aload_n hx hb j_bcr_5 rfl (lv_at hl 0 rfl) ?_
  refine va_tlen (v := nI 16) hx hb hT hS rfl j_bcr_6 ?_
  refine lv_icmp_eq (tgt := 17) hx hb j_bcr_7 (by decide) (fun q => absurd ((nI_eq (show k < 2 ^ 31 by omega) (by decide)).mp q) (by omega)) (fun _ => ?_)
  refine lv_aload_n hx hb j_bcr_10 rfl (lv_at hl 0 rfl) ?_
  refine lv_iload_n hx hb j_bcr_11 rfl (lv_at hl 1 rfl) ?_
  refine lv_iload_n hx hb j_bcr_12 rfl (lv_at hl 2 rfl) ?_
  refine p_call (rest := []) (fun _ h => h) (va_runS (As := [.ref v, .int (nI 0), .int (nI k)]) (rest := []) (nL := 3) (n := 3) (own := "java/util/Arrays") (cc := mtC mJ_bcr) (Ts := WG) ⟨hx, hb, hml, hown, hw⟩ (jb_bcb l D aC v k n f hf hk) ⟨j_cb (M' := mJ_bcb) (np := 3) hw g_1240 g_48 g_1242 rfl ⟨by decide +kernel, by decide +kernel, by decide +kernel⟩ ⟨by decide, by decide⟩, hw _ g_1241⟩ ⟨JV.blind, fun U hU hW => ⟨rfl, hJ.at hS (Nat.le_refl _) hsz hU hW⟩⟩ rfl rfl hl.1 rfl (Nat.le_of_ble_eq_true rfl) j_bcr_13 ⟨by decide, by decide⟩) hS (fun r H1 locs1 hR h1 h2 hS => ?_)
  obtain ⟨w9, rfl, hR⟩ := hR
  exact W.aret (v := .ref w9) (rt := .array .byte) hx hb B.returns (Or.inr ⟨_, rfl⟩) (Or.inr ⟨_, rfl⟩) (fun t ht hW => ⟨⟨_, rfl, w9, rfl, by rw [ht]; exact hR⟩, hS.F ht⟩) hS.2.2 j_bcr_16 B.notSynchronized
/-- a String as new makes it, at b; the StringBuilder stands before -/
def S0 (b : Nat) : va_W := [(b, .inr (6, [.null, .int 0, .int 0, .int 0]))]
def S1 (aC : Nat → ClassId) (b w k : Nat) (f : Nat → Int32) : va_W := [(b, .inr (6, [.ref w, .int 0, .int 0, .int 0])), (w, .inl (aC 6, k, .inl (va_cpy f (fun _ => 0) 0 0 k)))]
def JI9 (D : va_G) (aC : Nat → ClassId) (q v k n b : Nat) (f : Nat → Int32) (U : State) : Prop := n ≤ b ∧ q < n ∧ v < n ∧ b < U.heap.size ∧ JB D aC q v k f (fun x => n ≤ x) U ∧ va_P D vwc (S0 b) U.heap
theorem JI9.at {D : va_G} {aC : Nat → ClassId} {q v k n b : Nat} {f : Nat → Int32} {s U : State} (h : JI9 D aC q v k n b f s) (hU : U.heap = s.heap) (hW : s.WarmedH U.vm) : JI9 D aC q v k n b f U := by
  obtain ⟨h0, h1, h2, h3, h4, h5⟩ := h
  exact ⟨h0, h1, h2, by rw [hU]; exact h3, h4.at h4.2.2.2 va_S.rf hU hW, by rw [hU]; exact h5⟩
theorem JI9.blind {D : va_G} {aC : Nat → ClassId} {q v k n b : Nat} {f : Nat → Int32} {av : List Value} : FrameBlind (va_Pc av (JI9 D aC q v k n b f)) := by
  intro a U g mk h
  obtain ⟨h0, h1⟩ := h
  exact ⟨h0, JI9.at (s := U) (U := U.calling g mk a) h1 rfl (State.WarmedH.refl U)⟩
def PI9 (D : va_G) (aC : Nat → ClassId) (k n b : Nat) (f : Nat → Int32) (r : Option Value) (H : Heap) : Prop := r = none ∧ ∃ w, n ≤ w ∧ b ≠ w ∧ va_P D vwc (S1 aC b w k f) H
theorem W0.T {D : va_G} {aC : Nat → ClassId} {q v k : Nat} {f : Nat → Int32} {A : Nat → Prop} {U : State} {H : Heap} (h : va_P D vwc (W0 aC q v k f) H) (hK : va_K D vwc (tysOf aC) U) (hv : ¬ A v) : va_T .byte v 16 (fun j => .int (f j)) A U H := by
  have h1 : H[v]? = some (arrV (aC 6) 16 (fun j => .int (f j))) := h 1 (v, .inl (aC 6, 16, .inl f)) rfl
  refine ⟨_, h1, (hK.2 6 (aC 6, .byte) rfl).1 16 (fun j => .int (f j)), ?_, ?_, ?_, ?_, hv⟩
  · intro q
    cases q
  · rw [arrV_size]
    exact Nat.le_refl 16
  · rw [arrV_size]
  · intro j hj
    exact arrV_read _ _ hj
abbrev mJ_bs0 : MT := (⟨"java/lang/String", "<init>", "(Ljava/lang/AbstractStringBuilder;Ljava/lang/Void;)V"⟩, prog_27_method_150_code, 5, none, { frames := 4, cells := 1, slots := 16, locals := 128 }, [])
theorem j_bs0_0 : decode prog_27_method_150_code 0 = .ok (.aload_n 0, 1) := by decide +kernel
theorem j_bs0_1 : decode prog_27_method_150_code 1 = .ok (.invokespecial 1, 3) := by decide +kernel
theorem j_bs0_4 : decode prog_27_method_150_code 4 = .ok (.aload_n 1, 1) := by decide +kernel
theorem j_bs0_5 : decode prog_27_method_150_code 5 = .ok (.invokevirtual 552, 3) := by decide +kernel
theorem j_bs0_8 : decode prog_27_method_150_code 8 = .ok (.astore_n 3, 1) := by decide +kernel
theorem j_bs0_9 : decode prog_27_method_150_code 9 = .ok (.aload_n 1, 1) := by decide +kernel
theorem j_bs0_10 : decode prog_27_method_150_code 10 = .ok (.invokevirtual 549, 3) := by decide +kernel
theorem j_bs0_13 : decode prog_27_method_150_code 13 = .ok (.istore 4, 2) := by decide +kernel
theorem j_bs0_15 : decode prog_27_method_150_code 15 = .ok (.aload_n 1, 1) := by decide +kernel
theorem j_bs0_16 : decode prog_27_method_150_code 16 = .ok (.invokevirtual 1047, 3) := by decide +kernel
theorem j_bs0_19 : decode prog_27_method_150_code 19 = .ok (.ifCond .eq 22, 3) := by decide +kernel
theorem j_bs0_22 : decode prog_27_method_150_code 22 = .ok (.aload_n 0, 1) := by decide +kernel
theorem j_bs0_23 : decode prog_27_method_150_code 23 = .ok (.iconst 0, 1) := by decide +kernel
theorem j_bs0_24 : decode prog_27_method_150_code 24 = .ok (.putfield 15, 3) := by decide +kernel
theorem j_bs0_27 : decode prog_27_method_150_code 27 = .ok (.aload_n 0, 1) := by decide +kernel
theorem j_bs0_28 : decode prog_27_method_150_code 28 = .ok (.aload_n 3, 1) := by decide +kernel
theorem j_bs0_29 : decode prog_27_method_150_code 29 = .ok (.iconst 0, 1) := by decide +kernel
theorem j_bs0_30 : decode prog_27_method_150_code 30 = .ok (.iload 4, 2) := by decide +kernel
theorem j_bs0_32 : decode prog_27_method_150_code 32 = .ok (.invokestatic 54, 3) := by decide +kernel
theorem j_bs0_35 : decode prog_27_method_150_code 35 = .ok (.putfield 9, 3) := by decide +kernel
theorem j_bs0_38 : decode prog_27_method_150_code 38 = .ok (.goto 59, 3) := by decide +kernel
theorem j_bs0_41 : decode prog_27_method_150_code 41 = .ok (.getstatic 38, 3) := by decide +kernel
theorem j_bs0_44 : decode prog_27_method_150_code 44 = .ok (.ifCond .eq 35, 3) := by decide +kernel
theorem j_bs0_47 : decode prog_27_method_150_code 47 = .ok (.aload_n 1, 1) := by decide +kernel
theorem j_bs0_48 : decode prog_27_method_150_code 48 = .ok (.getfield 1048, 3) := by decide +kernel
theorem j_bs0_51 : decode prog_27_method_150_code 51 = .ok (.ifCond .eq 28, 3) := by decide +kernel
theorem j_bs0_54 : decode prog_27_method_150_code 54 = .ok (.aload_n 0, 1) := by decide +kernel
theorem j_bs0_55 : decode prog_27_method_150_code 55 = .ok (.aload_n 3, 1) := by decide +kernel
theorem j_bs0_56 : decode prog_27_method_150_code 56 = .ok (.iconst 0, 1) := by decide +kernel
theorem j_bs0_57 : decode prog_27_method_150_code 57 = .ok (.iload 4, 2) := by decide +kernel
theorem j_bs0_59 : decode prog_27_method_150_code 59 = .ok (.invokestatic 1051, 3) := by decide +kernel
theorem j_bs0_62 : decode prog_27_method_150_code 62 = .ok (.putfield 9, 3) := by decide +kernel
theorem j_bs0_65 : decode prog_27_method_150_code 65 = .ok (.aload_n 0, 1) := by decide +kernel
theorem j_bs0_66 : decode prog_27_method_150_code 66 = .ok (.aload_n 0, 1) := by decide +kernel
theorem j_bs0_67 : decode prog_27_method_150_code 67 = .ok (.getfield 9, 3) := by decide +kernel
theorem j_bs0_70 : decode prog_27_method_150_code 70 = .ok (.iload 4, 2) := by decide +kernel
theorem j_bs0_72 : decode prog_27_method_150_code 72 = .ok (.invokestatic 47, 3) := by decide +kernel
theorem j_bs0_75 : decode prog_27_method_150_code 75 = .ok (.putfield 15, 3) := by decide +kernel
theorem j_bs0_78 : decode prog_27_method_150_code 78 = .ok (.return_, 1) := by decide +kernel
theorem j_bs0_79 : decode prog_27_method_150_code 79 = .ok (.aload_n 0, 1) := by decide +kernel
theorem j_bs0_80 : decode prog_27_method_150_code 80 = .ok (.iconst 1, 1) := by decide +kernel
theorem j_bs0_81 : decode prog_27_method_150_code 81 = .ok (.putfield 15, 3) := by decide +kernel
theorem j_bs0_84 : decode prog_27_method_150_code 84 = .ok (.aload_n 0, 1) := by decide +kernel
theorem j_bs0_85 : decode prog_27_method_150_code 85 = .ok (.aload_n 3, 1) := by decide +kernel
theorem j_bs0_86 : decode prog_27_method_150_code 86 = .ok (.iconst 0, 1) := by decide +kernel
theorem j_bs0_87 : decode prog_27_method_150_code 87 = .ok (.iload 4, 2) := by decide +kernel
theorem j_bs0_89 : decode prog_27_method_150_code 89 = .ok (.iconst 1, 1) := by decide +kernel
theorem j_bs0_90 : decode prog_27_method_150_code 90 = .ok (.ishl, 1) := by decide +kernel
theorem j_bs0_91 : decode prog_27_method_150_code 91 = .ok (.invokestatic 54, 3) := by decide +kernel
theorem j_bs0_94 : decode prog_27_method_150_code 94 = .ok (.putfield 9, 3) := by decide +kernel
theorem j_bs0_97 : decode prog_27_method_150_code 97 = .ok (.return_, 1) := by decide +kernel
abbrev mJ_bs1 : MT := (⟨"java/lang/String", "<init>", "(Ljava/lang/StringBuilder;)V"⟩, prog_27_method_53_code, 2, none, { frames := 5, cells := 1, slots := 16, locals := 160 }, [])
theorem j_bs1_0 : decode prog_27_method_53_code 0 = .ok (.aload_n 0, 1) := by decide +kernel
theorem j_bs1_1 : decode prog_27_method_53_code 1 = .ok (.aload_n 1, 1) := by decide +kernel
theorem j_bs1_2 : decode prog_27_method_53_code 2 = .ok (.aconst_null, 1) := by decide +kernel
theorem j_bs1_3 : decode prog_27_method_53_code 3 = .ok (.invokespecial 489, 3) := by decide +kernel
theorem j_bs1_6 : decode prog_27_method_53_code 6 = .ok (.return_, 1) := by decide +kernel
abbrev mJ_bts : MT := (⟨"java/lang/StringBuilder", "toString", "()Ljava/lang/String;"⟩, prog_28_method_42_code, 1, some (.object "java/lang/String"), { frames := 6, cells := 2, slots := 20, locals := 192 }, [])
theorem j_bts_0 : decode prog_28_method_42_code 0 = .ok (.new 18, 3) := by decide +kernel
theorem j_bts_3 : decode prog_28_method_42_code 3 = .ok (.dup, 1) := by decide +kernel
theorem j_bts_4 : decode prog_28_method_42_code 4 = .ok (.aload_n 0, 1) := by decide +kernel
theorem j_bts_5 : decode prog_28_method_42_code 5 = .ok (.invokespecial 137, 3) := by decide +kernel
theorem j_bts_8 : decode prog_28_method_42_code 8 = .ok (.areturn, 1) := by decide +kernel
set_option maxRecDepth 20000 in
set_option maxHeartbeats 2000000 in
theorem jb_bs0 (l : Launch) (D : va_G) (aC : Nat → ClassId) (q v k n b : Nat) (f : Nat → Int32) (hf : F8 f) (hk : k < 16) : Met l (mtY mJ_bs0) (wM mJ_bs0 :: WG) (mtR mJ_bs0) (va_Pc [.ref b, .ref q, .null] (JI9 D aC q v k n b f)) (JPQ (PI9 D aC k n b f) (fun x => n ≤ x)) 1 16 (fun x => n ≤ x) := by
  refine Met.ofW (cc := mtC mJ_bs0) (maxL := mtL mJ_bs0) (ret := mtT mJ_bs0) (by decide +kernel) rfl ?_
  intro p e s m args below meth c s₁ B hml hv
  obtain ⟨rfl, hJ⟩ := hv
  have hx := B.exec
  have hb := B.bytes
  have hts := atoms_spec (ws := wM mJ_bs0 :: WG) B.pre
  have hw : ∀ w ∈ WG, w.before _ s = true := fun w h => hts w (List.mem_cons_of_mem _ h)
  have hown : s.vm.findClass "java/lang/String" = some m.cls := findClass_of_methodNamed B.named
  have hS : va_S (fun x => n ≤ x) s.heap s.heap [] := va_S.rf
  obtain ⟨hnb, hqn, hvn, hbz, hJB, hP⟩ := id hJ
  have hF := hJB.1
  have hK := hJB.2.2.1
  have hP0 := hJB.2.2.2
  have hq0 : q < s.heap.size := (hP0 0 _ rfl).lt
  have hv0 : v < s.heap.size := (hP0 1 _ rfl).lt
  have hnm : meth.name = "<init>" := (name_of_methodNamed B.named B.method).1.trans rfl
  have hD : va_D (fun x => n ≤ x) (S0 b) := w1_D hnb
  have hl := lv_entry [.ref b, .ref q, .null] (n := 5) (Nat.le_of_ble_eq_true rfl)
  rw [lg_entry_eq]
  refine lv_aload_n hx hb j_bs0_0 rfl (lv_at hl 0 rfl) ?_
  refine o_init (a := b) hx hb (hl.1.trans hml.symm) hown (hw _ g_1222) (hw _ g_57) (hw _ g_58) j_bs0_1 (by decide) (Nat.le_of_ble_eq_true rfl) ?_
  refine lv_aload_n hx hb j_bs0_4 rfl (lv_at hl 1 rfl) ?_
  refine j_call (r := some (.ref v)) (rest := []) (va_runV (As := []) (rest := []) (nL := 5) (n := 0) (own := "java/lang/String") (C := "java/lang/StringBuilder") (b := q) (cc := mtC mJ_bs0) (Ts := WG) ⟨hx, hb, hml, hown, hw⟩ (jb_bgv l D aC q v k f (fun x => n ≤ x)) ⟨j_cb (M' := mJ_bgv) (np := 0) hw g_1223 g_45 g_1227 rfl ⟨by decide +kernel, by decide +kernel, by decide +kernel⟩ ⟨by decide, by decide⟩, hw _ g_1224, hw _ g_1226⟩ ⟨JB.blind, va_recv hK hP0 (vwc_at8 (d := 7) (by decide)) (q0 := 0) rfl, fun U hU hW => ⟨rfl, hJB.at hP0 va_S.rf hU hW⟩⟩ rfl rfl hl.1 rfl (Nat.le_of_ble_eq_true rfl) j_bs0_5 ⟨by decide, by decide⟩) ?_
  refine lv_astore_n hx hb j_bs0_8 rfl hl (by decide) rfl (fun ls hl => ?_)
  refine lv_aload_n hx hb j_bs0_9 rfl (lv_at hl 2 rfl) ?_
  refine j_call (r := some (.int (nI k))) (rest := []) (va_runU (x := ⟨"java/lang/AbstractStringBuilder", "length", "()I"⟩) (owner := "java/lang/AbstractStringBuilder") (As := []) (rest := []) (nL := 5) (n := 0) (own := "java/lang/String") (C := "java/lang/StringBuilder") (b := q) (cc := mtC mJ_bs0) (Ts := WG) ⟨hx, hb, hml, hown, hw⟩ (jb_bsl l D aC q v k f (fun x => n ≤ x)) ⟨⟨rfl, rfl, by decide, by decide, pay_in hw (WG_in g_1233), List.mem_cons_self⟩, hw _ g_1233, hw _ g_46, ⟨by decide, by decide⟩, fun sig h => ?_, hw _ g_1228, kf_at hF t_1230 rfl rfl, va_Decl.of (hw _ g_1229) (hw _ g_1235), hw _ g_1231, hw _ g_1232⟩ ⟨JB.blind, va_recv hK hP0 (vwc_at8 (d := 7) (by decide)) (q0 := 0) rfl, fun U hU hW => ⟨rfl, hJB.at hP0 va_S.rf hU hW⟩⟩ rfl rfl hl.1 rfl (Nat.le_of_ble_eq_true rfl) j_bs0_10 ⟨by decide, by decide⟩) ?_
  · exact congrArg (fun d => d.parameters.length) (Option.some.inj ((show parseMethodDescriptor "()I" = some ⟨[], some .int⟩ by decide +kernel).symm.trans h))
  refine lv_istore hx hb j_bs0_13 hl (by decide) rfl (fun ls hl => ?_)
  refine lv_aload_n hx hb j_bs0_15 rfl (lv_at hl 3 rfl) ?_
  refine j_call (r := some (.int (nI 1))) (rest := []) (va_runV (As := []) (rest := []) (nL := 5) (n := 0) (own := "java/lang/String") (C := "java/lang/StringBuilder") (b := q) (cc := mtC mJ_bs0) (Ts := WG) ⟨hx, hb, hml, hown, hw⟩ (jb_bisl l D aC q v k f (fun x => n ≤ x)) ⟨j_cb (M' := mJ_bisl) (np := 0) hw g_1236 g_45 g_1114 rfl ⟨by decide +kernel, by decide +kernel, by decide +kernel⟩ ⟨by decide, by decide⟩, hw _ g_1111, hw _ g_1113⟩ ⟨JB.blind, va_recv hK hP0 (vwc_at8 (d := 7) (by decide)) (q0 := 0) rfl, fun U hU hW => ⟨rfl, hJB.at hP0 va_S.rf hU hW⟩⟩ rfl rfl hl.1 rfl (Nat.le_of_ble_eq_true rfl) j_bs0_16 ⟨by decide, by decide⟩) ?_
  refine lv_if_eq (tgt := 41) hx hb j_bs0_19 (by decide) (fun q => absurd q (by decide)) (fun _ => ?_)
  refine lv_aload_n hx hb j_bs0_22 rfl (lv_at hl 2 rfl) ?_
  refine lv_iconst (v := nI 0) hx hb j_bs0_23 (by decide) ?_
  refine s_put (k := 1) (v := .int (nI 0)) hx hb hw hown hnm hK hP hD hS (q0 := 0) rfl (by decide) g_1268 ⟨rfl, rfl⟩ (Nat.le_of_ble_eq_true rfl) j_bs0_24 (fun H6 locs1 hP hD hS zz1 oo1 => ?_)
  refine lv_aload_n hx hb j_bs0_27 rfl (lv_at hl 2 rfl) ?_
  refine lv_aload_n hx hb j_bs0_28 rfl (lv_at hl 1 rfl) ?_
  refine lv_iconst (v := nI 0) hx hb j_bs0_29 (by decide) ?_
  refine lv_iload hx hb j_bs0_30 (lv_at hl 0 rfl) ?_
  refine p_call (A' := fun x => s.heap.size ≤ x) (rest := [.ref b]) (fun x h => Nat.le_trans (Nat.le_of_lt (Nat.lt_of_le_of_lt hnb hbz)) h) (va_runS (As := [.ref v, .int (nI 0), .int (nI k)]) (rest := [.ref b]) (nL := 5) (n := 3) (own := "java/lang/String") (cc := mtC mJ_bs0) (Ts := WG) ⟨hx, hb, hml, hown, hw⟩ (jb_bcr l D aC v k s.heap.size f hf hk) ⟨j_cb (M' := mJ_bcr) (np := 3) hw g_1237 g_48 g_1239 rfl ⟨by decide +kernel, by decide +kernel, by decide +kernel⟩ ⟨by decide, by decide⟩, hw _ g_1238⟩ ⟨JV.blind, fun U hU hW => ⟨rfl, ⟨by rw [hU, zz1]; exact Nat.le_refl _, hF.warm hW, va_K.moved hW.alike hK, by rw [hU]; exact va_T.moved hW.alike (W0.T (W0.keep hP0 (oo1 q (by omega)) (oo1 v (by omega))) hK (by omega))⟩⟩⟩ rfl rfl hl.1 rfl (Nat.le_of_ble_eq_true rfl) j_bs0_32 ⟨by decide, by decide⟩) hS (fun r H1 locs1 hR h1 h2 hS => ?_)
  obtain ⟨w9, rfl, hw9, hR⟩ := hR
  have hP1 : va_P D vwc (((S0 b).set 0 (b, .inr (6, [.null, .int (nI 0), .int 0, .int 0]))) ++ [(w9, .inl (aC 6, k, .inl (va_cpy f (fun _ => 0) 0 0 k)))]) H1 := (hP.kept (fun i x hx => by
    match i with
    | 0 =>
      cases hx
      exact h2 b (by rw [zz1]; exact hbz) (by omega)
    | i + 1 => cases hx)).app hR
  have hD1 : va_D (fun x => n ≤ x) (((S0 b).set 0 (b, .inr (6, [.null, .int (nI 0), .int 0, .int 0]))) ++ [(w9, .inl (aC 6, k, .inl (va_cpy f (fun _ => 0) 0 0 k)))]) := by
    refine ⟨fun i j x y hi hj hxy => ?_, fun i x hx => ?_⟩
    · match i, j with
      | 0, 0 => rfl
      | 1, 1 => rfl
      | 0, 1 =>
        cases hi
        cases hj
        have : b = w9 := hxy
        omega
      | 1, 0 =>
        cases hi
        cases hj
        have : w9 = b := hxy
        omega
      | i + 2, _ => cases hi
      | 0, j + 2 => cases hj
      | 1, j + 2 => cases hj
    · match i with
      | 0 =>
        cases hx
        exact hnb
      | 1 =>
        cases hx
        show n ≤ w9
        omega
      | i + 2 => cases hx
  refine s_put (k := 0) (v := .ref w9) hx hb hw hown hnm hK hP1 hD1 hS (q0 := 0) rfl (by decide) g_1267 ⟨rfl, rfl⟩ (Nat.le_of_ble_eq_true rfl) j_bs0_35 (fun H9 locs1 hP hD hS z9 o9 => ?_)
  refine lv_goto (tgt := 97) hx hb j_bs0_38 (by decide) ?_
  exact W.vret hx hb B.returns (fun t ht hW => ⟨⟨none, rfl, rfl, w9, by omega, by omega, by rw [ht]; exact hP⟩, hS.F ht⟩) hS.2.2 j_bs0_97 B.notSynchronized
set_option maxRecDepth 20000 in
set_option maxHeartbeats 2000000 in
theorem jb_bs1 (l : Launch) (D : va_G) (aC : Nat → ClassId) (q v k n b : Nat) (f : Nat → Int32) (hf : F8 f) (hk : k < 16) : Met l (mtY mJ_bs1) (wM mJ_bs1 :: WG) (mtR mJ_bs1) (va_Pc [.ref b, .ref q] (JI9 D aC q v k n b f)) (JPQ (PI9 D aC k n b f) (fun x => n ≤ x)) 1 16 (fun x => n ≤ x) := by
  refine Met.ofW (cc := mtC mJ_bs1) (maxL := mtL mJ_bs1) (ret := mtT mJ_bs1) (by decide +kernel) rfl ?_
  intro p e s m args below meth c s₁ B hml hv
  obtain ⟨rfl, hJ⟩ := hv
  have hx := B.exec
  have hb := B.bytes
  have hts := atoms_spec (ws := wM mJ_bs1 :: WG) B.pre
  have hw : ∀ w ∈ WG, w.before _ s = true := fun w h => hts w (List.mem_cons_of_mem _ h)
  have hown : s.vm.findClass "java/lang/String" = some m.cls := findClass_of_methodNamed B.named
  have hS : va_S (fun x => n ≤ x) s.heap s.heap [] := va_S.rf
  obtain ⟨hnb, hqn, hvn, hbz, hJB, hP⟩ := id hJ
  have hF := hJB.1
  have hK := hJB.2.2.1
  have hP0 := hJB.2.2.2
  have hq0 : q < s.heap.size := (hP0 0 _ rfl).lt
  have hv0 : v < s.heap.size := (hP0 1 _ rfl).lt
  have hD : va_D (fun x => n ≤ x) (S0 b) := w1_D hnb
  have hl := lv_entry [.ref b, .ref q] (n := 2) (Nat.le_of_ble_eq_true rfl)
  rw [lg_entry_eq]
  refine lv_aload_n hx hb j_bs1_0 rfl (lv_at hl 0 rfl) ?_
  refine lv_aload_n hx hb j_bs1_1 rfl (lv_at hl 1 rfl) ?_
  refine lv_null hx hb j_bs1_2 ?_
  refine p_call (rest := []) (fun _ h => h) (va_runI (As := [.ref q, .null]) (rest := []) (nL := 2) (n := 2) (own := "java/lang/String") (b := b) (cc := mtC mJ_bs1) (Ts := WG) ⟨hx, hb, hml, hown, hw⟩ (jb_bs0 l D aC q v k n b f hf hk) ⟨j_cb (M' := mJ_bs0) (np := 2) hw g_1219 g_36 g_1221 rfl ⟨by decide +kernel, by decide +kernel, by decide +kernel⟩ ⟨by decide, by decide⟩, rfl, hw _ g_1220⟩ ⟨JI9.blind, fun U hU hW => ⟨rfl, hJ.at hU hW⟩⟩ rfl rfl hl.1 rfl (Nat.le_of_ble_eq_true rfl) j_bs1_3 ⟨by decide, by decide⟩) hS (fun r H1 locs1 hR h1 h2 hS => ?_)
  obtain ⟨rfl, hR⟩ := hR
  exact W.vret hx hb B.returns (fun t ht hW => ⟨⟨none, rfl, rfl, by rw [ht]; exact hR⟩, hS.F ht⟩) hS.2.2 j_bs1_6 B.notSynchronized
def JT9 (D : va_G) (aC : Nat → ClassId) (q v k n : Nat) (f : Nat → Int32) (U : State) : Prop := q < n ∧ v < n ∧ n ≤ U.heap.size ∧ JB D aC q v k f (fun x => n ≤ x) U
theorem JT9.at {D : va_G} {aC : Nat → ClassId} {q v k n : Nat} {f : Nat → Int32} {s U : State} (h : JT9 D aC q v k n f s) (hU : U.heap = s.heap) (hW : s.WarmedH U.vm) : JT9 D aC q v k n f U := by
  obtain ⟨h1, h2, h3, h4⟩ := h
  exact ⟨h1, h2, by rw [hU]; exact h3, h4.at h4.2.2.2 va_S.rf hU hW⟩
theorem JT9.blind {D : va_G} {aC : Nat → ClassId} {q v k n : Nat} {f : Nat → Int32} {av : List Value} : FrameBlind (va_Pc av (JT9 D aC q v k n f)) := by
  intro a U g mk h
  obtain ⟨h0, h1⟩ := h
  exact ⟨h0, JT9.at (s := U) (U := U.calling g mk a) h1 rfl (State.WarmedH.refl U)⟩
def PT9 (D : va_G) (aC : Nat → ClassId) (k n : Nat) (f : Nat → Int32) (r : Option Value) (H : Heap) : Prop := ∃ b w, r = some (.ref b) ∧ n ≤ b ∧ n ≤ w ∧ b ≠ w ∧ va_P D vwc (S1 aC b w k f) H
set_option maxRecDepth 20000 in
set_option maxHeartbeats 2000000 in
theorem jb_bts (l : Launch) (D : va_G) (aC : Nat → ClassId) (q v k n : Nat) (f : Nat → Int32) (hf : F8 f) (hk : k < 16) : Met l (mtY mJ_bts) (wM mJ_bts :: WG) (mtR mJ_bts) (va_Pc [.ref q] (JT9 D aC q v k n f)) (JPQ (PT9 D aC k n f) (fun x => n ≤ x)) 2 20 (fun x => n ≤ x) := by
  refine Met.ofW (cc := mtC mJ_bts) (maxL := mtL mJ_bts) (ret := mtT mJ_bts) (by decide +kernel) rfl ?_
  intro p e s m args below meth c s₁ B hml hv
  obtain ⟨rfl, hJ⟩ := hv
  have hx := B.exec
  have hb := B.bytes
  have hts := atoms_spec (ws := wM mJ_bts :: WG) B.pre
  have hw : ∀ w ∈ WG, w.before _ s = true := fun w h => hts w (List.mem_cons_of_mem _ h)
  have hown : s.vm.findClass "java/lang/StringBuilder" = some m.cls := findClass_of_methodNamed B.named
  have hS : va_S (fun x => n ≤ x) s.heap s.heap [] := va_S.rf
  obtain ⟨hqn, hvn, hsz, hJB⟩ := id hJ
  have hF := hJB.1
  have hK := hJB.2.2.1
  have hP0 := hJB.2.2.2
  have hq0 : q < s.heap.size := (hP0 0 _ rfl).lt
  have hv0 : v < s.heap.size := (hP0 1 _ rfl).lt
  have hl := lv_entry [.ref q] (n := 1) (Nat.le_of_ble_eq_true rfl)
  rw [lg_entry_eq]
  refine va_new (fs := [.null, .int 0, .int 0, .int 0]) hx hb hw (inWd (d := 6) (by decide)) (cTy 6) (cTy_ok (by decide)) hown (hw _ g_1215) (hw _ g_486) (hw _ g_36) hK (ws := []) (fun i x h => by cases h) ⟨fun i j x y h => by (cases h), fun i x h => by (cases h)⟩ hS (fun x h => Nat.le_trans hsz h) (vwc_at (d := 6) (by decide)) (fun j hj => ?_) (by decide) (by decide) j_bts_0 (fun b H1 hP hD hS => ?_)
  · rcases (show j = 0 ∨ j = 1 ∨ j = 2 ∨ j = 3 by have : j < 4 := hj; omega) with rfl | rfl | rfl | rfl <;> rfl
  have hbn : n ≤ b := hD.2 0 _ rfl
  have hbz : b < H1.size := (hP 0 _ rfl).lt
  refine lv_dup hx hb j_bts_3 rfl ?_
  refine lv_aload_n hx hb j_bts_4 rfl (lv_at hl 0 rfl) ?_
  refine p_call (rest := [.ref b]) (fun _ h => h) (va_runI (As := [.ref q]) (rest := [.ref b]) (nL := 1) (n := 1) (own := "java/lang/StringBuilder") (b := b) (cc := mtC mJ_bts) (Ts := WG) ⟨hx, hb, hml, hown, hw⟩ (jb_bs1 l D aC q v k n b f hf hk) ⟨j_cb (M' := mJ_bs1) (np := 1) hw g_1216 g_36 g_1218 rfl ⟨by decide +kernel, by decide +kernel, by decide +kernel⟩ ⟨by decide, by decide⟩, rfl, hw _ g_1217⟩ ⟨JI9.blind, fun U hU hW => ⟨rfl, ⟨hbn, hqn, hvn, by rw [hU]; exact hbz, hJB.at (W0.keep hP0 (hS.2.1 q hq0 (by omega)) (hS.2.1 v hv0 (by omega))) hS hU hW, by rw [hU]; exact hP⟩⟩⟩ rfl rfl hl.1 rfl (Nat.le_of_ble_eq_true rfl) j_bts_5 ⟨by decide, by decide⟩) hS (fun r H2 locs1 hR h1 h2 hS => ?_)
  obtain ⟨rfl, w9, hR1, hR2, hR⟩ := hR
  exact W.aret (v := .ref b) (rt := .object "java/lang/String") hx hb B.returns (Or.inl ⟨_, rfl⟩) (Or.inr ⟨_, rfl⟩) (fun t ht hW => ⟨⟨_, rfl, b, w9, rfl, hbn, hR1, hR2, by rw [ht]; exact hR⟩, hS.F ht⟩) hS.2.2 j_bts_8 B.notSynchronized
