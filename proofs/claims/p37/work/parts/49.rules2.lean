/-! rules of WE for longs, floats, natives; calls of methods with handlers -/
def RW (w : Value) (σ : SS) : AO → SS → Prop := fun o st => o = .inl (some w) ∧ st = σ
section WERL
variable {M : MT} {pc n : Nat} {L : List (Nat × Value)} {st : List Value} {σ : SS} {cu su : Nat} {G : GT}
theorem WE.ladd {x y : Int64} (hd : decode (mtC M) pc = .ok (.ladd, 1)) (hn : pc + 1 = n) (k : WE M n L (.long (x + y) :: st) σ cu su G) : WE M pc L (.long y :: .long x :: st) σ cu su G := by
  subst hn
  intro l D aC z p e s m args below meth c H locs ls C hP hS hl
  exact lv_ladd C.2.1 C.2.2.1 hd (k l D aC z p e s m args below meth c H locs ls C hP hS hl)
theorem WE.lmul {x y : Int64} (hd : decode (mtC M) pc = .ok (.lmul, 1)) (hn : pc + 1 = n) (k : WE M n L (.long (x * y) :: st) σ cu su G) : WE M pc L (.long y :: .long x :: st) σ cu su G := by
  subst hn
  intro l D aC z p e s m args below meth c H locs ls C hP hS hl
  exact lv_lmul C.2.1 C.2.2.1 hd (k l D aC z p e s m args below meth c H locs ls C hP hS hl)
theorem WE.lcmp {x y : Int64} (hd : decode (mtC M) pc = .ok (.lcmp, 1)) (hn : pc + 1 = n) (k : WE M n L (.int (lg_cmp x y) :: st) σ cu su G) : WE M pc L (.long y :: .long x :: st) σ cu su G := by
  subst hn
  intro l D aC z p e s m args below meth c H locs ls C hP hS hl
  exact W.lcmp C.2.1 C.2.2.1 hd (k l D aC z p e s m args below meth c H locs ls C hP hS hl)
theorem WE.dcmp {x y : UInt64} {o : CmpOp} (hd : decode (mtC M) pc = .ok (.dcmp o, 1)) (hn : pc + 1 = n) (k : WE M n L (.int (Op.cmpValue (FP.dcmp x y) o) :: st) σ cu su G) : WE M pc L (.double y :: .double x :: st) σ cu su G := by
  subst hn
  intro l D aC z p e s m args below meth c H locs ls C hP hS hl
  exact lv_dcmp C.2.1 C.2.2.1 hd (k l D aC z p e s m args below meth c H locs ls C hP hS hl)
theorem WE.fcmp {x y : UInt32} {o : CmpOp} (hd : decode (mtC M) pc = .ok (.fcmp o, 1)) (hn : pc + 1 = n) (k : WE M n L (.int (Op.cmpValue (FP.fcmp x y) o) :: st) σ cu su G) : WE M pc L (.float y :: .float x :: st) σ cu su G := by
  subst hn
  intro l D aC z p e s m args below meth c H locs ls C hP hS hl
  exact lv_fcmp C.2.1 C.2.2.1 hd (k l D aC z p e s m args below meth c H locs ls C hP hS hl)
theorem WE.ixor {x y : Int32} (hd : decode (mtC M) pc = .ok (.ixor, 1)) (hn : pc + 1 = n) (k : WE M n L (.int (x ^^^ y) :: st) σ cu su G) : WE M pc L (.int y :: .int x :: st) σ cu su G := by
  subst hn
  intro l D aC z p e s m args below meth c H locs ls C hP hS hl
  exact lv_ixor C.2.1 C.2.2.1 hd (k l D aC z p e s m args below meth c H locs ls C hP hS hl)
theorem WE.lload_n {j : Fin 4} {x : Int64} (hd : decode (mtC M) pc = .ok (.lload_n j, 1)) (hn : pc + 1 = n) (hk : lkL j.val L = some (.long x)) (k : WE M n L (.long x :: st) σ cu su G) : WE M pc L (st) σ cu su G := by
  subst hn
  intro l D aC z p e s m args below meth c H locs ls C hP hS hl
  exact lv_lload_n C.2.1 C.2.2.1 hd rfl (lk_has hl hk) (k l D aC z p e s m args below meth c H locs ls C hP hS hl)
theorem WE.lload {j : Nat} {x : Int64} (hd : decode (mtC M) pc = .ok (.lload j, 2)) (hn : pc + 2 = n) (hk : lkL j L = some (.long x)) (k : WE M n L (.long x :: st) σ cu su G) : WE M pc L (st) σ cu su G := by
  subst hn
  intro l D aC z p e s m args below meth c H locs ls C hP hS hl
  exact lv_lload C.2.1 C.2.2.1 hd (lk_has hl hk) (k l D aC z p e s m args below meth c H locs ls C hP hS hl)
theorem WE.dload_n {j : Fin 4} {x : UInt64} (hd : decode (mtC M) pc = .ok (.dload_n j, 1)) (hn : pc + 1 = n) (hk : lkL j.val L = some (.double x)) (k : WE M n L (.double x :: st) σ cu su G) : WE M pc L (st) σ cu su G := by
  subst hn
  intro l D aC z p e s m args below meth c H locs ls C hP hS hl
  exact lv_dload_n C.2.1 C.2.2.1 hd rfl (lk_has hl hk) (k l D aC z p e s m args below meth c H locs ls C hP hS hl)
theorem WE.fload_n {j : Fin 4} {x : UInt32} (hd : decode (mtC M) pc = .ok (.fload_n j, 1)) (hn : pc + 1 = n) (hk : lkL j.val L = some (.float x)) (k : WE M n L (.float x :: st) σ cu su G) : WE M pc L (st) σ cu su G := by
  subst hn
  intro l D aC z p e s m args below meth c H locs ls C hP hS hl
  exact lv_fload_n C.2.1 C.2.2.1 hd rfl (lk_has hl hk) (k l D aC z p e s m args below meth c H locs ls C hP hS hl)
theorem WE.fconst0 (hd : decode (mtC M) pc = .ok (.fconst 0, 1)) (hn : pc + 1 = n) (k : WE M n L (.float 0 :: st) σ cu su G) : WE M pc L (st) σ cu su G := by
  subst hn
  intro l D aC z p e s m args below meth c H locs ls C hP hS hl
  exact lv_fconst0 C.2.1 C.2.2.1 hd (k l D aC z p e s m args below meth c H locs ls C hP hS hl)
theorem WE.i2lV {x : Int32} (v : Int64) (hd : decode (mtC M) pc = .ok (.i2l, 1)) (hn : pc + 1 = n) (hv : x.toInt64 = v) (k : WE M n L (.long v :: st) σ cu su G) : WE M pc L (.int x :: st) σ cu su G := by
  subst hn
  intro l D aC z p e s m args below meth c H locs ls C hP hS hl
  exact lv_i2l C.2.1 C.2.2.1 hd hv (k l D aC z p e s m args below meth c H locs ls C hP hS hl)
theorem WE.ldc2 {idx : Nat} {v : Int64} (hd : decode (mtC M) pc = .ok (.ldc2_w idx, 3)) (hn : pc + 3 = n) (hc : Cond.constantLong (mtY M).cls idx v ∈ lw_tbl) (k : WE M n L (.long v :: st) σ cu su G) : WE M pc L (st) σ cu su G := by
  subst hn
  intro l D aC z p e s m args below meth c H locs ls C hP hS hl
  exact lv_ldc2 (v := v) C.2.1 C.2.2.1 C.2.2.2.2.2.1 (va_Nw.use rfl (C.2.2.2.2.2.2.2.2.1.1 _ hc rfl)) hd (k l D aC z p e s m args below meth c H locs ls C hP hS hl)
theorem WE.ldcI {idx : Nat} {v : Int32} (hd : decode (mtC M) pc = .ok (.ldc idx, 2)) (hn : pc + 2 = n) (hc : Cond.constant (mtY M).cls idx v ∈ lw_tbl) (k : WE M n L (.int v :: st) σ cu su G) : WE M pc L (st) σ cu su G := by
  subst hn
  intro l D aC z p e s m args below meth c H locs ls C hP hS hl
  exact lv_ldc (v := v) C.2.1 C.2.2.1 C.2.2.2.2.2.1 (va_Nw.use rfl (C.2.2.2.2.2.2.2.2.1.1 _ hc rfl)) hd (k l D aC z p e s m args below meth c H locs ls C hP hS hl)
theorem WE.lstore_n {j : Fin 4} {x : Int64} (hd : decode (mtC M) pc = .ok (.lstore_n j, 1)) (hn : pc + 1 = n) (hj : j.val + 1 < mtL M) (k : WE M n (stL2 j.val (.long x) L) st σ cu su G) : WE M pc L (.long x :: st) σ cu su G := by
  subst hn
  intro l D aC z p e s m args below meth c H locs ls C hP hS hl
  exact lv_lstore_n C.2.1 C.2.2.1 hd rfl hl hj (trL_st2 z j.val (.long x) L) (fun ls hl => k l D aC z p e s m args below meth c H locs ls C hP hS hl)
theorem WE.lstore {j : Nat} {x : Int64} (hd : decode (mtC M) pc = .ok (.lstore j, 2)) (hn : pc + 2 = n) (hj : j + 1 < mtL M) (k : WE M n (stL2 j (.long x) L) st σ cu su G) : WE M pc L (.long x :: st) σ cu su G := by
  subst hn
  intro l D aC z p e s m args below meth c H locs ls C hP hS hl
  exact lv_lstore C.2.1 C.2.2.1 hd hl hj (trL_st2 z j (.long x) L) (fun ls hl => k l D aC z p e s m args below meth c H locs ls C hP hS hl)
end WERL
section WERM
variable {M : MT} {pc n : Nat} {L : List (Nat × Value)} {st : List Value} {σ : SS} {cu su : Nat} {G : GT} {Q : AO → SS → Prop}
theorem WE.lret {v : Int64} (hd : decode (mtC M) pc = .ok (.lreturn, 1)) (hT : mtT M = some .long) (hc : rE M cu su) (hQ : Q (.inl (some (.long v))) σ) : WE M pc L [.long v] σ cu su (GQ M Q) := by
  intro l D aC z p e s m args below meth c H locs ls C hP hS hl
  refine W.widen hc.1 hc.2 (vx_ret ?_)
  exact W.lret (v := v) C.2.1 C.2.2.1 (C.2.2.2.2.1.trans hT) (fun t ht hW => ⟨⟨some (.long v), σ, rfl, hQ, by rw [ht]; exact hP⟩, hS.F ht⟩) hS.2.2 hd C.2.2.2.2.2.2.2.2.2.2.1
/-- the natives that tell a double's, a float's bits -/
def NLK (own : String) (idx : Nat) (y : MethodName) : Prop := Cond.methodLink own idx y ∈ WG ∧ Cond.native y ∈ lw_tbl ∧ Cond.static y ∈ WG ∧ Cond.initialized y.cls ∈ WG
theorem WE.d2raw {idx : Nat} {x : UInt64} (hd : decode (mtC M) pc = .ok (.invokestatic idx, 3)) (hn : pc + 3 = n) (hk : NLK (mtY M).cls idx ⟨"java/lang/Double", "doubleToRawLongBits", "(D)J"⟩) (hr : 1 ≤ (mtR M).frames ∧ (st.map fun v => v.category).sum + 15 ≤ (mtR M).locals) (k : WE M n L (.long x.toInt64 :: st) σ cu su G) : WE M pc L (.double x :: st) σ cu su G := by
  subst hn
  intro l D aC z p e s m args below meth c H locs ls C hP hS hl
  have hw := C.2.2.2.2.2.2.1
  exact vn_d2l C.2.1 C.2.2.1 (C.2.2.2.1.trans hl.1.symm) C.2.2.2.2.2.1 (hw _ hk.1) (va_Nw.use rfl (C.2.2.2.2.2.2.2.2.1.1 _ hk.2.1 rfl)) (hw _ hk.2.2.1) (hw _ hk.2.2.2) hr.1 (by rw [cat_trv]; exact hr.2) hd (k l D aC z p e s m args below meth c H locs ls C hP hS hl)
theorem WE.f2raw {idx : Nat} {x : UInt32} (hd : decode (mtC M) pc = .ok (.invokestatic idx, 3)) (hn : pc + 3 = n) (hk : NLK (mtY M).cls idx ⟨"java/lang/Float", "floatToRawIntBits", "(F)I"⟩) (hr : 1 ≤ (mtR M).frames ∧ (st.map fun v => v.category).sum + 15 ≤ (mtR M).locals) (k : WE M n L (.int x.toInt32 :: st) σ cu su G) : WE M pc L (.float x :: st) σ cu su G := by
  subst hn
  intro l D aC z p e s m args below meth c H locs ls C hP hS hl
  have hw := C.2.2.2.2.2.2.1
  exact vn_f2i C.2.1 C.2.2.1 (C.2.2.2.1.trans hl.1.symm) C.2.2.2.2.2.1 (hw _ hk.1) (va_Nw.use rfl (C.2.2.2.2.2.2.2.2.1.1 _ hk.2.1 rfl)) (hw _ hk.2.2.1) (hw _ hk.2.2.2) hr.1 (by rw [cat_trv]; exact hr.2) hd (k l D aC z p e s m args below meth c H locs ls C hP hS hl)
end WERM
/-- what a call of a static method with handlers asks of the tables -/
def CHL (own : String) (idx : Nat) (M' : MT) (np : Nat) : Prop := Cond.methodLink own idx (mtY M') ∈ WG ∧ Cond.static (mtY M') ∈ WG ∧ Cond.initialized (mtY M').cls ∈ WG ∧ wM M' ∈ WG ∧ wM M' = .codeWith (mtY M') (mtC M') (mtL M') (mtT M') (mtH M') ∧ dOK (mtY M') np
section WEH9
variable {M M' : MT} {pc n np idx : Nat} {L : List (Nat × Value)} {st : List Value} {σ : SS} {cu su : Nat} {G : GT} {Q' : AO → SS → Prop}
theorem WE.callH (As : List Value) (hd : decode (mtC M) pc = .ok (.invokestatic idx, 3)) (hn : pc + 3 = n) (cv : CHL (mtY M).cls idx M' np) (hAs : As.length = np) (hR : rC M M' cu su) (hst : (st.map fun v => v.category).sum ≤ 8) (hM : CM M' As σ Q')
    (kk : ∀ v σ', Q' (.inl v) σ' → WE M n L (v.toList ++ st) σ' (cu + (mtR M').cells) (su + (mtR M').slots) G)
    (kx : ∀ E σ', ¬ Q' (.inr E) σ') :
    WE M pc L (As.reverse ++ st) σ cu su G := by
  subst hn
  intro l D aC z p e s m args below meth c H locs ls C hP hS hl
  obtain ⟨c1, c2, c4, c5, hwM, c7⟩ := cv
  have hw := C.2.2.2.2.2.2.1
  refine WE.ofRun (M' := M') (Q' := Q') (a := (As.map (trv z)).toArray) C hS hl ?_ kk (fun E σ' h => absurd h (kx E σ'))
  have hr := vx_runSW (As := As.map (trv z)) (rest := st.map (trv z)) (Ts := WG) (own := (mtY M).cls) (n := np) (bytes := mtC M') (maxL := mtL M') (ret := mtT M') (hh := mtH M') (e := e) (l := l) (R := mtR M) (below := below) (meth := meth) (H := H) (locs := locs) (cells := cu) (slots := su) (g := F0 m pc ls ((As.reverse ++ st).map (trv z))) ⟨C.2.1, C.2.2.1, C.2.2.2.1, C.2.2.2.2.2.1, hw⟩ (met_of (hM l D aC z H.size C.1) (fun E st t h => kx E _ h.1.choose_spec.1))
    ⟨⟨rfl, rfl, hR.1.1, hR.1.2, pay_in hw (WG_in c5), by rw [hwM]; exact List.mem_cons_self⟩, by rw [← hwM]; exact hw _ c5, hw _ c4, ⟨c7.1, c7.2.1⟩, fun sig h => ?_, hw _ c1, hw _ c2⟩
    ⟨SW.blind, fun U hU hW => ⟨rfl, SW.at C hP hS hU hW⟩⟩ rfl (by simpa using hAs) hl.1 ?_ ?_ hd hR.2
  · intro T hT X
    exact Or.inl (hr T hT X)
  · have h2 := c7.2.2
    rw [h] at h2
    exact (Option.some.inj h2).symm
  · show (As.reverse ++ st).map (trv z) = _
    simp [List.map_reverse]
  · show 2 * 0 + _ ≤ 8
    rw [cat_trv]
    omega
theorem WE.H1PI {v0 : Value} {q : Int32 → SS → Prop} (hd : decode (mtC M) pc = .ok (.invokestatic idx, 3)) (hn : pc + 3 = n) (cv : CHL (mtY M).cls idx M' 1) (hR : rC M M' cu su) (hst : (st.map fun v => v.category).sum ≤ 8) (hM : CM M' [v0] σ (PI q)) (kk : ∀ r σ', q r σ' → WE M n L (.int r :: st) σ' (cu + (mtR M').cells) (su + (mtR M').slots) G) : WE M pc L (v0 :: st) σ cu su G :=
  WE.callH (M' := M') [v0] hd hn cv rfl hR hst hM (fun v s h => by obtain ⟨r, h1, h2⟩ := h; cases h1; exact kk r s h2) (fun E s h => by obtain ⟨r, h1, h2⟩ := h; cases h1)
theorem WE.H2PI {v0 v1 : Value} {q : Int32 → SS → Prop} (hd : decode (mtC M) pc = .ok (.invokestatic idx, 3)) (hn : pc + 3 = n) (cv : CHL (mtY M).cls idx M' 2) (hR : rC M M' cu su) (hst : (st.map fun v => v.category).sum ≤ 8) (hM : CM M' [v0, v1] σ (PI q)) (kk : ∀ r σ', q r σ' → WE M n L (.int r :: st) σ' (cu + (mtR M').cells) (su + (mtR M').slots) G) : WE M pc L (v1 :: v0 :: st) σ cu su G :=
  WE.callH (M' := M') [v0, v1] hd hn cv rfl hR hst hM (fun v s h => by obtain ⟨r, h1, h2⟩ := h; cases h1; exact kk r s h2) (fun E s h => by obtain ⟨r, h1, h2⟩ := h; cases h1)
theorem WE.H3PI {v0 v1 v2 : Value} {q : Int32 → SS → Prop} (hd : decode (mtC M) pc = .ok (.invokestatic idx, 3)) (hn : pc + 3 = n) (cv : CHL (mtY M).cls idx M' 3) (hR : rC M M' cu su) (hst : (st.map fun v => v.category).sum ≤ 8) (hM : CM M' [v0, v1, v2] σ (PI q)) (kk : ∀ r σ', q r σ' → WE M n L (.int r :: st) σ' (cu + (mtR M').cells) (su + (mtR M').slots) G) : WE M pc L (v2 :: v1 :: v0 :: st) σ cu su G :=
  WE.callH (M' := M') [v0, v1, v2] hd hn cv rfl hR hst hM (fun v s h => by obtain ⟨r, h1, h2⟩ := h; cases h1; exact kk r s h2) (fun E s h => by obtain ⟨r, h1, h2⟩ := h; cases h1)
theorem WE.H4PI {v0 v1 v2 v3 : Value} {q : Int32 → SS → Prop} (hd : decode (mtC M) pc = .ok (.invokestatic idx, 3)) (hn : pc + 3 = n) (cv : CHL (mtY M).cls idx M' 4) (hR : rC M M' cu su) (hst : (st.map fun v => v.category).sum ≤ 8) (hM : CM M' [v0, v1, v2, v3] σ (PI q)) (kk : ∀ r σ', q r σ' → WE M n L (.int r :: st) σ' (cu + (mtR M').cells) (su + (mtR M').slots) G) : WE M pc L (v3 :: v2 :: v1 :: v0 :: st) σ cu su G :=
  WE.callH (M' := M') [v0, v1, v2, v3] hd hn cv rfl hR hst hM (fun v s h => by obtain ⟨r, h1, h2⟩ := h; cases h1; exact kk r s h2) (fun E s h => by obtain ⟨r, h1, h2⟩ := h; cases h1)
theorem WE.H1W {v0 w : Value} {σ1 : SS} (hd : decode (mtC M) pc = .ok (.invokestatic idx, 3)) (hn : pc + 3 = n) (cv : CHL (mtY M).cls idx M' 1) (hR : rC M M' cu su) (hst : (st.map fun v => v.category).sum ≤ 8) (hM : CM M' [v0] σ (RW w σ1)) (kk : WE M n L (w :: st) σ1 (cu + (mtR M').cells) (su + (mtR M').slots) G) : WE M pc L (v0 :: st) σ cu su G :=
  WE.callH (M' := M') [v0] hd hn cv rfl hR hst hM (fun v s h => by obtain ⟨h1, rfl⟩ := h; cases h1; exact kk) (fun E s h => by cases h.1)
theorem WE.S1W {v0 w : Value} {σ1 : SS} (hd : decode (mtC M) pc = .ok (.invokestatic idx, 3)) (hn : pc + 3 = n) (cv : CSL (mtY M).cls idx M' 1) (hR : rC M M' cu su) (hst : (st.map fun v => v.category).sum ≤ 8) (hM : CM M' [v0] σ (RW w σ1)) (kk : WE M n L (w :: st) σ1 (cu + (mtR M').cells) (su + (mtR M').slots) G) : WE M pc L (v0 :: st) σ cu su G :=
  WE.callS (M' := M') [v0] hd hn cv rfl hR hst hM (fun v s h => by obtain ⟨h1, rfl⟩ := h; cases h1; exact kk) (fun E s h => by cases h.1)
end WEH9
section WEF9
variable {l : Launch}
theorem vx_ofWF {y : MethodName} {ws ws' : List Cond} {rm : Room} {Pc : Array Value → State → Prop} {Qc : Array Value → State → Outcome → State → Prop} {XC : String → State → State → Prop} {mc ms : Nat} {free : Addr → Prop} {cc : ByteArray} {maxL : Nat} {ret : Option FieldType}
    (hy : plainFor y = true) (hw : ws = Cond.code y cc maxL ret :: ws')
    (body : ∀ p e s m args below meth c s₁, BodyLoose p l y (headSpec ws rm) cc maxL ret e s m args below meth c s₁ → c.maxLocals = maxL → (∀ x ∈ c.exceptionTable.toList, False) → Pc args s →
      W p l e (headSpec ws rm).room s m args below meth c s.heap [] 0 0 (vx_MQ below Qc XC args s mc ms free) (entryFrame m args maxL)) : vx_Met l y ws rm Pc Qc XC mc ms free := by
  refine MetFree.of_bodySF (code := cc) (maxLocals := maxL) (ret := ret) hy ?_ ?_
  · intro args s m h hn
    obtain ⟨meth, c, h1, h2, h3, h4, h5, h6, -, -⟩ := Cond.code_spec hn (atoms_spec (ws := ws) h _ (by rw [hw]; exact List.mem_cons_self))
    exact ⟨meth, c, h1, h2, h3, h4, h5, h6⟩
  · intro p e s m args below meth c s₁ B hml hP _
    have hh0 : s₁.heap = s.heap := by rw [B.state]; rfl
    have ht : ∀ x ∈ c.exceptionTable.toList, False := by
      obtain ⟨meth9, c9, h1, h2, -, -, -, -, h7, -⟩ := Cond.code_spec B.named (atoms_spec (ws := ws) B.pre _ (by rw [hw]; exact List.mem_cons_self))
      cases Option.some.inj (h1.symm.trans B.method)
      cases Option.some.inj (h2.symm.trans (Stand.of_body B).code)
      intro x hx
      rw [Array.isEmpty_iff.mp h7] at hx
      cases hx
    obtain ⟨t, a1, o, b1, b2, b3⟩ := body p e s m args below meth c s₁ B hml ht hP s₁ hh0 (Stand.of_body B)
    exact ⟨t, o, a1, b1, b2, b3⟩
/-- the table of a body with handlers -/
theorem CM.ofF {M : MT} {σ : SS} {Q : AO → SS → Prop} {as : List Value} (L0 : List (Nat × Value)) (hL0 : lv_args 0 as = L0) (hpl : plainFor (mtY M) = true) (hH : mtH M = []) (hlen : (lg_sl as).length ≤ mtL M) (k : WE M 0 L0 [] σ 0 0 (GQ M Q)) : CM M as σ Q := by
  subst hL0
  intro l D aC z sz hst
  have hwM := wM_nil hH
  refine vx_ofWF (cc := mtC M) (maxL := mtL M) (ret := mtT M) hpl (by rw [hwM]) ?_
  intro p e s m args below meth c s₁ B hml ht hv
  obtain ⟨rfl, rfl, hP, hK, hF, hZ, hz⟩ := hv
  have hts := atoms_spec (ws := wM M :: WG) B.pre
  have hl := lv_entry (as.map (trv z)) (n := mtL M) (by rw [lg_sl_trv]; exact hlen)
  rw [lv_args_trv] at hl
  rw [lg_entry_eq]
  exact k l D aC z p e s m _ below meth c s.heap [] _ ⟨hst, B.exec, B.bytes, hml, B.returns, findClass_of_methodNamed B.named, fun w h => hts w (List.mem_cons_of_mem _ h), hK, hF, hZ, B.notSynchronized, by
    rw [hH]
    exact List.eq_nil_iff_forall_not_mem.mpr ht, hz⟩ hP va_S.rf hl
end WEF9
abbrev mJ_DN : MT := (⟨"java/lang/Double", "isNaN", "(D)Z"⟩, prog_17_method_6_code, 2, some .boolean, { frames := 1, cells := 0, slots := 0, locals := 32 }, [])
abbrev mJ_DB : MT := (⟨"java/lang/Double", "doubleToLongBits", "(D)J"⟩, prog_17_method_23_code, 2, some .long, { frames := 2, cells := 0, slots := 0, locals := 96 }, [])
theorem dJDN_0 : decode prog_17_method_6_code 0 = .ok (.dload_n 0, 1) := by decide +kernel
theorem dJDN_1 : decode prog_17_method_6_code 1 = .ok (.dload_n 0, 1) := by decide +kernel
theorem dJDN_2 : decode prog_17_method_6_code 2 = .ok (.dcmp .l, 1) := by decide +kernel
theorem dJDN_3 : decode prog_17_method_6_code 3 = .ok (.ifCond .eq 7, 3) := by decide +kernel
theorem dJDN_6 : decode prog_17_method_6_code 6 = .ok (.iconst 1, 1) := by decide +kernel
theorem dJDN_7 : decode prog_17_method_6_code 7 = .ok (.goto 4, 3) := by decide +kernel
theorem dJDN_10 : decode prog_17_method_6_code 10 = .ok (.iconst 0, 1) := by decide +kernel
theorem dJDN_11 : decode prog_17_method_6_code 11 = .ok (.ireturn, 1) := by decide +kernel
theorem dJDB_0 : decode prog_17_method_23_code 0 = .ok (.dload_n 0, 1) := by decide +kernel
theorem dJDB_1 : decode prog_17_method_23_code 1 = .ok (.invokestatic 122, 3) := by decide +kernel
theorem dJDB_4 : decode prog_17_method_23_code 4 = .ok (.ifCond .ne 8, 3) := by decide +kernel
theorem dJDB_7 : decode prog_17_method_23_code 7 = .ok (.dload_n 0, 1) := by decide +kernel
theorem dJDB_8 : decode prog_17_method_23_code 8 = .ok (.invokestatic 134, 3) := by decide +kernel
theorem dJDB_11 : decode prog_17_method_23_code 11 = .ok (.lreturn, 1) := by decide +kernel
theorem dJDB_12 : decode prog_17_method_23_code 12 = .ok (.ldc2_w 137, 3) := by decide +kernel
theorem dJDB_15 : decode prog_17_method_23_code 15 = .ok (.lreturn, 1) := by decide +kernel
def nanD (x : UInt64) : Prop := ¬ Op.cmpValue (FP.dcmp x x) .l = 0
noncomputable def bitsD (x : UInt64) : Int64 := by
  classical
  exact if nanD x then 9221120237041090560 else x.toInt64
theorem bitsD_t {x : UInt64} (h : nanD x) : bitsD x = 9221120237041090560 := by
  unfold bitsD
  exact if_pos h
theorem bitsD_f {x : UInt64} (h : ¬ nanD x) : bitsD x = x.toInt64 := by
  unfold bitsD
  exact if_neg h
set_option maxRecDepth 20000 in
set_option maxHeartbeats 1000000 in
theorem j_DN (x : UInt64) (σ : SS) : CM mJ_DN [.double x] σ (PI fun r σ' => σ' = σ ∧ (r = nI 1 ∧ nanD x ∨ r = nI 0 ∧ ¬ nanD x)) := by
  refine CM.of [(0, .double x)] rfl (by decide +kernel) rfl (Nat.le_of_ble_eq_true rfl) ?_
  refine WE.dload_n (n := 1) dJDN_0 rfl rfl ?_
  refine WE.dload_n (n := 2) dJDN_1 rfl rfl ?_
  refine WE.dcmp (n := 3) dJDN_2 rfl ?_
  refine WE.if_eq (n := 6) (tgt := 10) dJDN_3 rfl (by decide) (fun h => ?_) (fun h => ?_)
  · refine WE.iconst (n := 11) (nI 0) dJDN_10 rfl (by decide) ?_
    refine WE.iret (ty := .boolean) dJDN_11 rfl rfl ⟨by decide, by decide⟩ ?_
    exact PI.mk ⟨rfl, Or.inr ⟨rfl, fun q => q h⟩⟩
  · refine WE.iconst (n := 7) (nI 1) dJDN_6 rfl (by decide) ?_
    refine WE.goto (tgt := 11) dJDN_7 (by decide) ?_
    refine WE.iret (ty := .boolean) dJDN_11 rfl rfl ⟨by decide, by decide⟩ ?_
    exact PI.mk ⟨rfl, Or.inl ⟨rfl, h⟩⟩
set_option maxRecDepth 20000 in
set_option maxHeartbeats 1000000 in
theorem j_DB (x : UInt64) (σ : SS) : CM mJ_DB [.double x] σ (RW (.long (bitsD x)) σ) := by
  refine CM.of [(0, .double x)] rfl (by decide +kernel) rfl (Nat.le_of_ble_eq_true rfl) ?_
  refine WE.dload_n (n := 1) dJDB_0 rfl rfl ?_
  refine WE.S1PI (M' := mJ_DN) (n := 4) dJDB_1 rfl ⟨g_967, g_968, g_40, g_969, rfl, ⟨by decide +kernel, by decide +kernel, by decide +kernel⟩⟩ ⟨⟨by decide, by decide⟩, by decide, by decide⟩ (Nat.le_of_ble_eq_true rfl) (j_DN x σ) (fun r σ1 q => ?_)
  obtain ⟨rfl, q⟩ := q
  refine WE.if_ne (n := 7) (tgt := 12) dJDB_4 rfl (by decide) (fun h => ?_) (fun h => ?_)
  · have hn : nanD x := by
      rcases q with q | q
      · exact q.2
      · exact absurd q.1 h
    refine WE.ldc2 (n := 15) (v := 9221120237041090560) dJDB_12 rfl t_973 ?_
    refine WE.lret dJDB_15 rfl ⟨by decide, by decide⟩ ?_
    exact ⟨by rw [bitsD_t hn], rfl⟩
  · have hn : ¬ nanD x := by
      rcases q with q | q
      · exact absurd (q.1.symm.trans h) (by decide)
      · exact q.2
    refine WE.dload_n (n := 8) dJDB_7 rfl rfl ?_
    refine WE.d2raw (n := 11) dJDB_8 rfl ⟨g_970, t_972, g_971, g_40⟩ ⟨by decide, by decide⟩ ?_
    refine WE.lret dJDB_11 rfl ⟨by decide, by decide⟩ ?_
    exact ⟨by rw [bitsD_f hn], rfl⟩
abbrev mJ_FN : MT := (⟨"java/lang/Float", "isNaN", "(F)Z"⟩, prog_19_method_6_code, 1, some .boolean, { frames := 1, cells := 0, slots := 0, locals := 32 }, [])
abbrev mJ_FB : MT := (⟨"java/lang/Float", "floatToIntBits", "(F)I"⟩, prog_19_method_24_code, 1, some .int, { frames := 2, cells := 0, slots := 0, locals := 96 }, [])
theorem dJFN_0 : decode prog_19_method_6_code 0 = .ok (.fload_n 0, 1) := by decide +kernel
theorem dJFN_1 : decode prog_19_method_6_code 1 = .ok (.fload_n 0, 1) := by decide +kernel
theorem dJFN_2 : decode prog_19_method_6_code 2 = .ok (.fcmp .l, 1) := by decide +kernel
theorem dJFN_3 : decode prog_19_method_6_code 3 = .ok (.ifCond .eq 7, 3) := by decide +kernel
theorem dJFN_6 : decode prog_19_method_6_code 6 = .ok (.iconst 1, 1) := by decide +kernel
theorem dJFN_7 : decode prog_19_method_6_code 7 = .ok (.goto 4, 3) := by decide +kernel
theorem dJFN_10 : decode prog_19_method_6_code 10 = .ok (.iconst 0, 1) := by decide +kernel
theorem dJFN_11 : decode prog_19_method_6_code 11 = .ok (.ireturn, 1) := by decide +kernel
theorem dJFB_0 : decode prog_19_method_24_code 0 = .ok (.fload_n 0, 1) := by decide +kernel
theorem dJFB_1 : decode prog_19_method_24_code 1 = .ok (.invokestatic 59, 3) := by decide +kernel
theorem dJFB_4 : decode prog_19_method_24_code 4 = .ok (.ifCond .ne 8, 3) := by decide +kernel
theorem dJFB_7 : decode prog_19_method_24_code 7 = .ok (.fload_n 0, 1) := by decide +kernel
theorem dJFB_8 : decode prog_19_method_24_code 8 = .ok (.invokestatic 74, 3) := by decide +kernel
theorem dJFB_11 : decode prog_19_method_24_code 11 = .ok (.ireturn, 1) := by decide +kernel
theorem dJFB_12 : decode prog_19_method_24_code 12 = .ok (.ldc 77, 2) := by decide +kernel
theorem dJFB_14 : decode prog_19_method_24_code 14 = .ok (.ireturn, 1) := by decide +kernel
def nanF (x : UInt32) : Prop := ¬ Op.cmpValue (FP.fcmp x x) .l = 0
noncomputable def bitsF (x : UInt32) : Int32 := by
  classical
  exact if nanF x then 2143289344 else x.toInt32
theorem bitsF_t {x : UInt32} (h : nanF x) : bitsF x = 2143289344 := by
  unfold bitsF
  exact if_pos h
theorem bitsF_f {x : UInt32} (h : ¬ nanF x) : bitsF x = x.toInt32 := by
  unfold bitsF
  exact if_neg h
set_option maxRecDepth 20000 in
set_option maxHeartbeats 1000000 in
theorem j_FN (x : UInt32) (σ : SS) : CM mJ_FN [.float x] σ (PI fun r σ' => σ' = σ ∧ (r = nI 1 ∧ nanF x ∨ r = nI 0 ∧ ¬ nanF x)) := by
  refine CM.ofF [(0, .float x)] rfl (by decide +kernel) rfl (Nat.le_of_ble_eq_true rfl) ?_
  refine WE.fload_n (n := 1) dJFN_0 rfl rfl ?_
  refine WE.fload_n (n := 2) dJFN_1 rfl rfl ?_
  refine WE.fcmp (n := 3) dJFN_2 rfl ?_
  refine WE.if_eq (n := 6) (tgt := 10) dJFN_3 rfl (by decide) (fun h => ?_) (fun h => ?_)
  · refine WE.iconst (n := 11) (nI 0) dJFN_10 rfl (by decide) ?_
    refine WE.iret (ty := .boolean) dJFN_11 rfl rfl ⟨by decide, by decide⟩ ?_
    exact PI.mk ⟨rfl, Or.inr ⟨rfl, fun q => q h⟩⟩
  · refine WE.iconst (n := 7) (nI 1) dJFN_6 rfl (by decide) ?_
    refine WE.goto (tgt := 11) dJFN_7 (by decide) ?_
    refine WE.iret (ty := .boolean) dJFN_11 rfl rfl ⟨by decide, by decide⟩ ?_
    exact PI.mk ⟨rfl, Or.inl ⟨rfl, h⟩⟩
set_option maxRecDepth 20000 in
set_option maxHeartbeats 1000000 in
theorem j_FB (x : UInt32) (σ : SS) : CM mJ_FB [.float x] σ (RW (.int (bitsF x)) σ) := by
  refine CM.ofF [(0, .float x)] rfl (by decide +kernel) rfl (Nat.le_of_ble_eq_true rfl) ?_
  refine WE.fload_n (n := 1) dJFB_0 rfl rfl ?_
  refine WE.S1PI (M' := mJ_FN) (n := 4) dJFB_1 rfl ⟨g_977, g_978, g_41, g_979, rfl, ⟨by decide +kernel, by decide +kernel, by decide +kernel⟩⟩ ⟨⟨by decide, by decide⟩, by decide, by decide⟩ (Nat.le_of_ble_eq_true rfl) (j_FN x σ) (fun r σ1 q => ?_)
  obtain ⟨rfl, q⟩ := q
  refine WE.if_ne (n := 7) (tgt := 12) dJFB_4 rfl (by decide) (fun h => ?_) (fun h => ?_)
  · have hn : nanF x := by
      rcases q with q | q
      · exact q.2
      · exact absurd q.1 h
    refine WE.ldcI (n := 14) (v := 2143289344) dJFB_12 rfl t_983 ?_
    refine WE.iret (ty := .int) dJFB_14 rfl rfl ⟨by decide, by decide⟩ ?_
    exact ⟨by rw [bitsF_t hn], rfl⟩
  · have hn : ¬ nanF x := by
      rcases q with q | q
      · exact absurd (q.1.symm.trans h) (by decide)
      · exact q.2
    refine WE.fload_n (n := 8) dJFB_7 rfl rfl ?_
    refine WE.f2raw (n := 11) dJFB_8 rfl ⟨g_980, t_982, g_981, g_41⟩ ⟨by decide, by decide⟩ ?_
    refine WE.iret (ty := .int) dJFB_11 rfl rfl ⟨by decide, by decide⟩ ?_
    exact ⟨by rw [bitsF_f hn], rfl⟩
