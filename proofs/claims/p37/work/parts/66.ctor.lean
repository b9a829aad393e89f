/-! CONSTRUCTORS: the world as it grows, a cell behind the other from z on; f i: what stands at z + i, references as places -/
abbrev RE : Type := (Nat × List Value) ⊕ (Nat × Nat × (Nat → Int32)) ⊕ (Nat × Nat × (Nat → Option Nat)) ⊕ Nat
def abE (z : Nat) (aC : Nat → ClassId) : RE → va_E
  | .inl (d, fs) => .inr (d, fs.map (trv z))
  | .inr (.inl (t, n, f)) => .inl (aC t, n, .inl f)
  | .inr (.inr (.inl (t, n, f))) => .inl (aC t, n, .inr (.inr (.inr (.inr fun k => (f k).map (z + ·)))))
  | .inr (.inr (.inr 0)) => .inl (aC 5, 1, .inr (.inl fun _ => 0))
  | .inr (.inr (.inr _)) => .inl (aC 6, 1, .inr (.inr (.inr (.inl fun _ => 0))))
def up (f : Nat → RE) (i : Nat) (e : RE) : Nat → RE := fun j => if j = i then e else f j
theorem up_eq (f : Nat → RE) (i : Nat) (e : RE) : up f i e i = e := if_pos rfl
theorem up_ne (f : Nat → RE) {i j : Nat} (e : RE) (h : ¬ j = i) : up f i e j = f j := if_neg h
def wf (z : Nat) (aC : Nat → ClassId) (n : Nat) (f : Nat → RE) : va_W := (List.range n).map fun i => (z + i, abE z aC (f i))
theorem wf_len (z : Nat) (aC : Nat → ClassId) (n : Nat) (f : Nat → RE) : (wf z aC n f).length = n := by simp [wf]
theorem wf_at (z : Nat) (aC : Nat → ClassId) {n i : Nat} (f : Nat → RE) (h : i < n) : (wf z aC n f)[i]? = some (z + i, abE z aC (f i)) := by
  simp [wf, h]
theorem wf_of {z : Nat} {aC : Nat → ClassId} {n k : Nat} {f : Nat → RE} {q : Nat × va_E} (h : (wf z aC n f)[k]? = some q) : k < n ∧ q = (z + k, abE z aC (f k)) := by
  have h1 : k < n := by
    have := (List.getElem?_eq_some_iff.mp h).1
    rwa [wf_len] at this
  rw [wf_at z aC f h1] at h
  exact ⟨h1, (Option.some.inj h).symm⟩
theorem wf_set {z : Nat} {aC : Nat → ClassId} {n i : Nat} {f : Nat → RE} {e : RE} (h : i < n) : (wf z aC n f).set i (z + i, abE z aC e) = wf z aC n (up f i e) := by
  apply List.ext_getElem?
  intro j
  by_cases hj : j = i
  · subst hj
    rw [List.getElem?_set_self (by rw [wf_len]; exact h), wf_at z aC _ h, up_eq]
  · rw [List.getElem?_set_ne (Ne.symm hj)]
    by_cases hjn : j < n
    · rw [wf_at z aC _ hjn, wf_at z aC _ hjn, up_ne _ _ hj]
    · rw [List.getElem?_eq_none (by rw [wf_len]; omega), List.getElem?_eq_none (by rw [wf_len]; omega)]
theorem wf_congr {z : Nat} {aC : Nat → ClassId} {n : Nat} {f g : Nat → RE} (h : ∀ i, i < n → f i = g i) : wf z aC n f = wf z aC n g := by
  apply List.ext_getElem?
  intro j
  by_cases hjn : j < n
  · rw [wf_at z aC _ hjn, wf_at z aC _ hjn, h j hjn]
  · rw [List.getElem?_eq_none (by rw [wf_len]; omega), List.getElem?_eq_none (by rw [wf_len]; omega)]
theorem wf_push {z : Nat} {aC : Nat → ClassId} {n : Nat} {f : Nat → RE} {e : RE} : wf z aC n f ++ [(z + n, abE z aC e)] = wf z aC (n + 1) (up f n e) := by
  have h1 : wf z aC n (up f n e) = wf z aC n f := wf_congr (fun i hi => up_ne _ _ (by omega))
  rw [← h1]
  unfold wf
  rw [List.range_succ, List.map_append, List.map_cons, List.map_nil, up_eq]
def AN (z : Nat) (q : Nat) : Prop := z ≤ q
theorem wf_D (z : Nat) (aC : Nat → ClassId) (n : Nat) (f : Nat → RE) : va_D (AN z) (wf z aC n f) := by
  refine ⟨fun i j p q hi hj hpq => ?_, fun k q hk => ?_⟩
  · obtain ⟨h1, rfl⟩ := wf_of hi
    obtain ⟨h2, rfl⟩ := wf_of hj
    have : z + i = z + j := hpq
    omega
  · obtain ⟨h1, rfl⟩ := wf_of hk
    exact Nat.le_add_right _ _
/-- a class that an array is made over -/
def NFo (U : State) : Prop := KF U ∧ va_AO RX0 U ∧ va_AO RX2 U ∧ va_AO RX4 U
theorem NFo.warm {s U : State} (hW : s.WarmedH U.vm) (h : NFo s) : NFo U := ⟨h.1.warm hW, va_AO.moved hW.alike h.2.1, va_AO.moved hW.alike h.2.2.1, va_AO.moved hW.alike h.2.2.2⟩
def Nx (M : MT) (D : va_G) (aC : Nat → ClassId) (z : Nat) (p : Program) (s : State) (m : MethodId) (args : Array Value) (meth : Method) (c : Code) : Prop :=
  p.tables.exec = Jvm.exec ∧ c.code = mtC M ∧ c.maxLocals = mtL M ∧ meth.sig.returnType = mtT M ∧ s.vm.findClass (mtY M).cls = some m.cls ∧ (∀ w ∈ WG, w.before args s = true) ∧ va_K D vwc (tysOf aC) s ∧ NFo s ∧ meth.locks = false ∧ meth.name = "<init>" ∧ z ≤ s.heap.size
def NE (M : MT) (pc : Nat) (L : List (Nat × Value)) (st : List Value) (n : Nat) (f : Nat → RE) (cu su : Nat) (G : GT) : Prop :=
  ∀ (l : Launch) (D : va_G) (aC : Nat → ClassId) (z : Nat) (p : Program) (e : Env) (s : State) (m : MethodId) (args : Array Value) (below : List Frame) (meth : Method) (c : Code) (H : Heap) (locs : List Loc) (ls : Array Slot),
    Nx M D aC z p s m args meth c → H.size = z + n → va_P D vwc (wf z aC n f) H → va_S (AN z) s.heap H locs → lv_has ls (mtL M) (trL z L) →
    W p l e (mtR M) s m args below meth c H locs cu su (G z D aC below args s) (F0 m pc ls (st.map (trv z)))
def NS (z : Nat) (D : va_G) (aC : Nat → ClassId) (n : Nat) (f : Nat → RE) (U : State) : Prop := U.heap.size = z + n ∧ va_P D vwc (wf z aC n f) U.heap ∧ va_K D vwc (tysOf aC) U ∧ NFo U
def NQ (z : Nat) (D : va_G) (aC : Nat → ClassId) (n : Nat) (P : (Nat → RE) → Prop) : Array Value → State → Outcome → State → Prop := fun _ st o t => (o = .returned none ∧ t.heap.size = z + n ∧ ∃ f, P f ∧ va_P D vwc (wf z aC n f) t.heap) ∧ va_F (AN z) st t
def GN (M : MT) (n : Nat) (P : (Nat → RE) → Prop) : GT := fun z D aC below args s => MQ below (NQ z D aC n P) args s (mtR M).cells (mtR M).slots (AN z)
/-- THE CONTRACT of a constructor -/
def CI (M : MT) (as : List Value) (n : Nat) (f : Nat → RE) (n' : Nat) (P : (Nat → RE) → Prop) : Prop :=
  ∀ (l : Launch) (D : va_G) (aC : Nat → ClassId) (z : Nat), Met l (mtY M) (wM M :: WG) (mtR M) (va_Pc (as.map (trv z)) (NS z D aC n f)) (NQ z D aC n' P) (mtR M).cells (mtR M).slots (AN z)
theorem NS.blind {z : Nat} {D : va_G} {aC : Nat → ClassId} {n : Nat} {f : Nat → RE} {av : List Value} : FrameBlind (va_Pc av (NS z D aC n f)) := by
  intro a U g mk h
  obtain ⟨h0, h1, h2, h3, h4⟩ := h
  exact ⟨h0, h1, h2, va_K.moved (u := U) (U := U.calling g mk a) (Vm.Alike.refl U.vm) h3, NFo.warm (s := U) (U := U.calling g mk a) (State.WarmedH.refl U) h4⟩
section NEQ
variable {M : MT} {pc n n1 : Nat} {L : List (Nat × Value)} {st : List Value} {f : Nat → RE} {cu su : Nat} {G : GT}
theorem CI.of {as : List Value} {n' : Nat} {P : (Nat → RE) → Prop} (L0 : List (Nat × Value)) (hL0 : lv_args 0 as = L0) (hpl : plainName (mtY M).cls = true) (hH : mtH M = []) (hin : (mtY M).name = "<init>") (hlen : (lg_sl as).length ≤ mtL M) (hz : 0 < n) (k : NE M 0 L0 [] n f 0 0 (GN M n' P)) : CI M as n f n' P := by
  subst hL0
  intro l D aC z
  have hwM := wM_nil hH
  refine Met.ofW (cc := mtC M) (maxL := mtL M) (ret := mtT M) hpl (by rw [hwM]) ?_
  intro p e s m args below meth c s₁ B hml hv
  obtain ⟨rfl, h0, hP, hK, hF⟩ := hv
  have hts := atoms_spec (ws := wM M :: WG) B.pre
  have hl := lv_entry (as.map (trv z)) (n := mtL M) (by rw [lg_sl_trv]; exact hlen)
  rw [lv_args_trv] at hl
  rw [lg_entry_eq]
  exact k l D aC z p e s m _ below meth c s.heap [] _ ⟨B.exec, B.bytes, hml, B.returns, findClass_of_methodNamed B.named, fun w h => hts w (List.mem_cons_of_mem _ h), hK, hF, B.notSynchronized, (name_of_methodNamed B.named B.method).1.trans hin, by omega⟩ h0 hP va_S.rf hl
theorem NE.aload_n {j : Fin 4} {x : Nat} (hd : decode (mtC M) pc = .ok (.aload_n j, 1)) (hn : pc + 1 = n1) (hk : lkL j.val L = some (.ref x)) (k : NE M n1 L (.ref x :: st) n f cu su G) : NE M pc L st n f cu su G := by
  subst hn
  intro l D aC z p e s m args below meth c H locs ls C hz hP hS hl
  exact lv_aload_n C.1 C.2.1 hd rfl (lk_has (v := .ref x) hl hk) (k l D aC z p e s m args below meth c H locs ls C hz hP hS hl)
theorem NE.iload_n {j : Fin 4} {x : Int32} (hd : decode (mtC M) pc = .ok (.iload_n j, 1)) (hn : pc + 1 = n1) (hk : lkL j.val L = some (.int x)) (k : NE M n1 L (.int x :: st) n f cu su G) : NE M pc L st n f cu su G := by
  subst hn
  intro l D aC z p e s m args below meth c H locs ls C hz hP hS hl
  exact lv_iload_n C.1 C.2.1 hd rfl (lk_has (v := .int x) hl hk) (k l D aC z p e s m args below meth c H locs ls C hz hP hS hl)
theorem NE.istore_n {j : Fin 4} {x : Int32} (hd : decode (mtC M) pc = .ok (.istore_n j, 1)) (hn : pc + 1 = n1) (hj : j.val < mtL M) (k : NE M n1 (stL j.val (.int x) L) st n f cu su G) : NE M pc L (.int x :: st) n f cu su G := by
  subst hn
  intro l D aC z p e s m args below meth c H locs ls C hz hP hS hl
  exact lv_istore_n C.1 C.2.1 hd rfl hl hj (trL_st z j.val (.int x) L) (fun ls hl => k l D aC z p e s m args below meth c H locs ls C hz hP hS hl)
theorem NE.iincV {j : Nat} {i : Int} {x : Int32} (v : Int32) (hd : decode (mtC M) pc = .ok (.iinc j i, 3)) (hn : pc + 3 = n1) (hk : lkL j L = some (.int x)) (hj : j < mtL M) (hv : x + Int32.ofInt i = v) (k : NE M n1 (stL j (.int v) L) st n f cu su G) : NE M pc L st n f cu su G := by
  subst hn
  subst hv
  intro l D aC z p e s m args below meth c H locs ls C hz hP hS hl
  obtain ⟨q, hq⟩ := lk_pos hk
  exact lv_iinc C.1 C.2.1 hd hl (trL_at hq) rfl hj (trL_st z j (.int (x + Int32.ofInt i)) L) (fun ls hl => k l D aC z p e s m args below meth c H locs ls C hz hP hS hl)
theorem NE.iconst {i : Int} (v : Int32) (hd : decode (mtC M) pc = .ok (.iconst i, 1)) (hn : pc + 1 = n1) (hv : Int32.ofInt i = v) (k : NE M n1 L (.int v :: st) n f cu su G) : NE M pc L st n f cu su G := by
  subst hn
  intro l D aC z p e s m args below meth c H locs ls C hz hP hS hl
  exact lv_iconst C.1 C.2.1 hd hv (k l D aC z p e s m args below meth c H locs ls C hz hP hS hl)
theorem NE.bipush {i : Int} (v : Int32) (hd : decode (mtC M) pc = .ok (.bipush i, 2)) (hn : pc + 2 = n1) (hv : (Int8.ofInt i).toInt32 = v) (k : NE M n1 L (.int v :: st) n f cu su G) : NE M pc L st n f cu su G := by
  subst hn
  intro l D aC z p e s m args below meth c H locs ls C hz hP hS hl
  exact lv_bipush C.1 C.2.1 hd hv (k l D aC z p e s m args below meth c H locs ls C hz hP hS hl)
theorem NE.sipush {i : Int} (v : Int32) (hd : decode (mtC M) pc = .ok (.sipush i, 3)) (hn : pc + 3 = n1) (hv : (Int16.ofInt i).toInt32 = v) (k : NE M n1 L (.int v :: st) n f cu su G) : NE M pc L st n f cu su G := by
  subst hn
  intro l D aC z p e s m args below meth c H locs ls C hz hP hS hl
  exact lv_sipush C.1 C.2.1 hd hv (k l D aC z p e s m args below meth c H locs ls C hz hP hS hl)
theorem NE.dup {a : Value} (hd : decode (mtC M) pc = .ok (.dup, 1)) (hn : pc + 1 = n1) (ha : a.category = 1) (k : NE M n1 L (a :: a :: st) n f cu su G) : NE M pc L (a :: st) n f cu su G := by
  subst hn
  intro l D aC z p e s m args below meth c H locs ls C hz hP hS hl
  exact lv_dup C.1 C.2.1 hd ((trv_cat z a).trans ha) (k l D aC z p e s m args below meth c H locs ls C hz hP hS hl)
theorem NE.goto {off : Int} {tgt : Nat} (hd : decode (mtC M) pc = .ok (.goto off, 3)) (ht : (pc : Int) + off = (tgt : Int)) (k : NE M tgt L st n f cu su G) : NE M pc L st n f cu su G := by
  intro l D aC z p e s m args below meth c H locs ls C hz hP hS hl
  exact lv_goto C.1 C.2.1 hd ht (k l D aC z p e s m args below meth c H locs ls C hz hP hS hl)
theorem NE.icmp_ge {x y : Int32} {off : Int} {tgt : Nat} (hd : decode (mtC M) pc = .ok (.if_icmp .ge off, 3)) (hn : pc + 3 = n1) (ht : (pc : Int) + off = (tgt : Int)) (kt : y ≤ x → NE M tgt L st n f cu su G) (kf : ¬ y ≤ x → NE M n1 L st n f cu su G) : NE M pc L (.int y :: .int x :: st) n f cu su G := by
  subst hn
  intro l D aC z p e s m args below meth c H locs ls C hz hP hS hl
  exact lv_icmp_ge C.1 C.2.1 hd ht (fun q => kt q l D aC z p e s m args below meth c H locs ls C hz hP hS hl) (fun q => kf q l D aC z p e s m args below meth c H locs ls C hz hP hS hl)
theorem NE.icmp_gt {x y : Int32} {off : Int} {tgt : Nat} (hd : decode (mtC M) pc = .ok (.if_icmp .gt off, 3)) (hn : pc + 3 = n1) (ht : (pc : Int) + off = (tgt : Int)) (kt : y < x → NE M tgt L st n f cu su G) (kf : ¬ y < x → NE M n1 L st n f cu su G) : NE M pc L (.int y :: .int x :: st) n f cu su G := by
  subst hn
  intro l D aC z p e s m args below meth c H locs ls C hz hP hS hl
  exact lv_icmp_gt C.1 C.2.1 hd ht (fun q => kt q l D aC z p e s m args below meth c H locs ls C hz hP hS hl) (fun q => kf q l D aC z p e s m args below meth c H locs ls C hz hP hS hl)
theorem NE.ofA {L' : List (Nat × Value)} (h : allA L L') (k : NE M pc L' st n f cu su G) : NE M pc L st n f cu su G := by
  intro l D aC z p e s m args below meth c H locs ls C hz hP hS hl
  refine k l D aC z p e s m args below meth c H locs ls C hz hP hS ⟨hl.1, hl.2.1, fun q hq => ?_⟩
  obtain ⟨r, hr, rfl⟩ := List.mem_map.mp hq
  obtain ⟨k9, hk9⟩ := lk_pos (allA_mem h r hr)
  exact hl.2.2 _ (List.mem_of_getElem? (trL_at hk9))
theorem NE.obj {idx a : Nat} (hd : decode (mtC M) pc = .ok (.invokespecial idx, 3)) (hn : pc + 3 = n1) (hlk : Cond.methodLink (mtY M).cls idx Lib.objectInit ∈ WG) (h2 : Cond.instanceMethod Lib.objectInit ∈ WG) (h3 : Cond.code Lib.objectInit ⟨#[0xb1]⟩ 1 none ∈ WG) (hr : 1 ≤ (mtR M).frames ∧ (st.map fun v => v.category).sum + 12 ≤ (mtR M).locals) (k : NE M n1 L st n f cu su G) : NE M pc L (.ref a :: st) n f cu su G := by
  subst hn
  intro l D aC z p e s m args below meth c H locs ls C hz hP hS hl
  have hw := C.2.2.2.2.2.1
  exact W.objInit C.1 C.2.1 C.2.2.2.2.1 (hw _ hlk) (hw _ h2) (hw _ h3) (g := F0 m pc ls ((Value.ref a :: st).map (trv z))) rfl (hl.1.trans C.2.2.1.symm) (a := z + a) (rest := st.map (trv z)) rfl hd hr.1 (by show 2 * 0 + _ + 12 ≤ _; rw [cat_trv]; have := hr.2; omega) (k l D aC z p e s m args below meth c H locs ls C hz hP hS hl)
theorem NE.vret {P : (Nat → RE) → Prop} (hd : decode (mtC M) pc = .ok (.return_, 1)) (hT : mtT M = none) (hc : cu ≤ (mtR M).cells ∧ su ≤ (mtR M).slots) (hQ : P f) : NE M pc L [] n f cu su (GN M n P) := by
  intro l D aC z p e s m args below meth c H locs ls C hz hP hS hl
  refine W.widen hc.1 hc.2 ?_
  exact W.vret C.1 C.2.1 (C.2.2.2.1.trans hT) (fun t ht hW => ⟨⟨rfl, by rw [ht]; exact hz, f, hQ, by rw [ht]; exact hP⟩, hS.F ht⟩) hS.2.2 hd C.2.2.2.2.2.2.2.2.1
theorem trv_def (z : Nat) (t : FieldType) : trv z (defaultValue t) = defaultValue t := by cases t <;> rfl
def NLC (own : String) (idx d : Nat) : Prop := Cond.classLink own idx (cR d) ∈ WG ∧ Cond.instantiable (cR d) (cN d) ∈ WG ∧ Cond.initialized (cR d) ∈ WG
/-- new: at the end -/
theorem NE.new {idx d ms : Nat} (hd : decode (mtC M) pc = .ok (.new idx, 3)) (hn : pc + 3 = n1) (hlk : NLC (mtY M).cls idx d) (hdd : d < 7) (hms : cN d = ms) (hc : cu + 1 ≤ (mtR M).cells ∧ su + ms ≤ (mtR M).slots) (k : NE M n1 L (.ref n :: st) (n + 1) (up f n (.inl (d, dfl d))) (cu + 1) (su + ms) G) : NE M pc L st n f cu su G := by
  subst hn
  subst hms
  intro l D aC z p e s m args below meth c H locs ls C hz hP hS hl
  have hw := C.2.2.2.2.2.1
  have hK := C.2.2.2.2.2.2.1
  have hKn := hK.1 d _ (vwc_at hdd)
  refine W.newcK C.1 C.2.1 C.2.2.2.2.1 (hw _ hlk.1) (hw _ hlk.2.1) (hw _ hlk.2.2) rfl hd hc.1 hc.2 hKn.2.1 hz fun H1 kC hkC e1 z1 o1 => ?_
  have hk : ∀ (k : Nat) (x : Nat × va_E), (wf z aC n f)[k]? = some x → H1[x.1]? = H[x.1]? := fun k x hx => o1 x.1 (by rw [← hz]; exact (hP k x hx).lt)
  have hP1 : va_P D vwc (wf z aC n f ++ [(z + n, abE z aC (.inl (d, dfl d)))]) H1 := (hP.kept hk).app (fun k x hx => by
    have hz9 : k < 1 := (List.getElem?_eq_some_iff.mp hx).1
    rw [show k = 0 by omega] at hx
    cases hx
    refine ⟨_, vwc_at hdd, (u_born (cTy d) hw (inWd hdd) hKn hkC e1 (cTy_ok hdd)).to (fun j hj => ?_)⟩
    show defaultValue (cTy d j) = ((dfl d).map (trv z)).getD j .null
    unfold dfl
    rw [List.map_map, List.getD_eq_getElem?_getD]
    simp [show j < cN d from hj, trv_def])
  rw [wf_push] at hP1
  exact k l D aC z p e s m args below meth c H1 locs ls C (by rw [z1]; omega) hP1 ⟨Nat.le_trans hS.1 (by omega), fun x h1 h2 => (o1 x (by have := Nat.lt_of_lt_of_le h1 hS.1; omega)).trans (hS.2.1 x h1 h2), hS.2.2⟩ hl
/-- a new row of ints or chars -/
theorem NE.newa {at_ : ArrayType} {i : Int32} (t N : Nat) {ty : FieldType} (hd : decode (mtC M) pc = .ok (.newarray at_, 2)) (hn : pc + 2 = n1) (hty : newarray.typeOf at_ = ty ∧ (ty = .int ∧ t = 0 ∨ ty = .char ∧ t = 1)) (harr : Cond.arrayClass ty ∈ WG) (hi : i = nI N) (hN : N ≤ 2000) (hc : cu + 1 ≤ (mtR M).cells ∧ su + N ≤ (mtR M).slots) (k : NE M n1 L (.ref n :: st) (n + 1) (up f n (.inr (.inl (t, N, fun _ => 0)))) (cu + 1) (su + N) G) : NE M pc L (.int i :: st) n f cu su G := by
  subst hn
  subst hi
  obtain ⟨rfl, hty⟩ := hty
  intro l D aC z p e s m args below meth c H locs ls C hz hP hS hl
  have hw := C.2.2.2.2.2.1
  have hK := C.2.2.2.2.2.2.1
  refine va_newaK C.1 C.2.1 (hw _ harr) rfl hd (rest := st.map (trv z)) rfl (nI_pos (by omega)) (nI_clamp (by omega)) (by rcases hty with ⟨e, -⟩ | ⟨e, -⟩ <;> rw [e] <;> simp only [componentBytes] <;> omega) hc.1 hc.2 hz fun H1 cA e1 z1 o1 hAr hNm => ?_
  have hA : cA = aC t := by
    rcases hty with ⟨e, rfl⟩ | ⟨e, rfl⟩
    · have h9 : s.vm.findClass ("[" ++ FieldType.int.toString) = some (aC 0) := (hK.2 0 _ rfl).2
      rw [e, h9] at hNm
      exact (Option.some.inj hNm).symm
    · have h9 : s.vm.findClass ("[" ++ FieldType.char.toString) = some (aC 1) := (hK.2 1 _ rfl).2
      rw [e, h9] at hNm
      exact (Option.some.inj hNm).symm
  have hk : ∀ (k : Nat) (x : Nat × va_E), (wf z aC n f)[k]? = some x → H1[x.1]? = H[x.1]? := fun k x hx => o1 x.1 (by rw [← hz]; exact (hP k x hx).lt)
  have hP1 : va_P D vwc (wf z aC n f ++ [(z + n, abE z aC (.inr (.inl (t, N, fun _ => 0))))]) H1 := (hP.kept hk).app (fun k x hx => by
    have hz9 : k < 1 := (List.getElem?_eq_some_iff.mp hx).1
    rw [show k = 0 by omega] at hx
    cases hx
    rw [hA] at e1
    refine Eq.trans e1 (congrArg some ?_)
    rcases hty with ⟨e, -⟩ | ⟨e, -⟩ <;> rw [e] <;> rfl)
  rw [wf_push] at hP1
  exact k l D aC z p e s m args below meth c H1 locs ls C (by rw [z1]; omega) hP1 ⟨Nat.le_trans hS.1 (by omega), fun x h1 h2 => (o1 x (by have := Nat.lt_of_lt_of_le h1 hS.1; omega)).trans (hS.2.1 x h1 h2), hS.2.2⟩ hl
/-- a new row of objects -/
theorem NE.anew {i : Int32} {idx : Nat} (t N d : Nat) (hd : decode (mtC M) pc = .ok (.anewarray idx, 3)) (hn : pc + 3 = n1) (hlk : Cond.classLink (mtY M).cls idx (cR d) ∈ WG) (hty : d = 0 ∧ t = 2 ∨ d = 2 ∧ t = 3 ∨ d = 4 ∧ t = 4) (hi : i = nI N) (hN : N ≤ 2000) (hc : cu + 1 ≤ (mtR M).cells ∧ su + N ≤ (mtR M).slots) (k : NE M n1 L (.ref n :: st) (n + 1) (up f n (.inr (.inr (.inl (t, N, fun _ => none))))) (cu + 1) (su + N) G) : NE M pc L (.int i :: st) n f cu su G := by
  subst hn
  subst hi
  intro l D aC z p e s m args below meth c H locs ls C hz hP hS hl
  have hw := C.2.2.2.2.2.1
  have hK := C.2.2.2.2.2.2.1
  have hF := C.2.2.2.2.2.2.2.1
  have hAO : va_AO (cR d) s := by
    rcases hty with ⟨rfl, -⟩ | ⟨rfl, -⟩ | ⟨rfl, -⟩
    · exact hF.2.1
    · exact hF.2.2.1
    · exact hF.2.2.2
  have hcl : (nI N).toNatClampNeg = N := nI_clamp (by omega)
  refine W.anew C.1 C.2.1 C.2.2.2.2.1 (hw _ hlk) (va_AO.use hAO) rfl hd (rest := st.map (trv z)) rfl (nI_pos (by omega)) (by rw [hcl]; omega) hc.1 (by rw [hcl]; exact hc.2) fun cA kA comp f1 f2 f3 f4 => ?_
  rw [hcl]
  generalize hH1 : H.push ({ cls := cA, slots := Array.replicate N .null, vm := .none } : Cell) = H1
  have z1 : H1.size = H.size + 1 := by rw [← hH1, Array.size_push]
  have e1 : H1[z + n]? = some (arrV cA N (fun _ => .null)) := by rw [← hz, ← hH1, Array.getElem?_push_size, ← arrV_new]
  have o1 : ∀ q : Nat, q < z + n → H1[q]? = H[q]? := fun q hq => by rw [← hH1, Array.getElem?_push, if_neg (by omega)]
  have hA : cA = aC t := by
    rcases hty with ⟨rfl, rfl⟩ | ⟨rfl, rfl⟩ | ⟨rfl, rfl⟩
    · obtain ⟨kk9, cc9, -, -, -, h9⟩ := (hK.2 2 _ rfl).2
      exact Option.some.inj (f1.symm.trans h9)
    · obtain ⟨kk9, cc9, -, -, -, h9⟩ := (hK.2 3 _ rfl).2
      exact Option.some.inj (f1.symm.trans h9)
    · obtain ⟨kk9, cc9, -, -, -, h9⟩ := (hK.2 4 _ rfl).2
      exact Option.some.inj (f1.symm.trans h9)
  have hk : ∀ (k : Nat) (x : Nat × va_E), (wf z aC n f)[k]? = some x → H1[x.1]? = H[x.1]? := fun k x hx => o1 x.1 (by rw [← hz]; exact (hP k x hx).lt)
  have hP1 : va_P D vwc (wf z aC n f ++ [(z + n, abE z aC (.inr (.inr (.inl (t, N, fun _ => none)))))]) H1 := (hP.kept hk).app (fun k x hx => by
    have hz9 : k < 1 := (List.getElem?_eq_some_iff.mp hx).1
    rw [show k = 0 by omega] at hx
    cases hx
    rw [hA] at e1
    exact e1)
  rw [wf_push] at hP1
  rw [hz]
  exact k l D aC z p e s m args below meth c H1 locs ls C (by rw [z1]; omega) hP1 ⟨Nat.le_trans hS.1 (by omega), fun x h1 h2 => (o1 x (by have := Nat.lt_of_lt_of_le h1 hS.1; omega)).trans (hS.2.1 x h1 h2), hS.2.2⟩ hl
/-- getfield of a reference -/
theorem NE.getR {idx d k a t : Nat} {fs : List Value} (hd : decode (mtC M) pc = .ok (.getfield idx, 3)) (hn : pc + 3 = n1) (hf : FLK (mtY M).cls idx d k) (hk : k < cN d ∧ d < 7) (ha : a < n) (hfa : f a = .inl (d, fs)) (hv : fs[k]? = some (.ref t)) (kk : NE M n1 L (.ref t :: st) n f cu su G) : NE M pc L (.ref a :: st) n f cu su G := by
  subst hn
  intro l D aC z p e s m args below meth c H locs ls C hz hP hS hl
  have hw := C.2.2.2.2.2.1
  refine va_get (D := D) (cl := vwc) C.1 C.2.1 hw (inWd hk.2) C.2.2.2.2.1 C.2.2.2.2.2.2.1 hP a ((wf_at z aC f ha).trans (by rw [hfa]; rfl)) (vwc_at hk.2) k hk.1 (hw _ hf) (fun _ h => h) (v := .ref (z + t)) ?_ hd (kk l D aC z p e s m args below meth c H locs ls C hz hP hS hl)
  rw [List.getElem?_map, hv]
  rfl
theorem wf_put {D : va_G} {aC : Nat → ClassId} {z a d k : Nat} {fs : List Value} {v : Value} {H H1 : Heap} (hP : va_P D vwc (wf z aC n f) H) (ha : a < n) (hfa : f a = .inl (d, fs)) (hdd : d < 7) (he : va_at D vwc (z + a, .inr (d, (fs.map (trv z)).set k (trv z v))) H1) (oq : ∀ q : Nat, q ≠ z + a → H1[q]? = H[q]?) : va_P D vwc (wf z aC n (up f a (.inl (d, fs.set k v)))) H1 := by
  rw [← wf_set ha]
  refine hP.set (wf_D z aC n f) (wf_at z aC f ha) ?_ oq
  show va_at D vwc (z + a, .inr (d, (fs.set k v).map (trv z))) H1
  rw [List.map_set]
  exact he
/-- putfield -/
theorem NE.put {idx d k a : Nat} {fs : List Value} {v : Value} (hd : decode (mtC M) pc = .ok (.putfield idx, 3)) (hn : pc + 3 = n1) (hf : FLK (mtY M).cls idx d k) (hk : k < cN d ∧ d < 7) (hv : ∀ z, narrow (cTy d k) (trv z v) = trv z v ∧ fits (cTy d k) (trv z v) = true) (hdecl : (cT d k).1 = (mtY M).cls) (ha : a < n) (hfa : f a = .inl (d, fs)) (hlen : k < fs.length) (kk : NE M n1 L st n (up f a (.inl (d, fs.set k v))) cu su G) : NE M pc L (v :: .ref a :: st) n f cu su G := by
  subst hn
  intro l D aC z p e s m args below meth c H locs ls C hz hP hS hl
  have hw := C.2.2.2.2.2.1
  have hK := C.2.2.2.2.2.2.1
  have hown := C.2.2.2.2.1
  have he0 : (wf z aC n f)[a]? = some (z + a, .inr (d, fs.map (trv z))) := (wf_at z aC f ha).trans (by rw [hfa]; rfl)
  have hap := va_apart (own := (mtY M).cls) hw (inWd hk.2) (cTy d) (cTy_ok hk.2) (cNm_ok hk.2) hK (vwc_at hk.2)
  obtain ⟨r, h1, cell, q1, q2, q3, q4⟩ := hP a _ he0
  have hr : r = (cR d, cT d, cN d) := Option.some.inj (h1.symm.trans (vwc_at hk.2))
  subst hr
  obtain ⟨hSl, hfc, kC, hkC, hkind⟩ := hK.1 d _ (vwc_at hk.2)
  obtain ⟨cf, kf, fi, f9, hi, hsl⟩ := hSl k hk.1
  have hlay := hw _ (inWd hk.2 _ (u_in_lay hk.1))
  have hst := (u_facts hfc hkC (u_lays hw (inWd hk.2) hk.1) hi).1
  have hl9 : k < (fs.map (trv z)).length := by rw [List.length_map]; exact hlen
  have fin : ∀ (H' : Heap) (cell' : Cell) (e1 : H'[z + a]? = some (cell.setSlot (D.2 d k) (trv z v))) (e2 : H'.size = H.size) (e3 : ∀ q : Nat, q ≠ z + a → H'[q]? = H[q]?), W p l e (mtR M) s m args below meth c H' (locs ++ [⟨z + a, D.2 d k⟩]) cu su (G z D aC below args s) (F0 m (pc + 3) ls (st.map (trv z))) := by
    intro H' _ e1 e2 e3
    refine kk l D aC z p e s m args below meth c H' _ ls C (by rw [e2]; exact hz) (wf_put hP ha hfa hk.2 ⟨_, vwc_at hk.2, t_OB.to (V := updV (vp_V (fs.map (trv z))) k (trv z v)) ⟨_, e1, q2, q3, t_set q4 hap hk.1 (trv z v)⟩ (fun j _ => vp_updV_set hl9 (trv z v) j)⟩ e3) (hS.put e2 e3 (Nat.le_add_right _ _)) hl
  by_cases hfin : (cT d k).2.2.2 = true
  · unfold u_lay at hlay
    rw [if_pos hfin] at hlay
    have hcf : m.cls = cf := by
      obtain ⟨_, _, c', _, _, _, -, -, hf', -, -, -, hown2, -⟩ := Cond.laysFinal_spec hlay
      have e1 : c' = cf := by
        have := hi.symm.trans hf'
        simp at this
        exact this.1.symm
      rw [hdecl] at hown2
      rw [← e1]
      exact Option.some.inj (hown.symm.trans hown2)
    have h6 := u_fits hfc hkC hkind (Or.inr hlay) hi (cTy_ok hk.2 k hk.1) (hv z).1 (hv z).2
    refine W.putFinK C.1 C.2.1 hown (hw _ hf) hi hst hcf C.2.2.2.2.2.2.2.2.2.1 (by rw [q2]; exact h6) q1 q3 (by rw [hsl]; exact k2_hasslot (q4 k hk.1)) rfl rfl hd fun H' e1 e2 e3 => ?_
    rw [hsl] at e1 ⊢
    exact fin H' cell e1 e2 e3
  · unfold u_lay at hlay
    rw [if_neg hfin] at hlay
    have h6 := u_store hfc hkC hkind hlay hi (cTy_ok hk.2 k hk.1) (hv z).1 (hv z).2
    refine W.putK C.1 C.2.1 (f := f9) ⟨hown, hw _ hf, ⟨_, _, _, hi⟩, hst⟩ (by rw [q2]; exact h6) q1 q3 (by rw [hsl]; exact k2_hasslot (q4 k hk.1)) rfl rfl hd fun H' e1 e2 e3 => ?_
    rw [hsl] at e1 ⊢
    exact fin H' cell e1 e2 e3
/-- a place of a row of ints is written -/
theorem NE.iast {a N : Nat} {i x : Int32} {g : Nat → Int32} (j : Nat) (hd : decode (mtC M) pc = .ok (.iastore, 1)) (hn : pc + 1 = n1) (ha : a < n) (hfa : f a = .inr (.inl (0, N, g))) (hi : i = nI j) (hj : j < N ∧ N ≤ 2000) (kk : NE M n1 L st n (up f a (.inr (.inl (0, N, upd g j x)))) cu su G) : NE M pc L (.int x :: .int i :: .ref a :: st) n f cu su G := by
  subst hn
  subst hi
  intro l D aC z p e s m args below meth c H locs ls C hz hP hS hl
  have hK := C.2.2.2.2.2.2.1
  have hin := vp_in_nI hj.1 (show N < 2 ^ 31 by omega)
  have he0 : (wf z aC n f)[a]? = some (z + a, .inl (aC 0, N, .inl g)) := (wf_at z aC f ha).trans (by rw [hfa]; rfl)
  refine W.iast C.1 C.2.1 (hP a _ he0) ((hK.2 0 _ rfl).1 N (fun j => .int (g j))) (fun q => by cases q) (by show ¬ (nI j < 0 ∨ (arrV _ _ _).slots.size ≤ _); rw [arrV_size]; exact hin) rfl rfl hd fun H1 e1 z1 oq => ?_
  refine kk l D aC z p e s m args below meth c H1 _ ls C (by rw [z1]; exact hz) ?_ (hS.put z1 oq (Nat.le_add_right _ _)) hl
  rw [← wf_set ha]
  refine hP.set (wf_D z aC n f) (wf_at z aC f ha) ?_ oq
  show H1[z + a]? = some (vp_cell (aC 0) (N, .inl (upd g j x)))
  rw [e1, vp_cell_i, vp_cell_i, arrV_store, nI_clamp (by omega)]
  congr 2
  funext q
  by_cases hq : q = j
  · subst hq
    simp [updV, upd]
  · simp [updV, upd, hq]
/-- a place of a row of objects is written -/
theorem NE.aast {a v N t d : Nat} {i : Int32} {g : Nat → Option Nat} {fs : List Value} (j : Nat) (hd : decode (mtC M) pc = .ok (.aastore, 1)) (hn : pc + 1 = n1) (ha : a < n) (hfa : f a = .inr (.inr (.inl (t, N, g)))) (hvn : v < n) (hfv : f v = .inl (d, fs)) (hty : d = 0 ∧ t = 2 ∨ d = 2 ∧ t = 3 ∨ d = 4 ∧ t = 4) (hi : i = nI j) (hj : j < N ∧ N ≤ 2000) (kk : NE M n1 L st n (up f a (.inr (.inr (.inl (t, N, va_up g j (some v)))))) cu su G) : NE M pc L (.ref v :: .int i :: .ref a :: st) n f cu su G := by
  subst hn
  subst hi
  intro l D aC z p e s m args below meth c H locs ls C hz hP hS hl
  have hK := C.2.2.2.2.2.2.1
  have hcl : (nI j).toNatClampNeg = j := nI_clamp (by omega)
  have he0 : (wf z aC n f)[a]? = some (z + a, .inl (aC t, N, .inr (.inr (.inr (.inr fun k => (g k).map (z + ·)))))) := (wf_at z aC f ha).trans (by rw [hfa]; rfl)
  have he1 : (wf z aC n f)[v]? = some (z + v, .inr (d, fs.map (trv z))) := (wf_at z aC f hvn).trans (by rw [hfv]; rfl)
  have hdd : d < 7 := by omega
  have hRA : va_RA s (aC t) (.object (cR d)) := by
    rcases hty with ⟨rfl, rfl⟩ | ⟨rfl, rfl⟩ | ⟨rfl, rfl⟩
    · exact (hK.2 2 _ rfl).2
    · exact (hK.2 3 _ rfl).2
    · exact (hK.2 4 _ rfl).2
  obtain ⟨r', hr', cellV, g1, g2, g3, -⟩ := hP v _ he1
  have hcls := (hK.1 d _ (vwc_at hdd)).2
  obtain ⟨kA, comp, k1, k2, k3, -⟩ := hRA
  have hcomp : comp = D.1 d := Option.some.inj (k3.symm.trans hcls.1)
  subst hcomp
  obtain ⟨kC, hkC, -⟩ := hcls.2
  refine W.aast C.1 C.2.1 (hP a _ he0) (fun q h => by cases h) (fun h => by cases h) k1 k2 rfl hkC ⟨nI_pos (by omega), by show _ < (arrV _ _ _).slots.size; rw [arrV_size, hcl]; exact hj.1⟩ g1 (fun q h => by rw [g3] at h; cases h) (by rw [g2]; exact hkC) (by rw [g2]; exact va_assign hcls) rfl (rest := st.map (trv z)) rfl hd fun H1 e1 z1 oq => ?_
  rw [hcl] at e1 ⊢
  refine kk l D aC z p e s m args below meth c H1 _ ls C (by rw [z1]; exact hz) ?_ (hS.put z1 oq (Nat.le_add_right _ _)) hl
  rw [← wf_set ha]
  refine hP.set (wf_D z aC n f) (wf_at z aC f ha) ?_ oq
  show H1[z + a]? = some (vp_cell (aC t) (N, .inr (.inr (.inr (.inr fun k => (va_up g j (some v) k).map (z + ·))))))
  rw [e1, vp_cell_q, vp_cell_q, arrV_store]
  congr 2
  funext q
  by_cases hq : q = j
  · subst hq
    simp [updV, va_up, va_rf]
  · simp [updV, va_up, hq]
/-- what a constructor's call asks of the tables -/
def ILK (own : String) (idx : Nat) (M' : MT) : Prop := (Cond.methodLink own idx (mtY M') ∈ WG ∨ Cond.methodLinkNest own idx (mtY M') "SiegePost" ∈ lw_tbl) ∧ Cond.instanceMethod (mtY M') ∈ WG ∧ Cond.initialized (mtY M').cls ∈ WG ∧ wM M' ∈ WG ∧ mtH M' = [] ∧ dOK (mtY M') 0 ∧ (mtY M').name = "<init>" ∧ mtT M' = none
theorem NE.init {M' : MT} {idx a n' : Nat} {P : (Nat → RE) → Prop} {mc ms : Nat} (hd : decode (mtC M) pc = .ok (.invokespecial idx, 3)) (hn : pc + 3 = n1) (cv : ILK (mtY M).cls idx M') (hm : (mtR M').cells = mc ∧ (mtR M').slots = ms) (hR : (mtR M').frames + 1 ≤ (mtR M).frames ∧ 8 + (mtL M' + 11) + (mtR M').locals ≤ (mtR M).locals) (hc : cu + mc ≤ (mtR M).cells ∧ su + ms ≤ (mtR M).slots) (hst : (st.map fun v => v.category).sum ≤ 8) (hM : CI M' [.ref a] n f n' P) (kk : ∀ g, P g → NE M n1 L st n' g (cu + mc) (su + ms) G) : NE M pc L (.ref a :: st) n f cu su G := by
  subst hn
  intro l D aC z p e s m args below meth c H locs ls C hz hP hS hl
  obtain ⟨c1, c2, c4, c5, c6, c7, c8, c9⟩ := cv
  have hw := C.2.2.2.2.2.1
  have hwM := wM_nil c6
  rw [c9] at hwM
  have hlen : ∀ sig, parseMethodDescriptor (mtY M').desc = some sig → 0 = sig.parameters.length := fun sig h => by
    have h2 := c7.2.2
    rw [h] at h2
    exact (Option.some.inj h2).symm
  have hPre : PreS s H (va_Pc ([.ref a].map (trv z)) (NS z D aC n f)) (.ref (z + a) :: []) := ⟨NS.blind, fun U hU hW => ⟨rfl, by rw [hU]; exact hz, by rw [hU]; exact hP, va_K.moved hW.alike C.2.2.2.2.2.2.1, C.2.2.2.2.2.2.2.1.warm hW⟩⟩
  have hr : va_Run p l e (mtR M) s m args below meth c H locs cu su (mtR M').cells (mtR M').slots (F0 m pc ls ((Value.ref a :: st).map (trv z))) (st.map (trv z)) (NQ z D aC n' P (Value.ref (z + a) :: ([] : List Value)).toArray) (AN z) := by
    rcases c1 with c1 | c1
    · exact va_runI (As := []) (rest := st.map (trv z)) (Ts := WG) (own := (mtY M).cls) (n := 0) (nL := mtL M) (cc := mtC M) (bytes := mtC M') (maxL := mtL M') ⟨C.1, C.2.1, C.2.2.1, C.2.2.2.2.1, hw⟩ (hM l D aC z) ⟨⟨rfl, rfl, hR.1, hR.2, pay_in hw (WG_in c5), by rw [hwM]; exact List.mem_cons_self, by rw [← hwM]; exact hw _ c5, hw _ c4, ⟨c7.1, c7.2.1⟩, hlen, hw _ c1⟩, c8, hw _ c2⟩ hPre rfl rfl hl.1 rfl (by show 2 * 0 + _ ≤ 8; rw [cat_trv]; omega) hd (by rw [hm.1, hm.2]; exact hc)
    · exact va_runIN (As := []) (rest := st.map (trv z)) (Ts := WG) (own := (mtY M).cls) (host := "SiegePost") (n := 0) (nL := mtL M) (cc := mtC M) (bytes := mtC M') (maxL := mtL M') ⟨C.1, C.2.1, C.2.2.1, C.2.2.2.2.1, hw⟩ (hM l D aC z) ⟨⟨⟨rfl, rfl, hR.1, hR.2, pay_in hw (WG_in c5), by rw [hwM]; exact List.mem_cons_self⟩, by rw [← hwM]; exact hw _ c5, hw _ c4, ⟨c7.1, c7.2.1⟩, hlen, va_Nw.use rfl (C.2.2.2.2.2.2.2.1.1.1 _ c1 (by simp [kfw]))⟩, c8, hw _ c2⟩ hPre rfl rfl hl.1 rfl (by show 2 * 0 + _ ≤ 8; rw [cat_trv]; omega) hd (by rw [hm.1, hm.2]; exact hc)
  intro T hT X
  obtain ⟨v, st₀, t, T', Lc, h0, X', hL, e1, e2, ⟨⟨hv, hsz, g, hPg, hP1⟩, hFr⟩, stp⟩ := hr T hT X
  cases hv
  obtain ⟨-, -, k3⟩ := vx_keep h0 e1 hS (fun q _ h => h) (fun _ h => h) hL hFr
  rw [hm.1, hm.2] at X'
  obtain ⟨t2, a1, b1⟩ := kk g hPg l D aC z p e s m args below meth c T'.heap (locs ++ Lc) ls C (by rw [e1]; exact hsz) (by rw [e1]; exact hP1) k3 hl T' rfl X'
  exact ⟨t2, stp t2 a1, b1⟩
end NEQ
