/-! THE WHOLE SYSTEM AS ONE WORLD. Every cell that an object of the class makes stands from its constructor on, at z + 0 .. z + 394; its class and its references never change; what changes are ints: 'c i k' is slot k of cell i. -/
abbrev CC : Type := Nat → Nat → Int32
abbrev SS : Type := CC × Int64 × UInt64
def u2 (c : CC) (a k : Nat) (x : Int32) : CC := fun i j => if i = a ∧ j = k then x else c i j
theorem u2_eq (c : CC) (a k : Nat) (x : Int32) : u2 c a k x a k = x := by simp [u2]
theorem u2_ne (c : CC) {a k i j : Nat} (x : Int32) (h : ¬ (i = a ∧ j = k)) : u2 c a k x i j = c i j := by simp [u2, h]
/-- what a method's end is: the answer, or the class thrown -/
abbrev AO : Type := Option Value ⊕ String
-- the shape
def kdT (o : Nat) : Nat := if o = 0 then 4 else if o < 3 then 10 else if o = 3 then 12 else if o = 4 then 13 else if o < 11 then 0 else 2
def KD (i : Nat) : Nat := if i = 0 then 5 else if i < 36 then kdT (i - 1) else if i = 36 then 1 else if i = 37 then 14 else if i < 388 then kdT ((i - 38) % 35) else if i = 388 then 0 else if i = 389 then 3 else if i = 390 then 11 else 10
def lnT (o : Nat) : Nat := if o = 4 then 24 else 6
def LN (i : Nat) : Nat := if i < 36 then lnT (i - 1) else if i = 37 then 9 else if i < 388 then lnT ((i - 38) % 35) else if i = 390 then 60 else 20
/-- slot k of a cell i of kind d: the cell that it refers to -/
def RO (d i k : Nat) : Option Nat := match d with
  | 1 => if k = 0 then some (i + 1) else none
  | 3 => if k < 5 then some (i + 1 + k) else none
  | 4 => if k < 4 then some (i + 1 + k) else none
  | 5 => match k with
    | 0 => some 1
    | 1 => some 36
    | 2 => some 353
    | 3 => some 388
    | 4 => some 389
    | _ => none
  | 12 => some (i + 2 + k)
  | 13 => some (i + 7 + k)
  | 14 => some (i + 1 + 35 * k)
  | _ => none
def NN : Nat := 395
def cR (d : Nat) : String := match d with
  | 0 => RX0
  | 1 => RX1
  | 2 => RX2
  | 3 => RX3
  | 4 => RX4
  | 5 => RX5
  | 6 => RJ0
  | _ => RJ4
def cT (d : Nat) : u_T := match d with
  | 0 => TX0
  | 1 => TX1
  | 2 => TX2
  | 3 => TX3
  | 4 => TX4
  | 5 => TX5
  | 6 => TJ0
  | _ => TJ4
def cN (d : Nat) : Nat := match d with
  | 0 => 13
  | 1 => 3
  | 2 => 3
  | 3 => 9
  | 4 => 16
  | 5 => 6
  | _ => 4
def cTy (d : Nat) : Nat → FieldType := match d with
  | 0 => tyX0
  | 1 => tyX1
  | 2 => tyX2
  | 3 => tyX3
  | 4 => tyX4
  | 5 => tyX5
  | 6 => tyJ0
  | _ => tyJ4
def vwc : List vw_C := [(RX0, TX0, 13), (RX1, TX1, 3), (RX2, TX2, 3), (RX3, TX3, 9), (RX4, TX4, 16), (RX5, TX5, 6), (RJ0, TJ0, 4), (RJ4, TJ4, 4)]
theorem vwc_at8 {d : Nat} (h : d < 8) : vwc[d]? = some (cR d, cT d, cN d) := by
  rcases (show d = 0 ∨ d = 1 ∨ d = 2 ∨ d = 3 ∨ d = 4 ∨ d = 5 ∨ d = 6 ∨ d = 7 by omega) with rfl | rfl | rfl | rfl | rfl | rfl | rfl | rfl <;> rfl
theorem vwc_at {d : Nat} (h : d < 7) : vwc[d]? = some (cR d, cT d, cN d) := by
  rcases (show d = 0 ∨ d = 1 ∨ d = 2 ∨ d = 3 ∨ d = 4 ∨ d = 5 ∨ d = 6 by omega) with rfl | rfl | rfl | rfl | rfl | rfl | rfl <;> rfl
def tysOf (aC : Nat → ClassId) : List (ClassId × FieldType) := [(aC 0, .int), (aC 1, .char), (aC 2, .object RX0), (aC 3, .object RX2), (aC 4, .object RX4), (aC 5, .long), (aC 6, .byte)]
/-- a reference i of ours is the address z + i -/
def trv (z : Nat) (v : Value) : Value := match v with
  | .ref i => .ref (z + i)
  | v => v
theorem trv_cat (z : Nat) (v : Value) : (trv z v).category = v.category := by cases v <;> rfl
def fV (z : Nat) (c : CC) (d i k : Nat) : Value := match RO d i k with
  | some t => .ref (z + t)
  | none => .int (c i k)
def cE (z : Nat) (aC : Nat → ClassId) (σ : SS) (i : Nat) : va_E :=
  if KD i < 10 then .inr (KD i, (List.range (cN (KD i))).map (fV z σ.1 (KD i) i))
  else if KD i < 12 then .inl (aC (KD i - 10), LN i, .inl (σ.1 i))
  else .inl (aC (KD i - 10), LN i, .inr (.inr (.inr (.inr fun k => (RO (KD i) i k).map (z + ·)))))
def wl (z : Nat) (aC : Nat → ClassId) (σ : SS) : va_W := (List.range NN).map fun i => (z + i, cE z aC σ i)
theorem wl_len (z : Nat) (aC : Nat → ClassId) (σ : SS) : (wl z aC σ).length = NN := by simp [wl]
theorem wl_at (z : Nat) (aC : Nat → ClassId) (σ : SS) {i : Nat} (h : i < NN) : (wl z aC σ)[i]? = some (z + i, cE z aC σ i) := by
  simp [wl, h]
theorem wl_of {z : Nat} {aC : Nat → ClassId} {σ : SS} {k : Nat} {q : Nat × va_E} (h : (wl z aC σ)[k]? = some q) : k < NN ∧ q = (z + k, cE z aC σ k) := by
  have h1 : k < NN := by
    have := (List.getElem?_eq_some_iff.mp h).1
    rwa [wl_len] at this
  rw [wl_at z aC σ h1] at h
  exact ⟨h1, (Option.some.inj h).symm⟩
theorem wl_set {z : Nat} {aC : Nat → ClassId} {σ σ' : SS} {i : Nat} {e : va_E} (h : i < NN) (he : e = cE z aC σ' i) (ho : ∀ j, j ≠ i → cE z aC σ' j = cE z aC σ j) : (wl z aC σ).set i (z + i, e) = wl z aC σ' := by
  apply List.ext_getElem?
  intro j
  by_cases hj : j = i
  · subst hj
    rw [List.getElem?_set_self (by rw [wl_len]; exact h), wl_at z aC σ' h, he]
  · rw [List.getElem?_set_ne (Ne.symm hj)]
    by_cases hjn : j < NN
    · rw [wl_at z aC σ hjn, wl_at z aC σ' hjn, ho j hj]
    · rw [List.getElem?_eq_none (by rw [wl_len]; omega), List.getElem?_eq_none (by rw [wl_len]; omega)]
/-- which cells may be written, or made -/
def AA (z sz : Nat) (q : Nat) : Prop := (z ≤ q ∧ q < z + NN) ∨ sz ≤ q
theorem wl_D (z sz : Nat) (aC : Nat → ClassId) (σ : SS) : va_D (AA z sz) (wl z aC σ) := by
  refine ⟨fun i j p q hi hj hpq => ?_, fun k q hk => ?_⟩
  · obtain ⟨h1, rfl⟩ := wl_of hi
    obtain ⟨h2, rfl⟩ := wl_of hj
    have : z + i = z + j := hpq
    omega
  · obtain ⟨h1, rfl⟩ := wl_of hk
    exact Or.inl ⟨Nat.le_add_right _ _, Nat.add_lt_add_left h1 _⟩
theorem cE_obj {z : Nat} {aC : Nat → ClassId} {σ : SS} {i d : Nat} (h : KD i = d) (hd : d < 7) : cE z aC σ i = .inr (d, (List.range (cN d)).map (fV z σ.1 d i)) := by
  subst h
  unfold cE
  rw [if_pos (by omega)]
theorem cE_int {z : Nat} {aC : Nat → ClassId} {σ : SS} {i d : Nat} (h : KD i = d) (hd : d = 10 ∨ d = 11) : cE z aC σ i = .inl (aC (d - 10), LN i, .inl (σ.1 i)) := by
  subst h
  unfold cE
  rw [if_neg (by omega), if_pos (by omega)]
theorem cE_ref {z : Nat} {aC : Nat → ClassId} {σ : SS} {i d : Nat} (h : KD i = d) (hd : d = 12 ∨ d = 13 ∨ d = 14) : cE z aC σ i = .inl (aC (d - 10), LN i, .inr (.inr (.inr (.inr fun k => (RO d i k).map (z + ·))))) := by
  subst h
  unfold cE
  rw [if_neg (by omega), if_neg (by omega)]
theorem cE_u2 {z : Nat} {aC : Nat → ClassId} {c : CC} {od : Int64 × UInt64} {a k : Nat} {x : Int32} {j : Nat} (hj : j ≠ a) : cE z aC (u2 c a k x, od) j = cE z aC (c, od) j := by
  have h1 : (u2 c a k x) j = c j := by
    funext k'
    simp [u2, hj]
  have h2 : ∀ d, fV z (u2 c a k x) d j = fV z c d j := by
    intro d
    funext k'
    unfold fV
    rw [h1]
  unfold cE
  simp only [h1, h2]
-- what is known of the tables, apart from the words
/-- a word that stays as the tables grow warm -/
def kfw (w : Cond) : Bool := (w.onTables && w.keepsFace) || (match w with
  | .methodLinkNest .. => true
  | _ => false)
def KStr : List (String × Nat × String) := [("SiegePost", 288, "there is no such balloon, letter or height"), ("SiegePost", 290, "a number is out of range"), ("SiegePost", 294, "refused, refusal tells the reason"), ("SiegePost", 284, "there is no such balloon"), ("SiegePost", 99, "what is not from 0 to 11"), ("SiegePost", 117, "there is no such letter"), ("SiegePost", 120, "what is not from 0 to 3"), ("SiegePost", 133, "there is no such place"), ("SiegePost", 140, "it has not landed or has no courier"), ("SiegePost", 286, "the balloon is not aloft"), ("SiegePost", 166, "what is not from 0 to 2"), ("SiegePost", 181, "it would be lost with any ballast let go"), ("SiegePost", 189, "the input is full"), ("SiegePost", 198, "the text has an error"), ("SiegePost", 218, "nothing was refused"), ("SiegePost", 223, "what is not from 0 to 20"), ("SiegePost", 249, "no balloon landed"), ("SiegePost", 258, "no letter was delivered or lost"), ("SiegePost", 264, "no change can be undone"), ("SiegePost", 276, "there is no snapshot")]
/-- (thrown, a class that doesn't catch it) -/
def NcL : List (String × String) := [("java/lang/IllegalArgumentException", "java/lang/IndexOutOfBoundsException"), ("java/lang/UnsupportedOperationException", "java/lang/IndexOutOfBoundsException"), ("java/lang/UnsupportedOperationException", "java/lang/IllegalArgumentException"), ("java/util/NoSuchElementException", "java/lang/IndexOutOfBoundsException"), ("java/util/NoSuchElementException", "java/lang/IllegalArgumentException")]
def KF (s : State) : Prop := (∀ w ∈ lw_tbl, kfw w = true → va_Nw w s) ∧ (∀ q ∈ KStr, ∃ sa, vk_R q.1 q.2.1 q.2.2 sa s) ∧ (∀ q ∈ NcL, va_Nc q.1 q.2 s)
theorem kfw_warm {w : Cond} {s U : State} (hk : kfw w = true) (hW : s.WarmedH U.vm) (h : va_Nw w s) : va_Nw w U := by
  by_cases hm : (w.onTables && w.keepsFace) = true
  · rw [Bool.and_eq_true] at hm
    exact va_tabs hm.1 (rfl : (s.setVm U.vm).vm = U.vm) (Cond.before_shiftedFace (args := #[]) (State.Shifted.of_warmed hW) w hm.2 h)
  · cases w <;> first
      | exact va_Nw.warmM hW h
      | (exfalso; simp only [kfw, Bool.or_false] at hk; exact hm hk)
theorem KF.warm {s U : State} (hW : s.WarmedH U.vm) (h : KF s) : KF U :=
  ⟨fun w hw hk => kfw_warm hk hW (h.1 w hw hk), fun q hq => by obtain ⟨sa, h1⟩ := h.2.1 q hq; exact ⟨sa, h1.warm hW⟩, fun q hq => va_Nc.moved hW.alike (h.2.2 q hq)⟩
theorem KF.calling {U : State} {g : JFrame} {mk : MethodId} {a : Array Value} (h : KF U) : KF (U.calling g mk a) := KF.warm (s := U) (U := U.calling g mk a) (State.WarmedH.refl U) h
/-- the law's literals -/
def LitL : List (Nat × String × List Int32) := [(231, "h", [104]), (239, ";b", [59, 98]), (241, "+9", [43, 57]), (247, "u", [117]), (249, ";h1;d", [59, 104, 49, 59, 100]), (251, "-1", [45, 49]), (261, "q", [113]), (266, "h1;h0", [104, 49, 59, 104, 48])]
def ZS (A : Nat → Prop) (U : State) (H : Heap) : Prop := va_Z "java/lang/String" "COMPACT_STRINGS" "Z" (.int 1) A U H ∧ va_Zq "jdk/internal/util/Preconditions" "SIOOBE_FORMATTER" "Ljava/util/function/BiFunction;" A U H ∧ (∃ t : Nat, va_Z "java/lang/Integer" "DigitOnes" "[B" (.ref t) A U H ∧ va_T .byte t 100 (fun j => .int (nI (48 + j % 10))) A U H) ∧ ∀ q ∈ LitL, ∃ sa va : Nat, vk_R "SiegePostLaw" q.1 q.2.1 sa U ∧ vk_S 1 [q.2.2.length] [q.2.2] (fun _ => sa) (fun _ => va) A U H
theorem ZS.go {A B : Nat → Prop} {s U : State} {H H1 : Heap} (hW : s.WarmedH U.vm) (h : ZS A s H) (hq : ∀ a : Nat, a < H.size → ¬ A a → H1[a]? = H[a]?) (hn : ∀ q, B q → A q) : ZS B U H1 := by
  obtain ⟨h1, h0, ⟨t, g1, g2⟩, h2⟩ := h
  refine ⟨va_Z.moved hW.alike ((h1.kept hq).narrow hn), va_Zq.moved hW.alike ((h0.kept hq).narrow hn), ⟨t, va_Z.moved hW.alike ((g1.kept hq).narrow hn), va_T.moved hW.alike ((g2.kept hq).narrow hn)⟩, fun q hq1 => ?_⟩
  obtain ⟨sa, va, h2, h3⟩ := h2 q hq1
  exact ⟨sa, va, h2.warm hW, vk_S.moved hW.alike ((h3.kept hq).narrow hn)⟩
/-- Throwable's two statics, and the literal -/
def ZQ (A : Nat → Prop) (U : State) (H : Heap) : Prop := vx_Zq Bundle.tN "UNASSIGNED_STACK" Bundle.steD A U H ∧ vx_Zq Bundle.tN "SUPPRESSED_SENTINEL" Bundle.listD A U H ∧ ZS A U H
/-- a method: name, code, locals, answer, room, handlers -/
abbrev MT : Type := MethodName × ByteArray × Nat × Option FieldType × Room × List (Nat × Nat × Nat × Nat)
abbrev mtY (M : MT) : MethodName := M.1
abbrev mtC (M : MT) : ByteArray := M.2.1
abbrev mtL (M : MT) : Nat := M.2.2.1
abbrev mtT (M : MT) : Option FieldType := M.2.2.2.1
abbrev mtR (M : MT) : Room := M.2.2.2.2.1
abbrev mtH (M : MT) : List (Nat × Nat × Nat × Nat) := M.2.2.2.2.2
def Cx (l : Launch) (M : MT) (D : va_G) (aC : Nat → ClassId) (z : Nat) (p : Program) (s : State) (m : MethodId) (args : Array Value) (meth : Method) (c : Code) : Prop :=
  l.stackTraces = false ∧ p.tables.exec = Jvm.exec ∧ c.code = mtC M ∧ c.maxLocals = mtL M ∧ meth.sig.returnType = mtT M ∧ s.vm.findClass (mtY M).cls = some m.cls ∧ (∀ w ∈ WG, w.before args s = true) ∧ va_K D vwc (tysOf aC) s ∧ KF s ∧ ZQ (AA z s.heap.size) s s.heap ∧ meth.locks = false ∧ c.exceptionTable.toList = tableOf (mtH M) ∧ z ≤ s.heap.size
abbrev GT : Type := Nat → va_G → (Nat → ClassId) → List Frame → Array Value → State → State → Prop
def trL (z : Nat) (L : List (Nat × Value)) : List (Nat × Value) := L.map fun q => (q.1, trv z q.2)
/-- THE JUDGEMENT: the method M at pc with locals L, stack st and the world's ints σ comes to G -/
def WE (M : MT) (pc : Nat) (L : List (Nat × Value)) (st : List Value) (σ : SS) (cu su : Nat) (G : GT) : Prop :=
  ∀ (l : Launch) (D : va_G) (aC : Nat → ClassId) (z : Nat) (p : Program) (e : Env) (s : State) (m : MethodId) (args : Array Value) (below : List Frame) (meth : Method) (c : Code) (H : Heap) (locs : List Loc) (ls : Array Slot),
    Cx l M D aC z p s m args meth c → va_P D vwc (wl z aC σ) H → va_S (AA z s.heap.size) s.heap H locs → lv_has ls (mtL M) (trL z L) →
    W p l e (mtR M) s m args below meth c H locs cu su (G z D aC below args s) (F0 m pc ls (st.map (trv z)))
/-- the same, with an exception of class E thrown -/
def WX (M : MT) (pc : Nat) (L : List (Nat × Value)) (st : List Value) (σ : SS) (E : String) (cu su : Nat) (G : GT) : Prop :=
  ∀ (l : Launch) (D : va_G) (aC : Nat → ClassId) (z : Nat) (p : Program) (e : Env) (s : State) (m : MethodId) (args : Array Value) (below : List Frame) (meth : Method) (c : Code) (H : Heap) (locs : List Loc) (ls : Array Slot) (q : Addr) (ce : Cell),
    Cx l M D aC z p s m args meth c → va_P D vwc (wl z aC σ) H → va_S (AA z s.heap.size) s.heap H locs → lv_has ls (mtL M) (trL z L) →
    H[q]? = some ce → ce.vm = .none → s.vm.findClass E = some ce.cls →
    vx_W p l e (mtR M) s m args below meth c H locs cu su (G z D aC below args s) (F0 m pc ls (st.map (trv z))) q
def qR (Q : AO → SS → Prop) (z : Nat) (D : va_G) (aC : Nat → ClassId) (sz : Nat) : Array Value → State → Outcome → State → Prop := fun _ st o t =>
  (∃ (v : Option Value) (σ : SS), o = .returned (v.map (trv z)) ∧ Q (.inl v) σ ∧ va_P D vwc (wl z aC σ) t.heap) ∧ va_F (AA z sz) st t
def qX (Q : AO → SS → Prop) (z : Nat) (D : va_G) (aC : Nat → ClassId) (sz : Nat) : String → State → State → Prop := fun E st t =>
  (∃ σ : SS, Q (.inr E) σ ∧ va_P D vwc (wl z aC σ) t.heap) ∧ va_F (AA z sz) st t
def GQ (M : MT) (Q : AO → SS → Prop) : GT := fun z D aC below args s => vx_MQ below (qR Q z D aC s.heap.size) (qX Q z D aC s.heap.size) args s (mtR M).cells (mtR M).slots (AA z s.heap.size)
def SW (z sz : Nat) (D : va_G) (aC : Nat → ClassId) (σ : SS) (U : State) : Prop := U.heap.size = sz ∧ va_P D vwc (wl z aC σ) U.heap ∧ va_K D vwc (tysOf aC) U ∧ KF U ∧ ZQ (AA z sz) U U.heap ∧ z ≤ sz
def wM (M : MT) : Cond := match mtH M with
  | [] => .code (mtY M) (mtC M) (mtL M) (mtT M)
  | h => .codeWith (mtY M) (mtC M) (mtL M) (mtT M) h
/-- THE CONTRACT of the method M on arguments as and ints σ: it ends, and Q holds of its end -/
def CM (M : MT) (as : List Value) (σ : SS) (Q : AO → SS → Prop) : Prop :=
  ∀ (l : Launch) (D : va_G) (aC : Nat → ClassId) (z sz : Nat), l.stackTraces = false →
    vx_Met l (mtY M) (wM M :: WG) (mtR M) (va_Pc (as.map (trv z)) (SW z sz D aC σ)) (qR Q z D aC sz) (qX Q z D aC sz) (mtR M).cells (mtR M).slots (AA z sz)
theorem SW.blind {z sz : Nat} {D : va_G} {aC : Nat → ClassId} {σ : SS} {av : List Value} : FrameBlind (va_Pc av (SW z sz D aC σ)) := by
  intro a U g mk h
  obtain ⟨h0, h1, h2, h3, h4, h5, h6⟩ := h
  exact ⟨h0, h1, h2, va_K.moved (u := U) (U := U.calling g mk a) (Vm.Alike.refl U.vm) h3, h4.calling, ⟨vx_Zq.moved (u := U) (U := U.calling g mk a) (Vm.Alike.refl U.vm) h5.1, vx_Zq.moved (u := U) (U := U.calling g mk a) (Vm.Alike.refl U.vm) h5.2.1, ZS.go (s := U) (U := U.calling g mk a) (State.WarmedH.refl U) h5.2.2 (fun _ _ _ => rfl) (fun _ h => h)⟩, h6⟩
