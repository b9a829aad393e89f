/-! THE SECOND JUDGEMENT: beside the world one thing from outside (place SP: the script, or a text), and the law's own row of longs (place SQ) -/
def SP : Nat := 1000000
def SQ : Nat := 2000000
def tr9 (z b w i : Nat) : Nat := if i = SP then b else if i = SQ then w else z + i
def trw (z b w : Nat) (v : Value) : Value := match v with
  | .ref i => .ref (tr9 z b w i)
  | v => v
theorem trw_cat (z b w : Nat) (v : Value) : (trw z b w v).category = v.category := by
  cases v <;> rfl
def trwL (z b w : Nat) (L : List (Nat × Value)) : List (Nat × Value) := L.map fun q => (q.1, trw z b w q.2)
theorem trwL_at {z b w i k : Nat} {v : Value} {L : List (Nat × Value)} (h : L[k]? = some (i, v)) : (trwL z b w L)[k]? = some (i, trw z b w v) := by
  simp [trwL, h]
theorem lkw_has {ls : Array Slot} {nL z b w i : Nat} {L : List (Nat × Value)} {v : Value} (hl : lv_has ls nL (trwL z b w L)) (h : lkL i L = some v) : ls[i]? = some (.val (trw z b w v)) := by
  obtain ⟨k, hk⟩ := lk_pos h
  exact lv_at hl k (trwL_at hk)
theorem trwL_st (z b w i : Nat) (v : Value) (L : List (Nat × Value)) : (i, trw z b w v) :: (trwL z b w L).filter (fun q => !(q.1 == i) && !(q.1 + 1 == i && q.2.category == 2)) = trwL z b w (stL i v L) := by
  simp only [trwL, stL, List.map_cons, List.filter_map]
  congr 2
  apply List.filter_congr
  intro q _
  simp [Function.comp, trw_cat]
theorem trwL_st2 (z b w i : Nat) (v : Value) (L : List (Nat × Value)) : (i, trw z b w v) :: (trwL z b w L).filter (fun q => !(q.1 == i) && (!(q.1 == i + 1) && !(q.1 + 1 == i && q.2.category == 2))) = trwL z b w (stL2 i v L) := by
  simp only [trwL, stL2, List.map_cons, List.filter_map]
  congr 2
  apply List.filter_congr
  intro q _
  simp [Function.comp, trw_cat]
def W0 (aC : Nat → ClassId) (q v k : Nat) (f : Nat → Int32) : va_W := [(q, .inr (7, [.ref v, .int 0, .int 0, .int (nI k)])), (v, .inl (aC 6, 16, .inl f))]
theorem W0.keep {D : va_G} {aC : Nat → ClassId} {q v k : Nat} {f : Nat → Int32} {H H1 : Heap} (h : va_P D vwc (W0 aC q v k f) H) (h1 : H1[q]? = H[q]?) (h2 : H1[v]? = H[v]?) : va_P D vwc (W0 aC q v k f) H1 := by
  refine h.kept (fun i x hx => ?_)
  match i with
  | 0 =>
    cases hx
    exact h1
  | 1 =>
    cases hx
    exact h2
  | n + 2 => cases hx
/-- what stands at w beside the world: nothing, the law's row of longs, or a StringBuilder that holds k letters -/
abbrev XF : Type := Option ((Nat → Int64) ⊕ (Nat × (Nat → Int32)))
def XW (D : va_G) (aC : Nat → ClassId) (z w : Nat) (f : XF) (s : State) (H : Heap) : Prop := match f with
  | none => True
  | some (.inl g) => z + NN ≤ w ∧ s.heap.size ≤ w ∧ H[w]? = some (arrV (aC 5) 13 (fun j => .long (g j)))
  | some (.inr (k, g)) => ∃ v, z + NN ≤ w ∧ s.heap.size ≤ w ∧ z + NN ≤ v ∧ s.heap.size ≤ v ∧ w ≠ v ∧ va_P D vwc (W0 aC w v k g) H
def Lx (l : Launch) (M : MT) (D : va_G) (aC : Nat → ClassId) (z : Nat) (p : Program) (s : State) (m : MethodId) (args : Array Value) (meth : Method) (c : Code) : Prop :=
  l.stackTraces = false ∧ p.tables.exec = Jvm.exec ∧ c.code = mtC M ∧ c.maxLocals = mtL M ∧ meth.sig.returnType = mtT M ∧ s.vm.findClass (mtY M).cls = some m.cls ∧ (∀ w ∈ WG, w.before args s = true) ∧ va_K D vwc (tysOf aC) s ∧ KF s ∧ ZQ (AA z s.heap.size) s s.heap ∧ meth.locks = false ∧ c.exceptionTable.toList = tableOf (mtH M)
/-- the outside thing: by the world's place, its own, and the state at the method's entry -/
abbrev ET : Type := Nat → Nat → State → Prop
def LE (M : MT) (E : ET) (pc : Nat) (L : List (Nat × Value)) (st : List Value) (σ : SS) (f : XF) (cu su : Nat) (G : GT) : Prop :=
  ∀ (l : Launch) (D : va_G) (aC : Nat → ClassId) (z b w : Nat) (p : Program) (e : Env) (s : State) (m : MethodId) (args : Array Value) (below : List Frame) (meth : Method) (c : Code) (H : Heap) (locs : List Loc) (ls : Array Slot),
    Lx l M D aC z p s m args meth c → E z b s → z + NN ≤ H.size → XW D aC z w f s H → va_P D vwc (wl z aC σ) H → va_S (AA z s.heap.size) s.heap H locs → lv_has ls (mtL M) (trwL z b w L) →
    W p l e (mtR M) s m args below meth c H locs cu su (G z D aC below args s) (F0 m pc ls (st.map (trw z b w)))
theorem LE.ofA {M : MT} {E : ET} {pc : Nat} {L L' : List (Nat × Value)} {st : List Value} {σ : SS} {f : XF} {cu su : Nat} {G : GT} (h : allA L L') (k : LE M E pc L' st σ f cu su G) : LE M E pc L st σ f cu su G := by
  intro l D aC z b w p e s m args below meth c H locs ls C hE hzz hX hP hS hl
  refine k l D aC z b w p e s m args below meth c H locs ls C hE hzz hX hP hS ⟨hl.1, hl.2.1, fun q hq => ?_⟩
  obtain ⟨r, hr, rfl⟩ := List.mem_map.mp hq
  obtain ⟨j, hj⟩ := lk_pos (allA_mem h r hr)
  exact hl.2.2 _ (List.mem_map.mpr ⟨r, List.mem_of_getElem? hj, rfl⟩)
theorem LE.cu {M : MT} {E : ET} {pc : Nat} {L : List (Nat × Value)} {st : List Value} {σ : SS} {f : XF} {cu cu' su su' : Nat} {G : GT} (h1 : cu = cu') (h2 : su = su') (k : LE M E pc L st σ f cu' su' G) : LE M E pc L st σ f cu su G := by
  subst h1
  subst h2
  exact k
theorem LE.wid {M : MT} {E : ET} {pc : Nat} {L : List (Nat × Value)} {st : List Value} {σ : SS} {f : XF} {cu cu' su su' : Nat} {G : GT} (h1 : cu ≤ cu') (h2 : su ≤ su') (k : LE M E pc L st σ f cu' su' G) : LE M E pc L st σ f cu su G := by
  intro l D aC z b w p e s m args below meth c H locs ls C hE hzz hX hP hS hl
  exact W.widen h1 h2 (k l D aC z b w p e s m args below meth c H locs ls C hE hzz hX hP hS hl)
section LER
variable {M : MT} {E : ET} {pc n : Nat} {L : List (Nat × Value)} {st : List Value} {σ : SS} {f : XF} {cu su : Nat} {G : GT}
theorem LE.iadd {x y : Int32} (hd : decode (mtC M) pc = .ok (.iadd, 1)) (hn : pc + 1 = n) (k : LE M E n L (.int (x + y) :: st) σ f cu su G) : LE M E pc L (.int y :: .int x :: st) σ f cu su G := by
  subst hn
  intro l D aC z b w p e s m args below meth c H locs ls C hE hzz hX hP hS hl
  exact lv_iadd C.2.1 C.2.2.1 hd (k l D aC z b w p e s m args below meth c H locs ls C hE hzz hX hP hS hl)
theorem LE.isub {x y : Int32} (hd : decode (mtC M) pc = .ok (.isub, 1)) (hn : pc + 1 = n) (k : LE M E n L (.int (x - y) :: st) σ f cu su G) : LE M E pc L (.int y :: .int x :: st) σ f cu su G := by
  subst hn
  intro l D aC z b w p e s m args below meth c H locs ls C hE hzz hX hP hS hl
  exact lv_isub C.2.1 C.2.2.1 hd (k l D aC z b w p e s m args below meth c H locs ls C hE hzz hX hP hS hl)
theorem LE.imul {x y : Int32} (hd : decode (mtC M) pc = .ok (.imul, 1)) (hn : pc + 1 = n) (k : LE M E n L (.int (x * y) :: st) σ f cu su G) : LE M E pc L (.int y :: .int x :: st) σ f cu su G := by
  subst hn
  intro l D aC z b w p e s m args below meth c H locs ls C hE hzz hX hP hS hl
  exact lv_imul C.2.1 C.2.2.1 hd (k l D aC z b w p e s m args below meth c H locs ls C hE hzz hX hP hS hl)
theorem LE.iand {x y : Int32} (hd : decode (mtC M) pc = .ok (.iand, 1)) (hn : pc + 1 = n) (k : LE M E n L (.int (x &&& y) :: st) σ f cu su G) : LE M E pc L (.int y :: .int x :: st) σ f cu su G := by
  subst hn
  intro l D aC z b w p e s m args below meth c H locs ls C hE hzz hX hP hS hl
  exact lv_iand C.2.1 C.2.2.1 hd (k l D aC z b w p e s m args below meth c H locs ls C hE hzz hX hP hS hl)
theorem LE.ior {x y : Int32} (hd : decode (mtC M) pc = .ok (.ior, 1)) (hn : pc + 1 = n) (k : LE M E n L (.int (x ||| y) :: st) σ f cu su G) : LE M E pc L (.int y :: .int x :: st) σ f cu su G := by
  subst hn
  intro l D aC z b w p e s m args below meth c H locs ls C hE hzz hX hP hS hl
  exact lv_ior C.2.1 C.2.2.1 hd (k l D aC z b w p e s m args below meth c H locs ls C hE hzz hX hP hS hl)
theorem LE.ishl {x y : Int32} (hd : decode (mtC M) pc = .ok (.ishl, 1)) (hn : pc + 1 = n) (k : LE M E n L (.int (x <<< (y &&& 31)) :: st) σ f cu su G) : LE M E pc L (.int y :: .int x :: st) σ f cu su G := by
  subst hn
  intro l D aC z b w p e s m args below meth c H locs ls C hE hzz hX hP hS hl
  exact lv_ishl C.2.1 C.2.2.1 hd (k l D aC z b w p e s m args below meth c H locs ls C hE hzz hX hP hS hl)
theorem LE.ishr {x y : Int32} (hd : decode (mtC M) pc = .ok (.ishr, 1)) (hn : pc + 1 = n) (k : LE M E n L (.int (x >>> (y &&& 31)) :: st) σ f cu su G) : LE M E pc L (.int y :: .int x :: st) σ f cu su G := by
  subst hn
  intro l D aC z b w p e s m args below meth c H locs ls C hE hzz hX hP hS hl
  exact lv_ishr C.2.1 C.2.2.1 hd (k l D aC z b w p e s m args below meth c H locs ls C hE hzz hX hP hS hl)
theorem LE.idiv {x y : Int32} (hd : decode (mtC M) pc = .ok (.idiv, 1)) (hn : pc + 1 = n) (hz : ¬ y = 0) (k : LE M E n L (.int (x / y) :: st) σ f cu su G) : LE M E pc L (.int y :: .int x :: st) σ f cu su G := by
  subst hn
  intro l D aC z b w p e s m args below meth c H locs ls C hE hzz hX hP hS hl
  exact lv_idiv C.2.1 C.2.2.1 hd hz (k l D aC z b w p e s m args below meth c H locs ls C hE hzz hX hP hS hl)
theorem LE.irem {x y : Int32} (hd : decode (mtC M) pc = .ok (.irem, 1)) (hn : pc + 1 = n) (hz : ¬ y = 0) (k : LE M E n L (.int (x - x / y * y) :: st) σ f cu su G) : LE M E pc L (.int y :: .int x :: st) σ f cu su G := by
  subst hn
  intro l D aC z b w p e s m args below meth c H locs ls C hE hzz hX hP hS hl
  exact lv_irem C.2.1 C.2.2.1 hd hz (k l D aC z b w p e s m args below meth c H locs ls C hE hzz hX hP hS hl)
theorem LE.ineg {x : Int32} (hd : decode (mtC M) pc = .ok (.ineg, 1)) (hn : pc + 1 = n) (k : LE M E n L (.int (-x) :: st) σ f cu su G) : LE M E pc L (.int x :: st) σ f cu su G := by
  subst hn
  intro l D aC z b w p e s m args below meth c H locs ls C hE hzz hX hP hS hl
  exact lv_ineg C.2.1 C.2.2.1 hd (k l D aC z b w p e s m args below meth c H locs ls C hE hzz hX hP hS hl)
theorem LE.iconst {i : Int} (v : Int32) (hd : decode (mtC M) pc = .ok (.iconst i, 1)) (hn : pc + 1 = n) (hv : Int32.ofInt i = v) (k : LE M E n L (.int v :: st) σ f cu su G) : LE M E pc L (st) σ f cu su G := by
  subst hn
  intro l D aC z b w p e s m args below meth c H locs ls C hE hzz hX hP hS hl
  exact lv_iconst C.2.1 C.2.2.1 hd hv (k l D aC z b w p e s m args below meth c H locs ls C hE hzz hX hP hS hl)
theorem LE.bipush {i : Int} (v : Int32) (hd : decode (mtC M) pc = .ok (.bipush i, 2)) (hn : pc + 2 = n) (hv : (Int8.ofInt i).toInt32 = v) (k : LE M E n L (.int v :: st) σ f cu su G) : LE M E pc L (st) σ f cu su G := by
  subst hn
  intro l D aC z b w p e s m args below meth c H locs ls C hE hzz hX hP hS hl
  exact lv_bipush C.2.1 C.2.2.1 hd hv (k l D aC z b w p e s m args below meth c H locs ls C hE hzz hX hP hS hl)
theorem LE.sipush {i : Int} (v : Int32) (hd : decode (mtC M) pc = .ok (.sipush i, 3)) (hn : pc + 3 = n) (hv : (Int16.ofInt i).toInt32 = v) (k : LE M E n L (.int v :: st) σ f cu su G) : LE M E pc L (st) σ f cu su G := by
  subst hn
  intro l D aC z b w p e s m args below meth c H locs ls C hE hzz hX hP hS hl
  exact lv_sipush C.2.1 C.2.2.1 hd hv (k l D aC z b w p e s m args below meth c H locs ls C hE hzz hX hP hS hl)
theorem LE.i2l {x : Int32} (hd : decode (mtC M) pc = .ok (.i2l, 1)) (hn : pc + 1 = n) (k : LE M E n L (.long x.toInt64 :: st) σ f cu su G) : LE M E pc L (.int x :: st) σ f cu su G := by
  subst hn
  intro l D aC z b w p e s m args below meth c H locs ls C hE hzz hX hP hS hl
  exact lv_i2l C.2.1 C.2.2.1 hd rfl (k l D aC z b w p e s m args below meth c H locs ls C hE hzz hX hP hS hl)
theorem LE.i2c {x : Int32} (hd : decode (mtC M) pc = .ok (.i2c, 1)) (hn : pc + 1 = n) (k : LE M E n L (.int ((x.toUInt32 % 65536).toInt32) :: st) σ f cu su G) : LE M E pc L (.int x :: st) σ f cu su G := by
  subst hn
  intro l D aC z b w p e s m args below meth c H locs ls C hE hzz hX hP hS hl
  exact lv_i2c C.2.1 C.2.2.1 hd rfl (k l D aC z b w p e s m args below meth c H locs ls C hE hzz hX hP hS hl)
theorem LE.iload_n {j : Fin 4} {x : Int32} (hd : decode (mtC M) pc = .ok (.iload_n j, 1)) (hn : pc + 1 = n) (hk : lkL j.val L = some (.int x)) (k : LE M E n L (.int x :: st) σ f cu su G) : LE M E pc L st σ f cu su G := by
  subst hn
  intro l D aC z b w p e s m args below meth c H locs ls C hE hzz hX hP hS hl
  exact lv_iload_n C.2.1 C.2.2.1 hd rfl (lkw_has hl hk) (k l D aC z b w p e s m args below meth c H locs ls C hE hzz hX hP hS hl)
theorem LE.iload {j : Nat} {x : Int32} (hd : decode (mtC M) pc = .ok (.iload j, 2)) (hn : pc + 2 = n) (hk : lkL j L = some (.int x)) (k : LE M E n L (.int x :: st) σ f cu su G) : LE M E pc L st σ f cu su G := by
  subst hn
  intro l D aC z b w p e s m args below meth c H locs ls C hE hzz hX hP hS hl
  exact lv_iload C.2.1 C.2.2.1 hd (lkw_has hl hk) (k l D aC z b w p e s m args below meth c H locs ls C hE hzz hX hP hS hl)
theorem LE.istore_n {j : Fin 4} {x : Int32} (hd : decode (mtC M) pc = .ok (.istore_n j, 1)) (hn : pc + 1 = n) (hj : j.val < mtL M) (k : LE M E n (stL j.val (.int x) L) st σ f cu su G) : LE M E pc L (.int x :: st) σ f cu su G := by
  subst hn
  intro l D aC z b w p e s m args below meth c H locs ls C hE hzz hX hP hS hl
  exact lv_istore_n C.2.1 C.2.2.1 hd rfl hl hj (trwL_st z b w j.val (.int x) L) (fun ls hl => k l D aC z b w p e s m args below meth c H locs ls C hE hzz hX hP hS hl)
theorem LE.istore {j : Nat} {x : Int32} (hd : decode (mtC M) pc = .ok (.istore j, 2)) (hn : pc + 2 = n) (hj : j < mtL M) (k : LE M E n (stL j (.int x) L) st σ f cu su G) : LE M E pc L (.int x :: st) σ f cu su G := by
  subst hn
  intro l D aC z b w p e s m args below meth c H locs ls C hE hzz hX hP hS hl
  exact lv_istore C.2.1 C.2.2.1 hd hl hj (trwL_st z b w j (.int x) L) (fun ls hl => k l D aC z b w p e s m args below meth c H locs ls C hE hzz hX hP hS hl)
theorem LE.aload_n {j : Fin 4} {x : Nat} (hd : decode (mtC M) pc = .ok (.aload_n j, 1)) (hn : pc + 1 = n) (hk : lkL j.val L = some (.ref x)) (k : LE M E n L (.ref x :: st) σ f cu su G) : LE M E pc L st σ f cu su G := by
  subst hn
  intro l D aC z b w p e s m args below meth c H locs ls C hE hzz hX hP hS hl
  exact lv_aload_n C.2.1 C.2.2.1 hd rfl (lkw_has hl hk) (k l D aC z b w p e s m args below meth c H locs ls C hE hzz hX hP hS hl)
theorem LE.aload {j : Nat} {x : Nat} (hd : decode (mtC M) pc = .ok (.aload j, 2)) (hn : pc + 2 = n) (hk : lkL j L = some (.ref x)) (k : LE M E n L (.ref x :: st) σ f cu su G) : LE M E pc L st σ f cu su G := by
  subst hn
  intro l D aC z b w p e s m args below meth c H locs ls C hE hzz hX hP hS hl
  exact lv_aload C.2.1 C.2.2.1 hd (lkw_has hl hk) (k l D aC z b w p e s m args below meth c H locs ls C hE hzz hX hP hS hl)
theorem LE.astore_n {j : Fin 4} {x : Nat} (hd : decode (mtC M) pc = .ok (.astore_n j, 1)) (hn : pc + 1 = n) (hj : j.val < mtL M) (k : LE M E n (stL j.val (.ref x) L) st σ f cu su G) : LE M E pc L (.ref x :: st) σ f cu su G := by
  subst hn
  intro l D aC z b w p e s m args below meth c H locs ls C hE hzz hX hP hS hl
  exact lv_astore_n C.2.1 C.2.2.1 hd rfl hl hj (trwL_st z b w j.val (.ref x) L) (fun ls hl => k l D aC z b w p e s m args below meth c H locs ls C hE hzz hX hP hS hl)
theorem LE.astore {j : Nat} {x : Nat} (hd : decode (mtC M) pc = .ok (.astore j, 2)) (hn : pc + 2 = n) (hj : j < mtL M) (k : LE M E n (stL j (.ref x) L) st σ f cu su G) : LE M E pc L (.ref x :: st) σ f cu su G := by
  subst hn
  intro l D aC z b w p e s m args below meth c H locs ls C hE hzz hX hP hS hl
  exact lv_astore C.2.1 C.2.2.1 hd hl hj (trwL_st z b w j (.ref x) L) (fun ls hl => k l D aC z b w p e s m args below meth c H locs ls C hE hzz hX hP hS hl)
theorem LE.iincV {j : Nat} {i : Int} {x : Int32} (v : Int32) (hd : decode (mtC M) pc = .ok (.iinc j i, 3)) (hn : pc + 3 = n) (hk : lkL j L = some (.int x)) (hj : j < mtL M) (hv : x + Int32.ofInt i = v) (k : LE M E n (stL j (.int v) L) st σ f cu su G) : LE M E pc L st σ f cu su G := by
  subst hn
  subst hv
  intro l D aC z b w p e s m args below meth c H locs ls C hE hzz hX hP hS hl
  obtain ⟨q, hq⟩ := lk_pos hk
  exact lv_iinc C.2.1 C.2.2.1 hd hl (trwL_at hq) rfl hj (trwL_st z b w j (.int (x + Int32.ofInt i)) L) (fun ls hl => k l D aC z b w p e s m args below meth c H locs ls C hE hzz hX hP hS hl)
theorem LE.iinc {j : Nat} {i : Int} {x : Int32} (hd : decode (mtC M) pc = .ok (.iinc j i, 3)) (hn : pc + 3 = n) (hk : lkL j L = some (.int x)) (hj : j < mtL M) (k : LE M E n (stL j (.int (x + Int32.ofInt i)) L) st σ f cu su G) : LE M E pc L st σ f cu su G := by
  subst hn
  intro l D aC z b w p e s m args below meth c H locs ls C hE hzz hX hP hS hl
  obtain ⟨q, hq⟩ := lk_pos hk
  exact lv_iinc C.2.1 C.2.2.1 hd hl (trwL_at hq) rfl hj (trwL_st z b w j (.int (x + Int32.ofInt i)) L) (fun ls hl => k l D aC z b w p e s m args below meth c H locs ls C hE hzz hX hP hS hl)
theorem LE.if_eq {x : Int32} {off : Int} {tgt : Nat} (hd : decode (mtC M) pc = .ok (.ifCond .eq off, 3)) (hn : pc + 3 = n) (ht : (pc : Int) + off = (tgt : Int)) (kt : x = 0 → LE M E tgt L st σ f cu su G) (kf : ¬ x = 0 → LE M E n L st σ f cu su G) : LE M E pc L (.int x :: st) σ f cu su G := by
  subst hn
  intro l D aC z b w p e s m args below meth c H locs ls C hE hzz hX hP hS hl
  exact lv_if_eq C.2.1 C.2.2.1 hd ht (fun q => kt q l D aC z b w p e s m args below meth c H locs ls C hE hzz hX hP hS hl) (fun q => kf q l D aC z b w p e s m args below meth c H locs ls C hE hzz hX hP hS hl)
theorem LE.icmp_eq {x y : Int32} {off : Int} {tgt : Nat} (hd : decode (mtC M) pc = .ok (.if_icmp .eq off, 3)) (hn : pc + 3 = n) (ht : (pc : Int) + off = (tgt : Int)) (kt : x = y → LE M E tgt L st σ f cu su G) (kf : ¬ x = y → LE M E n L st σ f cu su G) : LE M E pc L (.int y :: .int x :: st) σ f cu su G := by
  subst hn
  intro l D aC z b w p e s m args below meth c H locs ls C hE hzz hX hP hS hl
  exact lv_icmp_eq C.2.1 C.2.2.1 hd ht (fun q => kt q l D aC z b w p e s m args below meth c H locs ls C hE hzz hX hP hS hl) (fun q => kf q l D aC z b w p e s m args below meth c H locs ls C hE hzz hX hP hS hl)
theorem LE.if_ne {x : Int32} {off : Int} {tgt : Nat} (hd : decode (mtC M) pc = .ok (.ifCond .ne off, 3)) (hn : pc + 3 = n) (ht : (pc : Int) + off = (tgt : Int)) (kt : ¬ x = 0 → LE M E tgt L st σ f cu su G) (kf : x = 0 → LE M E n L st σ f cu su G) : LE M E pc L (.int x :: st) σ f cu su G := by
  subst hn
  intro l D aC z b w p e s m args below meth c H locs ls C hE hzz hX hP hS hl
  exact lv_if_ne C.2.1 C.2.2.1 hd ht (fun q => kt q l D aC z b w p e s m args below meth c H locs ls C hE hzz hX hP hS hl) (fun q => kf q l D aC z b w p e s m args below meth c H locs ls C hE hzz hX hP hS hl)
theorem LE.icmp_ne {x y : Int32} {off : Int} {tgt : Nat} (hd : decode (mtC M) pc = .ok (.if_icmp .ne off, 3)) (hn : pc + 3 = n) (ht : (pc : Int) + off = (tgt : Int)) (kt : ¬ x = y → LE M E tgt L st σ f cu su G) (kf : x = y → LE M E n L st σ f cu su G) : LE M E pc L (.int y :: .int x :: st) σ f cu su G := by
  subst hn
  intro l D aC z b w p e s m args below meth c H locs ls C hE hzz hX hP hS hl
  exact lv_icmp_ne C.2.1 C.2.2.1 hd ht (fun q => kt q l D aC z b w p e s m args below meth c H locs ls C hE hzz hX hP hS hl) (fun q => kf q l D aC z b w p e s m args below meth c H locs ls C hE hzz hX hP hS hl)
theorem LE.if_lt {x : Int32} {off : Int} {tgt : Nat} (hd : decode (mtC M) pc = .ok (.ifCond .lt off, 3)) (hn : pc + 3 = n) (ht : (pc : Int) + off = (tgt : Int)) (kt : x < 0 → LE M E tgt L st σ f cu su G) (kf : ¬ x < 0 → LE M E n L st σ f cu su G) : LE M E pc L (.int x :: st) σ f cu su G := by
  subst hn
  intro l D aC z b w p e s m args below meth c H locs ls C hE hzz hX hP hS hl
  exact lv_if_lt C.2.1 C.2.2.1 hd ht (fun q => kt q l D aC z b w p e s m args below meth c H locs ls C hE hzz hX hP hS hl) (fun q => kf q l D aC z b w p e s m args below meth c H locs ls C hE hzz hX hP hS hl)
theorem LE.icmp_lt {x y : Int32} {off : Int} {tgt : Nat} (hd : decode (mtC M) pc = .ok (.if_icmp .lt off, 3)) (hn : pc + 3 = n) (ht : (pc : Int) + off = (tgt : Int)) (kt : x < y → LE M E tgt L st σ f cu su G) (kf : ¬ x < y → LE M E n L st σ f cu su G) : LE M E pc L (.int y :: .int x :: st) σ f cu su G := by
  subst hn
  intro l D aC z b w p e s m args below meth c H locs ls C hE hzz hX hP hS hl
  exact lv_icmp_lt C.2.1 C.2.2.1 hd ht (fun q => kt q l D aC z b w p e s m args below meth c H locs ls C hE hzz hX hP hS hl) (fun q => kf q l D aC z b w p e s m args below meth c H locs ls C hE hzz hX hP hS hl)
theorem LE.if_ge {x : Int32} {off : Int} {tgt : Nat} (hd : decode (mtC M) pc = .ok (.ifCond .ge off, 3)) (hn : pc + 3 = n) (ht : (pc : Int) + off = (tgt : Int)) (kt : 0 ≤ x → LE M E tgt L st σ f cu su G) (kf : ¬ 0 ≤ x → LE M E n L st σ f cu su G) : LE M E pc L (.int x :: st) σ f cu su G := by
  subst hn
  intro l D aC z b w p e s m args below meth c H locs ls C hE hzz hX hP hS hl
  exact lv_if_ge C.2.1 C.2.2.1 hd ht (fun q => kt q l D aC z b w p e s m args below meth c H locs ls C hE hzz hX hP hS hl) (fun q => kf q l D aC z b w p e s m args below meth c H locs ls C hE hzz hX hP hS hl)
theorem LE.icmp_ge {x y : Int32} {off : Int} {tgt : Nat} (hd : decode (mtC M) pc = .ok (.if_icmp .ge off, 3)) (hn : pc + 3 = n) (ht : (pc : Int) + off = (tgt : Int)) (kt : y ≤ x → LE M E tgt L st σ f cu su G) (kf : ¬ y ≤ x → LE M E n L st σ f cu su G) : LE M E pc L (.int y :: .int x :: st) σ f cu su G := by
  subst hn
  intro l D aC z b w p e s m args below meth c H locs ls C hE hzz hX hP hS hl
  exact lv_icmp_ge C.2.1 C.2.2.1 hd ht (fun q => kt q l D aC z b w p e s m args below meth c H locs ls C hE hzz hX hP hS hl) (fun q => kf q l D aC z b w p e s m args below meth c H locs ls C hE hzz hX hP hS hl)
theorem LE.if_gt {x : Int32} {off : Int} {tgt : Nat} (hd : decode (mtC M) pc = .ok (.ifCond .gt off, 3)) (hn : pc + 3 = n) (ht : (pc : Int) + off = (tgt : Int)) (kt : 0 < x → LE M E tgt L st σ f cu su G) (kf : ¬ 0 < x → LE M E n L st σ f cu su G) : LE M E pc L (.int x :: st) σ f cu su G := by
  subst hn
  intro l D aC z b w p e s m args below meth c H locs ls C hE hzz hX hP hS hl
  exact lv_if_gt C.2.1 C.2.2.1 hd ht (fun q => kt q l D aC z b w p e s m args below meth c H locs ls C hE hzz hX hP hS hl) (fun q => kf q l D aC z b w p e s m args below meth c H locs ls C hE hzz hX hP hS hl)
theorem LE.icmp_gt {x y : Int32} {off : Int} {tgt : Nat} (hd : decode (mtC M) pc = .ok (.if_icmp .gt off, 3)) (hn : pc + 3 = n) (ht : (pc : Int) + off = (tgt : Int)) (kt : y < x → LE M E tgt L st σ f cu su G) (kf : ¬ y < x → LE M E n L st σ f cu su G) : LE M E pc L (.int y :: .int x :: st) σ f cu su G := by
  subst hn
  intro l D aC z b w p e s m args below meth c H locs ls C hE hzz hX hP hS hl
  exact lv_icmp_gt C.2.1 C.2.2.1 hd ht (fun q => kt q l D aC z b w p e s m args below meth c H locs ls C hE hzz hX hP hS hl) (fun q => kf q l D aC z b w p e s m args below meth c H locs ls C hE hzz hX hP hS hl)
theorem LE.if_le {x : Int32} {off : Int} {tgt : Nat} (hd : decode (mtC M) pc = .ok (.ifCond .le off, 3)) (hn : pc + 3 = n) (ht : (pc : Int) + off = (tgt : Int)) (kt : x ≤ 0 → LE M E tgt L st σ f cu su G) (kf : ¬ x ≤ 0 → LE M E n L st σ f cu su G) : LE M E pc L (.int x :: st) σ f cu su G := by
  subst hn
  intro l D aC z b w p e s m args below meth c H locs ls C hE hzz hX hP hS hl
  exact lv_if_le C.2.1 C.2.2.1 hd ht (fun q => kt q l D aC z b w p e s m args below meth c H locs ls C hE hzz hX hP hS hl) (fun q => kf q l D aC z b w p e s m args below meth c H locs ls C hE hzz hX hP hS hl)
theorem LE.icmp_le {x y : Int32} {off : Int} {tgt : Nat} (hd : decode (mtC M) pc = .ok (.if_icmp .le off, 3)) (hn : pc + 3 = n) (ht : (pc : Int) + off = (tgt : Int)) (kt : x ≤ y → LE M E tgt L st σ f cu su G) (kf : ¬ x ≤ y → LE M E n L st σ f cu su G) : LE M E pc L (.int y :: .int x :: st) σ f cu su G := by
  subst hn
  intro l D aC z b w p e s m args below meth c H locs ls C hE hzz hX hP hS hl
  exact lv_icmp_le C.2.1 C.2.2.1 hd ht (fun q => kt q l D aC z b w p e s m args below meth c H locs ls C hE hzz hX hP hS hl) (fun q => kf q l D aC z b w p e s m args below meth c H locs ls C hE hzz hX hP hS hl)
theorem LE.goto {off : Int} {tgt : Nat} (hd : decode (mtC M) pc = .ok (.goto off, 3)) (ht : (pc : Int) + off = (tgt : Int)) (k : LE M E tgt L st σ f cu su G) : LE M E pc L st σ f cu su G := by
  intro l D aC z b w p e s m args below meth c H locs ls C hE hzz hX hP hS hl
  exact lv_goto C.2.1 C.2.2.1 hd ht (k l D aC z b w p e s m args below meth c H locs ls C hE hzz hX hP hS hl)
theorem LE.tsw {dflt lo hi : Int} {offs : Array Int} {len : Nat} {x : Int32} {off : Int} {tgt : Nat} (hd : decode (mtC M) pc = .ok (.tableswitch dflt lo hi offs, len)) (v : Int) (hv : x.toInt = v) (h1 : ¬ v < lo) (h2 : ¬ hi < v) (ho : offs[(v - lo).toNat]? = some off) (ht : (pc : Int) + off = (tgt : Int)) (k : LE M E tgt L st σ f cu su G) : LE M E pc L (.int x :: st) σ f cu su G := by
  subst hv
  intro l D aC z b w p e s m args below meth c H locs ls C hE hzz hX hP hS hl
  exact lv_tableIn C.2.1 C.2.2.1 hd h1 h2 ho ht (k l D aC z b w p e s m args below meth c H locs ls C hE hzz hX hP hS hl)
theorem LE.tswO {dflt lo hi : Int} {offs : Array Int} {len : Nat} {x : Int32} {tgt : Nat} (hd : decode (mtC M) pc = .ok (.tableswitch dflt lo hi offs, len)) (h : x.toInt < lo ∨ hi < x.toInt) (ht : (pc : Int) + dflt = (tgt : Int)) (k : LE M E tgt L st σ f cu su G) : LE M E pc L (.int x :: st) σ f cu su G := by
  intro l D aC z b w p e s m args below meth c H locs ls C hE hzz hX hP hS hl
  exact lv_tableOut C.2.1 C.2.2.1 hd h ht (k l D aC z b w p e s m args below meth c H locs ls C hE hzz hX hP hS hl)
theorem LE.lsw {dflt : Int} {ps : Array (Int × Int)} {len : Nat} {x : Int32} {off : Int} {tgt : Nat} (hd : decode (mtC M) pc = .ok (.lookupswitch dflt ps, len)) (hp : (ps.toList.zip (ps.toList.drop 1)).all (fun (a, next) => a.1 < next.1) = true) (ho : Op.lookupswitch.offset ps.toList dflt x.toInt = off) (ht : (pc : Int) + off = (tgt : Int)) (k : LE M E tgt L st σ f cu su G) : LE M E pc L (.int x :: st) σ f cu su G := by
  intro l D aC z b w p e s m args below meth c H locs ls C hE hzz hX hP hS hl
  exact lv_lookup C.2.1 C.2.2.1 hd hp ho ht (k l D aC z b w p e s m args below meth c H locs ls C hE hzz hX hP hS hl)
theorem LE.ladd {x y : Int64} (hd : decode (mtC M) pc = .ok (.ladd, 1)) (hn : pc + 1 = n) (k : LE M E n L (.long (x + y) :: st) σ f cu su G) : LE M E pc L (.long y :: .long x :: st) σ f cu su G := by
  subst hn
  intro l D aC z b w p e s m args below meth c H locs ls C hE hzz hX hP hS hl
  exact lv_ladd C.2.1 C.2.2.1 hd (k l D aC z b w p e s m args below meth c H locs ls C hE hzz hX hP hS hl)
theorem LE.lmul {x y : Int64} (hd : decode (mtC M) pc = .ok (.lmul, 1)) (hn : pc + 1 = n) (k : LE M E n L (.long (x * y) :: st) σ f cu su G) : LE M E pc L (.long y :: .long x :: st) σ f cu su G := by
  subst hn
  intro l D aC z b w p e s m args below meth c H locs ls C hE hzz hX hP hS hl
  exact lv_lmul C.2.1 C.2.2.1 hd (k l D aC z b w p e s m args below meth c H locs ls C hE hzz hX hP hS hl)
theorem LE.lcmp {x y : Int64} (hd : decode (mtC M) pc = .ok (.lcmp, 1)) (hn : pc + 1 = n) (k : LE M E n L (.int (lg_cmp x y) :: st) σ f cu su G) : LE M E pc L (.long y :: .long x :: st) σ f cu su G := by
  subst hn
  intro l D aC z b w p e s m args below meth c H locs ls C hE hzz hX hP hS hl
  exact W.lcmp C.2.1 C.2.2.1 hd (k l D aC z b w p e s m args below meth c H locs ls C hE hzz hX hP hS hl)
theorem LE.dcmp {x y : UInt64} {o : CmpOp} (hd : decode (mtC M) pc = .ok (.dcmp o, 1)) (hn : pc + 1 = n) (k : LE M E n L (.int (Op.cmpValue (FP.dcmp x y) o) :: st) σ f cu su G) : LE M E pc L (.double y :: .double x :: st) σ f cu su G := by
  subst hn
  intro l D aC z b w p e s m args below meth c H locs ls C hE hzz hX hP hS hl
  exact lv_dcmp C.2.1 C.2.2.1 hd (k l D aC z b w p e s m args below meth c H locs ls C hE hzz hX hP hS hl)
theorem LE.fcmp {x y : UInt32} {o : CmpOp} (hd : decode (mtC M) pc = .ok (.fcmp o, 1)) (hn : pc + 1 = n) (k : LE M E n L (.int (Op.cmpValue (FP.fcmp x y) o) :: st) σ f cu su G) : LE M E pc L (.float y :: .float x :: st) σ f cu su G := by
  subst hn
  intro l D aC z b w p e s m args below meth c H locs ls C hE hzz hX hP hS hl
  exact lv_fcmp C.2.1 C.2.2.1 hd (k l D aC z b w p e s m args below meth c H locs ls C hE hzz hX hP hS hl)
theorem LE.ixor {x y : Int32} (hd : decode (mtC M) pc = .ok (.ixor, 1)) (hn : pc + 1 = n) (k : LE M E n L (.int (x ^^^ y) :: st) σ f cu su G) : LE M E pc L (.int y :: .int x :: st) σ f cu su G := by
  subst hn
  intro l D aC z b w p e s m args below meth c H locs ls C hE hzz hX hP hS hl
  exact lv_ixor C.2.1 C.2.2.1 hd (k l D aC z b w p e s m args below meth c H locs ls C hE hzz hX hP hS hl)
theorem LE.lload_n {j : Fin 4} {x : Int64} (hd : decode (mtC M) pc = .ok (.lload_n j, 1)) (hn : pc + 1 = n) (hk : lkL j.val L = some (.long x)) (k : LE M E n L (.long x :: st) σ f cu su G) : LE M E pc L (st) σ f cu su G := by
  subst hn
  intro l D aC z b w p e s m args below meth c H locs ls C hE hzz hX hP hS hl
  exact lv_lload_n C.2.1 C.2.2.1 hd rfl (lkw_has hl hk) (k l D aC z b w p e s m args below meth c H locs ls C hE hzz hX hP hS hl)
theorem LE.lload {j : Nat} {x : Int64} (hd : decode (mtC M) pc = .ok (.lload j, 2)) (hn : pc + 2 = n) (hk : lkL j L = some (.long x)) (k : LE M E n L (.long x :: st) σ f cu su G) : LE M E pc L (st) σ f cu su G := by
  subst hn
  intro l D aC z b w p e s m args below meth c H locs ls C hE hzz hX hP hS hl
  exact lv_lload C.2.1 C.2.2.1 hd (lkw_has hl hk) (k l D aC z b w p e s m args below meth c H locs ls C hE hzz hX hP hS hl)
theorem LE.dload_n {j : Fin 4} {x : UInt64} (hd : decode (mtC M) pc = .ok (.dload_n j, 1)) (hn : pc + 1 = n) (hk : lkL j.val L = some (.double x)) (k : LE M E n L (.double x :: st) σ f cu su G) : LE M E pc L (st) σ f cu su G := by
  subst hn
  intro l D aC z b w p e s m args below meth c H locs ls C hE hzz hX hP hS hl
  exact lv_dload_n C.2.1 C.2.2.1 hd rfl (lkw_has hl hk) (k l D aC z b w p e s m args below meth c H locs ls C hE hzz hX hP hS hl)
theorem LE.fload_n {j : Fin 4} {x : UInt32} (hd : decode (mtC M) pc = .ok (.fload_n j, 1)) (hn : pc + 1 = n) (hk : lkL j.val L = some (.float x)) (k : LE M E n L (.float x :: st) σ f cu su G) : LE M E pc L (st) σ f cu su G := by
  subst hn
  intro l D aC z b w p e s m args below meth c H locs ls C hE hzz hX hP hS hl
  exact lv_fload_n C.2.1 C.2.2.1 hd rfl (lkw_has hl hk) (k l D aC z b w p e s m args below meth c H locs ls C hE hzz hX hP hS hl)
theorem LE.fconst0 (hd : decode (mtC M) pc = .ok (.fconst 0, 1)) (hn : pc + 1 = n) (k : LE M E n L (.float 0 :: st) σ f cu su G) : LE M E pc L (st) σ f cu su G := by
  subst hn
  intro l D aC z b w p e s m args below meth c H locs ls C hE hzz hX hP hS hl
  exact lv_fconst0 C.2.1 C.2.2.1 hd (k l D aC z b w p e s m args below meth c H locs ls C hE hzz hX hP hS hl)
theorem LE.i2lV {x : Int32} (v : Int64) (hd : decode (mtC M) pc = .ok (.i2l, 1)) (hn : pc + 1 = n) (hv : x.toInt64 = v) (k : LE M E n L (.long v :: st) σ f cu su G) : LE M E pc L (.int x :: st) σ f cu su G := by
  subst hn
  intro l D aC z b w p e s m args below meth c H locs ls C hE hzz hX hP hS hl
  exact lv_i2l C.2.1 C.2.2.1 hd hv (k l D aC z b w p e s m args below meth c H locs ls C hE hzz hX hP hS hl)
theorem LE.ldc2 {idx : Nat} {v : Int64} (hd : decode (mtC M) pc = .ok (.ldc2_w idx, 3)) (hn : pc + 3 = n) (hc : Cond.constantLong (mtY M).cls idx v ∈ lw_tbl) (k : LE M E n L (.long v :: st) σ f cu su G) : LE M E pc L (st) σ f cu su G := by
  subst hn
  intro l D aC z b w p e s m args below meth c H locs ls C hE hzz hX hP hS hl
  exact lv_ldc2 (v := v) C.2.1 C.2.2.1 C.2.2.2.2.2.1 (va_Nw.use rfl (C.2.2.2.2.2.2.2.2.1.1 _ hc rfl)) hd (k l D aC z b w p e s m args below meth c H locs ls C hE hzz hX hP hS hl)
theorem LE.ldcI {idx : Nat} {v : Int32} (hd : decode (mtC M) pc = .ok (.ldc idx, 2)) (hn : pc + 2 = n) (hc : Cond.constant (mtY M).cls idx v ∈ lw_tbl) (k : LE M E n L (.int v :: st) σ f cu su G) : LE M E pc L (st) σ f cu su G := by
  subst hn
  intro l D aC z b w p e s m args below meth c H locs ls C hE hzz hX hP hS hl
  exact lv_ldc (v := v) C.2.1 C.2.2.1 C.2.2.2.2.2.1 (va_Nw.use rfl (C.2.2.2.2.2.2.2.2.1.1 _ hc rfl)) hd (k l D aC z b w p e s m args below meth c H locs ls C hE hzz hX hP hS hl)
theorem LE.lstore_n {j : Fin 4} {x : Int64} (hd : decode (mtC M) pc = .ok (.lstore_n j, 1)) (hn : pc + 1 = n) (hj : j.val + 1 < mtL M) (k : LE M E n (stL2 j.val (.long x) L) st σ f cu su G) : LE M E pc L (.long x :: st) σ f cu su G := by
  subst hn
  intro l D aC z b w p e s m args below meth c H locs ls C hE hzz hX hP hS hl
  exact lv_lstore_n C.2.1 C.2.2.1 hd rfl hl hj (trwL_st2 z b w j.val (.long x) L) (fun ls hl => k l D aC z b w p e s m args below meth c H locs ls C hE hzz hX hP hS hl)
theorem LE.lstore {j : Nat} {x : Int64} (hd : decode (mtC M) pc = .ok (.lstore j, 2)) (hn : pc + 2 = n) (hj : j + 1 < mtL M) (k : LE M E n (stL2 j (.long x) L) st σ f cu su G) : LE M E pc L (.long x :: st) σ f cu su G := by
  subst hn
  intro l D aC z b w p e s m args below meth c H locs ls C hE hzz hX hP hS hl
  exact lv_lstore C.2.1 C.2.2.1 hd hl hj (trwL_st2 z b w j (.long x) L) (fun ls hl => k l D aC z b w p e s m args below meth c H locs ls C hE hzz hX hP hS hl)
theorem LE.ldcf {idx : Nat} {v : UInt32} (hd : decode (mtC M) pc = .ok (.ldc idx, 2)) (hn : pc + 2 = n) (hc : Cond.constantFloat (mtY M).cls idx v ∈ lw_tbl) (k : LE M E n L (.float v :: st) σ f cu su G) : LE M E pc L st σ f cu su G := by
  subst hn
  intro l D aC z b w p e s m args below meth c H locs ls C hE hzz hX hP hS hl
  exact lv_ldcf (v := v) C.2.1 C.2.2.1 C.2.2.2.2.2.1 (va_Nw.use rfl (C.2.2.2.2.2.2.2.2.1.1 _ hc rfl)) hd (k l D aC z b w p e s m args below meth c H locs ls C hE hzz hX hP hS hl)
theorem LE.ldc2d {idx : Nat} {v : UInt64} (hd : decode (mtC M) pc = .ok (.ldc2_w idx, 3)) (hn : pc + 3 = n) (hc : Cond.constantDouble (mtY M).cls idx v ∈ lw_tbl) (k : LE M E n L (.double v :: st) σ f cu su G) : LE M E pc L st σ f cu su G := by
  subst hn
  intro l D aC z b w p e s m args below meth c H locs ls C hE hzz hX hP hS hl
  exact lv_ldc2d (v := v) C.2.1 C.2.2.1 C.2.2.2.2.2.1 (va_Nw.use rfl (C.2.2.2.2.2.2.2.2.1.1 _ hc rfl)) hd (k l D aC z b w p e s m args below meth c H locs ls C hE hzz hX hP hS hl)
end LER
section LES
variable {M : MT} {E : ET} {pc n : Nat} {L : List (Nat × Value)} {st : List Value} {σ : SS} {f : XF} {cu su : Nat} {G : GT}
/-- the script stands outside -/
def SX (Ls : Nat) (xs : Nat → Int32) : ET := fun z b s => va_X b Ls xs s s.heap ∧ b < s.heap.size ∧ ¬ AA z s.heap.size b
theorem LE.sld {Ls : Nat} {xs : Nat → Int32} {k : Nat} {i : Int32} (hE9 : ∀ z b s, E z b s → SX Ls xs z b s) (hd : decode (mtC M) pc = .ok (.iaload, 1)) (hn : pc + 1 = n) (hi : i = nI k) (hk : k < Ls ∧ Ls < 2 ^ 31) (kk : LE M E n L (.int (xs k) :: st) σ f cu su G) : LE M E pc L (.int i :: .ref SP :: st) σ f cu su G := by
  subst hn
  subst hi
  intro l D aC z b w p e s m args below meth c H locs ls C hE hzz hX hP hS hl
  obtain ⟨x1, x2, x3⟩ := hE9 _ _ _ hE
  have := va_sld (Q := G z D aC below args s) C.2.1 C.2.2.1 x1 x2 x3 hS (vp_in_nI hk.1 hk.2) hd (rest := st.map (trw z b w)) (ls := ls) (p := p) (l := l) (e := e) (R := mtR M) (m := m) (args := args) (below := below) (meth := meth) (cells := cu) (slots := su) (by
    rw [nI_clamp (by omega)]
    exact kk l D aC z b w p e s m args below meth c H locs ls C hE hzz hX hP hS hl)
  exact this
theorem LE.slen {Ls : Nat} {xs : Nat → Int32} (hE9 : ∀ z b s, E z b s → SX Ls xs z b s) (hd : decode (mtC M) pc = .ok (.arraylength, 1)) (hn : pc + 1 = n) (kk : LE M E n L (.int (nI Ls) :: st) σ f cu su G) : LE M E pc L (.ref SP :: st) σ f cu su G := by
  subst hn
  intro l D aC z b w p e s m args below meth c H locs ls C hE hzz hX hP hS hl
  obtain ⟨x1, x2, x3⟩ := hE9 _ _ _ hE
  exact va_slen (Q := G z D aC below args s) C.2.1 C.2.2.1 x1 x2 x3 hS hd (rest := st.map (trw z b w)) (ls := ls) (p := p) (l := l) (e := e) (R := mtR M) (m := m) (args := args) (below := below) (meth := meth) (cells := cu) (slots := su) (kk l D aC z b w p e s m args below meth c H locs ls C hE hzz hX hP hS hl)
end LES
section LEC
theorem wl_size {D : va_G} {aC : Nat → ClassId} {z : Nat} {σ : SS} {H : Heap} (hP : va_P D vwc (wl z aC σ) H) : z + NN ≤ H.size := by
  have := (hP 394 _ (wl_at z aC σ (by decide))).lt
  show z + 395 ≤ _
  have h2 : z + 394 < H.size := this
  omega
theorem Lx.zq {l : Launch} {M : MT} {D : va_G} {aC : Nat → ClassId} {z : Nat} {p : Program} {s U : State} {m : MethodId} {args : Array Value} {meth : Method} {c : Code} {H : Heap} {locs : List Loc} (C : Lx l M D aC z p s m args meth c) (hS : va_S (AA z s.heap.size) s.heap H locs) (hU : U.heap = H) (hW : s.WarmedH U.vm) : ZQ (AA z H.size) U U.heap := by
  have hZ := C.2.2.2.2.2.2.2.2.2.1
  have hn : ∀ q, AA z H.size q → AA z s.heap.size q := by
    intro q hq
    rcases hq with hq | hq
    · exact Or.inl hq
    · exact Or.inr (Nat.le_trans hS.1 hq)
  rw [hU]
  exact ⟨vx_Zq.moved hW.alike ((hZ.1.kept hS.2.1).narrow hn), vx_Zq.moved hW.alike ((hZ.2.1.kept hS.2.1).narrow hn), ZS.go hW hZ.2.2 hS.2.1 hn⟩
theorem Lx.sw {l : Launch} {M : MT} {D : va_G} {aC : Nat → ClassId} {z : Nat} {p : Program} {s U : State} {m : MethodId} {args : Array Value} {meth : Method} {c : Code} {H : Heap} {locs : List Loc} {σ : SS} (C : Lx l M D aC z p s m args meth c) (hz : z + NN ≤ H.size) (hP : va_P D vwc (wl z aC σ) H) (hS : va_S (AA z s.heap.size) s.heap H locs) (hU : U.heap = H) (hW : s.WarmedH U.vm) : SW z H.size D aC σ U :=
  ⟨by rw [hU], by rw [hU]; exact hP, va_K.moved hW.alike C.2.2.2.2.2.2.2.1, C.2.2.2.2.2.2.2.2.1.warm hW, C.zq hS hU hW, Nat.le_trans (Nat.le_add_right _ _) hz⟩
variable {M M' : MT} {E : ET} {pc n np idx : Nat} {L : List (Nat × Value)} {st : List Value} {σ : SS} {f : XF} {cu su : Nat} {G : GT} {Q' : AO → SS → Prop}
theorem LE.ofRun {pre : List Value} {l : Launch} {D : va_G} {aC : Nat → ClassId} {z b w : Nat} {p : Program} {e : Env} {s : State} {m : MethodId} {args : Array Value} {below : List Frame} {meth : Method} {c : Code} {H : Heap} {locs : List Loc} {ls : Array Slot} {a : Array Value}
    (C : Lx l M D aC z p s m args meth c) (hE : E z b s) (hz : z + NN ≤ H.size) (hX : XW D aC z w f s H) (hS : va_S (AA z s.heap.size) s.heap H locs) (hl : lv_has ls (mtL M) (trwL z b w L))
    (hr : va_Run p l e (mtR M) s m args below meth c H locs cu su (mtR M').cells (mtR M').slots (F0 m pc ls pre) (st.map (trw z b w)) (qR Q' z D aC H.size a) (AA z H.size))
    (hv9 : ∀ v σ', Q' (.inl v) σ' → v.map (trv z) = v.map (trw z b w))
    (kk : ∀ v σ', Q' (.inl v) σ' → LE M E (pc + 3) L (v.toList ++ st) σ' f (cu + (mtR M').cells) (su + (mtR M').slots) G) :
    W p l e (mtR M) s m args below meth c H locs cu su (G z D aC below args s) (F0 m pc ls pre) := by
  intro T hT X
  obtain ⟨v, st₀, t, T', Lc, h0, X', hL, e1, e2, hq, stp⟩ := hr T hT X
  obtain ⟨⟨v', σ', hv, hQ, hP1⟩, hF⟩ := hq
  obtain ⟨k1, k2, k3⟩ := vx_keep h0 e1 hS (fun q _ h => AA_in hS q h) (AA_in hS) hL hF
  have hv' : v = v'.map (trw z b w) := by
    cases hv
    exact hv9 v' σ' hQ
  subst hv'
  have hX' : XW D aC z w f s T'.heap := by
    match f, hX with
    | none, _ => trivial
    | some (.inl g), ⟨x1, x2, x3⟩ =>
      have hlt : w < H.size := (Array.getElem?_eq_some_iff.mp x3).1
      refine ⟨x1, x2, (k2 w hlt ?_).trans x3⟩
      rintro (h | h)
      · exact absurd h.2 (Nat.not_lt.mpr x1)
      · exact absurd h (Nat.not_le.mpr hlt)
    | some (.inr (k, g)), ⟨v, x1, x2, x3, x4, x5, x6⟩ =>
      have hlt : w < H.size := (x6 0 _ rfl).lt
      have hlv : v < H.size := (x6 1 _ rfl).lt
      refine ⟨v, x1, x2, x3, x4, x5, W0.keep x6 (k2 w hlt ?_) (k2 v hlv ?_)⟩
      · rintro (h | h)
        · exact absurd h.2 (Nat.not_lt.mpr x1)
        · exact absurd h (Nat.not_le.mpr hlt)
      · rintro (h | h)
        · exact absurd h.2 (Nat.not_lt.mpr x3)
        · exact absurd h (Nat.not_le.mpr hlv)
  obtain ⟨t2, a1, b1⟩ := kk v' σ' hQ l D aC z b w p e s m args below meth c T'.heap (locs ++ Lc) ls C hE (Nat.le_trans hz k1) hX' (by rw [e1]; exact hP1) k3 hl T' rfl X'
  refine ⟨t2, stp t2 ?_, b1⟩
  cases v' <;> exact a1
/-- the answer is an int, or a long, a float, a double -/
def nrV (Q' : AO → SS → Prop) : Prop := ∀ v σ', Q' (.inl v) σ' → ∀ i, v ≠ some (.ref i)
theorem nrV.map {Q' : AO → SS → Prop} (h : nrV Q') (z b w : Nat) : ∀ v σ', Q' (.inl v) σ' → v.map (trv z) = v.map (trw z b w) := by
  intro v σ' hq
  cases v with
  | none => rfl
  | some x =>
    cases x with
    | ref i => exact absurd rfl (h _ _ hq i)
    | _ => rfl
theorem LE.callV {a d : Nat} (As : List Value) (hd : decode (mtC M) pc = .ok (.invokevirtual idx, 3)) (hn : pc + 3 = n) (cv : CVL (mtY M).cls idx M' d np) (hAs : As.length = np) (ha : KD a = d ∧ a < NN) (hA : ∀ z b w, (Value.ref a :: As).map (trw z b w) = (Value.ref a :: As).map (trv z)) (hR : rC M M' cu su) (hst : (st.map fun v => v.category).sum ≤ 8) (hM : CM M' (.ref a :: As) σ Q') (hv : nrV Q')
    (kk : ∀ v σ', Q' (.inl v) σ' → LE M E n L (v.toList ++ st) σ' f (cu + (mtR M').cells) (su + (mtR M').slots) G)
    (kx : ∀ E σ', ¬ Q' (.inr E) σ') :
    LE M E pc L (As.reverse ++ .ref a :: st) σ f cu su G := by
  subst hn
  intro l D aC z b w p e s m args below meth c H locs ls C hE hzz hX hP hS hl
  obtain ⟨c1, c2, c3, c4, c5, c6, c7, c8, c9⟩ := cv
  have hw := C.2.2.2.2.2.2.1
  have hwM := wM_nil c6
  refine LE.ofRun (M' := M') (Q' := Q') (a := (Value.ref (z + a) :: As.map (trv z)).toArray) C hE hzz hX hS hl ?_ (hv.map z b w) kk
  have hr := vx_runV (As := As.map (trv z)) (rest := st.map (trw z b w)) (Ts := WG) (own := (mtY M).cls) (C := (mtY M').cls) (b := z + a) (n := np) (bytes := mtC M') (maxL := mtL M') (ret := mtT M') (e := e) (l := l) (R := mtR M) (below := below) (meth := meth) (H := H) (locs := locs) (cells := cu) (slots := su) (g := F0 m pc ls ((As.reverse ++ .ref a :: st).map (trw z b w))) ⟨C.2.1, C.2.2.1, C.2.2.2.1, C.2.2.2.2.2.1, hw⟩ (hM l D aC z H.size C.1)
    ⟨⟨rfl, rfl, hR.1.1, hR.1.2, pay_in hw (WG_in c5), by rw [hwM]; exact List.mem_cons_self, by rw [← hwM]; exact hw _ c5, hw _ c4, ⟨c7.1, c7.2.1⟩, fun sig h => ?_, hw _ c1⟩, hw _ c2, hw _ c3⟩
    ⟨SW.blind, ?_, fun U hU hW => ⟨rfl, C.sw hzz hP hS hU hW⟩⟩ rfl (by simpa using hAs) hl.1 ?_ ?_ hd hR.2
  · intro T hT X
    rcases hr T hT X with h | ⟨q, st₀, t, T', Lc, E9, ce, h0, X', hL, e1, e2, hxq, -⟩
    · exact h
    · exact absurd hxq.1.choose_spec.1 (kx _ _)
  · have h2 := c7.2.2
    rw [h] at h2
    exact (Option.some.inj h2).symm
  · have hv := va_recv (cl := vwc) C.2.2.2.2.2.2.2.1 hP (vwc_at c9) (q0 := a) ((wl_at z aC σ ha.2).trans (by rw [cE_obj ha.1 c9]))
    rw [c8]
    exact hv
  · show (As.reverse ++ Value.ref a :: st).map (trw z b w) = _
    have h1 := hA z b w
    simp only [List.map_cons, List.cons.injEq] at h1
    rw [List.map_append, List.map_cons, List.map_reverse, h1.1, h1.2]
    simp [trv, List.map_reverse]
  · show 2 * 0 + _ ≤ 8
    rw [List.map_map, show ((fun v => v.category) ∘ trw z b w) = fun v : Value => v.category from funext fun v => trw_cat z b w v]
    omega
theorem LE.callH (As : List Value) (hd : decode (mtC M) pc = .ok (.invokestatic idx, 3)) (hn : pc + 3 = n) (cv : CHL (mtY M).cls idx M' np) (hAs : As.length = np) (hA : ∀ z b w, As.map (trw z b w) = As.map (trv z)) (hR : rC M M' cu su) (hst : (st.map fun v => v.category).sum ≤ 8) (hM : CM M' As σ Q') (hv : nrV Q')
    (kk : ∀ v σ', Q' (.inl v) σ' → LE M E n L (v.toList ++ st) σ' f (cu + (mtR M').cells) (su + (mtR M').slots) G)
    (kx : ∀ E σ', ¬ Q' (.inr E) σ') :
    LE M E pc L (As.reverse ++ st) σ f cu su G := by
  subst hn
  intro l D aC z b w p e s m args below meth c H locs ls C hE hzz hX hP hS hl
  obtain ⟨c1, c2, c4, c5, hwM, c7⟩ := cv
  have hw := C.2.2.2.2.2.2.1
  refine LE.ofRun (M' := M') (Q' := Q') (a := (As.map (trv z)).toArray) C hE hzz hX hS hl ?_ (hv.map z b w) kk
  refine vx_runSW (As := As.map (trv z)) (rest := st.map (trw z b w)) (Ts := WG) (own := (mtY M).cls) (n := np) (bytes := mtC M') (maxL := mtL M') (ret := mtT M') (hh := mtH M') ⟨C.2.1, C.2.2.1, C.2.2.2.1, C.2.2.2.2.2.1, hw⟩ (met_of (hM l D aC z H.size C.1) (fun E st t h => kx E _ h.1.choose_spec.1))
    ⟨⟨rfl, rfl, hR.1.1, hR.1.2, pay_in hw (WG_in c5), by rw [hwM]; exact List.mem_cons_self⟩, by rw [← hwM]; exact hw _ c5, hw _ c4, ⟨c7.1, c7.2.1⟩, fun sig h => ?_, hw _ c1, hw _ c2⟩
    ⟨SW.blind, fun U hU hW => ⟨rfl, C.sw hzz hP hS hU hW⟩⟩ rfl (by simpa using hAs) hl.1 ?_ ?_ hd hR.2
  · have h2 := c7.2.2
    rw [h] at h2
    exact (Option.some.inj h2).symm
  · show (As.reverse ++ st).map (trw z b w) = _
    rw [List.map_append, List.map_reverse, hA z b w]
  · show 2 * 0 + _ ≤ 8
    rw [List.map_map, show ((fun v => v.category) ∘ trw z b w) = fun v : Value => v.category from funext fun v => trw_cat z b w v]
    omega
theorem LE.callS (As : List Value) (hd : decode (mtC M) pc = .ok (.invokestatic idx, 3)) (hn : pc + 3 = n) (cv : CSL (mtY M).cls idx M' np) (hAs : As.length = np) (hA : ∀ z b w, As.map (trw z b w) = As.map (trv z)) (hR : rC M M' cu su) (hst : (st.map fun v => v.category).sum ≤ 8) (hM : CM M' As σ Q') (hv : nrV Q')
    (kk : ∀ v σ', Q' (.inl v) σ' → LE M E n L (v.toList ++ st) σ' f (cu + (mtR M').cells) (su + (mtR M').slots) G)
    (kx : ∀ E σ', ¬ Q' (.inr E) σ') :
    LE M E pc L (As.reverse ++ st) σ f cu su G := by
  subst hn
  intro l D aC z b w p e s m args below meth c H locs ls C hE hzz hX hP hS hl
  obtain ⟨c1, c2, c4, c5, c6, c7⟩ := cv
  have hw := C.2.2.2.2.2.2.1
  have hwM := wM_nil c6
  refine LE.ofRun (M' := M') (Q' := Q') (a := (As.map (trv z)).toArray) C hE hzz hX hS hl ?_ (hv.map z b w) kk
  have hr := vx_runS (As := As.map (trv z)) (rest := st.map (trw z b w)) (Ts := WG) (own := (mtY M).cls) (n := np) (bytes := mtC M') (maxL := mtL M') (ret := mtT M') (e := e) (l := l) (R := mtR M) (below := below) (meth := meth) (H := H) (locs := locs) (cells := cu) (slots := su) (g := F0 m pc ls ((As.reverse ++ st).map (trw z b w))) ⟨C.2.1, C.2.2.1, C.2.2.2.1, C.2.2.2.2.2.1, hw⟩ (hM l D aC z H.size C.1)
    ⟨⟨rfl, rfl, hR.1.1, hR.1.2, pay_in hw (WG_in c5), by rw [hwM]; exact List.mem_cons_self, by rw [← hwM]; exact hw _ c5, hw _ c4, ⟨c7.1, c7.2.1⟩, fun sig h => ?_, hw _ c1⟩, hw _ c2⟩
    ⟨SW.blind, fun U hU hW => ⟨rfl, C.sw hzz hP hS hU hW⟩⟩ rfl (by simpa using hAs) hl.1 ?_ ?_ hd hR.2
  · intro T hT X
    rcases hr T hT X with h | ⟨q, st₀, t, T', Lc, E9, ce, h0, X', hL, e1, e2, hxq, -⟩
    · exact h
    · exact absurd hxq.1.choose_spec.1 (kx _ _)
  · have h2 := c7.2.2
    rw [h] at h2
    exact (Option.some.inj h2).symm
  · show (As.reverse ++ st).map (trw z b w) = _
    rw [List.map_append, List.map_reverse, hA z b w]
  · show 2 * 0 + _ ≤ 8
    rw [List.map_map, show ((fun v => v.category) ∘ trw z b w) = fun v : Value => v.category from funext fun v => trw_cat z b w v]
    omega
/-- THE CONTRACT of a method that sees an outside thing -/
def CX (E' : ET) (M : MT) (as : List Value) (σ : SS) (Q : AO → SS → Prop) : Prop :=
  ∀ (l : Launch) (D : va_G) (aC : Nat → ClassId) (z sz b : Nat), l.stackTraces = false →
    Met l (mtY M) (wM M :: WG) (mtR M) (va_Pc (as.map (trw z b 0)) (fun U => SW z sz D aC σ U ∧ E' z b U)) (qR Q z D aC sz) (mtR M).cells (mtR M).slots (AA z sz)
/-- an outside thing that the machine's own moves don't touch -/
def EB (E : ET) : Prop := ∀ z b (u U : State), U.heap = u.heap → u.vm.Alike U.vm → E z b u → E z b U
/-- from the caller's outside thing to the callee's -/
def EG (E E' : ET) : Prop := ∀ z b (s U : State) (H : Heap) (locs : List Loc), E z b s → va_S (AA z s.heap.size) s.heap H locs → z + NN ≤ H.size → U.heap = H → s.vm.Alike U.vm → E' z b U
theorem CX.blind {E' : ET} (hB : EB E') {z sz b : Nat} {D : va_G} {aC : Nat → ClassId} {σ : SS} {av : List Value} : FrameBlind (va_Pc av (fun U => SW z sz D aC σ U ∧ E' z b U)) := by
  intro a U g mk h
  obtain ⟨h0, h1, h2⟩ := h
  have h3 := SW.blind (av := av) a U g mk ⟨h0, h1⟩
  exact ⟨h3.1, h3.2, hB z b U (U.calling g mk a) rfl (Vm.Alike.refl U.vm) h2⟩
theorem LE.callX {E' : ET} (As : List Value) (hB : EB E') (hG : EG E E') (hd : decode (mtC M) pc = .ok (.invokestatic idx, 3)) (hn : pc + 3 = n) (cv : CSL (mtY M).cls idx M' np) (hAs : As.length = np) (hA : ∀ z b w, As.map (trw z b w) = As.map (trw z b 0)) (hR : rC M M' cu su) (hst : (st.map fun v => v.category).sum ≤ 8) (hM : CX E' M' As σ Q') (hv : nrV Q')
    (kk : ∀ v σ', Q' (.inl v) σ' → LE M E n L (v.toList ++ st) σ' f (cu + (mtR M').cells) (su + (mtR M').slots) G) :
    LE M E pc L (As.reverse ++ st) σ f cu su G := by
  subst hn
  intro l D aC z b w p e s m args below meth c H locs ls C hE hzz hX hP hS hl
  obtain ⟨c1, c2, c4, c5, c6, c7⟩ := cv
  have hw := C.2.2.2.2.2.2.1
  have hwM := wM_nil c6
  refine LE.ofRun (M' := M') (Q' := Q') (a := (As.map (trw z b 0)).toArray) C hE hzz hX hS hl ?_ (hv.map z b w) kk
  refine va_runS (As := As.map (trw z b 0)) (rest := st.map (trw z b w)) (Ts := WG) (own := (mtY M).cls) (n := np) (bytes := mtC M') (maxL := mtL M') (ret := mtT M') ⟨C.2.1, C.2.2.1, C.2.2.2.1, C.2.2.2.2.2.1, hw⟩ (hM l D aC z H.size b C.1)
    ⟨⟨rfl, rfl, hR.1.1, hR.1.2, pay_in hw (WG_in c5), by rw [hwM]; exact List.mem_cons_self, by rw [← hwM]; exact hw _ c5, hw _ c4, ⟨c7.1, c7.2.1⟩, fun sig h => ?_, hw _ c1⟩, hw _ c2⟩
    ⟨CX.blind hB, fun U hU hW => ⟨rfl, C.sw hzz hP hS hU hW, hG z b s U H locs hE hS hzz hU hW.alike⟩⟩ rfl (by simpa using hAs) hl.1 ?_ ?_ hd hR.2
  · have h2 := c7.2.2
    rw [h] at h2
    exact (Option.some.inj h2).symm
  · show (As.reverse ++ st).map (trw z b w) = _
    rw [List.map_append, List.map_reverse, hA z b w]
  · show 2 * 0 + _ ≤ 8
    rw [List.map_map, show ((fun v => v.category) ∘ trw z b w) = fun v : Value => v.category from funext fun v => trw_cat z b w v]
    omega
end LEC
section LEA
variable {M M' : MT} {E : ET} {pc n np idx : Nat} {L : List (Nat × Value)} {st : List Value} {σ : SS} {f : XF} {cu su : Nat} {G : GT}
theorem nrV.pi {q : Int32 → SS → Prop} : nrV (PI q) := fun v s h i e => by
  obtain ⟨r, h1, h2⟩ := h
  cases h1
  cases e
theorem nrV.rw9 {w : Value} {σ1 : SS} (h : ∀ i, w ≠ .ref i) : nrV (RW w σ1) := fun v s h9 i e => by
  obtain ⟨h1, h2⟩ := h9
  cases h1
  exact h i (Option.some.inj e)
theorem nrV.lq {od : Int64 × UInt64} {A : AS} {v : Int64} : nrV (LQ od A v) := fun v s h9 i e => by
  obtain ⟨c', h1, h2⟩ := h9
  cases h1
  cases e
theorem LE.H1PI {v0 : Value} {q : Int32 → SS → Prop} (hd : decode (mtC M) pc = .ok (.invokestatic idx, 3)) (hn : pc + 3 = n) (cv : CHL (mtY M).cls idx M' 1) (hR : rC M M' cu su) (hst : (st.map fun v => v.category).sum ≤ 8) (hM : CM M' [v0] σ (PI q)) (hA : ∀ z b w, ([v0] : List Value).map (trw z b w) = ([v0] : List Value).map (trv z)) (kk : ∀ r σ', q r σ' → LE M E n L (.int r :: st) σ' f (cu + (mtR M').cells) (su + (mtR M').slots) G) : LE M E pc L (v0 :: st) σ f cu su G :=
  LE.callH (M' := M') [v0] hd hn cv rfl hA hR hst hM nrV.pi (fun v s h => by obtain ⟨r, h1, h2⟩ := h; cases h1; exact kk r s h2) (fun E s h => by obtain ⟨r, h1, h2⟩ := h; cases h1)
theorem LE.H2PI {v0 v1 : Value} {q : Int32 → SS → Prop} (hd : decode (mtC M) pc = .ok (.invokestatic idx, 3)) (hn : pc + 3 = n) (cv : CHL (mtY M).cls idx M' 2) (hR : rC M M' cu su) (hst : (st.map fun v => v.category).sum ≤ 8) (hM : CM M' [v0, v1] σ (PI q)) (hA : ∀ z b w, ([v0, v1] : List Value).map (trw z b w) = ([v0, v1] : List Value).map (trv z)) (kk : ∀ r σ', q r σ' → LE M E n L (.int r :: st) σ' f (cu + (mtR M').cells) (su + (mtR M').slots) G) : LE M E pc L (v1 :: v0 :: st) σ f cu su G :=
  LE.callH (M' := M') [v0, v1] hd hn cv rfl hA hR hst hM nrV.pi (fun v s h => by obtain ⟨r, h1, h2⟩ := h; cases h1; exact kk r s h2) (fun E s h => by obtain ⟨r, h1, h2⟩ := h; cases h1)
theorem LE.H3PI {v0 v1 v2 : Value} {q : Int32 → SS → Prop} (hd : decode (mtC M) pc = .ok (.invokestatic idx, 3)) (hn : pc + 3 = n) (cv : CHL (mtY M).cls idx M' 3) (hR : rC M M' cu su) (hst : (st.map fun v => v.category).sum ≤ 8) (hM : CM M' [v0, v1, v2] σ (PI q)) (hA : ∀ z b w, ([v0, v1, v2] : List Value).map (trw z b w) = ([v0, v1, v2] : List Value).map (trv z)) (kk : ∀ r σ', q r σ' → LE M E n L (.int r :: st) σ' f (cu + (mtR M').cells) (su + (mtR M').slots) G) : LE M E pc L (v2 :: v1 :: v0 :: st) σ f cu su G :=
  LE.callH (M' := M') [v0, v1, v2] hd hn cv rfl hA hR hst hM nrV.pi (fun v s h => by obtain ⟨r, h1, h2⟩ := h; cases h1; exact kk r s h2) (fun E s h => by obtain ⟨r, h1, h2⟩ := h; cases h1)
theorem LE.H4PI {v0 v1 v2 v3 : Value} {q : Int32 → SS → Prop} (hd : decode (mtC M) pc = .ok (.invokestatic idx, 3)) (hn : pc + 3 = n) (cv : CHL (mtY M).cls idx M' 4) (hR : rC M M' cu su) (hst : (st.map fun v => v.category).sum ≤ 8) (hM : CM M' [v0, v1, v2, v3] σ (PI q)) (hA : ∀ z b w, ([v0, v1, v2, v3] : List Value).map (trw z b w) = ([v0, v1, v2, v3] : List Value).map (trv z)) (kk : ∀ r σ', q r σ' → LE M E n L (.int r :: st) σ' f (cu + (mtR M').cells) (su + (mtR M').slots) G) : LE M E pc L (v3 :: v2 :: v1 :: v0 :: st) σ f cu su G :=
  LE.callH (M' := M') [v0, v1, v2, v3] hd hn cv rfl hA hR hst hM nrV.pi (fun v s h => by obtain ⟨r, h1, h2⟩ := h; cases h1; exact kk r s h2) (fun E s h => by obtain ⟨r, h1, h2⟩ := h; cases h1)
theorem LE.S1PI {v0 : Value} {q : Int32 → SS → Prop} (hd : decode (mtC M) pc = .ok (.invokestatic idx, 3)) (hn : pc + 3 = n) (cv : CSL (mtY M).cls idx M' 1) (hR : rC M M' cu su) (hst : (st.map fun v => v.category).sum ≤ 8) (hM : CM M' [v0] σ (PI q)) (hA : ∀ z b w, ([v0] : List Value).map (trw z b w) = ([v0] : List Value).map (trv z)) (kk : ∀ r σ', q r σ' → LE M E n L (.int r :: st) σ' f (cu + (mtR M').cells) (su + (mtR M').slots) G) : LE M E pc L (v0 :: st) σ f cu su G :=
  LE.callS (M' := M') [v0] hd hn cv rfl hA hR hst hM nrV.pi (fun v s h => by obtain ⟨r, h1, h2⟩ := h; cases h1; exact kk r s h2) (fun E s h => by obtain ⟨r, h1, h2⟩ := h; cases h1)
theorem LE.S2PI {v0 v1 : Value} {q : Int32 → SS → Prop} (hd : decode (mtC M) pc = .ok (.invokestatic idx, 3)) (hn : pc + 3 = n) (cv : CSL (mtY M).cls idx M' 2) (hR : rC M M' cu su) (hst : (st.map fun v => v.category).sum ≤ 8) (hM : CM M' [v0, v1] σ (PI q)) (hA : ∀ z b w, ([v0, v1] : List Value).map (trw z b w) = ([v0, v1] : List Value).map (trv z)) (kk : ∀ r σ', q r σ' → LE M E n L (.int r :: st) σ' f (cu + (mtR M').cells) (su + (mtR M').slots) G) : LE M E pc L (v1 :: v0 :: st) σ f cu su G :=
  LE.callS (M' := M') [v0, v1] hd hn cv rfl hA hR hst hM nrV.pi (fun v s h => by obtain ⟨r, h1, h2⟩ := h; cases h1; exact kk r s h2) (fun E s h => by obtain ⟨r, h1, h2⟩ := h; cases h1)
theorem LE.S3PI {v0 v1 v2 : Value} {q : Int32 → SS → Prop} (hd : decode (mtC M) pc = .ok (.invokestatic idx, 3)) (hn : pc + 3 = n) (cv : CSL (mtY M).cls idx M' 3) (hR : rC M M' cu su) (hst : (st.map fun v => v.category).sum ≤ 8) (hM : CM M' [v0, v1, v2] σ (PI q)) (hA : ∀ z b w, ([v0, v1, v2] : List Value).map (trw z b w) = ([v0, v1, v2] : List Value).map (trv z)) (kk : ∀ r σ', q r σ' → LE M E n L (.int r :: st) σ' f (cu + (mtR M').cells) (su + (mtR M').slots) G) : LE M E pc L (v2 :: v1 :: v0 :: st) σ f cu su G :=
  LE.callS (M' := M') [v0, v1, v2] hd hn cv rfl hA hR hst hM nrV.pi (fun v s h => by obtain ⟨r, h1, h2⟩ := h; cases h1; exact kk r s h2) (fun E s h => by obtain ⟨r, h1, h2⟩ := h; cases h1)
theorem LE.S4PI {v0 v1 v2 v3 : Value} {q : Int32 → SS → Prop} (hd : decode (mtC M) pc = .ok (.invokestatic idx, 3)) (hn : pc + 3 = n) (cv : CSL (mtY M).cls idx M' 4) (hR : rC M M' cu su) (hst : (st.map fun v => v.category).sum ≤ 8) (hM : CM M' [v0, v1, v2, v3] σ (PI q)) (hA : ∀ z b w, ([v0, v1, v2, v3] : List Value).map (trw z b w) = ([v0, v1, v2, v3] : List Value).map (trv z)) (kk : ∀ r σ', q r σ' → LE M E n L (.int r :: st) σ' f (cu + (mtR M').cells) (su + (mtR M').slots) G) : LE M E pc L (v3 :: v2 :: v1 :: v0 :: st) σ f cu su G :=
  LE.callS (M' := M') [v0, v1, v2, v3] hd hn cv rfl hA hR hst hM nrV.pi (fun v s h => by obtain ⟨r, h1, h2⟩ := h; cases h1; exact kk r s h2) (fun E s h => by obtain ⟨r, h1, h2⟩ := h; cases h1)
theorem LE.V0PI {v0 : Nat} {d : Nat} {q : Int32 → SS → Prop} (hd : decode (mtC M) pc = .ok (.invokevirtual idx, 3)) (hn : pc + 3 = n) (cv : CVL (mtY M).cls idx M' d 0) (ha : KD v0 = d ∧ v0 < NN) (hR : rC M M' cu su) (hst : (st.map fun v => v.category).sum ≤ 8) (hM : CM M' [.ref v0] σ (PI q)) (hA : ∀ z b w, [Value.ref v0].map (trw z b w) = [Value.ref v0].map (trv z)) (kk : ∀ r σ', q r σ' → LE M E n L (.int r :: st) σ' f (cu + (mtR M').cells) (su + (mtR M').slots) G) : LE M E pc L (.ref v0 :: st) σ f cu su G :=
  LE.callV (M' := M') [] hd hn cv rfl ha hA hR hst hM nrV.pi (fun v s h => by obtain ⟨r, h1, h2⟩ := h; cases h1; exact kk r s h2) (fun E s h => by obtain ⟨r, h1, h2⟩ := h; cases h1)
theorem LE.H1W {v0 w : Value} {σ1 : SS} (hd : decode (mtC M) pc = .ok (.invokestatic idx, 3)) (hn : pc + 3 = n) (cv : CHL (mtY M).cls idx M' 1) (hR : rC M M' cu su) (hst : (st.map fun v => v.category).sum ≤ 8) (hM : CM M' [v0] σ (RW w σ1)) (hA : ∀ z b w, [v0].map (trw z b w) = [v0].map (trv z)) (hw : ∀ i, w ≠ .ref i) (kk : LE M E n L (w :: st) σ1 f (cu + (mtR M').cells) (su + (mtR M').slots) G) : LE M E pc L (v0 :: st) σ f cu su G :=
  LE.callH (M' := M') [v0] hd hn cv rfl hA hR hst hM (nrV.rw9 hw) (fun v s h => by obtain ⟨h1, rfl⟩ := h; cases h1; exact kk) (fun E s h => by cases h.1)
theorem LE.S1L {v0 : Value} {od : Int64 × UInt64} {A : AS} {v : Int64} (hd : decode (mtC M) pc = .ok (.invokestatic idx, 3)) (hn : pc + 3 = n) (cv : CSL (mtY M).cls idx M' 1) (hR : rC M M' cu su) (hst : (st.map fun v => v.category).sum ≤ 8) (hM : CM M' [v0] σ (LQ od A v)) (hA : ∀ z b w, [v0].map (trw z b w) = [v0].map (trv z)) (kk : ∀ c', CA c' A → LE M E n L (.long v :: st) (c', od) f (cu + (mtR M').cells) (su + (mtR M').slots) G) : LE M E pc L (v0 :: st) σ f cu su G :=
  LE.callS (M' := M') [v0] hd hn cv rfl hA hR hst hM nrV.lq (fun v s h => by obtain ⟨c', h1, rfl, h2⟩ := h; cases h1; exact kk c' h2) (fun E s h => by obtain ⟨c', h1, h2⟩ := h; cases h1)
theorem LE.X2PI {v0 v1 : Value} {q : Int32 → SS → Prop} {E' : ET} (hB : EB E') (hG : EG E E') (hd : decode (mtC M) pc = .ok (.invokestatic idx, 3)) (hn : pc + 3 = n) (cv : CSL (mtY M).cls idx M' 2) (hR : rC M M' cu su) (hst : (st.map fun v => v.category).sum ≤ 8) (hM : CX E' M' [v0, v1] σ (PI q)) (hA : ∀ z b w, [v0, v1].map (trw z b w) = [v0, v1].map (trw z b 0)) (kk : ∀ r σ', q r σ' → LE M E n L (.int r :: st) σ' f (cu + (mtR M').cells) (su + (mtR M').slots) G) : LE M E pc L (v1 :: v0 :: st) σ f cu su G :=
  LE.callX (M' := M') [v0, v1] hB hG hd hn cv rfl hA hR hst hM nrV.pi (fun v s h => by obtain ⟨r, h1, h2⟩ := h; cases h1; exact kk r s h2)
/-- the end of a method under a plain contract -/
def GR (M : MT) (Q : AO → SS → Prop) : GT := fun z D aC below args s => MQ below (qR Q z D aC s.heap.size) args s (mtR M).cells (mtR M).slots (AA z s.heap.size)
theorem LE.iret {v : Int32} {ty : FieldType} {Q : AO → SS → Prop} (hd : decode (mtC M) pc = .ok (.ireturn, 1)) (hT : mtT M = some ty) (hv : narrow ty (.int v) = .int v) (hc : rE M cu su) (hQ : Q (.inl (some (.int v))) σ) : LE M E pc L [.int v] σ f cu su (GR M Q) := by
  intro l D aC z b w p e s m args below meth c H locs ls C hE hzz hX hP hS hl
  refine W.widen hc.1 hc.2 ?_
  exact W.zret (v := v) (ty := ty) C.2.1 C.2.2.1 (C.2.2.2.2.1.trans hT) hv (fun t ht hW => ⟨⟨some (.int v), σ, rfl, hQ, by rw [ht]; exact hP⟩, hS.F ht⟩) hS.2.2 hd C.2.2.2.2.2.2.2.2.2.2.1
theorem LE.mmin {x y : Int32} (hd : decode (mtC M) pc = .ok (.invokestatic idx, 3)) (hn : pc + 3 = n) (hf : MLK (mtY M).cls idx Lib.Math.min.name Lib.Math.min.code 2) (hr : rOK M cu su st) (kk : LE M E n L (.int (if y < x then y else x) :: st) σ f cu su G) : LE M E pc L (.int y :: .int x :: st) σ f cu su G := by
  subst hn
  intro l D aC z b w p e s m args below meth c H locs ls C hE hzz hX hP hS hl
  have hw := C.2.2.2.2.2.2.1
  exact va_mmin C.2.1 C.2.2.1 (C.2.2.2.1.trans hl.1.symm) C.2.2.2.2.2.1 (hw _ hf.1) (hw _ hf.2.1) (hw _ hf.2.2.1) (hw _ hf.2.2.2) hr.1 (by rw [List.map_map, show ((fun v => v.category) ∘ trw z b w) = fun v : Value => v.category from funext fun v => trw_cat z b w v]; exact hr.2.1) hr.2.2.1 hr.2.2.2 hd (kk l D aC z b w p e s m args below meth c H locs ls C hE hzz hX hP hS hl)
theorem lg_sl_trw (z b w : Nat) (as : List Value) : (lg_sl (as.map (trw z b w))).length = (lg_sl as).length := by
  induction as with
  | nil => rfl
  | cons v vs ih =>
    simp only [lg_sl, List.map_cons, List.flatMap_cons, List.length_append] at ih ⊢
    rw [ih, trw_cat]
    congr 1
    split <;> rfl
theorem lv_args_trw (z b w : Nat) : ∀ (as : List Value) (i : Nat), lv_args i (as.map (trw z b w)) = trwL z b w (lv_args i as)
  | [], _ => rfl
  | v :: vs, i => by
    show (i, trw z b w v) :: lv_args (if (trw z b w v).category = 2 then i + 2 else i + 1) (vs.map (trw z b w)) = (i, trw z b w v) :: trwL z b w (lv_args (if v.category = 2 then i + 2 else i + 1) vs)
    rw [trw_cat, lv_args_trw z b w vs]
/-- the contract out of a walk -/
theorem CX.of {E' : ET} {Q : AO → SS → Prop} {as : List Value} (hB : EB E') (L0 : List (Nat × Value)) (hL0 : lv_args 0 as = L0) (hpl : plainName (mtY M).cls = true) (hH : mtH M = []) (hlen : (lg_sl as).length ≤ mtL M) (k : LE M E' 0 L0 [] σ none 0 0 (GR M Q)) : CX E' M as σ Q := by
  subst hL0
  intro l D aC z sz b hst
  have hwM := wM_nil hH
  refine Met.ofW (cc := mtC M) (maxL := mtL M) (ret := mtT M) hpl (by rw [hwM]) ?_
  intro p e s m args below meth c s₁ B hml hv
  obtain ⟨rfl, ⟨rfl, hP, hK, hF, hZ, hz⟩, hE⟩ := hv
  have hts := atoms_spec (ws := wM M :: WG) B.pre
  have htab : c.exceptionTable.toList = tableOf (mtH M) := by
    obtain ⟨meth9, c9, h1, h2, -, -, -, -, h7, -⟩ := Cond.code_spec B.named (hwM ▸ hts _ List.mem_cons_self)
    cases Option.some.inj (h1.symm.trans B.method)
    cases Option.some.inj (h2.symm.trans (Stand.of_body B).code)
    rw [Array.isEmpty_iff.mp h7, hH]
    rfl
  have hl := lv_entry (as.map (trw z b 0)) (n := mtL M) (by rw [lg_sl_trw]; exact hlen)
  rw [lv_args_trw] at hl
  rw [lg_entry_eq]
  exact k l D aC z b 0 p e s m _ below meth c s.heap [] _ ⟨hst, B.exec, B.bytes, hml, B.returns, findClass_of_methodNamed B.named, fun w h => hts w (List.mem_cons_of_mem _ h), hK, hF, hZ, B.notSynchronized, htab⟩ hE (wl_size hP) trivial hP va_S.rf hl
end LEA
