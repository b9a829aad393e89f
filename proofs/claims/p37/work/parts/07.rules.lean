def lkL (i : Nat) (L : List (Nat × Value)) : Option Value := match L with
  | [] => none
  | q :: r => bif Nat.beq q.1 i then some q.2 else lkL i r
def stL (i : Nat) (v : Value) (L : List (Nat × Value)) : List (Nat × Value) := (i, v) :: L.filter (fun q => !(q.1 == i) && !(q.1 + 1 == i && q.2.category == 2))
def stL2 (i : Nat) (v : Value) (L : List (Nat × Value)) : List (Nat × Value) := (i, v) :: L.filter (fun q => !(q.1 == i) && (!(q.1 == i + 1) && !(q.1 + 1 == i && q.2.category == 2)))
theorem lk_pos {i : Nat} {v : Value} : ∀ {L : List (Nat × Value)}, lkL i L = some v → ∃ k : Nat, L[k]? = some (i, v)
  | [], h => by simp [lkL] at h
  | q :: r, h => by
    unfold lkL at h
    cases hb : Nat.beq q.1 i with
    | true =>
      rw [hb] at h
      have h1 : q.2 = v := by simpa using h
      have h2 : q.1 = i := Nat.eq_of_beq_eq_true hb
      exact ⟨0, by rw [List.getElem?_cons_zero, ← h1, ← h2]⟩
    | false =>
      rw [hb] at h
      obtain ⟨k, hk⟩ := lk_pos (L := r) (by simpa using h)
      exact ⟨k + 1, by rw [List.getElem?_cons_succ]; exact hk⟩
theorem trL_at {z i k : Nat} {v : Value} {L : List (Nat × Value)} (h : L[k]? = some (i, v)) : (trL z L)[k]? = some (i, trv z v) := by
  simp [trL, h]
theorem lk_has {ls : Array Slot} {nL z i : Nat} {L : List (Nat × Value)} {v : Value} (hl : lv_has ls nL (trL z L)) (h : lkL i L = some v) : ls[i]? = some (.val (trv z v)) := by
  obtain ⟨k, hk⟩ := lk_pos h
  exact lv_at hl k (trL_at hk)
theorem trL_st (z i : Nat) (v : Value) (L : List (Nat × Value)) : (i, trv z v) :: (trL z L).filter (fun q => !(q.1 == i) && !(q.1 + 1 == i && q.2.category == 2)) = trL z (stL i v L) := by
  simp only [trL, stL, List.map_cons, List.filter_map]
  congr 2
  apply List.filter_congr
  intro q _
  simp [Function.comp, trv_cat]
theorem trL_st2 (z i : Nat) (v : Value) (L : List (Nat × Value)) : (i, trv z v) :: (trL z L).filter (fun q => !(q.1 == i) && (!(q.1 == i + 1) && !(q.1 + 1 == i && q.2.category == 2))) = trL z (stL2 i v L) := by
  simp only [trL, stL2, List.map_cons, List.filter_map]
  congr 2
  apply List.filter_congr
  intro q _
  simp [Function.comp, trv_cat]
theorem WE.ofL {M : MT} {pc : Nat} {L L' : List (Nat × Value)} {st : List Value} {σ : SS} {cu su : Nat} {G : GT} (h : ∀ q ∈ L', q ∈ L) (k : WE M pc L' st σ cu su G) : WE M pc L st σ cu su G := by
  intro l D aC z p e s m args below meth c H locs ls C hP hS hl
  refine k l D aC z p e s m args below meth c H locs ls C hP hS ⟨hl.1, hl.2.1, fun q hq => ?_⟩
  obtain ⟨r, hr, rfl⟩ := List.mem_map.mp hq
  exact hl.2.2 _ (List.mem_map.mpr ⟨r, h r hr, rfl⟩)
theorem WE.ofLk {M : MT} {pc : Nat} {L L' : List (Nat × Value)} {st : List Value} {σ : SS} {cu su : Nat} {G : GT} (h : L'.all (fun q => decide (lkL q.1 L = some q.2)) = true) (k : WE M pc L' st σ cu su G) : WE M pc L st σ cu su G := by
  refine WE.ofL (fun q hq => ?_) k
  have h1 := List.all_eq_true.mp h q hq
  obtain ⟨j, hj⟩ := lk_pos (of_decide_eq_true h1)
  exact List.mem_of_getElem? hj
def allA (L : List (Nat × Value)) : List (Nat × Value) → Prop
  | [] => True
  | q :: r => lkL q.1 L = some q.2 ∧ allA L r
theorem allA_mem {L : List (Nat × Value)} : ∀ {L' : List (Nat × Value)}, allA L L' → ∀ q ∈ L', lkL q.1 L = some q.2
  | [], _, q, hq => by cases hq
  | a :: r, h, q, hq => by
    rcases List.mem_cons.mp hq with rfl | hq
    · exact h.1
    · exact allA_mem h.2 q hq
theorem WE.ofA {M : MT} {pc : Nat} {L L' : List (Nat × Value)} {st : List Value} {σ : SS} {cu su : Nat} {G : GT} (h : allA L L') (k : WE M pc L' st σ cu su G) : WE M pc L st σ cu su G := by
  refine WE.ofL (fun q hq => ?_) k
  obtain ⟨j, hj⟩ := lk_pos (allA_mem h q hq)
  exact List.mem_of_getElem? hj
theorem WE.ofS {M : MT} {pc : Nat} {L : List (Nat × Value)} {st : List Value} {σ σ' : SS} {cu su : Nat} {G : GT} (h : σ = σ') (k : WE M pc L st σ' cu su G) : WE M pc L st σ cu su G := h ▸ k
section WER
variable {M : MT} {pc n : Nat} {L : List (Nat × Value)} {st : List Value} {σ : SS} {cu su : Nat} {G : GT}
theorem WE.iadd {x y : Int32} (hd : decode (mtC M) pc = .ok (.iadd, 1)) (hn : pc + 1 = n) (k : WE M n L (.int (x + y) :: st) σ cu su G) : WE M pc L (.int y :: .int x :: st) σ cu su G := by
  subst hn
  intro l D aC z p e s m args below meth c H locs ls C hP hS hl
  exact lv_iadd C.2.1 C.2.2.1 hd (k l D aC z p e s m args below meth c H locs ls C hP hS hl)
theorem WE.isub {x y : Int32} (hd : decode (mtC M) pc = .ok (.isub, 1)) (hn : pc + 1 = n) (k : WE M n L (.int (x - y) :: st) σ cu su G) : WE M pc L (.int y :: .int x :: st) σ cu su G := by
  subst hn
  intro l D aC z p e s m args below meth c H locs ls C hP hS hl
  exact lv_isub C.2.1 C.2.2.1 hd (k l D aC z p e s m args below meth c H locs ls C hP hS hl)
theorem WE.imul {x y : Int32} (hd : decode (mtC M) pc = .ok (.imul, 1)) (hn : pc + 1 = n) (k : WE M n L (.int (x * y) :: st) σ cu su G) : WE M pc L (.int y :: .int x :: st) σ cu su G := by
  subst hn
  intro l D aC z p e s m args below meth c H locs ls C hP hS hl
  exact lv_imul C.2.1 C.2.2.1 hd (k l D aC z p e s m args below meth c H locs ls C hP hS hl)
theorem WE.iand {x y : Int32} (hd : decode (mtC M) pc = .ok (.iand, 1)) (hn : pc + 1 = n) (k : WE M n L (.int (x &&& y) :: st) σ cu su G) : WE M pc L (.int y :: .int x :: st) σ cu su G := by
  subst hn
  intro l D aC z p e s m args below meth c H locs ls C hP hS hl
  exact lv_iand C.2.1 C.2.2.1 hd (k l D aC z p e s m args below meth c H locs ls C hP hS hl)
theorem WE.ior {x y : Int32} (hd : decode (mtC M) pc = .ok (.ior, 1)) (hn : pc + 1 = n) (k : WE M n L (.int (x ||| y) :: st) σ cu su G) : WE M pc L (.int y :: .int x :: st) σ cu su G := by
  subst hn
  intro l D aC z p e s m args below meth c H locs ls C hP hS hl
  exact lv_ior C.2.1 C.2.2.1 hd (k l D aC z p e s m args below meth c H locs ls C hP hS hl)
theorem WE.ishl {x y : Int32} (hd : decode (mtC M) pc = .ok (.ishl, 1)) (hn : pc + 1 = n) (k : WE M n L (.int (x <<< (y &&& 31)) :: st) σ cu su G) : WE M pc L (.int y :: .int x :: st) σ cu su G := by
  subst hn
  intro l D aC z p e s m args below meth c H locs ls C hP hS hl
  exact lv_ishl C.2.1 C.2.2.1 hd (k l D aC z p e s m args below meth c H locs ls C hP hS hl)
theorem WE.ishr {x y : Int32} (hd : decode (mtC M) pc = .ok (.ishr, 1)) (hn : pc + 1 = n) (k : WE M n L (.int (x >>> (y &&& 31)) :: st) σ cu su G) : WE M pc L (.int y :: .int x :: st) σ cu su G := by
  subst hn
  intro l D aC z p e s m args below meth c H locs ls C hP hS hl
  exact lv_ishr C.2.1 C.2.2.1 hd (k l D aC z p e s m args below meth c H locs ls C hP hS hl)
theorem WE.idiv {x y : Int32} (hd : decode (mtC M) pc = .ok (.idiv, 1)) (hn : pc + 1 = n) (hz : ¬ y = 0) (k : WE M n L (.int (x / y) :: st) σ cu su G) : WE M pc L (.int y :: .int x :: st) σ cu su G := by
  subst hn
  intro l D aC z p e s m args below meth c H locs ls C hP hS hl
  exact lv_idiv C.2.1 C.2.2.1 hd hz (k l D aC z p e s m args below meth c H locs ls C hP hS hl)
theorem WE.irem {x y : Int32} (hd : decode (mtC M) pc = .ok (.irem, 1)) (hn : pc + 1 = n) (hz : ¬ y = 0) (k : WE M n L (.int (x - x / y * y) :: st) σ cu su G) : WE M pc L (.int y :: .int x :: st) σ cu su G := by
  subst hn
  intro l D aC z p e s m args below meth c H locs ls C hP hS hl
  exact lv_irem C.2.1 C.2.2.1 hd hz (k l D aC z p e s m args below meth c H locs ls C hP hS hl)
theorem WE.ineg {x : Int32} (hd : decode (mtC M) pc = .ok (.ineg, 1)) (hn : pc + 1 = n) (k : WE M n L (.int (-x) :: st) σ cu su G) : WE M pc L (.int x :: st) σ cu su G := by
  subst hn
  intro l D aC z p e s m args below meth c H locs ls C hP hS hl
  exact lv_ineg C.2.1 C.2.2.1 hd (k l D aC z p e s m args below meth c H locs ls C hP hS hl)
theorem WE.iconst {i : Int} (v : Int32) (hd : decode (mtC M) pc = .ok (.iconst i, 1)) (hn : pc + 1 = n) (hv : Int32.ofInt i = v) (k : WE M n L (.int v :: st) σ cu su G) : WE M pc L (st) σ cu su G := by
  subst hn
  intro l D aC z p e s m args below meth c H locs ls C hP hS hl
  exact lv_iconst C.2.1 C.2.2.1 hd hv (k l D aC z p e s m args below meth c H locs ls C hP hS hl)
theorem WE.bipush {i : Int} (v : Int32) (hd : decode (mtC M) pc = .ok (.bipush i, 2)) (hn : pc + 2 = n) (hv : (Int8.ofInt i).toInt32 = v) (k : WE M n L (.int v :: st) σ cu su G) : WE M pc L (st) σ cu su G := by
  subst hn
  intro l D aC z p e s m args below meth c H locs ls C hP hS hl
  exact lv_bipush C.2.1 C.2.2.1 hd hv (k l D aC z p e s m args below meth c H locs ls C hP hS hl)
theorem WE.sipush {i : Int} (v : Int32) (hd : decode (mtC M) pc = .ok (.sipush i, 3)) (hn : pc + 3 = n) (hv : (Int16.ofInt i).toInt32 = v) (k : WE M n L (.int v :: st) σ cu su G) : WE M pc L (st) σ cu su G := by
  subst hn
  intro l D aC z p e s m args below meth c H locs ls C hP hS hl
  exact lv_sipush C.2.1 C.2.2.1 hd hv (k l D aC z p e s m args below meth c H locs ls C hP hS hl)
theorem WE.i2l {x : Int32} (hd : decode (mtC M) pc = .ok (.i2l, 1)) (hn : pc + 1 = n) (k : WE M n L (.long x.toInt64 :: st) σ cu su G) : WE M pc L (.int x :: st) σ cu su G := by
  subst hn
  intro l D aC z p e s m args below meth c H locs ls C hP hS hl
  exact lv_i2l C.2.1 C.2.2.1 hd rfl (k l D aC z p e s m args below meth c H locs ls C hP hS hl)
theorem WE.i2c {x : Int32} (hd : decode (mtC M) pc = .ok (.i2c, 1)) (hn : pc + 1 = n) (k : WE M n L (.int ((x.toUInt32 % 65536).toInt32) :: st) σ cu su G) : WE M pc L (.int x :: st) σ cu su G := by
  subst hn
  intro l D aC z p e s m args below meth c H locs ls C hP hS hl
  exact lv_i2c C.2.1 C.2.2.1 hd rfl (k l D aC z p e s m args below meth c H locs ls C hP hS hl)
theorem WE.iload_n {j : Fin 4} {x : Int32} (hd : decode (mtC M) pc = .ok (.iload_n j, 1)) (hn : pc + 1 = n) (hk : lkL j.val L = some (.int x)) (k : WE M n L (.int x :: st) σ cu su G) : WE M pc L st σ cu su G := by
  subst hn
  intro l D aC z p e s m args below meth c H locs ls C hP hS hl
  exact lv_iload_n C.2.1 C.2.2.1 hd rfl (lk_has hl hk) (k l D aC z p e s m args below meth c H locs ls C hP hS hl)
theorem WE.iload {j : Nat} {x : Int32} (hd : decode (mtC M) pc = .ok (.iload j, 2)) (hn : pc + 2 = n) (hk : lkL j L = some (.int x)) (k : WE M n L (.int x :: st) σ cu su G) : WE M pc L st σ cu su G := by
  subst hn
  intro l D aC z p e s m args below meth c H locs ls C hP hS hl
  exact lv_iload C.2.1 C.2.2.1 hd (lk_has hl hk) (k l D aC z p e s m args below meth c H locs ls C hP hS hl)
theorem WE.istore_n {j : Fin 4} {x : Int32} (hd : decode (mtC M) pc = .ok (.istore_n j, 1)) (hn : pc + 1 = n) (hj : j.val < mtL M) (k : WE M n (stL j.val (.int x) L) st σ cu su G) : WE M pc L (.int x :: st) σ cu su G := by
  subst hn
  intro l D aC z p e s m args below meth c H locs ls C hP hS hl
  exact lv_istore_n C.2.1 C.2.2.1 hd rfl hl hj (trL_st z j.val (.int x) L) (fun ls hl => k l D aC z p e s m args below meth c H locs ls C hP hS hl)
theorem WE.istore {j : Nat} {x : Int32} (hd : decode (mtC M) pc = .ok (.istore j, 2)) (hn : pc + 2 = n) (hj : j < mtL M) (k : WE M n (stL j (.int x) L) st σ cu su G) : WE M pc L (.int x :: st) σ cu su G := by
  subst hn
  intro l D aC z p e s m args below meth c H locs ls C hP hS hl
  exact lv_istore C.2.1 C.2.2.1 hd hl hj (trL_st z j (.int x) L) (fun ls hl => k l D aC z p e s m args below meth c H locs ls C hP hS hl)
theorem WE.aload_n {j : Fin 4} {x : Nat} (hd : decode (mtC M) pc = .ok (.aload_n j, 1)) (hn : pc + 1 = n) (hk : lkL j.val L = some (.ref x)) (k : WE M n L (.ref x :: st) σ cu su G) : WE M pc L st σ cu su G := by
  subst hn
  intro l D aC z p e s m args below meth c H locs ls C hP hS hl
  exact lv_aload_n C.2.1 C.2.2.1 hd rfl (lk_has hl hk) (k l D aC z p e s m args below meth c H locs ls C hP hS hl)
theorem WE.aload {j : Nat} {x : Nat} (hd : decode (mtC M) pc = .ok (.aload j, 2)) (hn : pc + 2 = n) (hk : lkL j L = some (.ref x)) (k : WE M n L (.ref x :: st) σ cu su G) : WE M pc L st σ cu su G := by
  subst hn
  intro l D aC z p e s m args below meth c H locs ls C hP hS hl
  exact lv_aload C.2.1 C.2.2.1 hd (lk_has hl hk) (k l D aC z p e s m args below meth c H locs ls C hP hS hl)
theorem WE.astore_n {j : Fin 4} {x : Nat} (hd : decode (mtC M) pc = .ok (.astore_n j, 1)) (hn : pc + 1 = n) (hj : j.val < mtL M) (k : WE M n (stL j.val (.ref x) L) st σ cu su G) : WE M pc L (.ref x :: st) σ cu su G := by
  subst hn
  intro l D aC z p e s m args below meth c H locs ls C hP hS hl
  exact lv_astore_n C.2.1 C.2.2.1 hd rfl hl hj (trL_st z j.val (.ref x) L) (fun ls hl => k l D aC z p e s m args below meth c H locs ls C hP hS hl)
theorem WE.astore {j : Nat} {x : Nat} (hd : decode (mtC M) pc = .ok (.astore j, 2)) (hn : pc + 2 = n) (hj : j < mtL M) (k : WE M n (stL j (.ref x) L) st σ cu su G) : WE M pc L (.ref x :: st) σ cu su G := by
  subst hn
  intro l D aC z p e s m args below meth c H locs ls C hP hS hl
  exact lv_astore C.2.1 C.2.2.1 hd hl hj (trL_st z j (.ref x) L) (fun ls hl => k l D aC z p e s m args below meth c H locs ls C hP hS hl)
theorem WE.iincV {j : Nat} {i : Int} {x : Int32} (v : Int32) (hd : decode (mtC M) pc = .ok (.iinc j i, 3)) (hn : pc + 3 = n) (hk : lkL j L = some (.int x)) (hj : j < mtL M) (hv : x + Int32.ofInt i = v) (k : WE M n (stL j (.int v) L) st σ cu su G) : WE M pc L st σ cu su G := by
  subst hn
  subst hv
  intro l D aC z p e s m args below meth c H locs ls C hP hS hl
  obtain ⟨q, hq⟩ := lk_pos hk
  exact lv_iinc C.2.1 C.2.2.1 hd hl (trL_at hq) rfl hj (trL_st z j (.int (x + Int32.ofInt i)) L) (fun ls hl => k l D aC z p e s m args below meth c H locs ls C hP hS hl)
theorem WE.iinc {j : Nat} {i : Int} {x : Int32} (hd : decode (mtC M) pc = .ok (.iinc j i, 3)) (hn : pc + 3 = n) (hk : lkL j L = some (.int x)) (hj : j < mtL M) (k : WE M n (stL j (.int (x + Int32.ofInt i)) L) st σ cu su G) : WE M pc L st σ cu su G := by
  subst hn
  intro l D aC z p e s m args below meth c H locs ls C hP hS hl
  obtain ⟨q, hq⟩ := lk_pos hk
  exact lv_iinc C.2.1 C.2.2.1 hd hl (trL_at hq) rfl hj (trL_st z j (.int (x + Int32.ofInt i)) L) (fun ls hl => k l D aC z p e s m args below meth c H locs ls C hP hS hl)
theorem WE.dup {a : Value} (hd : decode (mtC M) pc = .ok (.dup, 1)) (hn : pc + 1 = n) (ha : a.category = 1) (k : WE M n L (a :: a :: st) σ cu su G) : WE M pc L (a :: st) σ cu su G := by
  subst hn
  intro l D aC z p e s m args below meth c H locs ls C hP hS hl
  exact lv_dup C.2.1 C.2.2.1 hd ((trv_cat z a).trans ha) (k l D aC z p e s m args below meth c H locs ls C hP hS hl)
theorem WE.pop {a : Value} (hd : decode (mtC M) pc = .ok (.pop, 1)) (hn : pc + 1 = n) (ha : a.category = 1) (k : WE M n L (st) σ cu su G) : WE M pc L (a :: st) σ cu su G := by
  subst hn
  intro l D aC z p e s m args below meth c H locs ls C hP hS hl
  exact lv_pop C.2.1 C.2.2.1 hd ((trv_cat z a).trans ha) (k l D aC z p e s m args below meth c H locs ls C hP hS hl)
theorem WE.dup_x1 {a b : Value} (hd : decode (mtC M) pc = .ok (.dup_x1, 1)) (hn : pc + 1 = n) (ha : a.category = 1) (hb : b.category = 1) (k : WE M n L (a :: b :: a :: st) σ cu su G) : WE M pc L (a :: b :: st) σ cu su G := by
  subst hn
  intro l D aC z p e s m args below meth c H locs ls C hP hS hl
  exact lv_dup_x1 C.2.1 C.2.2.1 hd ((trv_cat z a).trans ha) ((trv_cat z b).trans hb) (k l D aC z p e s m args below meth c H locs ls C hP hS hl)
theorem WE.dup_x2 {a b f : Value} (hd : decode (mtC M) pc = .ok (.dup_x2, 1)) (hn : pc + 1 = n) (ha : a.category = 1) (hb : b.category = 1) (hf : f.category = 1) (k : WE M n L (a :: b :: f :: a :: st) σ cu su G) : WE M pc L (a :: b :: f :: st) σ cu su G := by
  subst hn
  intro l D aC z p e s m args below meth c H locs ls C hP hS hl
  exact lv_dup_x2 C.2.1 C.2.2.1 hd ((trv_cat z a).trans ha) ((trv_cat z b).trans hb) ((trv_cat z f).trans hf) (k l D aC z p e s m args below meth c H locs ls C hP hS hl)
theorem WE.dup2 {a b : Value} (hd : decode (mtC M) pc = .ok (.dup2, 1)) (hn : pc + 1 = n) (ha : a.category = 1) (hb : b.category = 1) (k : WE M n L (a :: b :: a :: b :: st) σ cu su G) : WE M pc L (a :: b :: st) σ cu su G := by
  subst hn
  intro l D aC z p e s m args below meth c H locs ls C hP hS hl
  exact lv_dup2_11 C.2.1 C.2.2.1 hd ((trv_cat z a).trans ha) ((trv_cat z b).trans hb) (k l D aC z p e s m args below meth c H locs ls C hP hS hl)
theorem WE.if_eq {x : Int32} {off : Int} {tgt : Nat} (hd : decode (mtC M) pc = .ok (.ifCond .eq off, 3)) (hn : pc + 3 = n) (ht : (pc : Int) + off = (tgt : Int)) (kt : x = 0 → WE M tgt L st σ cu su G) (kf : ¬ x = 0 → WE M n L st σ cu su G) : WE M pc L (.int x :: st) σ cu su G := by
  subst hn
  intro l D aC z p e s m args below meth c H locs ls C hP hS hl
  exact lv_if_eq C.2.1 C.2.2.1 hd ht (fun q => kt q l D aC z p e s m args below meth c H locs ls C hP hS hl) (fun q => kf q l D aC z p e s m args below meth c H locs ls C hP hS hl)
theorem WE.icmp_eq {x y : Int32} {off : Int} {tgt : Nat} (hd : decode (mtC M) pc = .ok (.if_icmp .eq off, 3)) (hn : pc + 3 = n) (ht : (pc : Int) + off = (tgt : Int)) (kt : x = y → WE M tgt L st σ cu su G) (kf : ¬ x = y → WE M n L st σ cu su G) : WE M pc L (.int y :: .int x :: st) σ cu su G := by
  subst hn
  intro l D aC z p e s m args below meth c H locs ls C hP hS hl
  exact lv_icmp_eq C.2.1 C.2.2.1 hd ht (fun q => kt q l D aC z p e s m args below meth c H locs ls C hP hS hl) (fun q => kf q l D aC z p e s m args below meth c H locs ls C hP hS hl)
theorem WE.if_ne {x : Int32} {off : Int} {tgt : Nat} (hd : decode (mtC M) pc = .ok (.ifCond .ne off, 3)) (hn : pc + 3 = n) (ht : (pc : Int) + off = (tgt : Int)) (kt : ¬ x = 0 → WE M tgt L st σ cu su G) (kf : x = 0 → WE M n L st σ cu su G) : WE M pc L (.int x :: st) σ cu su G := by
  subst hn
  intro l D aC z p e s m args below meth c H locs ls C hP hS hl
  exact lv_if_ne C.2.1 C.2.2.1 hd ht (fun q => kt q l D aC z p e s m args below meth c H locs ls C hP hS hl) (fun q => kf q l D aC z p e s m args below meth c H locs ls C hP hS hl)
theorem WE.icmp_ne {x y : Int32} {off : Int} {tgt : Nat} (hd : decode (mtC M) pc = .ok (.if_icmp .ne off, 3)) (hn : pc + 3 = n) (ht : (pc : Int) + off = (tgt : Int)) (kt : ¬ x = y → WE M tgt L st σ cu su G) (kf : x = y → WE M n L st σ cu su G) : WE M pc L (.int y :: .int x :: st) σ cu su G := by
  subst hn
  intro l D aC z p e s m args below meth c H locs ls C hP hS hl
  exact lv_icmp_ne C.2.1 C.2.2.1 hd ht (fun q => kt q l D aC z p e s m args below meth c H locs ls C hP hS hl) (fun q => kf q l D aC z p e s m args below meth c H locs ls C hP hS hl)
theorem WE.if_lt {x : Int32} {off : Int} {tgt : Nat} (hd : decode (mtC M) pc = .ok (.ifCond .lt off, 3)) (hn : pc + 3 = n) (ht : (pc : Int) + off = (tgt : Int)) (kt : x < 0 → WE M tgt L st σ cu su G) (kf : ¬ x < 0 → WE M n L st σ cu su G) : WE M pc L (.int x :: st) σ cu su G := by
  subst hn
  intro l D aC z p e s m args below meth c H locs ls C hP hS hl
  exact lv_if_lt C.2.1 C.2.2.1 hd ht (fun q => kt q l D aC z p e s m args below meth c H locs ls C hP hS hl) (fun q => kf q l D aC z p e s m args below meth c H locs ls C hP hS hl)
theorem WE.icmp_lt {x y : Int32} {off : Int} {tgt : Nat} (hd : decode (mtC M) pc = .ok (.if_icmp .lt off, 3)) (hn : pc + 3 = n) (ht : (pc : Int) + off = (tgt : Int)) (kt : x < y → WE M tgt L st σ cu su G) (kf : ¬ x < y → WE M n L st σ cu su G) : WE M pc L (.int y :: .int x :: st) σ cu su G := by
  subst hn
  intro l D aC z p e s m args below meth c H locs ls C hP hS hl
  exact lv_icmp_lt C.2.1 C.2.2.1 hd ht (fun q => kt q l D aC z p e s m args below meth c H locs ls C hP hS hl) (fun q => kf q l D aC z p e s m args below meth c H locs ls C hP hS hl)
theorem WE.if_ge {x : Int32} {off : Int} {tgt : Nat} (hd : decode (mtC M) pc = .ok (.ifCond .ge off, 3)) (hn : pc + 3 = n) (ht : (pc : Int) + off = (tgt : Int)) (kt : 0 ≤ x → WE M tgt L st σ cu su G) (kf : ¬ 0 ≤ x → WE M n L st σ cu su G) : WE M pc L (.int x :: st) σ cu su G := by
  subst hn
  intro l D aC z p e s m args below meth c H locs ls C hP hS hl
  exact lv_if_ge C.2.1 C.2.2.1 hd ht (fun q => kt q l D aC z p e s m args below meth c H locs ls C hP hS hl) (fun q => kf q l D aC z p e s m args below meth c H locs ls C hP hS hl)
theorem WE.icmp_ge {x y : Int32} {off : Int} {tgt : Nat} (hd : decode (mtC M) pc = .ok (.if_icmp .ge off, 3)) (hn : pc + 3 = n) (ht : (pc : Int) + off = (tgt : Int)) (kt : y ≤ x → WE M tgt L st σ cu su G) (kf : ¬ y ≤ x → WE M n L st σ cu su G) : WE M pc L (.int y :: .int x :: st) σ cu su G := by
  subst hn
  intro l D aC z p e s m args below meth c H locs ls C hP hS hl
  exact lv_icmp_ge C.2.1 C.2.2.1 hd ht (fun q => kt q l D aC z p e s m args below meth c H locs ls C hP hS hl) (fun q => kf q l D aC z p e s m args below meth c H locs ls C hP hS hl)
theorem WE.if_gt {x : Int32} {off : Int} {tgt : Nat} (hd : decode (mtC M) pc = .ok (.ifCond .gt off, 3)) (hn : pc + 3 = n) (ht : (pc : Int) + off = (tgt : Int)) (kt : 0 < x → WE M tgt L st σ cu su G) (kf : ¬ 0 < x → WE M n L st σ cu su G) : WE M pc L (.int x :: st) σ cu su G := by
  subst hn
  intro l D aC z p e s m args below meth c H locs ls C hP hS hl
  exact lv_if_gt C.2.1 C.2.2.1 hd ht (fun q => kt q l D aC z p e s m args below meth c H locs ls C hP hS hl) (fun q => kf q l D aC z p e s m args below meth c H locs ls C hP hS hl)
theorem WE.icmp_gt {x y : Int32} {off : Int} {tgt : Nat} (hd : decode (mtC M) pc = .ok (.if_icmp .gt off, 3)) (hn : pc + 3 = n) (ht : (pc : Int) + off = (tgt : Int)) (kt : y < x → WE M tgt L st σ cu su G) (kf : ¬ y < x → WE M n L st σ cu su G) : WE M pc L (.int y :: .int x :: st) σ cu su G := by
  subst hn
  intro l D aC z p e s m args below meth c H locs ls C hP hS hl
  exact lv_icmp_gt C.2.1 C.2.2.1 hd ht (fun q => kt q l D aC z p e s m args below meth c H locs ls C hP hS hl) (fun q => kf q l D aC z p e s m args below meth c H locs ls C hP hS hl)
theorem WE.if_le {x : Int32} {off : Int} {tgt : Nat} (hd : decode (mtC M) pc = .ok (.ifCond .le off, 3)) (hn : pc + 3 = n) (ht : (pc : Int) + off = (tgt : Int)) (kt : x ≤ 0 → WE M tgt L st σ cu su G) (kf : ¬ x ≤ 0 → WE M n L st σ cu su G) : WE M pc L (.int x :: st) σ cu su G := by
  subst hn
  intro l D aC z p e s m args below meth c H locs ls C hP hS hl
  exact lv_if_le C.2.1 C.2.2.1 hd ht (fun q => kt q l D aC z p e s m args below meth c H locs ls C hP hS hl) (fun q => kf q l D aC z p e s m args below meth c H locs ls C hP hS hl)
theorem WE.icmp_le {x y : Int32} {off : Int} {tgt : Nat} (hd : decode (mtC M) pc = .ok (.if_icmp .le off, 3)) (hn : pc + 3 = n) (ht : (pc : Int) + off = (tgt : Int)) (kt : x ≤ y → WE M tgt L st σ cu su G) (kf : ¬ x ≤ y → WE M n L st σ cu su G) : WE M pc L (.int y :: .int x :: st) σ cu su G := by
  subst hn
  intro l D aC z p e s m args below meth c H locs ls C hP hS hl
  exact lv_icmp_le C.2.1 C.2.2.1 hd ht (fun q => kt q l D aC z p e s m args below meth c H locs ls C hP hS hl) (fun q => kf q l D aC z p e s m args below meth c H locs ls C hP hS hl)
theorem WE.goto {off : Int} {tgt : Nat} (hd : decode (mtC M) pc = .ok (.goto off, 3)) (ht : (pc : Int) + off = (tgt : Int)) (k : WE M tgt L st σ cu su G) : WE M pc L st σ cu su G := by
  intro l D aC z p e s m args below meth c H locs ls C hP hS hl
  exact lv_goto C.2.1 C.2.2.1 hd ht (k l D aC z p e s m args below meth c H locs ls C hP hS hl)
theorem WE.tsw {dflt lo hi : Int} {offs : Array Int} {len : Nat} {x : Int32} {off : Int} {tgt : Nat} (hd : decode (mtC M) pc = .ok (.tableswitch dflt lo hi offs, len)) (v : Int) (hv : x.toInt = v) (h1 : ¬ v < lo) (h2 : ¬ hi < v) (ho : offs[(v - lo).toNat]? = some off) (ht : (pc : Int) + off = (tgt : Int)) (k : WE M tgt L st σ cu su G) : WE M pc L (.int x :: st) σ cu su G := by
  subst hv
  intro l D aC z p e s m args below meth c H locs ls C hP hS hl
  exact lv_tableIn C.2.1 C.2.2.1 hd h1 h2 ho ht (k l D aC z p e s m args below meth c H locs ls C hP hS hl)
theorem WE.tswO {dflt lo hi : Int} {offs : Array Int} {len : Nat} {x : Int32} {tgt : Nat} (hd : decode (mtC M) pc = .ok (.tableswitch dflt lo hi offs, len)) (h : x.toInt < lo ∨ hi < x.toInt) (ht : (pc : Int) + dflt = (tgt : Int)) (k : WE M tgt L st σ cu su G) : WE M pc L (.int x :: st) σ cu su G := by
  intro l D aC z p e s m args below meth c H locs ls C hP hS hl
  exact lv_tableOut C.2.1 C.2.2.1 hd h ht (k l D aC z p e s m args below meth c H locs ls C hP hS hl)
theorem WE.lsw {dflt : Int} {ps : Array (Int × Int)} {len : Nat} {x : Int32} {off : Int} {tgt : Nat} (hd : decode (mtC M) pc = .ok (.lookupswitch dflt ps, len)) (hp : (ps.toList.zip (ps.toList.drop 1)).all (fun (a, next) => a.1 < next.1) = true) (ho : Op.lookupswitch.offset ps.toList dflt x.toInt = off) (ht : (pc : Int) + off = (tgt : Int)) (k : WE M tgt L st σ cu su G) : WE M pc L (.int x :: st) σ cu su G := by
  intro l D aC z p e s m args below meth c H locs ls C hP hS hl
  exact lv_lookup C.2.1 C.2.2.1 hd hp ho ht (k l D aC z p e s m args below meth c H locs ls C hP hS hl)
end WER
