/-! THE LAW'S OWN JUDGEMENT: the world as before, the script beside it in local 0 -/
abbrev mL_law : MT := (yL_law, cL_law, 9, some .boolean, room_1, [])
def Lx (b Ls : Nat) (xs : Nat → Int32) (l : Launch) (D : va_G) (aC : Nat → ClassId) (z : Nat) (p : Program) (s : State) (m : MethodId) (meth : Method) (c : Code) : Prop :=
  Cx l mL_law D aC z p s m #[.ref b] meth c ∧ va_X b Ls xs s s.heap ∧ b < s.heap.size ∧ s.heap.size = z
abbrev ZT : Type := List Frame → Array Value → State → State → Prop
def LE (b Ls : Nat) (xs : Nat → Int32) (Z : ZT) (pc : Nat) (L : List (Nat × Value)) (st : List Value) (σ : SS) (cu su : Nat) : Prop :=
  ∀ (l : Launch) (D : va_G) (aC : Nat → ClassId) (z : Nat) (p : Program) (e : Env) (s : State) (m : MethodId) (below : List Frame) (meth : Method) (c : Code) (H : Heap) (locs : List Loc) (ls : Array Slot),
    Lx b Ls xs l D aC z p s m meth c → va_P D vwc (wl z aC σ) H → va_S (AA z s.heap.size) s.heap H locs → lv_has ls 9 ((0, .ref b) :: trL z L) →
    W p l e room_1 s m #[.ref b] below meth c H locs cu su (Z below #[.ref b] s) (F0 m pc ls (st.map (trv z)))
section LEQ
variable {b Ls : Nat} {xs : Nat → Int32} {Z : ZT} {pc n : Nat} {L : List (Nat × Value)} {st : List Value} {σ : SS} {c0 : CC} {od : Int64 × UInt64} {cu su : Nat}
theorem Lx.out {l : Launch} {D : va_G} {aC : Nat → ClassId} {z : Nat} {p : Program} {s : State} {m : MethodId} {meth : Method} {c : Code} (C : Lx b Ls xs l D aC z p s m meth c) : ¬ AA z s.heap.size b := by
  rintro (h | h)
  · exact absurd h.1 (Nat.not_le.mpr (C.2.2.2 ▸ C.2.2.1))
  · exact absurd h (Nat.not_le.mpr C.2.2.1)
theorem lkH {ls : Array Slot} {z i : Nat} {v : Value} (hl : lv_has ls 9 ((0, .ref b) :: trL z L)) (h : lkL i L = some v) : ls[i]? = some (.val (trv z v)) := by
  obtain ⟨k, hk⟩ := lk_pos h
  exact lv_at hl (k + 1) (by rw [List.getElem?_cons_succ]; exact trL_at hk)
theorem LE.ofS {σ' : SS} (h : σ = σ') (k : LE b Ls xs Z pc L st σ' cu su) : LE b Ls xs Z pc L st σ cu su := h ▸ k
theorem LE.widen {cu' su' : Nat} (h1 : cu ≤ cu') (h2 : su ≤ su') (k : LE b Ls xs Z pc L st σ cu' su') : LE b Ls xs Z pc L st σ cu su := by
  intro l D aC z p e s m below meth c H locs ls C hP hS hl
  exact W.widen h1 h2 (k l D aC z p e s m below meth c H locs ls C hP hS hl)
theorem LE.ofA {L' : List (Nat × Value)} (h : allA L L') (k : LE b Ls xs Z pc L' st σ cu su) : LE b Ls xs Z pc L st σ cu su := by
  intro l D aC z p e s m below meth c H locs ls C hP hS hl
  refine k l D aC z p e s m below meth c H locs ls C hP hS ⟨hl.1, hl.2.1, fun q hq => ?_⟩
  rcases List.mem_cons.mp hq with rfl | hq
  · exact hl.2.2 _ List.mem_cons_self
  · obtain ⟨r, hr, rfl⟩ := List.mem_map.mp hq
    exact lkH hl (allA_mem h r hr)
/-- slots of the row 396 behind its length don't count -/
theorem cE_N {z : Nat} {aC : Nat → ClassId} {c : CC} {N : NA} {j : Nat} (hj : j ≠ 396) : cE z aC (setN c N, od) j = cE z aC (c, od) j := by
  have h1 : setN c N j = c j := setN_o c N hj
  have h2 : ∀ d, fV z (setN c N) d j = fV z c d j := by
    intro d
    funext k
    unfold fV
    rw [h1]
  unfold cE
  simp only [h1, h2]
theorem arrN (cA : ClassId) {n : Nat} {f g : Nat → Value} (h : ∀ k, k < n → f k = g k) : arrV cA n f = arrV cA n g := by
  unfold arrV
  have e : (fun j : Fin n => f j.val) = fun j : Fin n => g j.val := funext fun j => h j.val j.isLt
  rw [e]
theorem wl_N {z : Nat} {aC : Nat → ClassId} {D : va_G} {c : CC} {N : NA} {H : Heap} (h : ∀ k, k < 184 → c 396 k = N k) (hP : va_P D vwc (wl z aC (c, od)) H) : va_P D vwc (wl z aC (setN c N, od)) H := by
  have h0 : (wl z aC (c, od)).set 396 (z + 396, cE z aC (c, od) 396) = wl z aC (c, od) := wl_setN (by decide) rfl (fun j _ _ => rfl)
  have h2 := va_swap (i := 396) (q := z + 396) (e := cE z aC (c, od) 396) (e' := cE z aC (setN c N, od) 396) (ws := wl z aC (c, od)) (D := D) (cl := vwc) (H := H) (by rw [h0]; exact hP) (fun h3 => by
    rw [cE_int (d := 10) (by decide) (Or.inl rfl)] at h3 ⊢
    refine Eq.trans h3 (congrArg some ?_)
    show arrV (aC 0) 184 (fun j => Value.int (c 396 j)) = arrV (aC 0) 184 (fun j => Value.int (setN c N 396 j))
    rw [setN_at]
    exact arrN _ (fun k hk => by rw [h k hk]))
  rw [wl_setN (σ' := (setN c N, od)) (by decide) rfl (fun j hj _ => cE_N hj)] at h2
  exact h2
theorem LE.norm {N : NA} (h : ∀ k, k < 184 → c0 396 k = N k) (k : LE b Ls xs Z pc L st (setN c0 N, od) cu su) : LE b Ls xs Z pc L st (c0, od) cu su := by
  intro l D aC z p e s m below meth c H locs ls C hP hS hl
  exact k l D aC z p e s m below meth c H locs ls C (wl_N h hP) hS hl
theorem LE.aload_n {j : Fin 4} {x : Nat} (hd : decode cL_law pc = .ok (.aload_n j, 1)) (hn : pc + 1 = n) (hk : lkL j.val L = some (.ref x)) (k : LE b Ls xs Z n L (.ref x :: st) σ cu su) : LE b Ls xs Z pc L (st) σ cu su := by
  subst hn
  intro l D aC z p e s m below meth c H locs ls C hP hS hl
  exact lv_aload_n C.1.2.1 C.1.2.2.1 hd rfl (lkH (v := .ref x) hl hk) (k l D aC z p e s m below meth c H locs ls C hP hS hl)
theorem LE.aload {j x : Nat} (hd : decode cL_law pc = .ok (.aload j, 2)) (hn : pc + 2 = n) (hk : lkL j L = some (.ref x)) (k : LE b Ls xs Z n L (.ref x :: st) σ cu su) : LE b Ls xs Z pc L (st) σ cu su := by
  subst hn
  intro l D aC z p e s m below meth c H locs ls C hP hS hl
  exact lv_aload C.1.2.1 C.1.2.2.1 hd (lkH (v := .ref x) hl hk) (k l D aC z p e s m below meth c H locs ls C hP hS hl)
theorem LE.iload {j : Nat} {x : Int32} (hd : decode cL_law pc = .ok (.iload j, 2)) (hn : pc + 2 = n) (hk : lkL j L = some (.int x)) (k : LE b Ls xs Z n L (.int x :: st) σ cu su) : LE b Ls xs Z pc L (st) σ cu su := by
  subst hn
  intro l D aC z p e s m below meth c H locs ls C hP hS hl
  exact lv_iload C.1.2.1 C.1.2.2.1 hd (lkH (v := .int x) hl hk) (k l D aC z p e s m below meth c H locs ls C hP hS hl)
theorem LE.dload {j : Nat} {x : UInt64} (hd : decode cL_law pc = .ok (.dload j, 2)) (hn : pc + 2 = n) (hk : lkL j L = some (.double x)) (k : LE b Ls xs Z n L (.double x :: st) σ cu su) : LE b Ls xs Z pc L (st) σ cu su := by
  subst hn
  intro l D aC z p e s m below meth c H locs ls C hP hS hl
  exact lv_dload C.1.2.1 C.1.2.2.1 hd (lkH (v := .double x) hl hk) (k l D aC z p e s m below meth c H locs ls C hP hS hl)
theorem LE.fload {j : Nat} {x : UInt32} (hd : decode cL_law pc = .ok (.fload j, 2)) (hn : pc + 2 = n) (hk : lkL j L = some (.float x)) (k : LE b Ls xs Z n L (.float x :: st) σ cu su) : LE b Ls xs Z pc L (st) σ cu su := by
  subst hn
  intro l D aC z p e s m below meth c H locs ls C hP hS hl
  exact lv_fload C.1.2.1 C.1.2.2.1 hd (lkH (v := .float x) hl hk) (k l D aC z p e s m below meth c H locs ls C hP hS hl)
theorem LE.iconst {i : Int} (v : Int32) (hd : decode cL_law pc = .ok (.iconst i, 1)) (hn : pc + 1 = n) (hv : Int32.ofInt i = v) (k : LE b Ls xs Z n L (.int v :: st) σ cu su) : LE b Ls xs Z pc L (st) σ cu su := by
  subst hn
  intro l D aC z p e s m below meth c H locs ls C hP hS hl
  exact lv_iconst C.1.2.1 C.1.2.2.1 hd hv (k l D aC z p e s m below meth c H locs ls C hP hS hl)
theorem LE.bipush {i : Int} (v : Int32) (hd : decode cL_law pc = .ok (.bipush i, 2)) (hn : pc + 2 = n) (hv : (Int8.ofInt i).toInt32 = v) (k : LE b Ls xs Z n L (.int v :: st) σ cu su) : LE b Ls xs Z pc L (st) σ cu su := by
  subst hn
  intro l D aC z p e s m below meth c H locs ls C hP hS hl
  exact lv_bipush C.1.2.1 C.1.2.2.1 hd hv (k l D aC z p e s m below meth c H locs ls C hP hS hl)
theorem LE.isub {x y : Int32} (hd : decode cL_law pc = .ok (.isub, 1)) (hn : pc + 1 = n) (k : LE b Ls xs Z n L (.int (x - y) :: st) σ cu su) : LE b Ls xs Z pc L (.int y :: .int x :: st) σ cu su := by
  subst hn
  intro l D aC z p e s m below meth c H locs ls C hP hS hl
  exact lv_isub C.1.2.1 C.1.2.2.1 hd (k l D aC z p e s m below meth c H locs ls C hP hS hl)
theorem LE.iand {x y : Int32} (hd : decode cL_law pc = .ok (.iand, 1)) (hn : pc + 1 = n) (k : LE b Ls xs Z n L (.int (x &&& y) :: st) σ cu su) : LE b Ls xs Z pc L (.int y :: .int x :: st) σ cu su := by
  subst hn
  intro l D aC z p e s m below meth c H locs ls C hP hS hl
  exact lv_iand C.1.2.1 C.1.2.2.1 hd (k l D aC z p e s m below meth c H locs ls C hP hS hl)
theorem LE.i2l {x : Int32} (hd : decode cL_law pc = .ok (.i2l, 1)) (hn : pc + 1 = n) (k : LE b Ls xs Z n L (.long x.toInt64 :: st) σ cu su) : LE b Ls xs Z pc L (.int x :: st) σ cu su := by
  subst hn
  intro l D aC z p e s m below meth c H locs ls C hP hS hl
  exact lv_i2l C.1.2.1 C.1.2.2.1 hd rfl (k l D aC z p e s m below meth c H locs ls C hP hS hl)
theorem LE.i2c {x : Int32} (hd : decode cL_law pc = .ok (.i2c, 1)) (hn : pc + 1 = n) (k : LE b Ls xs Z n L (.int ((x.toUInt32 % 65536).toInt32) :: st) σ cu su) : LE b Ls xs Z pc L (.int x :: st) σ cu su := by
  subst hn
  intro l D aC z p e s m below meth c H locs ls C hP hS hl
  exact lv_i2c C.1.2.1 C.1.2.2.1 hd rfl (k l D aC z p e s m below meth c H locs ls C hP hS hl)
theorem LE.lconst {i : Fin 2} (v : Int64) (hd : decode cL_law pc = .ok (.lconst i, 1)) (hn : pc + 1 = n) (hv : Int64.ofNat (i : Nat) = v) (k : LE b Ls xs Z n L (.long v :: st) σ cu su) : LE b Ls xs Z pc L (st) σ cu su := by
  subst hn
  intro l D aC z p e s m below meth c H locs ls C hP hS hl
  exact lv_lconst C.1.2.1 C.1.2.2.1 hd hv (k l D aC z p e s m below meth c H locs ls C hP hS hl)
theorem LE.f2d {x : UInt32} (hd : decode cL_law pc = .ok (.f2d, 1)) (hn : pc + 1 = n) (hne : vf_n64 (FP.f2d x)) (k : LE b Ls xs Z n L (.double (FP.f2d x) :: st) σ cu su) : LE b Ls xs Z pc L (.float x :: st) σ cu su := by
  subst hn
  intro l D aC z p e s m below meth c H locs ls C hP hS hl
  exact lv_f2d C.1.2.1 C.1.2.2.1 hd hne (k l D aC z p e s m below meth c H locs ls C hP hS hl)
theorem LE.lcmp {x y : Int64} (hd : decode cL_law pc = .ok (.lcmp, 1)) (hn : pc + 1 = n) (k : LE b Ls xs Z n L (.int (lg_cmp x y) :: st) σ cu su) : LE b Ls xs Z pc L (.long y :: .long x :: st) σ cu su := by
  subst hn
  intro l D aC z p e s m below meth c H locs ls C hP hS hl
  exact W.lcmp C.1.2.1 C.1.2.2.1 hd (k l D aC z p e s m below meth c H locs ls C hP hS hl)
theorem LE.dcmp {x y : UInt64} {o : CmpOp} (hd : decode cL_law pc = .ok (.dcmp o, 1)) (hn : pc + 1 = n) (k : LE b Ls xs Z n L (.int (Op.cmpValue (FP.dcmp x y) o) :: st) σ cu su) : LE b Ls xs Z pc L (.double y :: .double x :: st) σ cu su := by
  subst hn
  intro l D aC z p e s m below meth c H locs ls C hP hS hl
  exact lv_dcmp C.1.2.1 C.1.2.2.1 hd (k l D aC z p e s m below meth c H locs ls C hP hS hl)
theorem LE.fcmp {x y : UInt32} {o : CmpOp} (hd : decode cL_law pc = .ok (.fcmp o, 1)) (hn : pc + 1 = n) (k : LE b Ls xs Z n L (.int (Op.cmpValue (FP.fcmp x y) o) :: st) σ cu su) : LE b Ls xs Z pc L (.float y :: .float x :: st) σ cu su := by
  subst hn
  intro l D aC z p e s m below meth c H locs ls C hP hS hl
  exact lv_fcmp C.1.2.1 C.1.2.2.1 hd (k l D aC z p e s m below meth c H locs ls C hP hS hl)
theorem lst_ok {z j : Nat} {v : Value} (hj : j ≠ 0) {ls' : Array Slot} (h : lv_has ls' 9 ((j, trv z v) :: ((0, Value.ref b) :: trL z L).filter (fun q => !(q.1 == j) && !(q.1 + 1 == j && q.2.category == 2)))) : lv_has ls' 9 ((0, .ref b) :: trL z (stL j v L)) := by
  refine ⟨h.1, h.2.1, fun q hq => h.2.2 q ?_⟩
  rcases List.mem_cons.mp hq with rfl | hq
  · refine List.mem_cons_of_mem _ (List.mem_filter.mpr ⟨List.mem_cons_self, ?_⟩)
    have h1 : ((0 : Nat) == j) = false := by simpa using fun e => hj e.symm
    have h2 : ((Value.ref b).category == 2) = false := rfl
    simp only [h1, h2, Bool.not_false, Bool.and_false, Bool.and_true]
  · rw [← trL_st] at hq
    rcases List.mem_cons.mp hq with rfl | hq
    · exact List.mem_cons_self
    · obtain ⟨h1, h2⟩ := List.mem_filter.mp hq
      exact List.mem_cons_of_mem _ (List.mem_filter.mpr ⟨List.mem_cons_of_mem _ h1, h2⟩)
theorem lst_ok2 {z j : Nat} {v : Value} (hj : j ≠ 0) {ls' : Array Slot} (h : lv_has ls' 9 ((j, trv z v) :: ((0, Value.ref b) :: trL z L).filter (fun q => !(q.1 == j) && (!(q.1 == j + 1) && !(q.1 + 1 == j && q.2.category == 2))))) : lv_has ls' 9 ((0, .ref b) :: trL z (stL2 j v L)) := by
  refine ⟨h.1, h.2.1, fun q hq => h.2.2 q ?_⟩
  rcases List.mem_cons.mp hq with rfl | hq
  · refine List.mem_cons_of_mem _ (List.mem_filter.mpr ⟨List.mem_cons_self, ?_⟩)
    have h1 : ((0 : Nat) == j) = false := by simpa using fun e => hj e.symm
    have h2 : ((Value.ref b).category == 2) = false := rfl
    have h3 : ((0 : Nat) == j + 1) = false := by simp
    simp only [h1, h2, h3, Bool.not_false, Bool.and_false, Bool.and_true]
  · rw [← trL_st2] at hq
    rcases List.mem_cons.mp hq with rfl | hq
    · exact List.mem_cons_self
    · obtain ⟨h1, h2⟩ := List.mem_filter.mp hq
      exact List.mem_cons_of_mem _ (List.mem_filter.mpr ⟨List.mem_cons_of_mem _ h1, h2⟩)
theorem LE.istore {j : Nat} {x : Int32} (hd : decode cL_law pc = .ok (.istore j, 2)) (hn : pc + 2 = n) (hj : j ≠ 0 ∧ j < 9) (k : LE b Ls xs Z n (stL j (.int x) L) st σ cu su) : LE b Ls xs Z pc L (.int x :: st) σ cu su := by
  subst hn
  intro l D aC z p e s m below meth c H locs ls C hP hS hl
  exact lv_istore C.1.2.1 C.1.2.2.1 hd hl hj.2 rfl (fun ls' h => k l D aC z p e s m below meth c H locs ls' C hP hS (lst_ok (v := .int x) hj.1 h))
theorem LE.fstore {j : Nat} {x : UInt32} (hd : decode cL_law pc = .ok (.fstore j, 2)) (hn : pc + 2 = n) (hj : j ≠ 0 ∧ j < 9) (k : LE b Ls xs Z n (stL j (.float x) L) st σ cu su) : LE b Ls xs Z pc L (.float x :: st) σ cu su := by
  subst hn
  intro l D aC z p e s m below meth c H locs ls C hP hS hl
  exact lv_fstore C.1.2.1 C.1.2.2.1 hd hl hj.2 rfl (fun ls' h => k l D aC z p e s m below meth c H locs ls' C hP hS (lst_ok (v := .float x) hj.1 h))
theorem LE.dstore {j : Nat} {x : UInt64} (hd : decode cL_law pc = .ok (.dstore j, 2)) (hn : pc + 2 = n) (hj : j ≠ 0 ∧ j + 1 < 9) (k : LE b Ls xs Z n (stL2 j (.double x) L) st σ cu su) : LE b Ls xs Z pc L (.double x :: st) σ cu su := by
  subst hn
  intro l D aC z p e s m below meth c H locs ls C hP hS hl
  exact lv_dstore C.1.2.1 C.1.2.2.1 hd hl hj.2 rfl (fun ls' h => k l D aC z p e s m below meth c H locs ls' C hP hS (lst_ok2 (v := .double x) hj.1 h))
theorem LE.iincV {j : Nat} {i : Int} {x : Int32} (v : Int32) (hd : decode cL_law pc = .ok (.iinc j i, 3)) (hn : pc + 3 = n) (hk : lkL j L = some (.int x)) (hj : j ≠ 0 ∧ j < 9) (hv : x + Int32.ofInt i = v) (k : LE b Ls xs Z n (stL j (.int v) L) st σ cu su) : LE b Ls xs Z pc L st σ cu su := by
  subst hn
  subst hv
  intro l D aC z p e s m below meth c H locs ls C hP hS hl
  obtain ⟨q, hq⟩ := lk_pos hk
  exact lv_iinc C.1.2.1 C.1.2.2.1 hd hl (k := q + 1) (by rw [List.getElem?_cons_succ]; exact trL_at hq) rfl hj.2 rfl (fun ls' h => k l D aC z p e s m below meth c H locs ls' C hP hS (lst_ok (v := .int (x + Int32.ofInt i)) hj.1 h))
theorem LE.if_eq {x : Int32} {off : Int} {tgt : Nat} (hd : decode cL_law pc = .ok (.ifCond .eq off, 3)) (hn : pc + 3 = n) (ht : (pc : Int) + off = (tgt : Int)) (kt : x = 0 → LE b Ls xs Z tgt L st σ cu su) (kf : ¬ x = 0 → LE b Ls xs Z n L st σ cu su) : LE b Ls xs Z pc L (.int x :: st) σ cu su := by
  subst hn
  intro l D aC z p e s m below meth c H locs ls C hP hS hl
  exact lv_if_eq C.1.2.1 C.1.2.2.1 hd ht (fun q => kt q l D aC z p e s m below meth c H locs ls C hP hS hl) (fun q => kf q l D aC z p e s m below meth c H locs ls C hP hS hl)
theorem LE.if_ne {x : Int32} {off : Int} {tgt : Nat} (hd : decode cL_law pc = .ok (.ifCond .ne off, 3)) (hn : pc + 3 = n) (ht : (pc : Int) + off = (tgt : Int)) (kt : ¬ x = 0 → LE b Ls xs Z tgt L st σ cu su) (kf : x = 0 → LE b Ls xs Z n L st σ cu su) : LE b Ls xs Z pc L (.int x :: st) σ cu su := by
  subst hn
  intro l D aC z p e s m below meth c H locs ls C hP hS hl
  exact lv_if_ne C.1.2.1 C.1.2.2.1 hd ht (fun q => kt q l D aC z p e s m below meth c H locs ls C hP hS hl) (fun q => kf q l D aC z p e s m below meth c H locs ls C hP hS hl)
theorem LE.icmp_eq {x y : Int32} {off : Int} {tgt : Nat} (hd : decode cL_law pc = .ok (.if_icmp .eq off, 3)) (hn : pc + 3 = n) (ht : (pc : Int) + off = (tgt : Int)) (kt : x = y → LE b Ls xs Z tgt L st σ cu su) (kf : ¬ x = y → LE b Ls xs Z n L st σ cu su) : LE b Ls xs Z pc L (.int y :: .int x :: st) σ cu su := by
  subst hn
  intro l D aC z p e s m below meth c H locs ls C hP hS hl
  exact lv_icmp_eq C.1.2.1 C.1.2.2.1 hd ht (fun q => kt q l D aC z p e s m below meth c H locs ls C hP hS hl) (fun q => kf q l D aC z p e s m below meth c H locs ls C hP hS hl)
theorem LE.icmp_gt {x y : Int32} {off : Int} {tgt : Nat} (hd : decode cL_law pc = .ok (.if_icmp .gt off, 3)) (hn : pc + 3 = n) (ht : (pc : Int) + off = (tgt : Int)) (kt : y < x → LE b Ls xs Z tgt L st σ cu su) (kf : ¬ y < x → LE b Ls xs Z n L st σ cu su) : LE b Ls xs Z pc L (.int y :: .int x :: st) σ cu su := by
  subst hn
  intro l D aC z p e s m below meth c H locs ls C hP hS hl
  exact lv_icmp_gt C.1.2.1 C.1.2.2.1 hd ht (fun q => kt q l D aC z p e s m below meth c H locs ls C hP hS hl) (fun q => kf q l D aC z p e s m below meth c H locs ls C hP hS hl)
theorem LE.goto {off : Int} {tgt : Nat} (hd : decode cL_law pc = .ok (.goto off, 3)) (ht : (pc : Int) + off = (tgt : Int)) (k : LE b Ls xs Z tgt L st σ cu su) : LE b Ls xs Z pc L st σ cu su := by
  intro l D aC z p e s m below meth c H locs ls C hP hS hl
  exact lv_goto C.1.2.1 C.1.2.2.1 hd ht (k l D aC z p e s m below meth c H locs ls C hP hS hl)
theorem LE.tsw {dflt lo hi : Int} {offs : Array Int} {len : Nat} {x : Int32} {off : Int} {tgt : Nat} (hd : decode cL_law pc = .ok (.tableswitch dflt lo hi offs, len)) (v : Int) (hv : x.toInt = v) (h1 : ¬ v < lo) (h2 : ¬ hi < v) (ho : offs[(v - lo).toNat]? = some off) (ht : (pc : Int) + off = (tgt : Int)) (k : LE b Ls xs Z tgt L st σ cu su) : LE b Ls xs Z pc L (.int x :: st) σ cu su := by
  subst hv
  intro l D aC z p e s m below meth c H locs ls C hP hS hl
  exact lv_tableIn C.1.2.1 C.1.2.2.1 hd h1 h2 ho ht (k l D aC z p e s m below meth c H locs ls C hP hS hl)
theorem LE.tswO {dflt lo hi : Int} {offs : Array Int} {len : Nat} {x : Int32} {tgt : Nat} (hd : decode cL_law pc = .ok (.tableswitch dflt lo hi offs, len)) (h : x.toInt < lo ∨ hi < x.toInt) (ht : (pc : Int) + dflt = (tgt : Int)) (k : LE b Ls xs Z tgt L st σ cu su) : LE b Ls xs Z pc L (.int x :: st) σ cu su := by
  intro l D aC z p e s m below meth c H locs ls C hP hS hl
  exact lv_tableOut C.1.2.1 C.1.2.2.1 hd h ht (k l D aC z p e s m below meth c H locs ls C hP hS hl)
/-- the script's int at i + k: five instructions -/
theorem LE.arg {k i : Nat} {ki : Int} (d0 : decode cL_law pc = .ok (.aload_n 0, 1)) (d1 : decode cL_law (pc + 1) = .ok (.iload 5, 2)) (d3 : decode cL_law (pc + 3) = .ok (.iconst ki, 1)) (d4 : decode cL_law (pc + 4) = .ok (.iadd, 1)) (d5 : decode cL_law (pc + 5) = .ok (.iaload, 1)) (hn : pc + 6 = n) (hk : lkL 5 L = some (.int (nI i))) (hv : Int32.ofInt ki = nI k) (hin : i + k < Ls ∧ Ls ≤ 2048) (kk : LE b Ls xs Z n L (.int (xs (i + k)) :: st) σ cu su) : LE b Ls xs Z pc L st σ cu su := by
  subst hn
  intro l D aC z p e s m below meth c H locs ls C hP hS hl
  refine lv_aload_n C.1.2.1 C.1.2.2.1 d0 rfl (lv_at hl 0 rfl) ?_
  refine lv_iload C.1.2.1 C.1.2.2.1 d1 (lkH (v := .int (nI i)) hl hk) ?_
  refine lv_iconst (v := nI k) C.1.2.1 C.1.2.2.1 d3 hv ?_
  refine lv_iadd C.1.2.1 C.1.2.2.1 d4 ?_
  rw [nI_add]
  refine va_sld C.1.2.1 C.1.2.2.1 C.2.1 C.2.2.1 C.out hS (vp_in_nI hin.1 (by omega)) d5 ?_
  rw [nI_clamp (by omega)]
  exact kk l D aC z p e s m below meth c H locs ls C hP hS hl
theorem LE.arg0 {i : Nat} (d0 : decode cL_law pc = .ok (.aload_n 0, 1)) (d1 : decode cL_law (pc + 1) = .ok (.iload 5, 2)) (d5 : decode cL_law (pc + 3) = .ok (.iaload, 1)) (hn : pc + 4 = n) (hk : lkL 5 L = some (.int (nI i))) (hin : i < Ls ∧ Ls ≤ 2048) (kk : LE b Ls xs Z n L (.int (xs i) :: st) σ cu su) : LE b Ls xs Z pc L st σ cu su := by
  subst hn
  intro l D aC z p e s m below meth c H locs ls C hP hS hl
  refine lv_aload_n C.1.2.1 C.1.2.2.1 d0 rfl (lv_at hl 0 rfl) ?_
  refine lv_iload C.1.2.1 C.1.2.2.1 d1 (lkH (v := .int (nI i)) hl hk) ?_
  refine va_sld C.1.2.1 C.1.2.2.1 C.2.1 C.2.2.1 C.out hS (vp_in_nI hin.1 (by omega)) d5 ?_
  rw [nI_clamp (by omega)]
  exact kk l D aC z p e s m below meth c H locs ls C hP hS hl
theorem LE.len (d0 : decode cL_law pc = .ok (.aload_n 0, 1)) (d1 : decode cL_law (pc + 1) = .ok (.arraylength, 1)) (hn : pc + 2 = n) (kk : LE b Ls xs Z n L (.int (nI Ls) :: st) σ cu su) : LE b Ls xs Z pc L st σ cu su := by
  subst hn
  intro l D aC z p e s m below meth c H locs ls C hP hS hl
  refine lv_aload_n C.1.2.1 C.1.2.2.1 d0 rfl (lv_at hl 0 rfl) ?_
  exact va_slen C.1.2.1 C.1.2.2.1 C.2.1 C.2.2.1 C.out hS d1 (kk l D aC z p e s m below meth c H locs ls C hP hS hl)
theorem LE.lald (hd : decode cL_law pc = .ok (.laload, 1)) (hn : pc + 1 = n) (kk : LE b Ls xs Z n L (.long σ.2.1 :: st) σ cu su) : LE b Ls xs Z pc L (.int (nI 0) :: .ref 403 :: st) σ cu su := by
  subst hn
  intro l D aC z p e s m below meth c H locs ls C hP hS hl
  exact va_lald (D := D) (cl := vwc) (f := fun _ => σ.2.1) C.1.2.1 C.1.2.2.1 C.1.2.2.2.2.2.2.2.1 hP 403 5 ((wl_at z aC σ (by decide)).trans (by rw [cE_l])) rfl (vp_in_nI (show 0 < 1 by decide) (by decide)) hd (kk l D aC z p e s m below meth c H locs ls C hP hS hl)
theorem LE.dald (hd : decode cL_law pc = .ok (.daload, 1)) (hn : pc + 1 = n) (kk : LE b Ls xs Z n L (.double σ.2.2 :: st) σ cu su) : LE b Ls xs Z pc L (.int (nI 0) :: .ref 404 :: st) σ cu su := by
  subst hn
  intro l D aC z p e s m below meth c H locs ls C hP hS hl
  exact va_dald (D := D) (cl := vwc) (f := fun _ => σ.2.2) C.1.2.1 C.1.2.2.1 C.1.2.2.2.2.2.2.2.1 hP 404 6 ((wl_at z aC σ (by decide)).trans (by rw [cE_d])) rfl (vp_in_nI (show 0 < 1 by decide) (by decide)) hd (kk l D aC z p e s m below meth c H locs ls C hP hS hl)
/-- calls: from a run of the callee to the judgement behind the call -/
theorem LE.ofRun {M' : MT} {Q' : AO → SS → Prop} {pre : List Value} {l : Launch} {D : va_G} {aC : Nat → ClassId} {z : Nat} {p : Program} {e : Env} {s : State} {m : MethodId} {below : List Frame} {meth : Method} {c : Code} {H : Heap} {locs : List Loc} {ls : Array Slot} {a : Array Value} {mc ms : Nat}
    (C : Lx b Ls xs l D aC z p s m meth c) (hS : va_S (AA z s.heap.size) s.heap H locs) (hl : lv_has ls 9 ((0, .ref b) :: trL z L)) (hm : (mtR M').cells = mc ∧ (mtR M').slots = ms)
    (hr : va_Run p l e room_1 s m #[.ref b] below meth c H locs cu su (mtR M').cells (mtR M').slots (F0 m pc ls pre) (st.map (trv z)) (qR Q' z D aC H.size a) (AA z H.size))
    (kk : ∀ v σ', Q' (.inl v) σ' → LE b Ls xs Z (pc + 3) L (v.toList ++ st) σ' (cu + mc) (su + ms)) :
    W p l e room_1 s m #[.ref b] below meth c H locs cu su (Z below #[.ref b] s) (F0 m pc ls pre) := by
  obtain ⟨hm1, hm2⟩ := hm
  intro T hT X
  obtain ⟨v, st₀, t, T', Lc, h0, X', hL, e1, e2, hq, stp⟩ := hr T hT X
  obtain ⟨⟨v', σ', hv, hQ, hP1⟩, hF⟩ := hq
  obtain ⟨-, -, k3⟩ := vx_keep h0 e1 hS (fun q _ h => AA_in hS q h) (AA_in hS) hL hF
  have hv' : v = v'.map (trv z) := by
    cases hv
    rfl
  subst hv'
  rw [hm1, hm2] at X'
  obtain ⟨t2, a1, b1⟩ := kk v' σ' hQ l D aC z p e s m below meth c T'.heap (locs ++ Lc) ls C (by rw [e1]; exact hP1) k3 hl T' rfl X'
  refine ⟨t2, stp t2 ?_, b1⟩
  cases v' <;> exact a1
theorem LE.callV {M' : MT} {Q' : AO → SS → Prop} {a d np idx mc ms : Nat} (As : List Value) (hd : decode cL_law pc = .ok (.invokevirtual idx, 3)) (hn : pc + 3 = n) (cv : CVL RL idx M' d np) (hAs : As.length = np) (ha : KD a = d ∧ a < NN) (hm : (mtR M').cells = mc ∧ (mtR M').slots = ms) (hR : (mtR M').frames + 1 ≤ 19 ∧ 8 + (mtL M' + 11) + (mtR M').locals ≤ 10798) (hc : cu + mc ≤ 603072 ∧ su + ms ≤ 7211114) (hst : (st.map fun v => v.category).sum ≤ 8) (hM : CM M' (.ref a :: As) σ Q') (kx : ∀ E σ', ¬ Q' (.inr E) σ')
    (kk : ∀ v σ', Q' (.inl v) σ' → LE b Ls xs Z n L (v.toList ++ st) σ' (cu + mc) (su + ms)) : LE b Ls xs Z pc L (As.reverse ++ .ref a :: st) σ cu su := by
  subst hn
  intro l D aC z p e s m below meth c H locs ls C hP hS hl
  obtain ⟨c1, c2, c3, c4, c5, c6, c7, c8, c9⟩ := cv
  have hw := C.1.2.2.2.2.2.2.1
  have hwM := wM_nil c6
  refine LE.ofRun (M' := M') (Q' := Q') (a := (Value.ref (z + a) :: As.map (trv z)).toArray) C hS hl hm ?_ kk
  refine va_runV (As := As.map (trv z)) (rest := st.map (trv z)) (Ts := WG) (own := RL) (C := (mtY M').cls) (b := z + a) (n := np) (nL := 9) (cc := cL_law) (bytes := mtC M') (maxL := mtL M') (ret := mtT M') ⟨C.1.2.1, C.1.2.2.1, C.1.2.2.2.1, C.1.2.2.2.2.2.1, hw⟩ (met_of (hM l D aC z H.size C.1.1) (fun E st t h => kx E _ h.1.choose_spec.1))
    ⟨⟨rfl, rfl, hR.1, hR.2, pay_in hw (WG_in c5), by rw [hwM]; exact List.mem_cons_self, by rw [← hwM]; exact hw _ c5, hw _ c4, ⟨c7.1, c7.2.1⟩, fun sig h => ?_, hw _ c1⟩, hw _ c2, hw _ c3⟩
    ⟨SW.blind, ?_, fun U hU hW => ⟨rfl, SW.at C.1 hP hS hU hW⟩⟩ rfl (by simpa using hAs) hl.1 ?_ ?_ hd (by rw [hm.1, hm.2]; exact hc)
  · have h2 := c7.2.2
    rw [h] at h2
    exact (Option.some.inj h2).symm
  · have hv := va_recv (cl := vwc) C.1.2.2.2.2.2.2.2.1 hP (vwc_at c9) (q0 := a) ((wl_at z aC σ ha.2).trans (by rw [cE_obj ha.1 c9]))
    rw [c8]
    exact hv
  · show (As.reverse ++ Value.ref a :: st).map (trv z) = _
    simp [trv, List.map_reverse]
  · show 2 * 0 + _ ≤ 8
    rw [cat_trv]
    omega
/-- what a call of a static method with handlers asks of the tables -/
def CHL (idx : Nat) (M' : MT) (np : Nat) : Prop := Cond.methodLink RL idx (mtY M') ∈ WG ∧ Cond.static (mtY M') ∈ WG ∧ Cond.initialized (mtY M').cls ∈ WG ∧ wM M' ∈ WG ∧ wM M' = .codeWith (mtY M') (mtC M') (mtL M') (mtT M') (mtH M') ∧ dOK (mtY M') np
theorem LE.callH {M' : MT} {Q' : AO → SS → Prop} {np idx mc ms : Nat} (As : List Value) (hd : decode cL_law pc = .ok (.invokestatic idx, 3)) (hn : pc + 3 = n) (cv : CHL idx M' np) (hAs : As.length = np) (hm : (mtR M').cells = mc ∧ (mtR M').slots = ms) (hR : (mtR M').frames + 1 ≤ 19 ∧ 8 + (mtL M' + 11) + (mtR M').locals ≤ 10798) (hc : cu + mc ≤ 603072 ∧ su + ms ≤ 7211114) (hst : (st.map fun v => v.category).sum ≤ 8) (hM : CM M' As σ Q') (kx : ∀ E σ', ¬ Q' (.inr E) σ')
    (kk : ∀ v σ', Q' (.inl v) σ' → LE b Ls xs Z n L (v.toList ++ st) σ' (cu + mc) (su + ms)) : LE b Ls xs Z pc L (As.reverse ++ st) σ cu su := by
  subst hn
  intro l D aC z p e s m below meth c H locs ls C hP hS hl
  obtain ⟨c1, c2, c4, c5, hwM, c7⟩ := cv
  have hw := C.1.2.2.2.2.2.2.1
  refine LE.ofRun (M' := M') (Q' := Q') (a := (As.map (trv z)).toArray) C hS hl hm ?_ kk
  refine vx_runSW (As := As.map (trv z)) (rest := st.map (trv z)) (Ts := WG) (own := RL) (n := np) (nL := 9) (cc := cL_law) (bytes := mtC M') (maxL := mtL M') (ret := mtT M') (hh := mtH M') ⟨C.1.2.1, C.1.2.2.1, C.1.2.2.2.1, C.1.2.2.2.2.2.1, hw⟩ (met_of (hM l D aC z H.size C.1.1) (fun E st t h => kx E _ h.1.choose_spec.1))
    ⟨⟨rfl, rfl, hR.1, hR.2, pay_in hw (WG_in c5), by rw [hwM]; exact List.mem_cons_self⟩, by rw [← hwM]; exact hw _ c5, hw _ c4, ⟨c7.1, c7.2.1⟩, fun sig h => ?_, hw _ c1, hw _ c2⟩
    ⟨SW.blind, fun U hU hW => ⟨rfl, SW.at C.1 hP hS hU hW⟩⟩ rfl (by simpa using hAs) hl.1 ?_ ?_ hd (by rw [hm.1, hm.2]; exact hc)
  · have h2 := c7.2.2
    rw [h] at h2
    exact (Option.some.inj h2).symm
  · show (As.reverse ++ st).map (trv z) = _
    simp [List.map_reverse]
  · show 2 * 0 + _ ≤ 8
    rw [cat_trv]
    omega
/-- an int comes back, p holds of it and of the world -/
theorem LE.callVI {M' : MT} {q : Int32 → SS → Prop} {a d np idx mc ms : Nat} (As : List Value) (hd : decode cL_law pc = .ok (.invokevirtual idx, 3)) (hn : pc + 3 = n) (cv : CVL RL idx M' d np) (hAs : As.length = np) (ha : KD a = d ∧ a < NN) (hm : (mtR M').cells = mc ∧ (mtR M').slots = ms) (hR : (mtR M').frames + 1 ≤ 19 ∧ 8 + (mtL M' + 11) + (mtR M').locals ≤ 10798) (hc : cu + mc ≤ 603072 ∧ su + ms ≤ 7211114) (hst : (st.map fun v => v.category).sum ≤ 8) (hM : CM M' (.ref a :: As) σ (PI q))
    (kk : ∀ r σ', q r σ' → LE b Ls xs Z n L (.int r :: st) σ' (cu + mc) (su + ms)) : LE b Ls xs Z pc L (As.reverse ++ .ref a :: st) σ cu su :=
  LE.callV As hd hn cv hAs ha hm hR hc hst hM (fun E s h => by obtain ⟨r, h1, h2⟩ := h; cases h1) (fun v s h => by obtain ⟨r, h1, h2⟩ := h; cases h1; exact kk r s h2)
theorem LE.callHI {M' : MT} {q : Int32 → SS → Prop} {np idx mc ms : Nat} (As : List Value) (hd : decode cL_law pc = .ok (.invokestatic idx, 3)) (hn : pc + 3 = n) (cv : CHL idx M' np) (hAs : As.length = np) (hm : (mtR M').cells = mc ∧ (mtR M').slots = ms) (hR : (mtR M').frames + 1 ≤ 19 ∧ 8 + (mtL M' + 11) + (mtR M').locals ≤ 10798) (hc : cu + mc ≤ 603072 ∧ su + ms ≤ 7211114) (hst : (st.map fun v => v.category).sum ≤ 8) (hM : CM M' As σ (PI q))
    (kk : ∀ r σ', q r σ' → LE b Ls xs Z n L (.int r :: st) σ' (cu + mc) (su + ms)) : LE b Ls xs Z pc L (As.reverse ++ st) σ cu su :=
  LE.callH As hd hn cv hAs hm hR hc hst hM (fun E s h => by obtain ⟨r, h1, h2⟩ := h; cases h1) (fun v s h => by obtain ⟨r, h1, h2⟩ := h; cases h1; exact kk r s h2)
theorem LE.callVR {M' : MT} {r : Int32} {σ1 : SS} {a d np idx mc ms : Nat} (As : List Value) (hd : decode cL_law pc = .ok (.invokevirtual idx, 3)) (hn : pc + 3 = n) (cv : CVL RL idx M' d np) (hAs : As.length = np) (ha : KD a = d ∧ a < NN) (hm : (mtR M').cells = mc ∧ (mtR M').slots = ms) (hR : (mtR M').frames + 1 ≤ 19 ∧ 8 + (mtL M' + 11) + (mtR M').locals ≤ 10798) (hc : cu + mc ≤ 603072 ∧ su + ms ≤ 7211114) (hst : (st.map fun v => v.category).sum ≤ 8) (hM : CM M' (.ref a :: As) σ (RI r σ1))
    (kk : LE b Ls xs Z n L (.int r :: st) σ1 (cu + mc) (su + ms)) : LE b Ls xs Z pc L (As.reverse ++ .ref a :: st) σ cu su :=
  LE.callV As hd hn cv hAs ha hm hR hc hst hM (fun E s h => by cases h.1) (fun v s h => by obtain ⟨h1, rfl⟩ := h; cases h1; exact kk)
end LEQ
theorem ch_L_128 : CHL 128 mL_ring 3 := ⟨g_350, g_351, g_60, g_352, rfl, ⟨by decide +kernel, by decide +kernel, by decide +kernel⟩⟩
theorem cv_L_133 : CVL RL 133 mX6_ring 6 1 := ⟨g_1089, g_1090, g_1091, g_67, g_1092, rfl, ⟨by decide +kernel, by decide +kernel, by decide +kernel⟩, rfl, by decide⟩
theorem cv_L_134 : CVL RL 134 mX6_thrown 6 0 := ⟨g_1085, g_1086, g_1087, g_67, g_1088, rfl, ⟨by decide +kernel, by decide +kernel, by decide +kernel⟩, rfl, by decide⟩
theorem ch_L_137 : CHL 137 mL_wind 5 := ⟨g_482, g_483, g_60, g_484, rfl, ⟨by decide +kernel, by decide +kernel, by decide +kernel⟩⟩
theorem cv_L_140 : CVL RL 140 mX6_wind 6 3 := ⟨g_1108, g_1109, g_1110, g_67, g_1111, rfl, ⟨by decide +kernel, by decide +kernel, by decide +kernel⟩, rfl, by decide⟩
theorem ch_L_141 : CHL 141 mL_gas 3 := ⟨g_514, g_515, g_60, g_516, rfl, ⟨by decide +kernel, by decide +kernel, by decide +kernel⟩⟩
theorem cv_L_143 : CVL RL 143 mX6_gas 6 1 := ⟨g_1124, g_1125, g_1126, g_67, g_1127, rfl, ⟨by decide +kernel, by decide +kernel, by decide +kernel⟩, rfl, by decide⟩
theorem ch_L_144 : CHL 144 mL_balloon 3 := ⟨g_528, g_529, g_60, g_530, rfl, ⟨by decide +kernel, by decide +kernel, by decide +kernel⟩⟩
theorem cv_L_146 : CVL RL 146 mX6_balloon 6 1 := ⟨g_1129, g_1130, g_1131, g_67, g_1132, rfl, ⟨by decide +kernel, by decide +kernel, by decide +kernel⟩, rfl, by decide⟩
theorem ch_L_147 : CHL 147 mL_fill 4 := ⟨g_544, g_545, g_60, g_546, rfl, ⟨by decide +kernel, by decide +kernel, by decide +kernel⟩⟩
theorem cv_L_150 : CVL RL 150 mX6_fill 6 2 := ⟨g_1141, g_1142, g_1143, g_67, g_1144, rfl, ⟨by decide +kernel, by decide +kernel, by decide +kernel⟩, rfl, by decide⟩
theorem ch_L_151 : CHL 151 mL_ballast 4 := ⟨g_559, g_560, g_60, g_561, rfl, ⟨by decide +kernel, by decide +kernel, by decide +kernel⟩⟩
theorem cv_L_153 : CVL RL 153 mX6_ballast 6 2 := ⟨g_1157, g_1158, g_1159, g_67, g_1160, rfl, ⟨by decide +kernel, by decide +kernel, by decide +kernel⟩, rfl, by decide⟩
theorem ch_L_154 : CHL 154 mL_courier 4 := ⟨g_570, g_571, g_60, g_572, rfl, ⟨by decide +kernel, by decide +kernel, by decide +kernel⟩⟩
theorem cv_L_156 : CVL RL 156 mX6_courier 6 2 := ⟨g_1165, g_1166, g_1167, g_67, g_1168, rfl, ⟨by decide +kernel, by decide +kernel, by decide +kernel⟩, rfl, by decide⟩
theorem ch_L_157 : CHL 157 mL_letter 4 := ⟨g_581, g_582, g_60, g_583, rfl, ⟨by decide +kernel, by decide +kernel, by decide +kernel⟩⟩
theorem cv_L_159 : CVL RL 159 mX6_letter 6 2 := ⟨g_1169, g_1170, g_1171, g_67, g_1172, rfl, ⟨by decide +kernel, by decide +kernel, by decide +kernel⟩, rfl, by decide⟩
theorem ch_L_160 : CHL 160 mL_load 4 := ⟨g_592, g_593, g_60, g_594, rfl, ⟨by decide +kernel, by decide +kernel, by decide +kernel⟩⟩
theorem cv_L_162 : CVL RL 162 mX6_load 6 2 := ⟨g_1173, g_1174, g_1175, g_67, g_1176, rfl, ⟨by decide +kernel, by decide +kernel, by decide +kernel⟩, rfl, by decide⟩
theorem ch_L_163 : CHL 163 mL_loadAll 3 := ⟨g_619, g_620, g_60, g_621, rfl, ⟨by decide +kernel, by decide +kernel, by decide +kernel⟩⟩
theorem cv_L_165 : CVL RL 165 mX6_loadAll 6 1 := ⟨g_1193, g_1194, g_1195, g_67, g_1196, rfl, ⟨by decide +kernel, by decide +kernel, by decide +kernel⟩, rfl, by decide⟩
theorem ch_L_166 : CHL 166 mL_launch 3 := ⟨g_635, g_636, g_60, g_637, rfl, ⟨by decide +kernel, by decide +kernel, by decide +kernel⟩⟩
theorem cv_L_168 : CVL RL 168 mX6_launch 6 1 := ⟨g_1205, g_1206, g_1207, g_67, g_1208, rfl, ⟨by decide +kernel, by decide +kernel, by decide +kernel⟩, rfl, by decide⟩
theorem ch_L_169 : CHL 169 mL_drop 4 := ⟨g_650, g_651, g_60, g_652, rfl, ⟨by decide +kernel, by decide +kernel, by decide +kernel⟩⟩
theorem cv_L_171 : CVL RL 171 mX6_drop 6 2 := ⟨g_1213, g_1214, g_1215, g_67, g_1216, rfl, ⟨by decide +kernel, by decide +kernel, by decide +kernel⟩, rfl, by decide⟩
theorem ch_L_172 : CHL 172 mL_pass 3 := ⟨g_661, g_662, g_60, g_663, rfl, ⟨by decide +kernel, by decide +kernel, by decide +kernel⟩⟩
theorem cv_L_174 : CVL RL 174 mX6_pass 6 1 := ⟨g_1221, g_1222, g_1223, g_67, g_1224, rfl, ⟨by decide +kernel, by decide +kernel, by decide +kernel⟩, rfl, by decide⟩
theorem ch_L_175 : CHL 175 mL_balloonOf 4 := ⟨g_708, g_709, g_60, g_710, rfl, ⟨by decide +kernel, by decide +kernel, by decide +kernel⟩⟩
theorem cv_L_177 : CVL RL 177 mX6_balloonOf 6 2 := ⟨g_1250, g_1251, g_1252, g_67, g_1253, rfl, ⟨by decide +kernel, by decide +kernel, by decide +kernel⟩, rfl, by decide⟩
theorem ch_L_178 : CHL 178 mL_letterOf 4 := ⟨g_727, g_728, g_60, g_729, rfl, ⟨by decide +kernel, by decide +kernel, by decide +kernel⟩⟩
theorem cv_L_180 : CVL RL 180 mX6_letterOf 6 2 := ⟨g_1258, g_1259, g_1260, g_67, g_1261, rfl, ⟨by decide +kernel, by decide +kernel, by decide +kernel⟩, rfl, by decide⟩
theorem ch_L_181 : CHL 181 mL_weightAgain 3 := ⟨g_745, g_746, g_60, g_747, rfl, ⟨by decide +kernel, by decide +kernel, by decide +kernel⟩⟩
theorem cv_L_183 : CVL RL 183 mX6_weightAgain 6 1 := ⟨g_1262, g_1263, g_1264, g_67, g_1265, rfl, ⟨by decide +kernel, by decide +kernel, by decide +kernel⟩, rfl, by decide⟩
theorem ch_L_184 : CHL 184 mL_waiting 3 := ⟨g_756, g_757, g_60, g_758, rfl, ⟨by decide +kernel, by decide +kernel, by decide +kernel⟩⟩
theorem cv_L_186 : CVL RL 186 mX6_waiting 6 1 := ⟨g_1266, g_1267, g_1268, g_67, g_1269, rfl, ⟨by decide +kernel, by decide +kernel, by decide +kernel⟩, rfl, by decide⟩
theorem ch_L_187 : CHL 187 mL_word 3 := ⟨g_784, g_785, g_60, g_786, rfl, ⟨by decide +kernel, by decide +kernel, by decide +kernel⟩⟩
theorem cv_L_189 : CVL RL 189 mX6_word 6 1 := ⟨g_1270, g_1271, g_1272, g_67, g_1273, rfl, ⟨by decide +kernel, by decide +kernel, by decide +kernel⟩, rfl, by decide⟩
theorem ch_L_190 : CHL 190 mL_sign 3 := ⟨g_796, g_797, g_60, g_798, rfl, ⟨by decide +kernel, by decide +kernel, by decide +kernel⟩⟩
theorem cv_L_192 : CVL RL 192 mX6_sign 6 1 := ⟨g_1282, g_1283, g_1284, g_67, g_1285, rfl, ⟨by decide +kernel, by decide +kernel, by decide +kernel⟩, rfl, by decide⟩
theorem ch_L_193 : CHL 193 mL_isWithin 4 := ⟨g_803, g_804, g_60, g_805, rfl, ⟨by decide +kernel, by decide +kernel, by decide +kernel⟩⟩
theorem cv_L_195 : CVL RL 195 mX6_isWithin 6 2 := ⟨g_1327, g_1328, g_1329, g_67, g_1330, rfl, ⟨by decide +kernel, by decide +kernel, by decide +kernel⟩, rfl, by decide⟩
theorem ch_L_196 : CHL 196 mL_endsIn 3 := ⟨g_812, g_813, g_60, g_814, rfl, ⟨by decide +kernel, by decide +kernel, by decide +kernel⟩⟩
theorem cv_L_198 : CVL RL 198 mX6_endsIn 6 1 := ⟨g_1331, g_1332, g_1333, g_67, g_1334, rfl, ⟨by decide +kernel, by decide +kernel, by decide +kernel⟩, rfl, by decide⟩
theorem ch_L_199 : CHL 199 mL_ends 4 := ⟨g_828, g_829, g_60, g_830, rfl, ⟨by decide +kernel, by decide +kernel, by decide +kernel⟩⟩
theorem cv_L_201 : CVL RL 201 mX6_ends 6 2 := ⟨g_1347, g_1348, g_1349, g_67, g_1350, rfl, ⟨by decide +kernel, by decide +kernel, by decide +kernel⟩, rfl, by decide⟩
theorem ch_L_202 : CHL 202 mL_bestDrop 3 := ⟨g_836, g_837, g_60, g_838, rfl, ⟨by decide +kernel, by decide +kernel, by decide +kernel⟩⟩
theorem cv_L_204 : CVL RL 204 mX6_bestDrop 6 1 := ⟨g_1351, g_1352, g_1353, g_67, g_1354, rfl, ⟨by decide +kernel, by decide +kernel, by decide +kernel⟩, rfl, by decide⟩
theorem ch_L_205 : CHL 205 mL_append 3 := ⟨g_845, g_846, g_60, g_847, rfl, ⟨by decide +kernel, by decide +kernel, by decide +kernel⟩⟩
theorem cv_L_208 : CVL RL 208 mX6_append 6 1 := ⟨g_1355, g_1356, g_1357, g_67, g_1358, rfl, ⟨by decide +kernel, by decide +kernel, by decide +kernel⟩, rfl, by decide⟩
theorem ch_L_209 : CHL 209 mL_read 2 := ⟨g_873, g_874, g_60, g_875, rfl, ⟨by decide +kernel, by decide +kernel, by decide +kernel⟩⟩
theorem cv_L_212 : CVL RL 212 mX6_read 6 0 := ⟨g_1359, g_1360, g_1361, g_67, g_1362, rfl, ⟨by decide +kernel, by decide +kernel, by decide +kernel⟩, rfl, by decide⟩
theorem cv_L_213 : CVL RL 213 mX5_errorPosition 5 0 := ⟨g_322, g_323, g_324, g_61, g_325, rfl, ⟨by decide +kernel, by decide +kernel, by decide +kernel⟩, rfl, by decide⟩
theorem cv_L_216 : CVL RL 216 mX6_errorPosition 6 0 := ⟨g_1387, g_1388, g_1389, g_67, g_1390, rfl, ⟨by decide +kernel, by decide +kernel, by decide +kernel⟩, rfl, by decide⟩
theorem ch_L_217 : CHL 217 mL_refusal 3 := ⟨g_932, g_933, g_60, g_934, rfl, ⟨by decide +kernel, by decide +kernel, by decide +kernel⟩⟩
theorem cv_L_220 : CVL RL 220 mX6_refusal 6 1 := ⟨g_1391, g_1392, g_1393, g_67, g_1394, rfl, ⟨by decide +kernel, by decide +kernel, by decide +kernel⟩, rfl, by decide⟩
theorem ch_L_221 : CHL 221 mL_account 3 := ⟨g_940, g_941, g_60, g_942, rfl, ⟨by decide +kernel, by decide +kernel, by decide +kernel⟩⟩
theorem cv_L_223 : CVL RL 223 mX6_account 6 1 := ⟨g_1395, g_1396, g_1397, g_67, g_1398, rfl, ⟨by decide +kernel, by decide +kernel, by decide +kernel⟩, rfl, by decide⟩
theorem cv_L_224 : CVL RL 224 mX5_isWell 5 0 := ⟨g_326, g_327, g_328, g_61, g_329, rfl, ⟨by decide +kernel, by decide +kernel, by decide +kernel⟩, rfl, by decide⟩
theorem cv_L_228 : CVL RL 228 mX6_isWell 6 0 := ⟨g_1411, g_1412, g_1413, g_67, g_1414, rfl, ⟨by decide +kernel, by decide +kernel, by decide +kernel⟩, rfl, by decide⟩
theorem ch_L_229 : CHL 229 mL_meanDistance 2 := ⟨g_965, g_966, g_60, g_967, rfl, ⟨by decide +kernel, by decide +kernel, by decide +kernel⟩⟩
theorem cv_L_232 : CVL RL 232 mX6_meanDistance 6 0 := ⟨g_1415, g_1416, g_1417, g_67, g_1418, rfl, ⟨by decide +kernel, by decide +kernel, by decide +kernel⟩, rfl, by decide⟩
theorem ch_L_233 : CHL 233 mL_share 2 := ⟨g_994, g_995, g_60, g_996, rfl, ⟨by decide +kernel, by decide +kernel, by decide +kernel⟩⟩
theorem cv_L_235 : CVL RL 235 mX6_share 6 0 := ⟨g_1419, g_1420, g_1421, g_67, g_1422, rfl, ⟨by decide +kernel, by decide +kernel, by decide +kernel⟩, rfl, by decide⟩
theorem ch_L_236 : CHL 236 mL_undo 2 := ⟨g_1003, g_1004, g_60, g_1005, rfl, ⟨by decide +kernel, by decide +kernel, by decide +kernel⟩⟩
theorem cv_L_238 : CVL RL 238 mX6_undo 6 0 := ⟨g_1423, g_1424, g_1425, g_67, g_1426, rfl, ⟨by decide +kernel, by decide +kernel, by decide +kernel⟩, rfl, by decide⟩
theorem cv_L_239 : CVL RL 239 mX5_save 5 0 := ⟨g_334, g_335, g_336, g_61, g_337, rfl, ⟨by decide +kernel, by decide +kernel, by decide +kernel⟩, rfl, by decide⟩
theorem cv_L_242 : CVL RL 242 mX6_save 6 0 := ⟨g_1427, g_1428, g_1429, g_67, g_1430, rfl, ⟨by decide +kernel, by decide +kernel, by decide +kernel⟩, rfl, by decide⟩
theorem ch_L_243 : CHL 243 mL_restore 2 := ⟨g_1015, g_1016, g_60, g_1017, rfl, ⟨by decide +kernel, by decide +kernel, by decide +kernel⟩⟩
theorem cv_L_245 : CVL RL 245 mX6_restore 6 0 := ⟨g_1431, g_1432, g_1433, g_67, g_1434, rfl, ⟨by decide +kernel, by decide +kernel, by decide +kernel⟩, rfl, by decide⟩
