/-! the rules of WE that read and write the world; calls, throws, ends; the contract out of a walk -/
def FLK (own : String) (idx d k : Nat) : Prop := Cond.fieldLink own idx (cT d k).1 (cT d k).2.1 (cT d k).2.2.1 ∈ WG
theorem fV_at {z : Nat} {c : CC} {d i k : Nat} (h : k < cN d) : ((List.range (cN d)).map (fV z c d i))[k]? = some (fV z c d i k) := by
  simp [h]
theorem fV_set {z : Nat} {c : CC} {d i k : Nat} {x : Int32} (h : RO d i k = none) : ((List.range (cN d)).map (fV z c d i)).set k (.int x) = (List.range (cN d)).map (fV z (u2 c i k x) d i) := by
  apply List.ext_getElem?
  intro j
  by_cases hj : j = k
  · subst hj
    by_cases hl : j < cN d
    · rw [List.getElem?_set_self (by simpa using hl), fV_at hl]
      unfold fV
      rw [h]
      simp [u2]
    · rw [List.getElem?_eq_none (by simpa using hl), List.getElem?_eq_none (by simpa using hl)]
  · rw [List.getElem?_set_ne (Ne.symm hj)]
    by_cases hl : j < cN d
    · rw [fV_at hl, fV_at hl]
      unfold fV
      simp [u2, hj]
    · rw [List.getElem?_eq_none (by simpa using hl), List.getElem?_eq_none (by simpa using hl)]
theorem inWd {d : Nat} (h : d < 7) : ∀ w ∈ u_ws (cR d) (cT d) (cN d), w ∈ WG := by
  rcases (show d = 0 ∨ d = 1 ∨ d = 2 ∨ d = 3 ∨ d = 4 ∨ d = 5 ∨ d = 6 by omega) with rfl | rfl | rfl | rfl | rfl | rfl | rfl
  · exact inW0
  · exact inW1
  · exact inW2
  · exact inW3
  · exact inW4
  · exact inW5
  · exact inW6
theorem cTy_ok {d : Nat} (h : d < 7) : ∀ k, k < cN d → parseFieldDescriptor (cT d k).2.2.1 = some (cTy d k) := by
  rcases (show d = 0 ∨ d = 1 ∨ d = 2 ∨ d = 3 ∨ d = 4 ∨ d = 5 ∨ d = 6 by omega) with rfl | rfl | rfl | rfl | rfl | rfl | rfl
  · exact tyX0_ok
  · exact tyX1_ok
  · exact tyX2_ok
  · exact tyX3_ok
  · exact tyX4_ok
  · exact tyX5_ok
  · exact tyJ0_ok
theorem cNm_ok {d : Nat} (h : d < 7) : ∀ a, a < cN d → ∀ b, b < cN d → a ≠ b → (cT d a).2.1 ≠ (cT d b).2.1 := by
  rcases (show d = 0 ∨ d = 1 ∨ d = 2 ∨ d = 3 ∨ d = 4 ∨ d = 5 ∨ d = 6 by omega) with rfl | rfl | rfl | rfl | rfl | rfl | rfl
  · exact nmX0
  · exact nmX1
  · exact nmX2
  · exact nmX3
  · exact nmX4
  · exact nmX5
  · exact nmJ0
section WEH
variable {M : MT} {pc n : Nat} {L : List (Nat × Value)} {st : List Value} {σ : SS} {c0 : CC} {od : Int64 × UInt64} {cu su : Nat} {G : GT}
theorem WE.getI {idx d k a : Nat} (hd : decode (mtC M) pc = .ok (.getfield idx, 3)) (hn : pc + 3 = n) (hf : FLK (mtY M).cls idx d k) (hk : k < cN d ∧ d < 7 ∧ RO d a k = none) (ha : KD a = d ∧ a < NN) (kk : WE M n L (.int (c0 a k) :: st) (c0, od) cu su G) : WE M pc L (.ref a :: st) (c0, od) cu su G := by
  subst hn
  intro l D aC z p e s m args below meth c H locs ls C hP hS hl
  refine va_get (D := D) (cl := vwc) C.2.1 C.2.2.1 C.2.2.2.2.2.2.1 (inWd hk.2.1) C.2.2.2.2.2.1 C.2.2.2.2.2.2.2.1 hP a ((wl_at z aC (c0, od) ha.2).trans (by rw [cE_obj ha.1 hk.2.1])) (vwc_at hk.2.1) k hk.1 (C.2.2.2.2.2.2.1 _ hf) (fun _ h => h) (v := .int (c0 a k)) ?_ hd (kk l D aC z p e s m args below meth c H locs ls C hP hS hl)
  rw [fV_at hk.1]
  unfold fV
  rw [hk.2.2]
theorem WE.getR {idx d k a t : Nat} (hd : decode (mtC M) pc = .ok (.getfield idx, 3)) (hn : pc + 3 = n) (hf : FLK (mtY M).cls idx d k) (hk : k < cN d ∧ d < 7) (hr : RO d a k = some t) (ha : KD a = d ∧ a < NN) (kk : WE M n L (.ref t :: st) (c0, od) cu su G) : WE M pc L (.ref a :: st) (c0, od) cu su G := by
  subst hn
  intro l D aC z p e s m args below meth c H locs ls C hP hS hl
  refine va_get (D := D) (cl := vwc) C.2.1 C.2.2.1 C.2.2.2.2.2.2.1 (inWd hk.2) C.2.2.2.2.2.1 C.2.2.2.2.2.2.2.1 hP a ((wl_at z aC (c0, od) ha.2).trans (by rw [cE_obj ha.1 hk.2])) (vwc_at hk.2) k hk.1 (C.2.2.2.2.2.2.1 _ hf) (fun _ h => h) (v := .ref (z + t)) ?_ hd (kk l D aC z p e s m args below meth c H locs ls C hP hS hl)
  rw [fV_at hk.1]
  unfold fV
  rw [hr]
theorem WE.putI {idx d k a : Nat} {x : Int32} (hd : decode (mtC M) pc = .ok (.putfield idx, 3)) (hn : pc + 3 = n) (hf : FLK (mtY M).cls idx d k) (hk : k < cN d ∧ d < 7 ∧ RO d a k = none ∧ (cT d k).2.2.2 = false) (hx : narrow (cTy d k) (.int x) = .int x ∧ fits (cTy d k) (.int x) = true) (ha : KD a = d ∧ a < NN) (kk : WE M n L st (u2 c0 a k x, od) cu su G) : WE M pc L (.int x :: .ref a :: st) (c0, od) cu su G := by
  subst hn
  intro l D aC z p e s m args below meth c H locs ls C hP hS hl
  refine va_put (D := D) (cl := vwc) (v := .int x) C.2.1 C.2.2.1 C.2.2.2.2.2.2.1 (inWd hk.2.1) (cTy d) (cTy_ok hk.2.1) (cNm_ok hk.2.1) C.2.2.2.2.2.1 C.2.2.2.2.2.2.2.1 hP (wl_D z s.heap.size aC (c0, od)) hS a ((wl_at z aC (c0, od) ha.2).trans (by rw [cE_obj ha.1 hk.2.1])) (vwc_at hk.2.1) k hk.1 (C.2.2.2.2.2.2.1 _ hf) (fun _ h => h) hk.2.2.2 (cTy_ok hk.2.1 k hk.1) hx.1 hx.2 (by simpa using hk.1) hd (fun H1 locs1 hP1 hD1 hS1 => ?_)
  rw [wl_set (σ' := (u2 c0 a k x, od)) ha.2 (by rw [cE_obj ha.1 hk.2.1, fV_set hk.2.2.1]) (fun j hj => cE_u2 hj)] at hP1
  exact kk l D aC z p e s m args below meth c H1 locs1 ls C hP1 hS1 hl
theorem vp_in_n {j L : Nat} (h : j < L) (hL : L < 2 ^ 31) : vp_in (nI j) L ∧ (nI j).toNatClampNeg = j := ⟨vp_in_nI h hL, nI_clamp (by omega)⟩
theorem LN_lt (a : Nat) : LN a < 2 ^ 31 := by
  unfold LN lnT
  repeat' split
  all_goals omega
theorem WE.iald {a : Nat} {i : Int32} (j : Nat) (hd : decode (mtC M) pc = .ok (.iaload, 1)) (hn : pc + 1 = n) (ha : KD a = 10 ∧ a < NN) (hi : i = nI j) (hj : j < LN a) (kk : WE M n L (.int (c0 a j) :: st) (c0, od) cu su G) : WE M pc L (.int i :: .ref a :: st) (c0, od) cu su G := by
  subst hn
  subst hi
  intro l D aC z p e s m args below meth c H locs ls C hP hS hl
  obtain ⟨h1, h2⟩ := vp_in_n hj (LN_lt a)
  refine va_iald (D := D) (cl := vwc) C.2.1 C.2.2.1 C.2.2.2.2.2.2.2.1 hP a 0 ((wl_at z aC (c0, od) ha.2).trans (by rw [cE_int ha.1 (Or.inl rfl)])) rfl h1 hd ?_
  rw [h2]
  exact kk l D aC z p e s m args below meth c H locs ls C hP hS hl
theorem WE.cald {a : Nat} {i : Int32} (j : Nat) (hd : decode (mtC M) pc = .ok (.caload, 1)) (hn : pc + 1 = n) (ha : KD a = 11 ∧ a < NN) (hi : i = nI j) (hj : j < LN a) (kk : WE M n L (.int (c0 a j) :: st) (c0, od) cu su G) : WE M pc L (.int i :: .ref a :: st) (c0, od) cu su G := by
  subst hn
  subst hi
  intro l D aC z p e s m args below meth c H locs ls C hP hS hl
  obtain ⟨h1, h2⟩ := vp_in_n hj (LN_lt a)
  refine va_cald (D := D) (cl := vwc) C.2.1 C.2.2.1 C.2.2.2.2.2.2.2.1 hP a 1 ((wl_at z aC (c0, od) ha.2).trans (by rw [cE_int ha.1 (Or.inr rfl)])) rfl h1 hd ?_
  rw [h2]
  exact kk l D aC z p e s m args below meth c H locs ls C hP hS hl
theorem upd_u2 {c : CC} {a j : Nat} {x : Int32} : upd (c a) j x = u2 c a j x a := by
  funext k
  simp [upd, u2]
theorem WE.iast {a : Nat} {i x : Int32} (j : Nat) (hd : decode (mtC M) pc = .ok (.iastore, 1)) (hn : pc + 1 = n) (ha : KD a = 10 ∧ a < NN) (hi : i = nI j) (hj : j < LN a) (kk : WE M n L st (u2 c0 a j x, od) cu su G) : WE M pc L (.int x :: .int i :: .ref a :: st) (c0, od) cu su G := by
  subst hn
  subst hi
  intro l D aC z p e s m args below meth c H locs ls C hP hS hl
  obtain ⟨h1, h2⟩ := vp_in_n hj (LN_lt a)
  refine va_iast (D := D) (cl := vwc) C.2.1 C.2.2.1 C.2.2.2.2.2.2.2.1 hP (wl_D z s.heap.size aC (c0, od)) hS a 0 ((wl_at z aC (c0, od) ha.2).trans (by rw [cE_int ha.1 (Or.inl rfl)])) rfl h1 hd (fun H1 locs1 hP1 hD1 hS1 => ?_)
  rw [h2, wl_set (σ' := (u2 c0 a j x, od)) ha.2 (by rw [cE_int ha.1 (Or.inl rfl), upd_u2]) (fun j hj => cE_u2 hj)] at hP1
  exact kk l D aC z p e s m args below meth c H1 locs1 ls C hP1 hS1 hl
theorem WE.cast {a : Nat} {i x : Int32} (j : Nat) (hd : decode (mtC M) pc = .ok (.castore, 1)) (hn : pc + 1 = n) (ha : KD a = 11 ∧ a < NN) (hi : i = nI j) (hj : j < LN a) (hx : vp_nar .char x = x) (kk : WE M n L st (u2 c0 a j x, od) cu su G) : WE M pc L (.int x :: .int i :: .ref a :: st) (c0, od) cu su G := by
  subst hn
  subst hi
  intro l D aC z p e s m args below meth c H locs ls C hP hS hl
  obtain ⟨h1, h2⟩ := vp_in_n hj (LN_lt a)
  refine va_cast (D := D) (cl := vwc) C.2.1 C.2.2.1 C.2.2.2.2.2.2.2.1 hP (wl_D z s.heap.size aC (c0, od)) hS a 1 ((wl_at z aC (c0, od) ha.2).trans (by rw [cE_int ha.1 (Or.inr rfl)])) rfl h1 hd (fun H1 locs1 hP1 hD1 hS1 => ?_)
  rw [h2, hx, wl_set (σ' := (u2 c0 a j x, od)) ha.2 (by rw [cE_int ha.1 (Or.inr rfl), upd_u2]) (fun j hj => cE_u2 hj)] at hP1
  exact kk l D aC z p e s m args below meth c H1 locs1 ls C hP1 hS1 hl
theorem WE.aald {a t : Nat} {i : Int32} (d j : Nat) (hd : decode (mtC M) pc = .ok (.aaload, 1)) (hn : pc + 1 = n) (ha : KD a = d ∧ a < NN) (hdd : d = 12 ∨ d = 13 ∨ d = 14) (hi : i = nI j) (hj : j < LN a) (hr : RO d a j = some t) (kk : WE M n L (.ref t :: st) (c0, od) cu su G) : WE M pc L (.int i :: .ref a :: st) (c0, od) cu su G := by
  subst hn
  subst hi
  intro l D aC z p e s m args below meth c H locs ls C hP hS hl
  obtain ⟨h1, h2⟩ := vp_in_n hj (LN_lt a)
  have ht : ∃ C0, (tysOf aC)[d - 10]? = some (aC (d - 10), .object C0) := by
    rcases hdd with rfl | rfl | rfl
    · exact ⟨_, rfl⟩
    · exact ⟨_, rfl⟩
    · exact ⟨_, rfl⟩
  obtain ⟨C0, ht⟩ := ht
  refine va_aldq (D := D) (cl := vwc) C.2.1 C.2.2.1 C.2.2.2.2.2.2.2.1 hP a (d - 10) ((wl_at z aC (c0, od) ha.2).trans (by rw [cE_ref ha.1 hdd])) ht h1 hd ?_
  rw [h2]
  simp only [hr, Option.map_some]
  exact kk l D aC z p e s m args below meth c H locs ls C hP hS hl
-- Math
def MLK (own : String) (idx : Nat) (y : MethodName) (b : ByteArray) (nl : Nat) : Prop := Cond.methodLink own idx y ∈ WG ∧ Cond.static y ∈ WG ∧ Cond.initialized "java/lang/Math" ∈ WG ∧ Cond.code y b nl (some .int) ∈ WG
def rOK (M : MT) (cu su : Nat) (st : List Value) : Prop := 1 ≤ (mtR M).frames ∧ (st.map fun v => v.category).sum + 13 ≤ (mtR M).locals ∧ cu ≤ (mtR M).cells ∧ su ≤ (mtR M).slots
theorem cat_trv (z : Nat) (st : List Value) : ((st.map (trv z)).map fun v => v.category) = st.map fun v => v.category := by
  rw [List.map_map]
  congr 1
  funext v
  exact trv_cat z v
theorem WE.mmax {idx : Nat} {x y : Int32} (hd : decode (mtC M) pc = .ok (.invokestatic idx, 3)) (hn : pc + 3 = n) (hf : MLK (mtY M).cls idx Lib.Math.max.name Lib.Math.max.code 2) (hr : rOK M cu su st) (kk : WE M n L (.int (if x < y then y else x) :: st) σ cu su G) : WE M pc L (.int y :: .int x :: st) σ cu su G := by
  subst hn
  intro l D aC z p e s m args below meth c H locs ls C hP hS hl
  have hw := C.2.2.2.2.2.2.1
  exact va_mmax C.2.1 C.2.2.1 (C.2.2.2.1.trans hl.1.symm) C.2.2.2.2.2.1 (hw _ hf.1) (hw _ hf.2.1) (hw _ hf.2.2.1) (hw _ hf.2.2.2) hr.1 (by rw [cat_trv]; exact hr.2.1) hr.2.2.1 hr.2.2.2 hd (kk l D aC z p e s m args below meth c H locs ls C hP hS hl)
theorem WE.mmin {idx : Nat} {x y : Int32} (hd : decode (mtC M) pc = .ok (.invokestatic idx, 3)) (hn : pc + 3 = n) (hf : MLK (mtY M).cls idx Lib.Math.min.name Lib.Math.min.code 2) (hr : rOK M cu su st) (kk : WE M n L (.int (if y < x then y else x) :: st) σ cu su G) : WE M pc L (.int y :: .int x :: st) σ cu su G := by
  subst hn
  intro l D aC z p e s m args below meth c H locs ls C hP hS hl
  have hw := C.2.2.2.2.2.2.1
  exact va_mmin C.2.1 C.2.2.1 (C.2.2.2.1.trans hl.1.symm) C.2.2.2.2.2.1 (hw _ hf.1) (hw _ hf.2.1) (hw _ hf.2.2.1) (hw _ hf.2.2.2) hr.1 (by rw [cat_trv]; exact hr.2.1) hr.2.2.1 hr.2.2.2 hd (kk l D aC z p e s m args below meth c H locs ls C hP hS hl)
theorem WE.mabs {idx : Nat} {x : Int32} (hd : decode (mtC M) pc = .ok (.invokestatic idx, 3)) (hn : pc + 3 = n) (hf : MLK (mtY M).cls idx Lib.Math.abs.name Lib.Math.abs.code 1) (hr : rOK M cu su st) (kk : WE M n L (.int (if 0 ≤ x then x else 0 - x) :: st) σ cu su G) : WE M pc L (.int x :: st) σ cu su G := by
  subst hn
  intro l D aC z p e s m args below meth c H locs ls C hP hS hl
  have hw := C.2.2.2.2.2.2.1
  exact va_mabs C.2.1 C.2.2.1 (C.2.2.2.1.trans hl.1.symm) C.2.2.2.2.2.1 (hw _ hf.1) (hw _ hf.2.1) (hw _ hf.2.2.1) (hw _ hf.2.2.2) hr.1 (by rw [cat_trv]; exact hr.2.1) hr.2.2.1 hr.2.2.2 hd (kk l D aC z p e s m args below meth c H locs ls C hP hS hl)
end WEH
