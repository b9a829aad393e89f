/-! handlers: the contract of a method with a table of exceptions; what is caught; long and double rows -/
theorem KD_hi {j : Nat} (h : 404 ≤ j) : KD j = 16 := by
  unfold KD
  rw [if_neg (by omega), if_neg (by omega), if_neg (by omega), if_neg (by omega), if_neg (by omega), if_neg (by omega), if_neg (by omega), if_neg (by omega), if_neg (by omega), if_neg (by omega), if_neg (by omega), if_neg (by omega), if_neg (by omega)]
theorem KD_lo : ∀ j, j < 404 → KD j < 16 ∧ (KD j = 15 → j = 403) := by decide +kernel
theorem KD15 {j : Nat} (h : KD j = 15) : j = 403 := by
  by_cases hj : j < 404
  · exact (KD_lo j hj).2 h
  · rw [KD_hi (by omega)] at h
    exact absurd h (by decide)
theorem KD16 {j : Nat} (h : KD j = 16) (hj : j < NN) : j = 404 := by
  have hj : j < 405 := hj
  by_cases h4 : j < 404
  · have := (KD_lo j h4).1
    omega
  · omega
theorem cE_l {z : Nat} {aC : Nat → ClassId} {σ : SS} : cE z aC σ 403 = .inl (aC 5, 1, .inr (.inl fun _ => σ.2.1)) := by
  unfold cE
  rw [if_neg (by decide), if_neg (by decide), if_neg (by decide), if_pos (by decide)]
  rfl
theorem KD_17 (j : Nat) : KD j < 17 := by
  by_cases hj : j < 404
  · have := (KD_lo j hj).1
    omega
  · rw [KD_hi (by omega)]
    decide
theorem cE_d {z : Nat} {aC : Nat → ClassId} {σ : SS} : cE z aC σ 404 = .inl (aC 6, 1, .inr (.inr (.inr (.inl fun _ => σ.2.2)))) := by
  unfold cE
  rw [if_neg (by decide), if_neg (by decide), if_neg (by decide), if_neg (by decide)]
  rfl
theorem cE_lo {z : Nat} {aC : Nat → ClassId} {c : CC} {x y : Int64} {d : UInt64} {j : Nat} (hj : j ≠ 403) : cE z aC (c, x, d) j = cE z aC (c, y, d) j := by
  unfold cE
  by_cases h1 : KD j < 10
  · rw [if_pos h1, if_pos h1]
  · rw [if_neg h1, if_neg h1]
    by_cases h2 : KD j < 12
    · rw [if_pos h2, if_pos h2]
    · rw [if_neg h2, if_neg h2]
      by_cases h3 : KD j < 15
      · rw [if_pos h3, if_pos h3]
      · rw [if_neg h3, if_neg h3, if_neg (fun q => hj (KD15 q)), if_neg (fun q => hj (KD15 q))]
theorem cE_do {z : Nat} {aC : Nat → ClassId} {c : CC} {x : Int64} {d e : UInt64} {j : Nat} (hj : j ≠ 404) (hn : j < NN) : cE z aC (c, x, d) j = cE z aC (c, x, e) j := by
  unfold cE
  by_cases h1 : KD j < 10
  · rw [if_pos h1, if_pos h1]
  · rw [if_neg h1, if_neg h1]
    by_cases h2 : KD j < 12
    · rw [if_pos h2, if_pos h2]
    · rw [if_neg h2, if_neg h2]
      by_cases h3 : KD j < 15
      · rw [if_pos h3, if_pos h3]
      · rw [if_neg h3, if_neg h3]
        by_cases h4 : KD j = 15
        · rw [if_pos h4, if_pos h4]
        · exact absurd (KD16 (by have := KD_17 j; omega) hn) hj
theorem wl_setN {z : Nat} {aC : Nat → ClassId} {σ σ' : SS} {i : Nat} {e : va_E} (h : i < NN) (he : e = cE z aC σ' i) (ho : ∀ j, j ≠ i → j < NN → cE z aC σ' j = cE z aC σ j) : (wl z aC σ).set i (z + i, e) = wl z aC σ' := by
  apply List.ext_getElem?
  intro j
  by_cases hj : j = i
  · subst hj
    rw [List.getElem?_set_self (by rw [wl_len]; exact h), wl_at z aC σ' h, he]
  · rw [List.getElem?_set_ne (Ne.symm hj)]
    by_cases hjn : j < NN
    · rw [wl_at z aC σ hjn, wl_at z aC σ' hjn, ho j hj hjn]
    · rw [List.getElem?_eq_none (by rw [wl_len]; omega), List.getElem?_eq_none (by rw [wl_len]; omega)]
theorem va_swap {D : va_G} {cl : List vw_C} {ws : va_W} {i q : Nat} {e e' : va_E} {H : Heap} (hP : va_P D cl (ws.set i (q, e)) H) (he : va_at D cl (q, e) H → va_at D cl (q, e') H) : va_P D cl (ws.set i (q, e')) H := by
  intro k x hx
  by_cases hk : k = i
  · subst hk
    by_cases hl : k < ws.length
    · rw [List.getElem?_set_self hl] at hx
      cases hx
      exact he (hP k _ (List.getElem?_set_self hl))
    · rw [List.getElem?_eq_none (by simpa using hl)] at hx
      cases hx
  · rw [List.getElem?_set_ne (Ne.symm hk)] at hx
    exact hP k x (by rw [List.getElem?_set_ne (Ne.symm hk)]; exact hx)
theorem arr1 (cA : ClassId) (f g : Nat → Value) (h : f 0 = g 0) : arrV cA 1 f = arrV cA 1 g := by
  unfold arrV
  have e : (fun j : Fin 1 => f j.val) = fun j : Fin 1 => g j.val := funext fun j => by
    have : j.val = 0 := by omega
    rw [this, h]
  rw [e]
section WEX
variable {M : MT} {pc n : Nat} {L : List (Nat × Value)} {st : List Value} {σ : SS} {c0 : CC} {od : Int64 × UInt64} {cu su : Nat} {G : GT}
theorem WE.last {x : Int64} (hd : decode (mtC M) pc = .ok (.lastore, 1)) (hn : pc + 1 = n) (kk : WE M n L st (c0, x, od.2) cu su G) : WE M pc L (.long x :: .int (nI 0) :: .ref 403 :: st) (c0, od) cu su G := by
  subst hn
  intro l D aC z p e s m args below meth c H locs ls C hP hS hl
  refine va_last (D := D) (cl := vwc) C.2.1 C.2.2.1 C.2.2.2.2.2.2.2.1 hP (wl_D z s.heap.size aC (c0, od)) hS 403 5 ((wl_at z aC (c0, od) (by decide)).trans (by rw [cE_l])) rfl (vp_in_nI (show 0 < 1 by decide) (by decide)) hd (fun H1 locs1 hP1 hD1 hS1 => ?_)
  have h2 := va_swap (e' := cE z aC (c0, x, od.2) 403) hP1 (fun h => by
    rw [cE_l]
    refine Eq.trans h (congrArg some ?_)
    show arrV (aC 5) 1 (fun j => Value.long (vp_updL (fun _ => od.1) (nI 0).toNatClampNeg x j)) = arrV (aC 5) 1 (fun _ => Value.long x)
    exact arr1 _ _ _ (by show Value.long (if 0 = (nI 0).toNatClampNeg then x else _) = _; rw [if_pos (by decide)]))
  rw [wl_setN (σ' := (c0, x, od.2)) (by decide) rfl (fun j hj _ => cE_lo hj)] at h2
  exact kk l D aC z p e s m args below meth c H1 locs1 ls C h2 hS1 hl
theorem WE.dast {x : UInt64} (hd : decode (mtC M) pc = .ok (.dastore, 1)) (hn : pc + 1 = n) (kk : WE M n L st (c0, od.1, x) cu su G) : WE M pc L (.double x :: .int (nI 0) :: .ref 404 :: st) (c0, od) cu su G := by
  subst hn
  intro l D aC z p e s m args below meth c H locs ls C hP hS hl
  refine va_dast (D := D) (cl := vwc) C.2.1 C.2.2.1 C.2.2.2.2.2.2.2.1 hP (wl_D z s.heap.size aC (c0, od)) hS 404 6 ((wl_at z aC (c0, od) (by decide)).trans (by rw [cE_d])) rfl (vp_in_nI (show 0 < 1 by decide) (by decide)) hd (fun H1 locs1 hP1 hD1 hS1 => ?_)
  have h2 := va_swap (e' := cE z aC (c0, od.1, x) 404) hP1 (fun h => by
    rw [cE_d]
    refine Eq.trans h (congrArg some ?_)
    show arrV (aC 6) 1 (fun j => Value.double (vf_upd (fun _ => od.2) (nI 0).toNatClampNeg x j)) = arrV (aC 6) 1 (fun _ => Value.double x)
    exact arr1 _ _ _ (by show Value.double (if 0 = (nI 0).toNatClampNeg then x else _) = _; rw [if_pos (by decide)]))
  rw [wl_setN (σ' := (c0, od.1, x)) (by decide) rfl (fun j hj hn => cE_do hj hn)] at h2
  exact kk l D aC z p e s m args below meth c H1 locs1 ls C h2 hS1 hl
theorem WE.lconst {i : Fin 2} (v : Int64) (hd : decode (mtC M) pc = .ok (.lconst i, 1)) (hn : pc + 1 = n) (hv : Int64.ofNat (i : Nat) = v) (k : WE M n L (.long v :: st) σ cu su G) : WE M pc L st σ cu su G := by
  subst hn
  intro l D aC z p e s m args below meth c H locs ls C hP hS hl
  exact lv_lconst C.2.1 C.2.2.1 hd hv (k l D aC z p e s m args below meth c H locs ls C hP hS hl)
theorem WE.f2d {x : UInt32} (hd : decode (mtC M) pc = .ok (.f2d, 1)) (hn : pc + 1 = n) (hne : vf_n64 (FP.f2d x)) (k : WE M n L (.double (FP.f2d x) :: st) σ cu su G) : WE M pc L (.float x :: st) σ cu su G := by
  subst hn
  intro l D aC z p e s m args below meth c H locs ls C hP hS hl
  exact lv_f2d C.2.1 C.2.2.1 hd hne (k l D aC z p e s m args below meth c H locs ls C hP hS hl)
/-- what the rows ahead of the catching one ask -/
def preOK (own E : String) (pc : Nat) : List (Nat × Nat × Nat × Nat) → Prop
  | [] => True
  | q :: r => (∃ nm, q.2.2.2 ≠ 0 ∧ Cond.classLink own q.2.2.2 nm ∈ WG ∧ (E, nm) ∈ NcL) ∧ preOK own E pc r
theorem preOK_mem {own E : String} {pc : Nat} : ∀ {l : List (Nat × Nat × Nat × Nat)}, preOK own E pc l → ∀ q ∈ l, ∃ nm, q.2.2.2 ≠ 0 ∧ Cond.classLink own q.2.2.2 nm ∈ WG ∧ (E, nm) ∈ NcL
  | [], _, q, h => by cases h
  | a :: r, h, q, hq => by
    rcases List.mem_cons.mp hq with rfl | hq
    · exact h.1
    · exact preOK_mem h.2 q hq
theorem WX.catchA {E : String} {len : Nat} {ins : Instr} (pre : List (Nat × Nat × Nat × Nat)) (x : Nat × Nat × Nat × Nat) (suf : List (Nat × Nat × Nat × Nat)) (hH : mtH M = pre ++ x :: suf) (hpre : preOK (mtY M).cls E pc pre) (hx : covers ⟨x.1, x.2.1, x.2.2.1, x.2.2.2⟩ pc = true) (h0 : x.2.2.2 ≠ 0) (hlink : Cond.classLink (mtY M).cls x.2.2.2 E ∈ WG) (hcast : Cond.castable E E ∈ lw_tbl)
    (hd : decode (mtC M) x.2.2.1 = .ok (ins, len)) {j : Nat} (hins : (∃ jj : Fin 4, ins = .astore_n jj ∧ jj.val = j ∧ len = 1) ∨ (ins = .astore j ∧ len = 2)) (hn : x.2.2.1 + len = n) (hj : j < mtL M) (k : WE M n [] [] σ cu su G) : WX M pc L st σ E cu su G := by
  subst hn
  intro l D aC z p e s m args below meth c H locs ls q ce C hP hS hl h1 h2 h3
  have hw := C.2.2.2.2.2.2.1
  have hkf := C.2.2.2.2.2.2.2.2.1
  have htab : c.exceptionTable.toList = tableOf pre ++ ⟨x.1, x.2.1, x.2.2.1, x.2.2.2⟩ :: tableOf suf := by
    rw [C.2.2.2.2.2.2.2.2.2.2.2.1, hH]
    simp [tableOf]
  refine vx_catch (own := (mtY M).cls) (name := E) C.2.2.2.2.2.1 (tableOf pre) ⟨x.1, x.2.1, x.2.2.1, x.2.2.2⟩ (tableOf suf) htab (fun zz hz => ?_) hx h0 (hw _ hlink) (va_Nw.use rfl (hkf.1 _ hcast rfl)) h1 h2 h3 ?_
  · obtain ⟨q, hq, rfl⟩ := List.mem_map.mp hz
    obtain ⟨nm, g0, g1, g2⟩ := preOK_mem hpre q hq
    exact Or.inr ⟨g0, nm, hw _ g1, hkf.2.2 _ g2⟩
  · have go : ∀ ls' : Array Slot, lv_has ls' (mtL M) ((j, Value.ref q) :: (trL z L).filter (fun q => !(q.1 == j) && !(q.1 + 1 == j && q.2.category == 2))) → W p l e (mtR M) s m args below meth c H locs cu su (G z D aC below args s) (F0 m (x.2.2.1 + len) ls' []) := fun ls' h => k l D aC z p e s m args below meth c H locs ls' C hP hS ⟨h.1, h.2.1, fun q hq => by cases hq⟩
    rcases hins with ⟨jj, rfl, rfl, rfl⟩ | ⟨rfl, rfl⟩
    · exact lv_astore_n C.2.1 C.2.2.1 hd rfl hl hj rfl go
    · exact lv_astore C.2.1 C.2.2.1 hd hl hj rfl go
end WEX
/-- THE CONTRACT OUT OF THE WALK, a method with handlers -/
theorem CM.ofH {M : MT} {σ : SS} {Q : AO → SS → Prop} {as : List Value} (L0 : List (Nat × Value)) (hL0 : lv_args 0 as = L0) (hpl : plainName (mtY M).cls = true) (hwM : wM M = .codeWith (mtY M) (mtC M) (mtL M) (mtT M) (mtH M)) (hlen : (lg_sl as).length ≤ mtL M) (k : WE M 0 L0 [] σ 0 0 (GQ M Q)) : CM M as σ Q := by
  subst hL0
  intro l D aC z sz hst
  refine vx_ofWH (cc := mtC M) (maxL := mtL M) (ret := mtT M) (hh := mtH M) hpl (by rw [hwM]) ?_
  intro p e s m args below meth c s₁ B hml hv
  obtain ⟨rfl, rfl, hP, hK, hF, hZ, hz⟩ := hv
  have hts := atoms_spec (ws := wM M :: WG) B.pre
  have htab := vx_table (x := mtY M) B (by rw [← hwM]; exact hts _ List.mem_cons_self)
  have hl := lv_entry (as.map (trv z)) (n := mtL M) (by rw [lg_sl_trv]; exact hlen)
  rw [lv_args_trv] at hl
  rw [lg_entry_eq]
  exact k l D aC z p e s m _ below meth c s.heap [] _ ⟨hst, B.exec, B.bytes, hml, B.returns, findClass_of_methodNamed B.named, fun w h => hts w (List.mem_cons_of_mem _ h), hK, hF, hZ, B.notSynchronized, htab, hz⟩ hP va_S.rf hl
/-- a helper of the law: code 0 and the answer in the row, or the place of the class in its list -/
def HQ (l : List String) (Q : AO → SS → Prop) : AO → SS → Prop := PI fun k σ' => (∃ r σ1, Q (.inl (some (.int r))) σ1 ∧ k = nI 0 ∧ σ' = (σ1.1, r.toInt64, σ1.2.2)) ∨ ∃ E σ1 j, Q (.inr E) σ1 ∧ l[j]? = some E ∧ k = nI (j + 1) ∧ σ' = σ1
def isI (Q : AO → SS → Prop) : Prop := ∀ v σ1, Q (.inl v) σ1 → ∃ r, v = some (.int r)
def isX (l : List String) (Q : AO → SS → Prop) : Prop := ∀ E σ1, Q (.inr E) σ1 → E ∈ l
def HD (n : Int32) (v : UInt64) (σ : SS) : AO → SS → Prop := PI fun k σ' => if n = 0 then k = nI 1 ∧ σ' = σ else k = nI 0 ∧ σ' = (σ.1, σ.2.1, v)
theorem cv_L_7 : CVL RL 7 mX5_ring 5 1 := ⟨g_354, g_355, g_356, g_61, g_357, rfl, ⟨by decide +kernel, by decide +kernel, by decide +kernel⟩, rfl, by decide⟩
abbrev mL_ring : MT := (yL_ring, cL_ring, 4, some .int, { frames := 8, cells := 1, slots := 6, locals := 256 }, [(0, 9, 12, 13)])
set_option maxRecDepth 20000 in
set_option maxHeartbeats 1000000 in
theorem h_ring (σ : SS) (Q : AO → SS → Prop) (x : Int32) (hM : CM mX5_ring [.ref 0, .int x] σ Q) (hI : isI Q) (hX : isX [iaE] Q) : CM mL_ring [.ref 0, .int x, .ref 403] σ (HQ [iaE] Q) := by
  refine CM.ofH [(0, .ref 0), (1, .int x), (2, .ref 403)] rfl (by decide +kernel) rfl (Nat.le_of_ble_eq_true rfl) ?_
  refine WE.aload_n (n := 1) dL_ring_0 rfl rfl ?_
  refine WE.iconst (n := 2) (nI 0) dL_ring_1 rfl (by decide) ?_
  refine WE.aload_n (n := 3) dL_ring_2 rfl rfl ?_
  refine WE.iload_n (n := 4) dL_ring_3 rfl rfl ?_
  refine WE.V1G (M' := mX5_ring) (n := 7) dL_ring_4 rfl cv_L_7 (by decide) ⟨⟨by decide, by decide⟩, by decide, by decide⟩ (Nat.le_of_ble_eq_true rfl) hM (fun v σ1 q => ?_) (fun E σ1 q => ?_)
  · obtain ⟨r, rfl⟩ := hI _ _ q
    change WE _ 7 _ (.int r :: .int (nI 0) :: .ref 403 :: []) _ _ _ _
    obtain ⟨c1, o1⟩ := σ1
    refine WE.i2l (n := 8) dL_ring_7 rfl ?_
    refine WE.last (n := 9) dL_ring_8 rfl ?_
    refine WE.goto (tgt := 15) dL_ring_9 (by decide) ?_
    refine WE.iconst (n := 16) (nI 0) dL_ring_15 rfl (by decide) ?_
    refine WE.iret (ty := .int) dL_ring_16 rfl rfl ⟨by decide, by decide⟩ ?_
    exact PI.mk (Or.inl ⟨r, _, q, rfl, rfl⟩)
  · have hE := hX _ _ q
    simp only [List.mem_cons, List.not_mem_nil, or_false] at hE
    subst hE
    refine WX.catchA (n := 13) (j := 3) [] (0, 9, 12, 13) [] rfl trivial rfl (by decide) g_353 t_448 dL_ring_12 (Or.inl ⟨3, rfl, rfl, rfl⟩) rfl (by decide) ?_
    refine WE.iconst (n := 14) (nI 1) dL_ring_13 rfl (by decide) ?_
    refine WE.iret (ty := .int) dL_ring_14 rfl rfl ⟨by decide, by decide⟩ ?_
    exact PI.mk (Or.inr ⟨_, _, 0, q, rfl, rfl, rfl⟩)
theorem cv_L_15 : CVL RL 15 mX5_wind 5 3 := ⟨g_506, g_507, g_508, g_61, g_509, rfl, ⟨by decide +kernel, by decide +kernel, by decide +kernel⟩, rfl, by decide⟩
abbrev mL_wind : MT := (yL_wind, cL_wind, 6, some .int, { frames := 8, cells := 1, slots := 6, locals := 256 }, [(0, 12, 15, 19), (0, 12, 19, 13)])
set_option maxRecDepth 20000 in
set_option maxHeartbeats 1000000 in
theorem h_wind (σ : SS) (Q : AO → SS → Prop) (x y z : Int32) (hM : CM mX5_wind [.ref 0, .int x, .int y, .int z] σ Q) (hI : isI Q) (hX : isX [ioE, iaE] Q) : CM mL_wind [.ref 0, .int x, .int y, .int z, .ref 403] σ (HQ [ioE, iaE] Q) := by
  refine CM.ofH [(0, .ref 0), (1, .int x), (2, .int y), (3, .int z), (4, .ref 403)] rfl (by decide +kernel) rfl (Nat.le_of_ble_eq_true rfl) ?_
  refine WE.aload (n := 2) dL_wind_0 rfl rfl ?_
  refine WE.iconst (n := 3) (nI 0) dL_wind_2 rfl (by decide) ?_
  refine WE.aload_n (n := 4) dL_wind_3 rfl rfl ?_
  refine WE.iload_n (n := 5) dL_wind_4 rfl rfl ?_
  refine WE.iload_n (n := 6) dL_wind_5 rfl rfl ?_
  refine WE.iload_n (n := 7) dL_wind_6 rfl rfl ?_
  refine WE.V3G (M' := mX5_wind) (n := 10) dL_wind_7 rfl cv_L_15 (by decide) ⟨⟨by decide, by decide⟩, by decide, by decide⟩ (Nat.le_of_ble_eq_true rfl) hM (fun v σ1 q => ?_) (fun E σ1 q => ?_)
  · obtain ⟨r, rfl⟩ := hI _ _ q
    change WE _ 10 _ (.int r :: .int (nI 0) :: .ref 403 :: []) _ _ _ _
    obtain ⟨c1, o1⟩ := σ1
    refine WE.i2l (n := 11) dL_wind_10 rfl ?_
    refine WE.last (n := 12) dL_wind_11 rfl ?_
    refine WE.goto (tgt := 23) dL_wind_12 (by decide) ?_
    refine WE.iconst (n := 24) (nI 0) dL_wind_23 rfl (by decide) ?_
    refine WE.iret (ty := .int) dL_wind_24 rfl rfl ⟨by decide, by decide⟩ ?_
    exact PI.mk (Or.inl ⟨r, _, q, rfl, rfl⟩)
  · have hE := hX _ _ q
    simp only [List.mem_cons, List.not_mem_nil, or_false] at hE
    rcases hE with rfl | rfl
    · refine WX.catchA (n := 17) (j := 5) [] (0, 12, 15, 19) [(0, 12, 19, 13)] rfl trivial rfl (by decide) g_485 t_376 dL_wind_15 (Or.inr ⟨rfl, rfl⟩) rfl (by decide) ?_
      refine WE.iconst (n := 18) (nI 1) dL_wind_17 rfl (by decide) ?_
      refine WE.iret (ty := .int) dL_wind_18 rfl rfl ⟨by decide, by decide⟩ ?_
      exact PI.mk (Or.inr ⟨_, _, 0, q, rfl, rfl, rfl⟩)
    · refine WX.catchA (n := 21) (j := 5) [(0, 12, 15, 19)] (0, 12, 19, 13) [] rfl ⟨⟨_, by decide, g_485, by decide +kernel⟩, trivial⟩ rfl (by decide) g_353 t_448 dL_wind_19 (Or.inr ⟨rfl, rfl⟩) rfl (by decide) ?_
      refine WE.iconst (n := 22) (nI 2) dL_wind_21 rfl (by decide) ?_
      refine WE.iret (ty := .int) dL_wind_22 rfl rfl ⟨by decide, by decide⟩ ?_
      exact PI.mk (Or.inr ⟨_, _, 1, q, rfl, rfl, rfl⟩)
theorem cv_L_21 : CVL RL 21 mX5_gas 5 1 := ⟨g_517, g_518, g_519, g_61, g_520, rfl, ⟨by decide +kernel, by decide +kernel, by decide +kernel⟩, rfl, by decide⟩
abbrev mL_gas : MT := (yL_gas, cL_gas, 4, some .int, { frames := 8, cells := 1, slots := 6, locals := 256 }, [(0, 9, 12, 13)])
set_option maxRecDepth 20000 in
set_option maxHeartbeats 1000000 in
theorem h_gas (σ : SS) (Q : AO → SS → Prop) (x : Int32) (hM : CM mX5_gas [.ref 0, .int x] σ Q) (hI : isI Q) (hX : isX [iaE] Q) : CM mL_gas [.ref 0, .int x, .ref 403] σ (HQ [iaE] Q) := by
  refine CM.ofH [(0, .ref 0), (1, .int x), (2, .ref 403)] rfl (by decide +kernel) rfl (Nat.le_of_ble_eq_true rfl) ?_
  refine WE.aload_n (n := 1) dL_gas_0 rfl rfl ?_
  refine WE.iconst (n := 2) (nI 0) dL_gas_1 rfl (by decide) ?_
  refine WE.aload_n (n := 3) dL_gas_2 rfl rfl ?_
  refine WE.iload_n (n := 4) dL_gas_3 rfl rfl ?_
  refine WE.V1G (M' := mX5_gas) (n := 7) dL_gas_4 rfl cv_L_21 (by decide) ⟨⟨by decide, by decide⟩, by decide, by decide⟩ (Nat.le_of_ble_eq_true rfl) hM (fun v σ1 q => ?_) (fun E σ1 q => ?_)
  · obtain ⟨r, rfl⟩ := hI _ _ q
    change WE _ 7 _ (.int r :: .int (nI 0) :: .ref 403 :: []) _ _ _ _
    obtain ⟨c1, o1⟩ := σ1
    refine WE.i2l (n := 8) dL_gas_7 rfl ?_
    refine WE.last (n := 9) dL_gas_8 rfl ?_
    refine WE.goto (tgt := 15) dL_gas_9 (by decide) ?_
    refine WE.iconst (n := 16) (nI 0) dL_gas_15 rfl (by decide) ?_
    refine WE.iret (ty := .int) dL_gas_16 rfl rfl ⟨by decide, by decide⟩ ?_
    exact PI.mk (Or.inl ⟨r, _, q, rfl, rfl⟩)
  · have hE := hX _ _ q
    simp only [List.mem_cons, List.not_mem_nil, or_false] at hE
    subst hE
    refine WX.catchA (n := 13) (j := 3) [] (0, 9, 12, 13) [] rfl trivial rfl (by decide) g_353 t_448 dL_gas_12 (Or.inl ⟨3, rfl, rfl, rfl⟩) rfl (by decide) ?_
    refine WE.iconst (n := 14) (nI 1) dL_gas_13 rfl (by decide) ?_
    refine WE.iret (ty := .int) dL_gas_14 rfl rfl ⟨by decide, by decide⟩ ?_
    exact PI.mk (Or.inr ⟨_, _, 0, q, rfl, rfl, rfl⟩)
theorem cv_L_24 : CVL RL 24 mX5_balloon 5 1 := ⟨g_532, g_533, g_534, g_61, g_535, rfl, ⟨by decide +kernel, by decide +kernel, by decide +kernel⟩, rfl, by decide⟩
abbrev mL_balloon : MT := (yL_balloon, cL_balloon, 4, some .int, { frames := 8, cells := 1, slots := 6, locals := 256 }, [(0, 9, 12, 13), (0, 9, 15, 27)])
set_option maxRecDepth 20000 in
set_option maxHeartbeats 1000000 in
theorem h_balloon (σ : SS) (Q : AO → SS → Prop) (x : Int32) (hM : CM mX5_balloon [.ref 0, .int x] σ Q) (hI : isI Q) (hX : isX [iaE, uoE] Q) : CM mL_balloon [.ref 0, .int x, .ref 403] σ (HQ [iaE, uoE] Q) := by
  refine CM.ofH [(0, .ref 0), (1, .int x), (2, .ref 403)] rfl (by decide +kernel) rfl (Nat.le_of_ble_eq_true rfl) ?_
  refine WE.aload_n (n := 1) dL_balloon_0 rfl rfl ?_
  refine WE.iconst (n := 2) (nI 0) dL_balloon_1 rfl (by decide) ?_
  refine WE.aload_n (n := 3) dL_balloon_2 rfl rfl ?_
  refine WE.iload_n (n := 4) dL_balloon_3 rfl rfl ?_
  refine WE.V1G (M' := mX5_balloon) (n := 7) dL_balloon_4 rfl cv_L_24 (by decide) ⟨⟨by decide, by decide⟩, by decide, by decide⟩ (Nat.le_of_ble_eq_true rfl) hM (fun v σ1 q => ?_) (fun E σ1 q => ?_)
  · obtain ⟨r, rfl⟩ := hI _ _ q
    change WE _ 7 _ (.int r :: .int (nI 0) :: .ref 403 :: []) _ _ _ _
    obtain ⟨c1, o1⟩ := σ1
    refine WE.i2l (n := 8) dL_balloon_7 rfl ?_
    refine WE.last (n := 9) dL_balloon_8 rfl ?_
    refine WE.goto (tgt := 18) dL_balloon_9 (by decide) ?_
    refine WE.iconst (n := 19) (nI 0) dL_balloon_18 rfl (by decide) ?_
    refine WE.iret (ty := .int) dL_balloon_19 rfl rfl ⟨by decide, by decide⟩ ?_
    exact PI.mk (Or.inl ⟨r, _, q, rfl, rfl⟩)
  · have hE := hX _ _ q
    simp only [List.mem_cons, List.not_mem_nil, or_false] at hE
    rcases hE with rfl | rfl
    · refine WX.catchA (n := 13) (j := 3) [] (0, 9, 12, 13) [(0, 9, 15, 27)] rfl trivial rfl (by decide) g_353 t_448 dL_balloon_12 (Or.inl ⟨3, rfl, rfl, rfl⟩) rfl (by decide) ?_
      refine WE.iconst (n := 14) (nI 1) dL_balloon_13 rfl (by decide) ?_
      refine WE.iret (ty := .int) dL_balloon_14 rfl rfl ⟨by decide, by decide⟩ ?_
      exact PI.mk (Or.inr ⟨_, _, 0, q, rfl, rfl, rfl⟩)
    · refine WX.catchA (n := 16) (j := 3) [(0, 9, 12, 13)] (0, 9, 15, 27) [] rfl ⟨⟨_, by decide, g_353, by decide +kernel⟩, trivial⟩ rfl (by decide) g_531 t_464 dL_balloon_15 (Or.inl ⟨3, rfl, rfl, rfl⟩) rfl (by decide) ?_
      refine WE.iconst (n := 17) (nI 2) dL_balloon_16 rfl (by decide) ?_
      refine WE.iret (ty := .int) dL_balloon_17 rfl rfl ⟨by decide, by decide⟩ ?_
      exact PI.mk (Or.inr ⟨_, _, 1, q, rfl, rfl, rfl⟩)
theorem cv_L_29 : CVL RL 29 mX5_fill 5 2 := ⟨g_547, g_548, g_549, g_61, g_550, rfl, ⟨by decide +kernel, by decide +kernel, by decide +kernel⟩, rfl, by decide⟩
abbrev mL_fill : MT := (yL_fill, cL_fill, 5, some .int, { frames := 8, cells := 1, slots := 6, locals := 256 }, [(0, 10, 13, 19), (0, 10, 17, 13), (0, 10, 21, 27)])
set_option maxRecDepth 20000 in
set_option maxHeartbeats 1000000 in
theorem h_fill (σ : SS) (Q : AO → SS → Prop) (x y : Int32) (hM : CM mX5_fill [.ref 0, .int x, .int y] σ Q) (hI : isI Q) (hX : isX [ioE, iaE, uoE] Q) : CM mL_fill [.ref 0, .int x, .int y, .ref 403] σ (HQ [ioE, iaE, uoE] Q) := by
  refine CM.ofH [(0, .ref 0), (1, .int x), (2, .int y), (3, .ref 403)] rfl (by decide +kernel) rfl (Nat.le_of_ble_eq_true rfl) ?_
  refine WE.aload_n (n := 1) dL_fill_0 rfl rfl ?_
  refine WE.iconst (n := 2) (nI 0) dL_fill_1 rfl (by decide) ?_
  refine WE.aload_n (n := 3) dL_fill_2 rfl rfl ?_
  refine WE.iload_n (n := 4) dL_fill_3 rfl rfl ?_
  refine WE.iload_n (n := 5) dL_fill_4 rfl rfl ?_
  refine WE.V2G (M' := mX5_fill) (n := 8) dL_fill_5 rfl cv_L_29 (by decide) ⟨⟨by decide, by decide⟩, by decide, by decide⟩ (Nat.le_of_ble_eq_true rfl) hM (fun v σ1 q => ?_) (fun E σ1 q => ?_)
  · obtain ⟨r, rfl⟩ := hI _ _ q
    change WE _ 8 _ (.int r :: .int (nI 0) :: .ref 403 :: []) _ _ _ _
    obtain ⟨c1, o1⟩ := σ1
    refine WE.i2l (n := 9) dL_fill_8 rfl ?_
    refine WE.last (n := 10) dL_fill_9 rfl ?_
    refine WE.goto (tgt := 25) dL_fill_10 (by decide) ?_
    refine WE.iconst (n := 26) (nI 0) dL_fill_25 rfl (by decide) ?_
    refine WE.iret (ty := .int) dL_fill_26 rfl rfl ⟨by decide, by decide⟩ ?_
    exact PI.mk (Or.inl ⟨r, _, q, rfl, rfl⟩)
  · have hE := hX _ _ q
    simp only [List.mem_cons, List.not_mem_nil, or_false] at hE
    rcases hE with rfl | rfl | rfl
    · refine WX.catchA (n := 15) (j := 4) [] (0, 10, 13, 19) [(0, 10, 17, 13), (0, 10, 21, 27)] rfl trivial rfl (by decide) g_485 t_376 dL_fill_13 (Or.inr ⟨rfl, rfl⟩) rfl (by decide) ?_
      refine WE.iconst (n := 16) (nI 1) dL_fill_15 rfl (by decide) ?_
      refine WE.iret (ty := .int) dL_fill_16 rfl rfl ⟨by decide, by decide⟩ ?_
      exact PI.mk (Or.inr ⟨_, _, 0, q, rfl, rfl, rfl⟩)
    · refine WX.catchA (n := 19) (j := 4) [(0, 10, 13, 19)] (0, 10, 17, 13) [(0, 10, 21, 27)] rfl ⟨⟨_, by decide, g_485, by decide +kernel⟩, trivial⟩ rfl (by decide) g_353 t_448 dL_fill_17 (Or.inr ⟨rfl, rfl⟩) rfl (by decide) ?_
      refine WE.iconst (n := 20) (nI 2) dL_fill_19 rfl (by decide) ?_
      refine WE.iret (ty := .int) dL_fill_20 rfl rfl ⟨by decide, by decide⟩ ?_
      exact PI.mk (Or.inr ⟨_, _, 1, q, rfl, rfl, rfl⟩)
    · refine WX.catchA (n := 23) (j := 4) [(0, 10, 13, 19), (0, 10, 17, 13)] (0, 10, 21, 27) [] rfl ⟨⟨_, by decide, g_485, by decide +kernel⟩, ⟨_, by decide, g_353, by decide +kernel⟩, trivial⟩ rfl (by decide) g_531 t_464 dL_fill_21 (Or.inr ⟨rfl, rfl⟩) rfl (by decide) ?_
      refine WE.iconst (n := 24) (nI 3) dL_fill_23 rfl (by decide) ?_
      refine WE.iret (ty := .int) dL_fill_24 rfl rfl ⟨by decide, by decide⟩ ?_
      exact PI.mk (Or.inr ⟨_, _, 2, q, rfl, rfl, rfl⟩)
theorem cv_L_33 : CVL RL 33 mX5_ballast 5 2 := ⟨g_562, g_563, g_564, g_61, g_565, rfl, ⟨by decide +kernel, by decide +kernel, by decide +kernel⟩, rfl, by decide⟩
abbrev mL_ballast : MT := (yL_ballast, cL_ballast, 5, some .int, { frames := 8, cells := 1, slots := 6, locals := 256 }, [(0, 10, 13, 19), (0, 10, 17, 13), (0, 10, 21, 27)])
set_option maxRecDepth 20000 in
set_option maxHeartbeats 1000000 in
theorem h_ballast (σ : SS) (Q : AO → SS → Prop) (x y : Int32) (hM : CM mX5_ballast [.ref 0, .int x, .int y] σ Q) (hI : isI Q) (hX : isX [ioE, iaE, uoE] Q) : CM mL_ballast [.ref 0, .int x, .int y, .ref 403] σ (HQ [ioE, iaE, uoE] Q) := by
  refine CM.ofH [(0, .ref 0), (1, .int x), (2, .int y), (3, .ref 403)] rfl (by decide +kernel) rfl (Nat.le_of_ble_eq_true rfl) ?_
  refine WE.aload_n (n := 1) dL_ballast_0 rfl rfl ?_
  refine WE.iconst (n := 2) (nI 0) dL_ballast_1 rfl (by decide) ?_
  refine WE.aload_n (n := 3) dL_ballast_2 rfl rfl ?_
  refine WE.iload_n (n := 4) dL_ballast_3 rfl rfl ?_
  refine WE.iload_n (n := 5) dL_ballast_4 rfl rfl ?_
  refine WE.V2G (M' := mX5_ballast) (n := 8) dL_ballast_5 rfl cv_L_33 (by decide) ⟨⟨by decide, by decide⟩, by decide, by decide⟩ (Nat.le_of_ble_eq_true rfl) hM (fun v σ1 q => ?_) (fun E σ1 q => ?_)
  · obtain ⟨r, rfl⟩ := hI _ _ q
    change WE _ 8 _ (.int r :: .int (nI 0) :: .ref 403 :: []) _ _ _ _
    obtain ⟨c1, o1⟩ := σ1
    refine WE.i2l (n := 9) dL_ballast_8 rfl ?_
    refine WE.last (n := 10) dL_ballast_9 rfl ?_
    refine WE.goto (tgt := 25) dL_ballast_10 (by decide) ?_
    refine WE.iconst (n := 26) (nI 0) dL_ballast_25 rfl (by decide) ?_
    refine WE.iret (ty := .int) dL_ballast_26 rfl rfl ⟨by decide, by decide⟩ ?_
    exact PI.mk (Or.inl ⟨r, _, q, rfl, rfl⟩)
  · have hE := hX _ _ q
    simp only [List.mem_cons, List.not_mem_nil, or_false] at hE
    rcases hE with rfl | rfl | rfl
    · refine WX.catchA (n := 15) (j := 4) [] (0, 10, 13, 19) [(0, 10, 17, 13), (0, 10, 21, 27)] rfl trivial rfl (by decide) g_485 t_376 dL_ballast_13 (Or.inr ⟨rfl, rfl⟩) rfl (by decide) ?_
      refine WE.iconst (n := 16) (nI 1) dL_ballast_15 rfl (by decide) ?_
      refine WE.iret (ty := .int) dL_ballast_16 rfl rfl ⟨by decide, by decide⟩ ?_
      exact PI.mk (Or.inr ⟨_, _, 0, q, rfl, rfl, rfl⟩)
    · refine WX.catchA (n := 19) (j := 4) [(0, 10, 13, 19)] (0, 10, 17, 13) [(0, 10, 21, 27)] rfl ⟨⟨_, by decide, g_485, by decide +kernel⟩, trivial⟩ rfl (by decide) g_353 t_448 dL_ballast_17 (Or.inr ⟨rfl, rfl⟩) rfl (by decide) ?_
      refine WE.iconst (n := 20) (nI 2) dL_ballast_19 rfl (by decide) ?_
      refine WE.iret (ty := .int) dL_ballast_20 rfl rfl ⟨by decide, by decide⟩ ?_
      exact PI.mk (Or.inr ⟨_, _, 1, q, rfl, rfl, rfl⟩)
    · refine WX.catchA (n := 23) (j := 4) [(0, 10, 13, 19), (0, 10, 17, 13)] (0, 10, 21, 27) [] rfl ⟨⟨_, by decide, g_485, by decide +kernel⟩, ⟨_, by decide, g_353, by decide +kernel⟩, trivial⟩ rfl (by decide) g_531 t_464 dL_ballast_21 (Or.inr ⟨rfl, rfl⟩) rfl (by decide) ?_
      refine WE.iconst (n := 24) (nI 3) dL_ballast_23 rfl (by decide) ?_
      refine WE.iret (ty := .int) dL_ballast_24 rfl rfl ⟨by decide, by decide⟩ ?_
      exact PI.mk (Or.inr ⟨_, _, 2, q, rfl, rfl, rfl⟩)
theorem cv_L_36 : CVL RL 36 mX5_courier 5 2 := ⟨g_573, g_574, g_575, g_61, g_576, rfl, ⟨by decide +kernel, by decide +kernel, by decide +kernel⟩, rfl, by decide⟩
abbrev mL_courier : MT := (yL_courier, cL_courier, 5, some .int, { frames := 8, cells := 1, slots := 6, locals := 256 }, [(0, 10, 13, 19), (0, 10, 17, 13), (0, 10, 21, 27)])
set_option maxRecDepth 20000 in
set_option maxHeartbeats 1000000 in
theorem h_courier (σ : SS) (Q : AO → SS → Prop) (x y : Int32) (hM : CM mX5_courier [.ref 0, .int x, .int y] σ Q) (hI : isI Q) (hX : isX [ioE, iaE, uoE] Q) : CM mL_courier [.ref 0, .int x, .int y, .ref 403] σ (HQ [ioE, iaE, uoE] Q) := by
  refine CM.ofH [(0, .ref 0), (1, .int x), (2, .int y), (3, .ref 403)] rfl (by decide +kernel) rfl (Nat.le_of_ble_eq_true rfl) ?_
  refine WE.aload_n (n := 1) dL_courier_0 rfl rfl ?_
  refine WE.iconst (n := 2) (nI 0) dL_courier_1 rfl (by decide) ?_
  refine WE.aload_n (n := 3) dL_courier_2 rfl rfl ?_
  refine WE.iload_n (n := 4) dL_courier_3 rfl rfl ?_
  refine WE.iload_n (n := 5) dL_courier_4 rfl rfl ?_
  refine WE.V2G (M' := mX5_courier) (n := 8) dL_courier_5 rfl cv_L_36 (by decide) ⟨⟨by decide, by decide⟩, by decide, by decide⟩ (Nat.le_of_ble_eq_true rfl) hM (fun v σ1 q => ?_) (fun E σ1 q => ?_)
  · obtain ⟨r, rfl⟩ := hI _ _ q
    change WE _ 8 _ (.int r :: .int (nI 0) :: .ref 403 :: []) _ _ _ _
    obtain ⟨c1, o1⟩ := σ1
    refine WE.i2l (n := 9) dL_courier_8 rfl ?_
    refine WE.last (n := 10) dL_courier_9 rfl ?_
    refine WE.goto (tgt := 25) dL_courier_10 (by decide) ?_
    refine WE.iconst (n := 26) (nI 0) dL_courier_25 rfl (by decide) ?_
    refine WE.iret (ty := .int) dL_courier_26 rfl rfl ⟨by decide, by decide⟩ ?_
    exact PI.mk (Or.inl ⟨r, _, q, rfl, rfl⟩)
  · have hE := hX _ _ q
    simp only [List.mem_cons, List.not_mem_nil, or_false] at hE
    rcases hE with rfl | rfl | rfl
    · refine WX.catchA (n := 15) (j := 4) [] (0, 10, 13, 19) [(0, 10, 17, 13), (0, 10, 21, 27)] rfl trivial rfl (by decide) g_485 t_376 dL_courier_13 (Or.inr ⟨rfl, rfl⟩) rfl (by decide) ?_
      refine WE.iconst (n := 16) (nI 1) dL_courier_15 rfl (by decide) ?_
      refine WE.iret (ty := .int) dL_courier_16 rfl rfl ⟨by decide, by decide⟩ ?_
      exact PI.mk (Or.inr ⟨_, _, 0, q, rfl, rfl, rfl⟩)
    · refine WX.catchA (n := 19) (j := 4) [(0, 10, 13, 19)] (0, 10, 17, 13) [(0, 10, 21, 27)] rfl ⟨⟨_, by decide, g_485, by decide +kernel⟩, trivial⟩ rfl (by decide) g_353 t_448 dL_courier_17 (Or.inr ⟨rfl, rfl⟩) rfl (by decide) ?_
      refine WE.iconst (n := 20) (nI 2) dL_courier_19 rfl (by decide) ?_
      refine WE.iret (ty := .int) dL_courier_20 rfl rfl ⟨by decide, by decide⟩ ?_
      exact PI.mk (Or.inr ⟨_, _, 1, q, rfl, rfl, rfl⟩)
    · refine WX.catchA (n := 23) (j := 4) [(0, 10, 13, 19), (0, 10, 17, 13)] (0, 10, 21, 27) [] rfl ⟨⟨_, by decide, g_485, by decide +kernel⟩, ⟨_, by decide, g_353, by decide +kernel⟩, trivial⟩ rfl (by decide) g_531 t_464 dL_courier_21 (Or.inr ⟨rfl, rfl⟩) rfl (by decide) ?_
      refine WE.iconst (n := 24) (nI 3) dL_courier_23 rfl (by decide) ?_
      refine WE.iret (ty := .int) dL_courier_24 rfl rfl ⟨by decide, by decide⟩ ?_
      exact PI.mk (Or.inr ⟨_, _, 2, q, rfl, rfl, rfl⟩)
theorem cv_L_39 : CVL RL 39 mX5_letter 5 2 := ⟨g_584, g_585, g_586, g_61, g_587, rfl, ⟨by decide +kernel, by decide +kernel, by decide +kernel⟩, rfl, by decide⟩
abbrev mL_letter : MT := (yL_letter, cL_letter, 5, some .int, { frames := 8, cells := 1, slots := 6, locals := 256 }, [(0, 10, 13, 13), (0, 10, 17, 27)])
set_option maxRecDepth 20000 in
set_option maxHeartbeats 1000000 in
theorem h_letter (σ : SS) (Q : AO → SS → Prop) (x y : Int32) (hM : CM mX5_letter [.ref 0, .int x, .int y] σ Q) (hI : isI Q) (hX : isX [iaE, uoE] Q) : CM mL_letter [.ref 0, .int x, .int y, .ref 403] σ (HQ [iaE, uoE] Q) := by
  refine CM.ofH [(0, .ref 0), (1, .int x), (2, .int y), (3, .ref 403)] rfl (by decide +kernel) rfl (Nat.le_of_ble_eq_true rfl) ?_
  refine WE.aload_n (n := 1) dL_letter_0 rfl rfl ?_
  refine WE.iconst (n := 2) (nI 0) dL_letter_1 rfl (by decide) ?_
  refine WE.aload_n (n := 3) dL_letter_2 rfl rfl ?_
  refine WE.iload_n (n := 4) dL_letter_3 rfl rfl ?_
  refine WE.iload_n (n := 5) dL_letter_4 rfl rfl ?_
  refine WE.V2G (M' := mX5_letter) (n := 8) dL_letter_5 rfl cv_L_39 (by decide) ⟨⟨by decide, by decide⟩, by decide, by decide⟩ (Nat.le_of_ble_eq_true rfl) hM (fun v σ1 q => ?_) (fun E σ1 q => ?_)
  · obtain ⟨r, rfl⟩ := hI _ _ q
    change WE _ 8 _ (.int r :: .int (nI 0) :: .ref 403 :: []) _ _ _ _
    obtain ⟨c1, o1⟩ := σ1
    refine WE.i2l (n := 9) dL_letter_8 rfl ?_
    refine WE.last (n := 10) dL_letter_9 rfl ?_
    refine WE.goto (tgt := 21) dL_letter_10 (by decide) ?_
    refine WE.iconst (n := 22) (nI 0) dL_letter_21 rfl (by decide) ?_
    refine WE.iret (ty := .int) dL_letter_22 rfl rfl ⟨by decide, by decide⟩ ?_
    exact PI.mk (Or.inl ⟨r, _, q, rfl, rfl⟩)
  · have hE := hX _ _ q
    simp only [List.mem_cons, List.not_mem_nil, or_false] at hE
    rcases hE with rfl | rfl
    · refine WX.catchA (n := 15) (j := 4) [] (0, 10, 13, 13) [(0, 10, 17, 27)] rfl trivial rfl (by decide) g_353 t_448 dL_letter_13 (Or.inr ⟨rfl, rfl⟩) rfl (by decide) ?_
      refine WE.iconst (n := 16) (nI 1) dL_letter_15 rfl (by decide) ?_
      refine WE.iret (ty := .int) dL_letter_16 rfl rfl ⟨by decide, by decide⟩ ?_
      exact PI.mk (Or.inr ⟨_, _, 0, q, rfl, rfl, rfl⟩)
    · refine WX.catchA (n := 19) (j := 4) [(0, 10, 13, 13)] (0, 10, 17, 27) [] rfl ⟨⟨_, by decide, g_353, by decide +kernel⟩, trivial⟩ rfl (by decide) g_531 t_464 dL_letter_17 (Or.inr ⟨rfl, rfl⟩) rfl (by decide) ?_
      refine WE.iconst (n := 20) (nI 2) dL_letter_19 rfl (by decide) ?_
      refine WE.iret (ty := .int) dL_letter_20 rfl rfl ⟨by decide, by decide⟩ ?_
      exact PI.mk (Or.inr ⟨_, _, 1, q, rfl, rfl, rfl⟩)
theorem cv_L_42 : CVL RL 42 mX5_load 5 2 := ⟨g_595, g_596, g_597, g_61, g_598, rfl, ⟨by decide +kernel, by decide +kernel, by decide +kernel⟩, rfl, by decide⟩
abbrev mL_load : MT := (yL_load, cL_load, 5, some .int, { frames := 8, cells := 1, slots := 6, locals := 256 }, [(0, 10, 13, 19), (0, 10, 17, 27)])
set_option maxRecDepth 20000 in
set_option maxHeartbeats 1000000 in
theorem h_load (σ : SS) (Q : AO → SS → Prop) (x y : Int32) (hM : CM mX5_load [.ref 0, .int x, .int y] σ Q) (hI : isI Q) (hX : isX [ioE, uoE] Q) : CM mL_load [.ref 0, .int x, .int y, .ref 403] σ (HQ [ioE, uoE] Q) := by
  refine CM.ofH [(0, .ref 0), (1, .int x), (2, .int y), (3, .ref 403)] rfl (by decide +kernel) rfl (Nat.le_of_ble_eq_true rfl) ?_
  refine WE.aload_n (n := 1) dL_load_0 rfl rfl ?_
  refine WE.iconst (n := 2) (nI 0) dL_load_1 rfl (by decide) ?_
  refine WE.aload_n (n := 3) dL_load_2 rfl rfl ?_
  refine WE.iload_n (n := 4) dL_load_3 rfl rfl ?_
  refine WE.iload_n (n := 5) dL_load_4 rfl rfl ?_
  refine WE.V2G (M' := mX5_load) (n := 8) dL_load_5 rfl cv_L_42 (by decide) ⟨⟨by decide, by decide⟩, by decide, by decide⟩ (Nat.le_of_ble_eq_true rfl) hM (fun v σ1 q => ?_) (fun E σ1 q => ?_)
  · obtain ⟨r, rfl⟩ := hI _ _ q
    change WE _ 8 _ (.int r :: .int (nI 0) :: .ref 403 :: []) _ _ _ _
    obtain ⟨c1, o1⟩ := σ1
    refine WE.i2l (n := 9) dL_load_8 rfl ?_
    refine WE.last (n := 10) dL_load_9 rfl ?_
    refine WE.goto (tgt := 21) dL_load_10 (by decide) ?_
    refine WE.iconst (n := 22) (nI 0) dL_load_21 rfl (by decide) ?_
    refine WE.iret (ty := .int) dL_load_22 rfl rfl ⟨by decide, by decide⟩ ?_
    exact PI.mk (Or.inl ⟨r, _, q, rfl, rfl⟩)
  · have hE := hX _ _ q
    simp only [List.mem_cons, List.not_mem_nil, or_false] at hE
    rcases hE with rfl | rfl
    · refine WX.catchA (n := 15) (j := 4) [] (0, 10, 13, 19) [(0, 10, 17, 27)] rfl trivial rfl (by decide) g_485 t_376 dL_load_13 (Or.inr ⟨rfl, rfl⟩) rfl (by decide) ?_
      refine WE.iconst (n := 16) (nI 1) dL_load_15 rfl (by decide) ?_
      refine WE.iret (ty := .int) dL_load_16 rfl rfl ⟨by decide, by decide⟩ ?_
      exact PI.mk (Or.inr ⟨_, _, 0, q, rfl, rfl, rfl⟩)
    · refine WX.catchA (n := 19) (j := 4) [(0, 10, 13, 19)] (0, 10, 17, 27) [] rfl ⟨⟨_, by decide, g_485, by decide +kernel⟩, trivial⟩ rfl (by decide) g_531 t_464 dL_load_17 (Or.inr ⟨rfl, rfl⟩) rfl (by decide) ?_
      refine WE.iconst (n := 20) (nI 2) dL_load_19 rfl (by decide) ?_
      refine WE.iret (ty := .int) dL_load_20 rfl rfl ⟨by decide, by decide⟩ ?_
      exact PI.mk (Or.inr ⟨_, _, 1, q, rfl, rfl, rfl⟩)
theorem cv_L_45 : CVL RL 45 mX5_loadAll 5 1 := ⟨g_622, g_623, g_624, g_61, g_625, rfl, ⟨by decide +kernel, by decide +kernel, by decide +kernel⟩, rfl, by decide⟩
abbrev mL_loadAll : MT := (yL_loadAll, cL_loadAll, 4, some .int, { frames := 8, cells := 1, slots := 6, locals := 256 }, [(0, 9, 12, 19), (0, 9, 15, 27)])
set_option maxRecDepth 20000 in
set_option maxHeartbeats 1000000 in
theorem h_loadAll (σ : SS) (Q : AO → SS → Prop) (x : Int32) (hM : CM mX5_loadAll [.ref 0, .int x] σ Q) (hI : isI Q) (hX : isX [ioE, uoE] Q) : CM mL_loadAll [.ref 0, .int x, .ref 403] σ (HQ [ioE, uoE] Q) := by
  refine CM.ofH [(0, .ref 0), (1, .int x), (2, .ref 403)] rfl (by decide +kernel) rfl (Nat.le_of_ble_eq_true rfl) ?_
  refine WE.aload_n (n := 1) dL_loadAll_0 rfl rfl ?_
  refine WE.iconst (n := 2) (nI 0) dL_loadAll_1 rfl (by decide) ?_
  refine WE.aload_n (n := 3) dL_loadAll_2 rfl rfl ?_
  refine WE.iload_n (n := 4) dL_loadAll_3 rfl rfl ?_
  refine WE.V1G (M' := mX5_loadAll) (n := 7) dL_loadAll_4 rfl cv_L_45 (by decide) ⟨⟨by decide, by decide⟩, by decide, by decide⟩ (Nat.le_of_ble_eq_true rfl) hM (fun v σ1 q => ?_) (fun E σ1 q => ?_)
  · obtain ⟨r, rfl⟩ := hI _ _ q
    change WE _ 7 _ (.int r :: .int (nI 0) :: .ref 403 :: []) _ _ _ _
    obtain ⟨c1, o1⟩ := σ1
    refine WE.i2l (n := 8) dL_loadAll_7 rfl ?_
    refine WE.last (n := 9) dL_loadAll_8 rfl ?_
    refine WE.goto (tgt := 18) dL_loadAll_9 (by decide) ?_
    refine WE.iconst (n := 19) (nI 0) dL_loadAll_18 rfl (by decide) ?_
    refine WE.iret (ty := .int) dL_loadAll_19 rfl rfl ⟨by decide, by decide⟩ ?_
    exact PI.mk (Or.inl ⟨r, _, q, rfl, rfl⟩)
  · have hE := hX _ _ q
    simp only [List.mem_cons, List.not_mem_nil, or_false] at hE
    rcases hE with rfl | rfl
    · refine WX.catchA (n := 13) (j := 3) [] (0, 9, 12, 19) [(0, 9, 15, 27)] rfl trivial rfl (by decide) g_485 t_376 dL_loadAll_12 (Or.inl ⟨3, rfl, rfl, rfl⟩) rfl (by decide) ?_
      refine WE.iconst (n := 14) (nI 1) dL_loadAll_13 rfl (by decide) ?_
      refine WE.iret (ty := .int) dL_loadAll_14 rfl rfl ⟨by decide, by decide⟩ ?_
      exact PI.mk (Or.inr ⟨_, _, 0, q, rfl, rfl, rfl⟩)
    · refine WX.catchA (n := 16) (j := 3) [(0, 9, 12, 19)] (0, 9, 15, 27) [] rfl ⟨⟨_, by decide, g_485, by decide +kernel⟩, trivial⟩ rfl (by decide) g_531 t_464 dL_loadAll_15 (Or.inl ⟨3, rfl, rfl, rfl⟩) rfl (by decide) ?_
      refine WE.iconst (n := 17) (nI 2) dL_loadAll_16 rfl (by decide) ?_
      refine WE.iret (ty := .int) dL_loadAll_17 rfl rfl ⟨by decide, by decide⟩ ?_
      exact PI.mk (Or.inr ⟨_, _, 1, q, rfl, rfl, rfl⟩)
theorem cv_L_48 : CVL RL 48 mX5_launch 5 1 := ⟨g_638, g_639, g_640, g_61, g_641, rfl, ⟨by decide +kernel, by decide +kernel, by decide +kernel⟩, rfl, by decide⟩
abbrev mL_launch : MT := (yL_launch, cL_launch, 4, some .int, { frames := 8, cells := 1, slots := 6, locals := 256 }, [(0, 9, 12, 19), (0, 9, 15, 27)])
set_option maxRecDepth 20000 in
set_option maxHeartbeats 1000000 in
theorem h_launch (σ : SS) (Q : AO → SS → Prop) (x : Int32) (hM : CM mX5_launch [.ref 0, .int x] σ Q) (hI : isI Q) (hX : isX [ioE, uoE] Q) : CM mL_launch [.ref 0, .int x, .ref 403] σ (HQ [ioE, uoE] Q) := by
  refine CM.ofH [(0, .ref 0), (1, .int x), (2, .ref 403)] rfl (by decide +kernel) rfl (Nat.le_of_ble_eq_true rfl) ?_
  refine WE.aload_n (n := 1) dL_launch_0 rfl rfl ?_
  refine WE.iconst (n := 2) (nI 0) dL_launch_1 rfl (by decide) ?_
  refine WE.aload_n (n := 3) dL_launch_2 rfl rfl ?_
  refine WE.iload_n (n := 4) dL_launch_3 rfl rfl ?_
  refine WE.V1G (M' := mX5_launch) (n := 7) dL_launch_4 rfl cv_L_48 (by decide) ⟨⟨by decide, by decide⟩, by decide, by decide⟩ (Nat.le_of_ble_eq_true rfl) hM (fun v σ1 q => ?_) (fun E σ1 q => ?_)
  · obtain ⟨r, rfl⟩ := hI _ _ q
    change WE _ 7 _ (.int r :: .int (nI 0) :: .ref 403 :: []) _ _ _ _
    obtain ⟨c1, o1⟩ := σ1
    refine WE.i2l (n := 8) dL_launch_7 rfl ?_
    refine WE.last (n := 9) dL_launch_8 rfl ?_
    refine WE.goto (tgt := 18) dL_launch_9 (by decide) ?_
    refine WE.iconst (n := 19) (nI 0) dL_launch_18 rfl (by decide) ?_
    refine WE.iret (ty := .int) dL_launch_19 rfl rfl ⟨by decide, by decide⟩ ?_
    exact PI.mk (Or.inl ⟨r, _, q, rfl, rfl⟩)
  · have hE := hX _ _ q
    simp only [List.mem_cons, List.not_mem_nil, or_false] at hE
    rcases hE with rfl | rfl
    · refine WX.catchA (n := 13) (j := 3) [] (0, 9, 12, 19) [(0, 9, 15, 27)] rfl trivial rfl (by decide) g_485 t_376 dL_launch_12 (Or.inl ⟨3, rfl, rfl, rfl⟩) rfl (by decide) ?_
      refine WE.iconst (n := 14) (nI 1) dL_launch_13 rfl (by decide) ?_
      refine WE.iret (ty := .int) dL_launch_14 rfl rfl ⟨by decide, by decide⟩ ?_
      exact PI.mk (Or.inr ⟨_, _, 0, q, rfl, rfl, rfl⟩)
    · refine WX.catchA (n := 16) (j := 3) [(0, 9, 12, 19)] (0, 9, 15, 27) [] rfl ⟨⟨_, by decide, g_485, by decide +kernel⟩, trivial⟩ rfl (by decide) g_531 t_464 dL_launch_15 (Or.inl ⟨3, rfl, rfl, rfl⟩) rfl (by decide) ?_
      refine WE.iconst (n := 17) (nI 2) dL_launch_16 rfl (by decide) ?_
      refine WE.iret (ty := .int) dL_launch_17 rfl rfl ⟨by decide, by decide⟩ ?_
      exact PI.mk (Or.inr ⟨_, _, 1, q, rfl, rfl, rfl⟩)
theorem cv_L_51 : CVL RL 51 mX5_drop 5 2 := ⟨g_653, g_654, g_655, g_61, g_656, rfl, ⟨by decide +kernel, by decide +kernel, by decide +kernel⟩, rfl, by decide⟩
abbrev mL_drop : MT := (yL_drop, cL_drop, 5, some .int, { frames := 8, cells := 1, slots := 6, locals := 256 }, [(0, 10, 13, 19), (0, 10, 17, 13), (0, 10, 21, 27)])
set_option maxRecDepth 20000 in
set_option maxHeartbeats 1000000 in
theorem h_drop (σ : SS) (Q : AO → SS → Prop) (x y : Int32) (hM : CM mX5_drop [.ref 0, .int x, .int y] σ Q) (hI : isI Q) (hX : isX [ioE, iaE, uoE] Q) : CM mL_drop [.ref 0, .int x, .int y, .ref 403] σ (HQ [ioE, iaE, uoE] Q) := by
  refine CM.ofH [(0, .ref 0), (1, .int x), (2, .int y), (3, .ref 403)] rfl (by decide +kernel) rfl (Nat.le_of_ble_eq_true rfl) ?_
  refine WE.aload_n (n := 1) dL_drop_0 rfl rfl ?_
  refine WE.iconst (n := 2) (nI 0) dL_drop_1 rfl (by decide) ?_
  refine WE.aload_n (n := 3) dL_drop_2 rfl rfl ?_
  refine WE.iload_n (n := 4) dL_drop_3 rfl rfl ?_
  refine WE.iload_n (n := 5) dL_drop_4 rfl rfl ?_
  refine WE.V2G (M' := mX5_drop) (n := 8) dL_drop_5 rfl cv_L_51 (by decide) ⟨⟨by decide, by decide⟩, by decide, by decide⟩ (Nat.le_of_ble_eq_true rfl) hM (fun v σ1 q => ?_) (fun E σ1 q => ?_)
  · obtain ⟨r, rfl⟩ := hI _ _ q
    change WE _ 8 _ (.int r :: .int (nI 0) :: .ref 403 :: []) _ _ _ _
    obtain ⟨c1, o1⟩ := σ1
    refine WE.i2l (n := 9) dL_drop_8 rfl ?_
    refine WE.last (n := 10) dL_drop_9 rfl ?_
    refine WE.goto (tgt := 25) dL_drop_10 (by decide) ?_
    refine WE.iconst (n := 26) (nI 0) dL_drop_25 rfl (by decide) ?_
    refine WE.iret (ty := .int) dL_drop_26 rfl rfl ⟨by decide, by decide⟩ ?_
    exact PI.mk (Or.inl ⟨r, _, q, rfl, rfl⟩)
  · have hE := hX _ _ q
    simp only [List.mem_cons, List.not_mem_nil, or_false] at hE
    rcases hE with rfl | rfl | rfl
    · refine WX.catchA (n := 15) (j := 4) [] (0, 10, 13, 19) [(0, 10, 17, 13), (0, 10, 21, 27)] rfl trivial rfl (by decide) g_485 t_376 dL_drop_13 (Or.inr ⟨rfl, rfl⟩) rfl (by decide) ?_
      refine WE.iconst (n := 16) (nI 1) dL_drop_15 rfl (by decide) ?_
      refine WE.iret (ty := .int) dL_drop_16 rfl rfl ⟨by decide, by decide⟩ ?_
      exact PI.mk (Or.inr ⟨_, _, 0, q, rfl, rfl, rfl⟩)
    · refine WX.catchA (n := 19) (j := 4) [(0, 10, 13, 19)] (0, 10, 17, 13) [(0, 10, 21, 27)] rfl ⟨⟨_, by decide, g_485, by decide +kernel⟩, trivial⟩ rfl (by decide) g_353 t_448 dL_drop_17 (Or.inr ⟨rfl, rfl⟩) rfl (by decide) ?_
      refine WE.iconst (n := 20) (nI 2) dL_drop_19 rfl (by decide) ?_
      refine WE.iret (ty := .int) dL_drop_20 rfl rfl ⟨by decide, by decide⟩ ?_
      exact PI.mk (Or.inr ⟨_, _, 1, q, rfl, rfl, rfl⟩)
    · refine WX.catchA (n := 23) (j := 4) [(0, 10, 13, 19), (0, 10, 17, 13)] (0, 10, 21, 27) [] rfl ⟨⟨_, by decide, g_485, by decide +kernel⟩, ⟨_, by decide, g_353, by decide +kernel⟩, trivial⟩ rfl (by decide) g_531 t_464 dL_drop_21 (Or.inr ⟨rfl, rfl⟩) rfl (by decide) ?_
      refine WE.iconst (n := 24) (nI 3) dL_drop_23 rfl (by decide) ?_
      refine WE.iret (ty := .int) dL_drop_24 rfl rfl ⟨by decide, by decide⟩ ?_
      exact PI.mk (Or.inr ⟨_, _, 2, q, rfl, rfl, rfl⟩)
theorem cv_L_54 : CVL RL 54 mX5_pass 5 1 := ⟨g_664, g_665, g_666, g_61, g_667, rfl, ⟨by decide +kernel, by decide +kernel, by decide +kernel⟩, rfl, by decide⟩
abbrev mL_pass : MT := (yL_pass, cL_pass, 4, some .int, { frames := 8, cells := 1, slots := 6, locals := 256 }, [(0, 9, 12, 13)])
set_option maxRecDepth 20000 in
set_option maxHeartbeats 1000000 in
theorem h_pass (σ : SS) (Q : AO → SS → Prop) (x : Int32) (hM : CM mX5_pass [.ref 0, .int x] σ Q) (hI : isI Q) (hX : isX [iaE] Q) : CM mL_pass [.ref 0, .int x, .ref 403] σ (HQ [iaE] Q) := by
  refine CM.ofH [(0, .ref 0), (1, .int x), (2, .ref 403)] rfl (by decide +kernel) rfl (Nat.le_of_ble_eq_true rfl) ?_
  refine WE.aload_n (n := 1) dL_pass_0 rfl rfl ?_
  refine WE.iconst (n := 2) (nI 0) dL_pass_1 rfl (by decide) ?_
  refine WE.aload_n (n := 3) dL_pass_2 rfl rfl ?_
  refine WE.iload_n (n := 4) dL_pass_3 rfl rfl ?_
  refine WE.V1G (M' := mX5_pass) (n := 7) dL_pass_4 rfl cv_L_54 (by decide) ⟨⟨by decide, by decide⟩, by decide, by decide⟩ (Nat.le_of_ble_eq_true rfl) hM (fun v σ1 q => ?_) (fun E σ1 q => ?_)
  · obtain ⟨r, rfl⟩ := hI _ _ q
    change WE _ 7 _ (.int r :: .int (nI 0) :: .ref 403 :: []) _ _ _ _
    obtain ⟨c1, o1⟩ := σ1
    refine WE.i2l (n := 8) dL_pass_7 rfl ?_
    refine WE.last (n := 9) dL_pass_8 rfl ?_
    refine WE.goto (tgt := 15) dL_pass_9 (by decide) ?_
    refine WE.iconst (n := 16) (nI 0) dL_pass_15 rfl (by decide) ?_
    refine WE.iret (ty := .int) dL_pass_16 rfl rfl ⟨by decide, by decide⟩ ?_
    exact PI.mk (Or.inl ⟨r, _, q, rfl, rfl⟩)
  · have hE := hX _ _ q
    simp only [List.mem_cons, List.not_mem_nil, or_false] at hE
    subst hE
    refine WX.catchA (n := 13) (j := 3) [] (0, 9, 12, 13) [] rfl trivial rfl (by decide) g_353 t_448 dL_pass_12 (Or.inl ⟨3, rfl, rfl, rfl⟩) rfl (by decide) ?_
    refine WE.iconst (n := 14) (nI 1) dL_pass_13 rfl (by decide) ?_
    refine WE.iret (ty := .int) dL_pass_14 rfl rfl ⟨by decide, by decide⟩ ?_
    exact PI.mk (Or.inr ⟨_, _, 0, q, rfl, rfl, rfl⟩)
theorem cv_L_57 : CVL RL 57 mX5_balloonOf 5 2 := ⟨g_711, g_712, g_713, g_61, g_714, rfl, ⟨by decide +kernel, by decide +kernel, by decide +kernel⟩, rfl, by decide⟩
abbrev mL_balloonOf : MT := (yL_balloonOf, cL_balloonOf, 5, some .int, { frames := 8, cells := 2, slots := 12, locals := 256 }, [(0, 10, 13, 19), (0, 10, 17, 13)])
set_option maxRecDepth 20000 in
set_option maxHeartbeats 1000000 in
theorem h_balloonOf (σ : SS) (Q : AO → SS → Prop) (x y : Int32) (hM : CM mX5_balloonOf [.ref 0, .int x, .int y] σ Q) (hI : isI Q) (hX : isX [ioE, iaE] Q) : CM mL_balloonOf [.ref 0, .int x, .int y, .ref 403] σ (HQ [ioE, iaE] Q) := by
  refine CM.ofH [(0, .ref 0), (1, .int x), (2, .int y), (3, .ref 403)] rfl (by decide +kernel) rfl (Nat.le_of_ble_eq_true rfl) ?_
  refine WE.aload_n (n := 1) dL_balloonOf_0 rfl rfl ?_
  refine WE.iconst (n := 2) (nI 0) dL_balloonOf_1 rfl (by decide) ?_
  refine WE.aload_n (n := 3) dL_balloonOf_2 rfl rfl ?_
  refine WE.iload_n (n := 4) dL_balloonOf_3 rfl rfl ?_
  refine WE.iload_n (n := 5) dL_balloonOf_4 rfl rfl ?_
  refine WE.V2G (M' := mX5_balloonOf) (n := 8) dL_balloonOf_5 rfl cv_L_57 (by decide) ⟨⟨by decide, by decide⟩, by decide, by decide⟩ (Nat.le_of_ble_eq_true rfl) hM (fun v σ1 q => ?_) (fun E σ1 q => ?_)
  · obtain ⟨r, rfl⟩ := hI _ _ q
    change WE _ 8 _ (.int r :: .int (nI 0) :: .ref 403 :: []) _ _ _ _
    obtain ⟨c1, o1⟩ := σ1
    refine WE.i2l (n := 9) dL_balloonOf_8 rfl ?_
    refine WE.last (n := 10) dL_balloonOf_9 rfl ?_
    refine WE.goto (tgt := 21) dL_balloonOf_10 (by decide) ?_
    refine WE.iconst (n := 22) (nI 0) dL_balloonOf_21 rfl (by decide) ?_
    refine WE.iret (ty := .int) dL_balloonOf_22 rfl rfl ⟨by decide, by decide⟩ ?_
    exact PI.mk (Or.inl ⟨r, _, q, rfl, rfl⟩)
  · have hE := hX _ _ q
    simp only [List.mem_cons, List.not_mem_nil, or_false] at hE
    rcases hE with rfl | rfl
    · refine WX.catchA (n := 15) (j := 4) [] (0, 10, 13, 19) [(0, 10, 17, 13)] rfl trivial rfl (by decide) g_485 t_376 dL_balloonOf_13 (Or.inr ⟨rfl, rfl⟩) rfl (by decide) ?_
      refine WE.iconst (n := 16) (nI 1) dL_balloonOf_15 rfl (by decide) ?_
      refine WE.iret (ty := .int) dL_balloonOf_16 rfl rfl ⟨by decide, by decide⟩ ?_
      exact PI.mk (Or.inr ⟨_, _, 0, q, rfl, rfl, rfl⟩)
    · refine WX.catchA (n := 19) (j := 4) [(0, 10, 13, 19)] (0, 10, 17, 13) [] rfl ⟨⟨_, by decide, g_485, by decide +kernel⟩, trivial⟩ rfl (by decide) g_353 t_448 dL_balloonOf_17 (Or.inr ⟨rfl, rfl⟩) rfl (by decide) ?_
      refine WE.iconst (n := 20) (nI 2) dL_balloonOf_19 rfl (by decide) ?_
      refine WE.iret (ty := .int) dL_balloonOf_20 rfl rfl ⟨by decide, by decide⟩ ?_
      exact PI.mk (Or.inr ⟨_, _, 1, q, rfl, rfl, rfl⟩)
theorem cv_L_60 : CVL RL 60 mX5_letterOf 5 2 := ⟨g_730, g_731, g_732, g_61, g_733, rfl, ⟨by decide +kernel, by decide +kernel, by decide +kernel⟩, rfl, by decide⟩
abbrev mL_letterOf : MT := (yL_letterOf, cL_letterOf, 5, some .int, { frames := 7, cells := 1, slots := 6, locals := 224 }, [(0, 10, 13, 19), (0, 10, 17, 13)])
set_option maxRecDepth 20000 in
set_option maxHeartbeats 1000000 in
theorem h_letterOf (σ : SS) (Q : AO → SS → Prop) (x y : Int32) (hM : CM mX5_letterOf [.ref 0, .int x, .int y] σ Q) (hI : isI Q) (hX : isX [ioE, iaE] Q) : CM mL_letterOf [.ref 0, .int x, .int y, .ref 403] σ (HQ [ioE, iaE] Q) := by
  refine CM.ofH [(0, .ref 0), (1, .int x), (2, .int y), (3, .ref 403)] rfl (by decide +kernel) rfl (Nat.le_of_ble_eq_true rfl) ?_
  refine WE.aload_n (n := 1) dL_letterOf_0 rfl rfl ?_
  refine WE.iconst (n := 2) (nI 0) dL_letterOf_1 rfl (by decide) ?_
  refine WE.aload_n (n := 3) dL_letterOf_2 rfl rfl ?_
  refine WE.iload_n (n := 4) dL_letterOf_3 rfl rfl ?_
  refine WE.iload_n (n := 5) dL_letterOf_4 rfl rfl ?_
  refine WE.V2G (M' := mX5_letterOf) (n := 8) dL_letterOf_5 rfl cv_L_60 (by decide) ⟨⟨by decide, by decide⟩, by decide, by decide⟩ (Nat.le_of_ble_eq_true rfl) hM (fun v σ1 q => ?_) (fun E σ1 q => ?_)
  · obtain ⟨r, rfl⟩ := hI _ _ q
    change WE _ 8 _ (.int r :: .int (nI 0) :: .ref 403 :: []) _ _ _ _
    obtain ⟨c1, o1⟩ := σ1
    refine WE.i2l (n := 9) dL_letterOf_8 rfl ?_
    refine WE.last (n := 10) dL_letterOf_9 rfl ?_
    refine WE.goto (tgt := 21) dL_letterOf_10 (by decide) ?_
    refine WE.iconst (n := 22) (nI 0) dL_letterOf_21 rfl (by decide) ?_
    refine WE.iret (ty := .int) dL_letterOf_22 rfl rfl ⟨by decide, by decide⟩ ?_
    exact PI.mk (Or.inl ⟨r, _, q, rfl, rfl⟩)
  · have hE := hX _ _ q
    simp only [List.mem_cons, List.not_mem_nil, or_false] at hE
    rcases hE with rfl | rfl
    · refine WX.catchA (n := 15) (j := 4) [] (0, 10, 13, 19) [(0, 10, 17, 13)] rfl trivial rfl (by decide) g_485 t_376 dL_letterOf_13 (Or.inr ⟨rfl, rfl⟩) rfl (by decide) ?_
      refine WE.iconst (n := 16) (nI 1) dL_letterOf_15 rfl (by decide) ?_
      refine WE.iret (ty := .int) dL_letterOf_16 rfl rfl ⟨by decide, by decide⟩ ?_
      exact PI.mk (Or.inr ⟨_, _, 0, q, rfl, rfl, rfl⟩)
    · refine WX.catchA (n := 19) (j := 4) [(0, 10, 13, 19)] (0, 10, 17, 13) [] rfl ⟨⟨_, by decide, g_485, by decide +kernel⟩, trivial⟩ rfl (by decide) g_353 t_448 dL_letterOf_17 (Or.inr ⟨rfl, rfl⟩) rfl (by decide) ?_
      refine WE.iconst (n := 20) (nI 2) dL_letterOf_19 rfl (by decide) ?_
      refine WE.iret (ty := .int) dL_letterOf_20 rfl rfl ⟨by decide, by decide⟩ ?_
      exact PI.mk (Or.inr ⟨_, _, 1, q, rfl, rfl, rfl⟩)
theorem cv_L_63 : CVL RL 63 mX5_weightAgain 5 1 := ⟨g_748, g_749, g_750, g_61, g_751, rfl, ⟨by decide +kernel, by decide +kernel, by decide +kernel⟩, rfl, by decide⟩
abbrev mL_weightAgain : MT := (yL_weightAgain, cL_weightAgain, 4, some .int, { frames := 8, cells := 1, slots := 6, locals := 256 }, [(0, 9, 12, 19)])
set_option maxRecDepth 20000 in
set_option maxHeartbeats 1000000 in
theorem h_weightAgain (σ : SS) (Q : AO → SS → Prop) (x : Int32) (hM : CM mX5_weightAgain [.ref 0, .int x] σ Q) (hI : isI Q) (hX : isX [ioE] Q) : CM mL_weightAgain [.ref 0, .int x, .ref 403] σ (HQ [ioE] Q) := by
  refine CM.ofH [(0, .ref 0), (1, .int x), (2, .ref 403)] rfl (by decide +kernel) rfl (Nat.le_of_ble_eq_true rfl) ?_
  refine WE.aload_n (n := 1) dL_weightAgain_0 rfl rfl ?_
  refine WE.iconst (n := 2) (nI 0) dL_weightAgain_1 rfl (by decide) ?_
  refine WE.aload_n (n := 3) dL_weightAgain_2 rfl rfl ?_
  refine WE.iload_n (n := 4) dL_weightAgain_3 rfl rfl ?_
  refine WE.V1G (M' := mX5_weightAgain) (n := 7) dL_weightAgain_4 rfl cv_L_63 (by decide) ⟨⟨by decide, by decide⟩, by decide, by decide⟩ (Nat.le_of_ble_eq_true rfl) hM (fun v σ1 q => ?_) (fun E σ1 q => ?_)
  · obtain ⟨r, rfl⟩ := hI _ _ q
    change WE _ 7 _ (.int r :: .int (nI 0) :: .ref 403 :: []) _ _ _ _
    obtain ⟨c1, o1⟩ := σ1
    refine WE.i2l (n := 8) dL_weightAgain_7 rfl ?_
    refine WE.last (n := 9) dL_weightAgain_8 rfl ?_
    refine WE.goto (tgt := 15) dL_weightAgain_9 (by decide) ?_
    refine WE.iconst (n := 16) (nI 0) dL_weightAgain_15 rfl (by decide) ?_
    refine WE.iret (ty := .int) dL_weightAgain_16 rfl rfl ⟨by decide, by decide⟩ ?_
    exact PI.mk (Or.inl ⟨r, _, q, rfl, rfl⟩)
  · have hE := hX _ _ q
    simp only [List.mem_cons, List.not_mem_nil, or_false] at hE
    subst hE
    refine WX.catchA (n := 13) (j := 3) [] (0, 9, 12, 19) [] rfl trivial rfl (by decide) g_485 t_376 dL_weightAgain_12 (Or.inl ⟨3, rfl, rfl, rfl⟩) rfl (by decide) ?_
    refine WE.iconst (n := 14) (nI 1) dL_weightAgain_13 rfl (by decide) ?_
    refine WE.iret (ty := .int) dL_weightAgain_14 rfl rfl ⟨by decide, by decide⟩ ?_
    exact PI.mk (Or.inr ⟨_, _, 0, q, rfl, rfl, rfl⟩)
theorem cv_L_66 : CVL RL 66 mX5_waiting 5 1 := ⟨g_760, g_761, g_762, g_61, g_763, rfl, ⟨by decide +kernel, by decide +kernel, by decide +kernel⟩, rfl, by decide⟩
abbrev mL_waiting : MT := (yL_waiting, cL_waiting, 4, some .int, { frames := 7, cells := 1, slots := 6, locals := 224 }, [(0, 9, 12, 69)])
set_option maxRecDepth 20000 in
set_option maxHeartbeats 1000000 in
theorem h_waiting (σ : SS) (Q : AO → SS → Prop) (x : Int32) (hM : CM mX5_waiting [.ref 0, .int x] σ Q) (hI : isI Q) (hX : isX [nsE] Q) : CM mL_waiting [.ref 0, .int x, .ref 403] σ (HQ [nsE] Q) := by
  refine CM.ofH [(0, .ref 0), (1, .int x), (2, .ref 403)] rfl (by decide +kernel) rfl (Nat.le_of_ble_eq_true rfl) ?_
  refine WE.aload_n (n := 1) dL_waiting_0 rfl rfl ?_
  refine WE.iconst (n := 2) (nI 0) dL_waiting_1 rfl (by decide) ?_
  refine WE.aload_n (n := 3) dL_waiting_2 rfl rfl ?_
  refine WE.iload_n (n := 4) dL_waiting_3 rfl rfl ?_
  refine WE.V1G (M' := mX5_waiting) (n := 7) dL_waiting_4 rfl cv_L_66 (by decide) ⟨⟨by decide, by decide⟩, by decide, by decide⟩ (Nat.le_of_ble_eq_true rfl) hM (fun v σ1 q => ?_) (fun E σ1 q => ?_)
  · obtain ⟨r, rfl⟩ := hI _ _ q
    change WE _ 7 _ (.int r :: .int (nI 0) :: .ref 403 :: []) _ _ _ _
    obtain ⟨c1, o1⟩ := σ1
    refine WE.i2l (n := 8) dL_waiting_7 rfl ?_
    refine WE.last (n := 9) dL_waiting_8 rfl ?_
    refine WE.goto (tgt := 15) dL_waiting_9 (by decide) ?_
    refine WE.iconst (n := 16) (nI 0) dL_waiting_15 rfl (by decide) ?_
    refine WE.iret (ty := .int) dL_waiting_16 rfl rfl ⟨by decide, by decide⟩ ?_
    exact PI.mk (Or.inl ⟨r, _, q, rfl, rfl⟩)
  · have hE := hX _ _ q
    simp only [List.mem_cons, List.not_mem_nil, or_false] at hE
    subst hE
    refine WX.catchA (n := 13) (j := 3) [] (0, 9, 12, 69) [] rfl trivial rfl (by decide) g_759 t_770 dL_waiting_12 (Or.inl ⟨3, rfl, rfl, rfl⟩) rfl (by decide) ?_
    refine WE.iconst (n := 14) (nI 1) dL_waiting_13 rfl (by decide) ?_
    refine WE.iret (ty := .int) dL_waiting_14 rfl rfl ⟨by decide, by decide⟩ ?_
    exact PI.mk (Or.inr ⟨_, _, 0, q, rfl, rfl, rfl⟩)
theorem cv_L_71 : CVL RL 71 mX5_word 5 1 := ⟨g_787, g_788, g_789, g_61, g_790, rfl, ⟨by decide +kernel, by decide +kernel, by decide +kernel⟩, rfl, by decide⟩
abbrev mL_word : MT := (yL_word, cL_word, 4, some .int, { frames := 8, cells := 2, slots := 12, locals := 256 }, [(0, 9, 12, 19), (0, 9, 15, 69)])
set_option maxRecDepth 20000 in
set_option maxHeartbeats 1000000 in
theorem h_word (σ : SS) (Q : AO → SS → Prop) (x : Int32) (hM : CM mX5_word [.ref 0, .int x] σ Q) (hI : isI Q) (hX : isX [ioE, nsE] Q) : CM mL_word [.ref 0, .int x, .ref 403] σ (HQ [ioE, nsE] Q) := by
  refine CM.ofH [(0, .ref 0), (1, .int x), (2, .ref 403)] rfl (by decide +kernel) rfl (Nat.le_of_ble_eq_true rfl) ?_
  refine WE.aload_n (n := 1) dL_word_0 rfl rfl ?_
  refine WE.iconst (n := 2) (nI 0) dL_word_1 rfl (by decide) ?_
  refine WE.aload_n (n := 3) dL_word_2 rfl rfl ?_
  refine WE.iload_n (n := 4) dL_word_3 rfl rfl ?_
  refine WE.V1G (M' := mX5_word) (n := 7) dL_word_4 rfl cv_L_71 (by decide) ⟨⟨by decide, by decide⟩, by decide, by decide⟩ (Nat.le_of_ble_eq_true rfl) hM (fun v σ1 q => ?_) (fun E σ1 q => ?_)
  · obtain ⟨r, rfl⟩ := hI _ _ q
    change WE _ 7 _ (.int r :: .int (nI 0) :: .ref 403 :: []) _ _ _ _
    obtain ⟨c1, o1⟩ := σ1
    refine WE.i2l (n := 8) dL_word_7 rfl ?_
    refine WE.last (n := 9) dL_word_8 rfl ?_
    refine WE.goto (tgt := 18) dL_word_9 (by decide) ?_
    refine WE.iconst (n := 19) (nI 0) dL_word_18 rfl (by decide) ?_
    refine WE.iret (ty := .int) dL_word_19 rfl rfl ⟨by decide, by decide⟩ ?_
    exact PI.mk (Or.inl ⟨r, _, q, rfl, rfl⟩)
  · have hE := hX _ _ q
    simp only [List.mem_cons, List.not_mem_nil, or_false] at hE
    rcases hE with rfl | rfl
    · refine WX.catchA (n := 13) (j := 3) [] (0, 9, 12, 19) [(0, 9, 15, 69)] rfl trivial rfl (by decide) g_485 t_376 dL_word_12 (Or.inl ⟨3, rfl, rfl, rfl⟩) rfl (by decide) ?_
      refine WE.iconst (n := 14) (nI 1) dL_word_13 rfl (by decide) ?_
      refine WE.iret (ty := .int) dL_word_14 rfl rfl ⟨by decide, by decide⟩ ?_
      exact PI.mk (Or.inr ⟨_, _, 0, q, rfl, rfl, rfl⟩)
    · refine WX.catchA (n := 16) (j := 3) [(0, 9, 12, 19)] (0, 9, 15, 69) [] rfl ⟨⟨_, by decide, g_485, by decide +kernel⟩, trivial⟩ rfl (by decide) g_759 t_770 dL_word_15 (Or.inl ⟨3, rfl, rfl, rfl⟩) rfl (by decide) ?_
      refine WE.iconst (n := 17) (nI 2) dL_word_16 rfl (by decide) ?_
      refine WE.iret (ty := .int) dL_word_17 rfl rfl ⟨by decide, by decide⟩ ?_
      exact PI.mk (Or.inr ⟨_, _, 1, q, rfl, rfl, rfl⟩)
theorem cv_L_74 : CVL RL 74 mX5_sign 5 1 := ⟨g_799, g_800, g_801, g_61, g_802, rfl, ⟨by decide +kernel, by decide +kernel, by decide +kernel⟩, rfl, by decide⟩
abbrev mL_sign : MT := (yL_sign, cL_sign, 4, some .int, { frames := 8, cells := 1, slots := 6, locals := 256 }, [(0, 9, 12, 19)])
set_option maxRecDepth 20000 in
set_option maxHeartbeats 1000000 in
theorem h_sign (σ : SS) (Q : AO → SS → Prop) (x : Int32) (hM : CM mX5_sign [.ref 0, .int x] σ Q) (hI : isI Q) (hX : isX [ioE] Q) : CM mL_sign [.ref 0, .int x, .ref 403] σ (HQ [ioE] Q) := by
  refine CM.ofH [(0, .ref 0), (1, .int x), (2, .ref 403)] rfl (by decide +kernel) rfl (Nat.le_of_ble_eq_true rfl) ?_
  refine WE.aload_n (n := 1) dL_sign_0 rfl rfl ?_
  refine WE.iconst (n := 2) (nI 0) dL_sign_1 rfl (by decide) ?_
  refine WE.aload_n (n := 3) dL_sign_2 rfl rfl ?_
  refine WE.iload_n (n := 4) dL_sign_3 rfl rfl ?_
  refine WE.V1G (M' := mX5_sign) (n := 7) dL_sign_4 rfl cv_L_74 (by decide) ⟨⟨by decide, by decide⟩, by decide, by decide⟩ (Nat.le_of_ble_eq_true rfl) hM (fun v σ1 q => ?_) (fun E σ1 q => ?_)
  · obtain ⟨r, rfl⟩ := hI _ _ q
    change WE _ 7 _ (.int r :: .int (nI 0) :: .ref 403 :: []) _ _ _ _
    obtain ⟨c1, o1⟩ := σ1
    refine WE.i2l (n := 8) dL_sign_7 rfl ?_
    refine WE.last (n := 9) dL_sign_8 rfl ?_
    refine WE.goto (tgt := 15) dL_sign_9 (by decide) ?_
    refine WE.iconst (n := 16) (nI 0) dL_sign_15 rfl (by decide) ?_
    refine WE.iret (ty := .int) dL_sign_16 rfl rfl ⟨by decide, by decide⟩ ?_
    exact PI.mk (Or.inl ⟨r, _, q, rfl, rfl⟩)
  · have hE := hX _ _ q
    simp only [List.mem_cons, List.not_mem_nil, or_false] at hE
    subst hE
    refine WX.catchA (n := 13) (j := 3) [] (0, 9, 12, 19) [] rfl trivial rfl (by decide) g_485 t_376 dL_sign_12 (Or.inl ⟨3, rfl, rfl, rfl⟩) rfl (by decide) ?_
    refine WE.iconst (n := 14) (nI 1) dL_sign_13 rfl (by decide) ?_
    refine WE.iret (ty := .int) dL_sign_14 rfl rfl ⟨by decide, by decide⟩ ?_
    exact PI.mk (Or.inr ⟨_, _, 0, q, rfl, rfl, rfl⟩)
theorem cv_L_78 : CVL RL 78 mX5_isWithin 5 2 := ⟨g_806, g_807, g_808, g_61, g_809, rfl, ⟨by decide +kernel, by decide +kernel, by decide +kernel⟩, rfl, by decide⟩
abbrev mL_isWithin : MT := (yL_isWithin, cL_isWithin, 5, some .int, { frames := 7, cells := 1, slots := 6, locals := 224 }, [(0, 17, 20, 19)])
set_option maxRecDepth 20000 in
set_option maxHeartbeats 1000000 in
theorem h_isWithin (σ : SS) (Q : AO → SS → Prop) (x y : Int32) (hM : CM mX5_isWithin [.ref 0, .int x, .int y] σ Q) (hI : isI Q) (hX : isX [ioE] Q) (hB : ∀ r σ1, Q (.inl (some (.int r))) σ1 → r = nI 0 ∨ r = nI 1) : CM mL_isWithin [.ref 0, .int x, .int y, .ref 403] σ (HQ [ioE] Q) := by
  refine CM.ofH [(0, .ref 0), (1, .int x), (2, .int y), (3, .ref 403)] rfl (by decide +kernel) rfl (Nat.le_of_ble_eq_true rfl) ?_
  refine WE.aload_n (n := 1) dL_isWithin_0 rfl rfl ?_
  refine WE.iconst (n := 2) (nI 0) dL_isWithin_1 rfl (by decide) ?_
  refine WE.aload_n (n := 3) dL_isWithin_2 rfl rfl ?_
  refine WE.iload_n (n := 4) dL_isWithin_3 rfl rfl ?_
  refine WE.iload_n (n := 5) dL_isWithin_4 rfl rfl ?_
  refine WE.V2G (M' := mX5_isWithin) (n := 8) dL_isWithin_5 rfl cv_L_78 (by decide) ⟨⟨by decide, by decide⟩, by decide, by decide⟩ (Nat.le_of_ble_eq_true rfl) hM (fun v σ1 q => ?_) (fun E σ1 q => ?_)
  · obtain ⟨r, rfl⟩ := hI _ _ q
    change WE _ 8 _ (.int r :: .int (nI 0) :: .ref 403 :: []) _ _ _ _
    obtain ⟨c1, o1⟩ := σ1
    rcases hB _ _ q with rfl | rfl
    · refine WE.if_eq (n := 11) (tgt := 15) dL_isWithin_8 rfl (by decide) (fun h8 => ?_) (fun h8 => ?_)
      · refine WE.lconst (n := 16) (0) dL_isWithin_15 rfl (by decide) ?_
        refine WE.last (n := 17) dL_isWithin_16 rfl ?_
        refine WE.goto (tgt := 24) dL_isWithin_17 (by decide) ?_
        refine WE.iconst (n := 25) (nI 0) dL_isWithin_24 rfl (by decide) ?_
        refine WE.iret (ty := .int) dL_isWithin_25 rfl rfl ⟨by decide, by decide⟩ ?_
        exact PI.mk (Or.inl ⟨_, _, q, rfl, rfl⟩)
      · exact absurd rfl h8
    · refine WE.if_eq (n := 11) (tgt := 15) dL_isWithin_8 rfl (by decide) (fun h8 => ?_) (fun h8 => ?_)
      · exact absurd h8 (by decide)
      · refine WE.lconst (n := 12) (1) dL_isWithin_11 rfl (by decide) ?_
        refine WE.goto (tgt := 16) dL_isWithin_12 (by decide) ?_
        refine WE.last (n := 17) dL_isWithin_16 rfl ?_
        refine WE.goto (tgt := 24) dL_isWithin_17 (by decide) ?_
        refine WE.iconst (n := 25) (nI 0) dL_isWithin_24 rfl (by decide) ?_
        refine WE.iret (ty := .int) dL_isWithin_25 rfl rfl ⟨by decide, by decide⟩ ?_
        exact PI.mk (Or.inl ⟨_, _, q, rfl, rfl⟩)
  · have hE := hX _ _ q
    simp only [List.mem_cons, List.not_mem_nil, or_false] at hE
    subst hE
    refine WX.catchA (n := 22) (j := 4) [] (0, 17, 20, 19) [] rfl trivial rfl (by decide) g_485 t_376 dL_isWithin_20 (Or.inr ⟨rfl, rfl⟩) rfl (by decide) ?_
    refine WE.iconst (n := 23) (nI 1) dL_isWithin_22 rfl (by decide) ?_
    refine WE.iret (ty := .int) dL_isWithin_23 rfl rfl ⟨by decide, by decide⟩ ?_
    exact PI.mk (Or.inr ⟨_, _, 0, q, rfl, rfl, rfl⟩)
theorem cv_L_82 : CVL RL 82 mX5_endsIn 5 1 := ⟨g_815, g_816, g_817, g_61, g_818, rfl, ⟨by decide +kernel, by decide +kernel, by decide +kernel⟩, rfl, by decide⟩
abbrev mL_endsIn : MT := (yL_endsIn, cL_endsIn, 4, some .int, { frames := 8, cells := 2, slots := 12, locals := 256 }, [(0, 9, 12, 19), (0, 9, 15, 69)])
set_option maxRecDepth 20000 in
set_option maxHeartbeats 1000000 in
theorem h_endsIn (σ : SS) (Q : AO → SS → Prop) (x : Int32) (hM : CM mX5_endsIn [.ref 0, .int x] σ Q) (hI : isI Q) (hX : isX [ioE, nsE] Q) : CM mL_endsIn [.ref 0, .int x, .ref 403] σ (HQ [ioE, nsE] Q) := by
  refine CM.ofH [(0, .ref 0), (1, .int x), (2, .ref 403)] rfl (by decide +kernel) rfl (Nat.le_of_ble_eq_true rfl) ?_
  refine WE.aload_n (n := 1) dL_endsIn_0 rfl rfl ?_
  refine WE.iconst (n := 2) (nI 0) dL_endsIn_1 rfl (by decide) ?_
  refine WE.aload_n (n := 3) dL_endsIn_2 rfl rfl ?_
  refine WE.iload_n (n := 4) dL_endsIn_3 rfl rfl ?_
  refine WE.V1G (M' := mX5_endsIn) (n := 7) dL_endsIn_4 rfl cv_L_82 (by decide) ⟨⟨by decide, by decide⟩, by decide, by decide⟩ (Nat.le_of_ble_eq_true rfl) hM (fun v σ1 q => ?_) (fun E σ1 q => ?_)
  · obtain ⟨r, rfl⟩ := hI _ _ q
    change WE _ 7 _ (.int r :: .int (nI 0) :: .ref 403 :: []) _ _ _ _
    obtain ⟨c1, o1⟩ := σ1
    refine WE.i2l (n := 8) dL_endsIn_7 rfl ?_
    refine WE.last (n := 9) dL_endsIn_8 rfl ?_
    refine WE.goto (tgt := 18) dL_endsIn_9 (by decide) ?_
    refine WE.iconst (n := 19) (nI 0) dL_endsIn_18 rfl (by decide) ?_
    refine WE.iret (ty := .int) dL_endsIn_19 rfl rfl ⟨by decide, by decide⟩ ?_
    exact PI.mk (Or.inl ⟨r, _, q, rfl, rfl⟩)
  · have hE := hX _ _ q
    simp only [List.mem_cons, List.not_mem_nil, or_false] at hE
    rcases hE with rfl | rfl
    · refine WX.catchA (n := 13) (j := 3) [] (0, 9, 12, 19) [(0, 9, 15, 69)] rfl trivial rfl (by decide) g_485 t_376 dL_endsIn_12 (Or.inl ⟨3, rfl, rfl, rfl⟩) rfl (by decide) ?_
      refine WE.iconst (n := 14) (nI 1) dL_endsIn_13 rfl (by decide) ?_
      refine WE.iret (ty := .int) dL_endsIn_14 rfl rfl ⟨by decide, by decide⟩ ?_
      exact PI.mk (Or.inr ⟨_, _, 0, q, rfl, rfl, rfl⟩)
    · refine WX.catchA (n := 16) (j := 3) [(0, 9, 12, 19)] (0, 9, 15, 69) [] rfl ⟨⟨_, by decide, g_485, by decide +kernel⟩, trivial⟩ rfl (by decide) g_759 t_770 dL_endsIn_15 (Or.inl ⟨3, rfl, rfl, rfl⟩) rfl (by decide) ?_
      refine WE.iconst (n := 17) (nI 2) dL_endsIn_16 rfl (by decide) ?_
      refine WE.iret (ty := .int) dL_endsIn_17 rfl rfl ⟨by decide, by decide⟩ ?_
      exact PI.mk (Or.inr ⟨_, _, 1, q, rfl, rfl, rfl⟩)
theorem cv_L_85 : CVL RL 85 mX5_ends 5 2 := ⟨g_831, g_832, g_833, g_61, g_834, rfl, ⟨by decide +kernel, by decide +kernel, by decide +kernel⟩, rfl, by decide⟩
abbrev mL_ends : MT := (yL_ends, cL_ends, 5, some .int, { frames := 8, cells := 3, slots := 18, locals := 256 }, [(0, 10, 13, 19), (0, 10, 17, 13), (0, 10, 21, 69)])
set_option maxRecDepth 20000 in
set_option maxHeartbeats 1000000 in
theorem h_ends (σ : SS) (Q : AO → SS → Prop) (x y : Int32) (hM : CM mX5_ends [.ref 0, .int x, .int y] σ Q) (hI : isI Q) (hX : isX [ioE, iaE, nsE] Q) : CM mL_ends [.ref 0, .int x, .int y, .ref 403] σ (HQ [ioE, iaE, nsE] Q) := by
  refine CM.ofH [(0, .ref 0), (1, .int x), (2, .int y), (3, .ref 403)] rfl (by decide +kernel) rfl (Nat.le_of_ble_eq_true rfl) ?_
  refine WE.aload_n (n := 1) dL_ends_0 rfl rfl ?_
  refine WE.iconst (n := 2) (nI 0) dL_ends_1 rfl (by decide) ?_
  refine WE.aload_n (n := 3) dL_ends_2 rfl rfl ?_
  refine WE.iload_n (n := 4) dL_ends_3 rfl rfl ?_
  refine WE.iload_n (n := 5) dL_ends_4 rfl rfl ?_
  refine WE.V2G (M' := mX5_ends) (n := 8) dL_ends_5 rfl cv_L_85 (by decide) ⟨⟨by decide, by decide⟩, by decide, by decide⟩ (Nat.le_of_ble_eq_true rfl) hM (fun v σ1 q => ?_) (fun E σ1 q => ?_)
  · obtain ⟨r, rfl⟩ := hI _ _ q
    change WE _ 8 _ (.int r :: .int (nI 0) :: .ref 403 :: []) _ _ _ _
    obtain ⟨c1, o1⟩ := σ1
    refine WE.i2l (n := 9) dL_ends_8 rfl ?_
    refine WE.last (n := 10) dL_ends_9 rfl ?_
    refine WE.goto (tgt := 25) dL_ends_10 (by decide) ?_
    refine WE.iconst (n := 26) (nI 0) dL_ends_25 rfl (by decide) ?_
    refine WE.iret (ty := .int) dL_ends_26 rfl rfl ⟨by decide, by decide⟩ ?_
    exact PI.mk (Or.inl ⟨r, _, q, rfl, rfl⟩)
  · have hE := hX _ _ q
    simp only [List.mem_cons, List.not_mem_nil, or_false] at hE
    rcases hE with rfl | rfl | rfl
    · refine WX.catchA (n := 15) (j := 4) [] (0, 10, 13, 19) [(0, 10, 17, 13), (0, 10, 21, 69)] rfl trivial rfl (by decide) g_485 t_376 dL_ends_13 (Or.inr ⟨rfl, rfl⟩) rfl (by decide) ?_
      refine WE.iconst (n := 16) (nI 1) dL_ends_15 rfl (by decide) ?_
      refine WE.iret (ty := .int) dL_ends_16 rfl rfl ⟨by decide, by decide⟩ ?_
      exact PI.mk (Or.inr ⟨_, _, 0, q, rfl, rfl, rfl⟩)
    · refine WX.catchA (n := 19) (j := 4) [(0, 10, 13, 19)] (0, 10, 17, 13) [(0, 10, 21, 69)] rfl ⟨⟨_, by decide, g_485, by decide +kernel⟩, trivial⟩ rfl (by decide) g_353 t_448 dL_ends_17 (Or.inr ⟨rfl, rfl⟩) rfl (by decide) ?_
      refine WE.iconst (n := 20) (nI 2) dL_ends_19 rfl (by decide) ?_
      refine WE.iret (ty := .int) dL_ends_20 rfl rfl ⟨by decide, by decide⟩ ?_
      exact PI.mk (Or.inr ⟨_, _, 1, q, rfl, rfl, rfl⟩)
    · refine WX.catchA (n := 23) (j := 4) [(0, 10, 13, 19), (0, 10, 17, 13)] (0, 10, 21, 69) [] rfl ⟨⟨_, by decide, g_485, by decide +kernel⟩, ⟨_, by decide, g_353, by decide +kernel⟩, trivial⟩ rfl (by decide) g_759 t_770 dL_ends_21 (Or.inr ⟨rfl, rfl⟩) rfl (by decide) ?_
      refine WE.iconst (n := 24) (nI 3) dL_ends_23 rfl (by decide) ?_
      refine WE.iret (ty := .int) dL_ends_24 rfl rfl ⟨by decide, by decide⟩ ?_
      exact PI.mk (Or.inr ⟨_, _, 2, q, rfl, rfl, rfl⟩)
theorem cv_L_88 : CVL RL 88 mX5_bestDrop 5 1 := ⟨g_839, g_840, g_841, g_61, g_842, rfl, ⟨by decide +kernel, by decide +kernel, by decide +kernel⟩, rfl, by decide⟩
abbrev mL_bestDrop : MT := (yL_bestDrop, cL_bestDrop, 4, some .int, { frames := 8, cells := 3, slots := 18, locals := 256 }, [(0, 9, 12, 19), (0, 9, 15, 69)])
set_option maxRecDepth 20000 in
set_option maxHeartbeats 1000000 in
theorem h_bestDrop (σ : SS) (Q : AO → SS → Prop) (x : Int32) (hM : CM mX5_bestDrop [.ref 0, .int x] σ Q) (hI : isI Q) (hX : isX [ioE, nsE] Q) : CM mL_bestDrop [.ref 0, .int x, .ref 403] σ (HQ [ioE, nsE] Q) := by
  refine CM.ofH [(0, .ref 0), (1, .int x), (2, .ref 403)] rfl (by decide +kernel) rfl (Nat.le_of_ble_eq_true rfl) ?_
  refine WE.aload_n (n := 1) dL_bestDrop_0 rfl rfl ?_
  refine WE.iconst (n := 2) (nI 0) dL_bestDrop_1 rfl (by decide) ?_
  refine WE.aload_n (n := 3) dL_bestDrop_2 rfl rfl ?_
  refine WE.iload_n (n := 4) dL_bestDrop_3 rfl rfl ?_
  refine WE.V1G (M' := mX5_bestDrop) (n := 7) dL_bestDrop_4 rfl cv_L_88 (by decide) ⟨⟨by decide, by decide⟩, by decide, by decide⟩ (Nat.le_of_ble_eq_true rfl) hM (fun v σ1 q => ?_) (fun E σ1 q => ?_)
  · obtain ⟨r, rfl⟩ := hI _ _ q
    change WE _ 7 _ (.int r :: .int (nI 0) :: .ref 403 :: []) _ _ _ _
    obtain ⟨c1, o1⟩ := σ1
    refine WE.i2l (n := 8) dL_bestDrop_7 rfl ?_
    refine WE.last (n := 9) dL_bestDrop_8 rfl ?_
    refine WE.goto (tgt := 18) dL_bestDrop_9 (by decide) ?_
    refine WE.iconst (n := 19) (nI 0) dL_bestDrop_18 rfl (by decide) ?_
    refine WE.iret (ty := .int) dL_bestDrop_19 rfl rfl ⟨by decide, by decide⟩ ?_
    exact PI.mk (Or.inl ⟨r, _, q, rfl, rfl⟩)
  · have hE := hX _ _ q
    simp only [List.mem_cons, List.not_mem_nil, or_false] at hE
    rcases hE with rfl | rfl
    · refine WX.catchA (n := 13) (j := 3) [] (0, 9, 12, 19) [(0, 9, 15, 69)] rfl trivial rfl (by decide) g_485 t_376 dL_bestDrop_12 (Or.inl ⟨3, rfl, rfl, rfl⟩) rfl (by decide) ?_
      refine WE.iconst (n := 14) (nI 1) dL_bestDrop_13 rfl (by decide) ?_
      refine WE.iret (ty := .int) dL_bestDrop_14 rfl rfl ⟨by decide, by decide⟩ ?_
      exact PI.mk (Or.inr ⟨_, _, 0, q, rfl, rfl, rfl⟩)
    · refine WX.catchA (n := 16) (j := 3) [(0, 9, 12, 19)] (0, 9, 15, 69) [] rfl ⟨⟨_, by decide, g_485, by decide +kernel⟩, trivial⟩ rfl (by decide) g_759 t_770 dL_bestDrop_15 (Or.inl ⟨3, rfl, rfl, rfl⟩) rfl (by decide) ?_
      refine WE.iconst (n := 17) (nI 2) dL_bestDrop_16 rfl (by decide) ?_
      refine WE.iret (ty := .int) dL_bestDrop_17 rfl rfl ⟨by decide, by decide⟩ ?_
      exact PI.mk (Or.inr ⟨_, _, 1, q, rfl, rfl, rfl⟩)
theorem cv_L_91 : CVL RL 91 mX5_append 5 1 := ⟨g_849, g_850, g_851, g_61, g_852, rfl, ⟨by decide +kernel, by decide +kernel, by decide +kernel⟩, rfl, by decide⟩
abbrev mL_append : MT := (yL_append, cL_append, 4, some .int, { frames := 7, cells := 1, slots := 6, locals := 224 }, [(0, 9, 12, 95)])
set_option maxRecDepth 20000 in
set_option maxHeartbeats 1000000 in
theorem h_append (σ : SS) (Q : AO → SS → Prop) (x : Int32) (hM : CM mX5_append [.ref 0, .int x] σ Q) (hI : isI Q) (hX : isX [isE] Q) : CM mL_append [.ref 0, .int x, .ref 403] σ (HQ [isE] Q) := by
  refine CM.ofH [(0, .ref 0), (1, .int x), (2, .ref 403)] rfl (by decide +kernel) rfl (Nat.le_of_ble_eq_true rfl) ?_
  refine WE.aload_n (n := 1) dL_append_0 rfl rfl ?_
  refine WE.iconst (n := 2) (nI 0) dL_append_1 rfl (by decide) ?_
  refine WE.aload_n (n := 3) dL_append_2 rfl rfl ?_
  refine WE.iload_n (n := 4) dL_append_3 rfl rfl ?_
  refine WE.V1G (M' := mX5_append) (n := 7) dL_append_4 rfl cv_L_91 (by decide) ⟨⟨by decide, by decide⟩, by decide, by decide⟩ (Nat.le_of_ble_eq_true rfl) hM (fun v σ1 q => ?_) (fun E σ1 q => ?_)
  · obtain ⟨r, rfl⟩ := hI _ _ q
    change WE _ 7 _ (.int r :: .int (nI 0) :: .ref 403 :: []) _ _ _ _
    obtain ⟨c1, o1⟩ := σ1
    refine WE.i2l (n := 8) dL_append_7 rfl ?_
    refine WE.last (n := 9) dL_append_8 rfl ?_
    refine WE.goto (tgt := 15) dL_append_9 (by decide) ?_
    refine WE.iconst (n := 16) (nI 0) dL_append_15 rfl (by decide) ?_
    refine WE.iret (ty := .int) dL_append_16 rfl rfl ⟨by decide, by decide⟩ ?_
    exact PI.mk (Or.inl ⟨r, _, q, rfl, rfl⟩)
  · have hE := hX _ _ q
    simp only [List.mem_cons, List.not_mem_nil, or_false] at hE
    subst hE
    refine WX.catchA (n := 13) (j := 3) [] (0, 9, 12, 95) [] rfl trivial rfl (by decide) g_848 t_859 dL_append_12 (Or.inl ⟨3, rfl, rfl, rfl⟩) rfl (by decide) ?_
    refine WE.iconst (n := 14) (nI 1) dL_append_13 rfl (by decide) ?_
    refine WE.iret (ty := .int) dL_append_14 rfl rfl ⟨by decide, by decide⟩ ?_
    exact PI.mk (Or.inr ⟨_, _, 0, q, rfl, rfl, rfl⟩)
theorem cv_L_97 : CVL RL 97 mX5_read 5 0 := ⟨g_876, g_877, g_878, g_61, g_879, rfl, ⟨by decide +kernel, by decide +kernel, by decide +kernel⟩, rfl, by decide⟩
abbrev mL_read : MT := (yL_read, cL_read, 3, some .int, { frames := 8, cells := 3, slots := 18, locals := 256 }, [(0, 8, 11, 13), (0, 8, 14, 27)])
set_option maxRecDepth 20000 in
set_option maxHeartbeats 1000000 in
theorem h_read (σ : SS) (Q : AO → SS → Prop) (hM : CM mX5_read [.ref 0] σ Q) (hI : isI Q) (hX : isX [iaE, uoE] Q) : CM mL_read [.ref 0, .ref 403] σ (HQ [iaE, uoE] Q) := by
  refine CM.ofH [(0, .ref 0), (1, .ref 403)] rfl (by decide +kernel) rfl (Nat.le_of_ble_eq_true rfl) ?_
  refine WE.aload_n (n := 1) dL_read_0 rfl rfl ?_
  refine WE.iconst (n := 2) (nI 0) dL_read_1 rfl (by decide) ?_
  refine WE.aload_n (n := 3) dL_read_2 rfl rfl ?_
  refine WE.V0G (M' := mX5_read) (n := 6) dL_read_3 rfl cv_L_97 (by decide) ⟨⟨by decide, by decide⟩, by decide, by decide⟩ (Nat.le_of_ble_eq_true rfl) hM (fun v σ1 q => ?_) (fun E σ1 q => ?_)
  · obtain ⟨r, rfl⟩ := hI _ _ q
    change WE _ 6 _ (.int r :: .int (nI 0) :: .ref 403 :: []) _ _ _ _
    obtain ⟨c1, o1⟩ := σ1
    refine WE.i2l (n := 7) dL_read_6 rfl ?_
    refine WE.last (n := 8) dL_read_7 rfl ?_
    refine WE.goto (tgt := 17) dL_read_8 (by decide) ?_
    refine WE.iconst (n := 18) (nI 0) dL_read_17 rfl (by decide) ?_
    refine WE.iret (ty := .int) dL_read_18 rfl rfl ⟨by decide, by decide⟩ ?_
    exact PI.mk (Or.inl ⟨r, _, q, rfl, rfl⟩)
  · have hE := hX _ _ q
    simp only [List.mem_cons, List.not_mem_nil, or_false] at hE
    rcases hE with rfl | rfl
    · refine WX.catchA (n := 12) (j := 2) [] (0, 8, 11, 13) [(0, 8, 14, 27)] rfl trivial rfl (by decide) g_353 t_448 dL_read_11 (Or.inl ⟨2, rfl, rfl, rfl⟩) rfl (by decide) ?_
      refine WE.iconst (n := 13) (nI 1) dL_read_12 rfl (by decide) ?_
      refine WE.iret (ty := .int) dL_read_13 rfl rfl ⟨by decide, by decide⟩ ?_
      exact PI.mk (Or.inr ⟨_, _, 0, q, rfl, rfl, rfl⟩)
    · refine WX.catchA (n := 15) (j := 2) [(0, 8, 11, 13)] (0, 8, 14, 27) [] rfl ⟨⟨_, by decide, g_353, by decide +kernel⟩, trivial⟩ rfl (by decide) g_531 t_464 dL_read_14 (Or.inl ⟨2, rfl, rfl, rfl⟩) rfl (by decide) ?_
      refine WE.iconst (n := 16) (nI 2) dL_read_15 rfl (by decide) ?_
      refine WE.iret (ty := .int) dL_read_16 rfl rfl ⟨by decide, by decide⟩ ?_
      exact PI.mk (Or.inr ⟨_, _, 1, q, rfl, rfl, rfl⟩)
theorem cv_L_101 : CVL RL 101 mX5_refusal 5 1 := ⟨g_935, g_936, g_937, g_61, g_938, rfl, ⟨by decide +kernel, by decide +kernel, by decide +kernel⟩, rfl, by decide⟩
abbrev mL_refusal : MT := (yL_refusal, cL_refusal, 4, some .int, { frames := 7, cells := 1, slots := 6, locals := 224 }, [(0, 9, 12, 69)])
set_option maxRecDepth 20000 in
set_option maxHeartbeats 1000000 in
theorem h_refusal (σ : SS) (Q : AO → SS → Prop) (x : Int32) (hM : CM mX5_refusal [.ref 0, .int x] σ Q) (hI : isI Q) (hX : isX [nsE] Q) : CM mL_refusal [.ref 0, .int x, .ref 403] σ (HQ [nsE] Q) := by
  refine CM.ofH [(0, .ref 0), (1, .int x), (2, .ref 403)] rfl (by decide +kernel) rfl (Nat.le_of_ble_eq_true rfl) ?_
  refine WE.aload_n (n := 1) dL_refusal_0 rfl rfl ?_
  refine WE.iconst (n := 2) (nI 0) dL_refusal_1 rfl (by decide) ?_
  refine WE.aload_n (n := 3) dL_refusal_2 rfl rfl ?_
  refine WE.iload_n (n := 4) dL_refusal_3 rfl rfl ?_
  refine WE.V1G (M' := mX5_refusal) (n := 7) dL_refusal_4 rfl cv_L_101 (by decide) ⟨⟨by decide, by decide⟩, by decide, by decide⟩ (Nat.le_of_ble_eq_true rfl) hM (fun v σ1 q => ?_) (fun E σ1 q => ?_)
  · obtain ⟨r, rfl⟩ := hI _ _ q
    change WE _ 7 _ (.int r :: .int (nI 0) :: .ref 403 :: []) _ _ _ _
    obtain ⟨c1, o1⟩ := σ1
    refine WE.i2l (n := 8) dL_refusal_7 rfl ?_
    refine WE.last (n := 9) dL_refusal_8 rfl ?_
    refine WE.goto (tgt := 15) dL_refusal_9 (by decide) ?_
    refine WE.iconst (n := 16) (nI 0) dL_refusal_15 rfl (by decide) ?_
    refine WE.iret (ty := .int) dL_refusal_16 rfl rfl ⟨by decide, by decide⟩ ?_
    exact PI.mk (Or.inl ⟨r, _, q, rfl, rfl⟩)
  · have hE := hX _ _ q
    simp only [List.mem_cons, List.not_mem_nil, or_false] at hE
    subst hE
    refine WX.catchA (n := 13) (j := 3) [] (0, 9, 12, 69) [] rfl trivial rfl (by decide) g_759 t_770 dL_refusal_12 (Or.inl ⟨3, rfl, rfl, rfl⟩) rfl (by decide) ?_
    refine WE.iconst (n := 14) (nI 1) dL_refusal_13 rfl (by decide) ?_
    refine WE.iret (ty := .int) dL_refusal_14 rfl rfl ⟨by decide, by decide⟩ ?_
    exact PI.mk (Or.inr ⟨_, _, 0, q, rfl, rfl, rfl⟩)
theorem cv_L_105 : CVL RL 105 mX5_account 5 1 := ⟨g_943, g_944, g_945, g_61, g_946, rfl, ⟨by decide +kernel, by decide +kernel, by decide +kernel⟩, rfl, by decide⟩
abbrev mL_account : MT := (yL_account, cL_account, 4, some .int, { frames := 7, cells := 1, slots := 6, locals := 224 }, [(0, 9, 12, 13)])
set_option maxRecDepth 20000 in
set_option maxHeartbeats 1000000 in
theorem h_account (σ : SS) (Q : AO → SS → Prop) (x : Int32) (hM : CM mX5_account [.ref 0, .int x] σ Q) (hI : isI Q) (hX : isX [iaE] Q) : CM mL_account [.ref 0, .int x, .ref 403] σ (HQ [iaE] Q) := by
  refine CM.ofH [(0, .ref 0), (1, .int x), (2, .ref 403)] rfl (by decide +kernel) rfl (Nat.le_of_ble_eq_true rfl) ?_
  refine WE.aload_n (n := 1) dL_account_0 rfl rfl ?_
  refine WE.iconst (n := 2) (nI 0) dL_account_1 rfl (by decide) ?_
  refine WE.aload_n (n := 3) dL_account_2 rfl rfl ?_
  refine WE.iload_n (n := 4) dL_account_3 rfl rfl ?_
  refine WE.V1G (M' := mX5_account) (n := 7) dL_account_4 rfl cv_L_105 (by decide) ⟨⟨by decide, by decide⟩, by decide, by decide⟩ (Nat.le_of_ble_eq_true rfl) hM (fun v σ1 q => ?_) (fun E σ1 q => ?_)
  · obtain ⟨r, rfl⟩ := hI _ _ q
    change WE _ 7 _ (.int r :: .int (nI 0) :: .ref 403 :: []) _ _ _ _
    obtain ⟨c1, o1⟩ := σ1
    refine WE.i2l (n := 8) dL_account_7 rfl ?_
    refine WE.last (n := 9) dL_account_8 rfl ?_
    refine WE.goto (tgt := 15) dL_account_9 (by decide) ?_
    refine WE.iconst (n := 16) (nI 0) dL_account_15 rfl (by decide) ?_
    refine WE.iret (ty := .int) dL_account_16 rfl rfl ⟨by decide, by decide⟩ ?_
    exact PI.mk (Or.inl ⟨r, _, q, rfl, rfl⟩)
  · have hE := hX _ _ q
    simp only [List.mem_cons, List.not_mem_nil, or_false] at hE
    subst hE
    refine WX.catchA (n := 13) (j := 3) [] (0, 9, 12, 13) [] rfl trivial rfl (by decide) g_353 t_448 dL_account_12 (Or.inl ⟨3, rfl, rfl, rfl⟩) rfl (by decide) ?_
    refine WE.iconst (n := 14) (nI 1) dL_account_13 rfl (by decide) ?_
    refine WE.iret (ty := .int) dL_account_14 rfl rfl ⟨by decide, by decide⟩ ?_
    exact PI.mk (Or.inr ⟨_, _, 0, q, rfl, rfl, rfl⟩)
theorem cv_L_108 : CVL RL 108 mX5_meanDistance 5 0 := ⟨g_982, g_983, g_984, g_61, g_985, rfl, ⟨by decide +kernel, by decide +kernel, by decide +kernel⟩, rfl, by decide⟩
abbrev mL_meanDistance : MT := (yL_meanDistance, cL_meanDistance, 3, some .int, { frames := 7, cells := 1, slots := 6, locals := 224 }, [(0, 7, 10, 112)])
set_option maxRecDepth 20000 in
set_option maxHeartbeats 1000000 in
theorem h_meanDistance (σ : SS) (n : Int32) (v : UInt64) (hM : CM mX5_meanDistance [.ref 0] σ (DX σ n (.double v))) : CM mL_meanDistance [.ref 0, .ref 404] σ (HD n v σ) := by
  refine CM.ofH [(0, .ref 0), (1, .ref 404)] rfl (by decide +kernel) rfl (Nat.le_of_ble_eq_true rfl) ?_
  refine WE.aload_n (n := 1) dL_meanDistance_0 rfl rfl ?_
  refine WE.iconst (n := 2) (nI 0) dL_meanDistance_1 rfl (by decide) ?_
  refine WE.aload_n (n := 3) dL_meanDistance_2 rfl rfl ?_
  refine WE.V0G (M' := mX5_meanDistance) (n := 6) dL_meanDistance_3 rfl cv_L_108 (by decide) ⟨⟨by decide, by decide⟩, by decide, by decide⟩ (Nat.le_of_ble_eq_true rfl) hM (fun v σ1 q => ?_) (fun E σ1 q => ?_)
  · obtain ⟨rfl, q⟩ := q
    by_cases h0 : n = 0
    · rw [if_pos h0] at q
      cases q
    rw [if_neg h0] at q
    cases q
    obtain ⟨c1, o1⟩ := σ1
    change WE _ 6 _ (.double v :: .int (nI 0) :: .ref 404 :: []) _ _ _ _
    refine WE.dast (n := 7) dL_meanDistance_6 rfl ?_
    refine WE.goto (tgt := 13) dL_meanDistance_7 (by decide) ?_
    refine WE.iconst (n := 14) (nI 0) dL_meanDistance_13 rfl (by decide) ?_
    refine WE.iret (ty := .int) dL_meanDistance_14 rfl rfl ⟨by decide, by decide⟩ ?_
    exact PI.mk (by rw [if_neg h0]; exact ⟨rfl, rfl⟩)
  · obtain ⟨rfl, q⟩ := q
    by_cases h0 : n = 0
    · rw [if_pos h0] at q
      cases q
      refine WX.catchA (n := 11) (j := 2) [] (0, 7, 10, 112) [] rfl trivial rfl (by decide) g_968 t_980 dL_meanDistance_10 (Or.inl ⟨2, rfl, rfl, rfl⟩) rfl (by decide) ?_
      refine WE.iconst (n := 12) (nI 1) dL_meanDistance_11 rfl (by decide) ?_
      refine WE.iret (ty := .int) dL_meanDistance_12 rfl rfl ⟨by decide, by decide⟩ ?_
      exact PI.mk (by rw [if_pos h0]; exact ⟨rfl, rfl⟩)
    · rw [if_neg h0] at q
      cases q
theorem cv_L_114 : CVL RL 114 mX5_share 5 0 := ⟨g_997, g_998, g_999, g_61, g_1000, rfl, ⟨by decide +kernel, by decide +kernel, by decide +kernel⟩, rfl, by decide⟩
abbrev mL_share : MT := (yL_share, cL_share, 3, some .int, { frames := 7, cells := 1, slots := 6, locals := 224 }, [(0, 8, 11, 112)])
set_option maxRecDepth 20000 in
set_option maxHeartbeats 1000000 in
theorem h_share (σ : SS) (n : Int32) (v : UInt32) (hM : CM mX5_share [.ref 0] σ (DX σ n (.float v))) (hne : ¬ n = 0 → vf_n64 (FP.f2d v)) : CM mL_share [.ref 0, .ref 404] σ (HD n (FP.f2d v) σ) := by
  refine CM.ofH [(0, .ref 0), (1, .ref 404)] rfl (by decide +kernel) rfl (Nat.le_of_ble_eq_true rfl) ?_
  refine WE.aload_n (n := 1) dL_share_0 rfl rfl ?_
  refine WE.iconst (n := 2) (nI 0) dL_share_1 rfl (by decide) ?_
  refine WE.aload_n (n := 3) dL_share_2 rfl rfl ?_
  refine WE.V0G (M' := mX5_share) (n := 6) dL_share_3 rfl cv_L_114 (by decide) ⟨⟨by decide, by decide⟩, by decide, by decide⟩ (Nat.le_of_ble_eq_true rfl) hM (fun v σ1 q => ?_) (fun E σ1 q => ?_)
  · obtain ⟨rfl, q⟩ := q
    by_cases h0 : n = 0
    · rw [if_pos h0] at q
      cases q
    rw [if_neg h0] at q
    cases q
    obtain ⟨c1, o1⟩ := σ1
    change WE _ 6 _ (.float v :: .int (nI 0) :: .ref 404 :: []) _ _ _ _
    refine WE.f2d (n := 7) dL_share_6 rfl (hne h0) ?_
    refine WE.dast (n := 8) dL_share_7 rfl ?_
    refine WE.goto (tgt := 14) dL_share_8 (by decide) ?_
    refine WE.iconst (n := 15) (nI 0) dL_share_14 rfl (by decide) ?_
    refine WE.iret (ty := .int) dL_share_15 rfl rfl ⟨by decide, by decide⟩ ?_
    exact PI.mk (by rw [if_neg h0]; exact ⟨rfl, rfl⟩)
  · obtain ⟨rfl, q⟩ := q
    by_cases h0 : n = 0
    · rw [if_pos h0] at q
      cases q
      refine WX.catchA (n := 12) (j := 2) [] (0, 8, 11, 112) [] rfl trivial rfl (by decide) g_968 t_980 dL_share_11 (Or.inl ⟨2, rfl, rfl, rfl⟩) rfl (by decide) ?_
      refine WE.iconst (n := 13) (nI 1) dL_share_12 rfl (by decide) ?_
      refine WE.iret (ty := .int) dL_share_13 rfl rfl ⟨by decide, by decide⟩ ?_
      exact PI.mk (by rw [if_pos h0]; exact ⟨rfl, rfl⟩)
    · rw [if_neg h0] at q
      cases q
theorem cv_L_118 : CVL RL 118 mX5_undo 5 0 := ⟨g_1006, g_1007, g_1008, g_61, g_1009, rfl, ⟨by decide +kernel, by decide +kernel, by decide +kernel⟩, rfl, by decide⟩
abbrev mL_undo : MT := (yL_undo, cL_undo, 3, some .int, { frames := 7, cells := 1, slots := 6, locals := 224 }, [(0, 8, 11, 95)])
set_option maxRecDepth 20000 in
set_option maxHeartbeats 1000000 in
theorem h_undo (σ : SS) (Q : AO → SS → Prop) (hM : CM mX5_undo [.ref 0] σ Q) (hI : isI Q) (hX : isX [isE] Q) : CM mL_undo [.ref 0, .ref 403] σ (HQ [isE] Q) := by
  refine CM.ofH [(0, .ref 0), (1, .ref 403)] rfl (by decide +kernel) rfl (Nat.le_of_ble_eq_true rfl) ?_
  refine WE.aload_n (n := 1) dL_undo_0 rfl rfl ?_
  refine WE.iconst (n := 2) (nI 0) dL_undo_1 rfl (by decide) ?_
  refine WE.aload_n (n := 3) dL_undo_2 rfl rfl ?_
  refine WE.V0G (M' := mX5_undo) (n := 6) dL_undo_3 rfl cv_L_118 (by decide) ⟨⟨by decide, by decide⟩, by decide, by decide⟩ (Nat.le_of_ble_eq_true rfl) hM (fun v σ1 q => ?_) (fun E σ1 q => ?_)
  · obtain ⟨r, rfl⟩ := hI _ _ q
    change WE _ 6 _ (.int r :: .int (nI 0) :: .ref 403 :: []) _ _ _ _
    obtain ⟨c1, o1⟩ := σ1
    refine WE.i2l (n := 7) dL_undo_6 rfl ?_
    refine WE.last (n := 8) dL_undo_7 rfl ?_
    refine WE.goto (tgt := 14) dL_undo_8 (by decide) ?_
    refine WE.iconst (n := 15) (nI 0) dL_undo_14 rfl (by decide) ?_
    refine WE.iret (ty := .int) dL_undo_15 rfl rfl ⟨by decide, by decide⟩ ?_
    exact PI.mk (Or.inl ⟨r, _, q, rfl, rfl⟩)
  · have hE := hX _ _ q
    simp only [List.mem_cons, List.not_mem_nil, or_false] at hE
    subst hE
    refine WX.catchA (n := 12) (j := 2) [] (0, 8, 11, 95) [] rfl trivial rfl (by decide) g_848 t_859 dL_undo_11 (Or.inl ⟨2, rfl, rfl, rfl⟩) rfl (by decide) ?_
    refine WE.iconst (n := 13) (nI 1) dL_undo_12 rfl (by decide) ?_
    refine WE.iret (ty := .int) dL_undo_13 rfl rfl ⟨by decide, by decide⟩ ?_
    exact PI.mk (Or.inr ⟨_, _, 0, q, rfl, rfl, rfl⟩)
theorem cv_L_121 : CVL RL 121 mX5_restore 5 0 := ⟨g_1018, g_1019, g_1020, g_61, g_1021, rfl, ⟨by decide +kernel, by decide +kernel, by decide +kernel⟩, rfl, by decide⟩
abbrev mL_restore : MT := (yL_restore, cL_restore, 3, some .int, { frames := 7, cells := 1, slots := 6, locals := 224 }, [(0, 8, 11, 95)])
set_option maxRecDepth 20000 in
set_option maxHeartbeats 1000000 in
theorem h_restore (σ : SS) (Q : AO → SS → Prop) (hM : CM mX5_restore [.ref 0] σ Q) (hI : isI Q) (hX : isX [isE] Q) : CM mL_restore [.ref 0, .ref 403] σ (HQ [isE] Q) := by
  refine CM.ofH [(0, .ref 0), (1, .ref 403)] rfl (by decide +kernel) rfl (Nat.le_of_ble_eq_true rfl) ?_
  refine WE.aload_n (n := 1) dL_restore_0 rfl rfl ?_
  refine WE.iconst (n := 2) (nI 0) dL_restore_1 rfl (by decide) ?_
  refine WE.aload_n (n := 3) dL_restore_2 rfl rfl ?_
  refine WE.V0G (M' := mX5_restore) (n := 6) dL_restore_3 rfl cv_L_121 (by decide) ⟨⟨by decide, by decide⟩, by decide, by decide⟩ (Nat.le_of_ble_eq_true rfl) hM (fun v σ1 q => ?_) (fun E σ1 q => ?_)
  · obtain ⟨r, rfl⟩ := hI _ _ q
    change WE _ 6 _ (.int r :: .int (nI 0) :: .ref 403 :: []) _ _ _ _
    obtain ⟨c1, o1⟩ := σ1
    refine WE.i2l (n := 7) dL_restore_6 rfl ?_
    refine WE.last (n := 8) dL_restore_7 rfl ?_
    refine WE.goto (tgt := 14) dL_restore_8 (by decide) ?_
    refine WE.iconst (n := 15) (nI 0) dL_restore_14 rfl (by decide) ?_
    refine WE.iret (ty := .int) dL_restore_15 rfl rfl ⟨by decide, by decide⟩ ?_
    exact PI.mk (Or.inl ⟨r, _, q, rfl, rfl⟩)
  · have hE := hX _ _ q
    simp only [List.mem_cons, List.not_mem_nil, or_false] at hE
    subst hE
    refine WX.catchA (n := 12) (j := 2) [] (0, 8, 11, 95) [] rfl trivial rfl (by decide) g_848 t_859 dL_restore_11 (Or.inl ⟨2, rfl, rfl, rfl⟩) rfl (by decide) ?_
    refine WE.iconst (n := 13) (nI 1) dL_restore_12 rfl (by decide) ?_
    refine WE.iret (ty := .int) dL_restore_13 rfl rfl ⟨by decide, by decide⟩ ?_
    exact PI.mk (Or.inr ⟨_, _, 0, q, rfl, rfl, rfl⟩)
