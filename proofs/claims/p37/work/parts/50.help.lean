/-! the law's helpers: what is caught, and the contract of each -/
section WEX
variable {M : MT} {pc n : Nat} {L : List (Nat × Value)} {st : List Value} {σ : SS} {c0 : CC} {od : Int64 × UInt64} {cu su : Nat} {G : GT}
/-- what the rows ahead of the catching one ask -/
def preOK (own E : String) (pc : Nat) : List (Nat × Nat × Nat × Nat) → Prop
  | [] => True
  | q :: r => (∃ nm, q.2.2.2 ≠ 0 ∧ Cond.classLink own q.2.2.2 nm ∈ WG ∧ (E, nm) ∈ NcL) ∧ preOK own E pc r
theorem preOK_mem {own E : String} {pc : Nat} : ∀ {l : List (Nat × Nat × Nat × Nat)}, preOK own E pc l → ∀ q ∈ l, ∃ nm, q.2.2.2 ≠ 0 ∧ Cond.classLink own q.2.2.2 nm ∈ WG ∧ (E, nm) ∈ NcL
  | [], _, q, h => by cases h
  | a :: r, h, q, hq => by
    rcases List.mem_cons.mp hq with rfl | hq
    · exact h.1
    · exact preOK_mem h.2 q hq
theorem WX.catchA {E : String} {len : Nat} {ins : Instr} (pre : List (Nat × Nat × Nat × Nat)) (x : Nat × Nat × Nat × Nat) (suf : List (Nat × Nat × Nat × Nat)) (hH : mtH M = pre ++ x :: suf) (hpre : preOK (mtY M).cls E pc pre) (hx : covers ⟨x.1, x.2.1, x.2.2.1, x.2.2.2⟩ pc = true) (h0 : x.2.2.2 ≠ 0) (hlink : Cond.classLink (mtY M).cls x.2.2.2 E ∈ WG) (hcast : Cond.castable E E ∈ lw_tbl)
    (hd : decode (mtC M) x.2.2.1 = .ok (ins, len)) {j : Nat} (hins : (∃ jj : Fin 4, ins = .astore_n jj ∧ jj.val = j ∧ len = 1) ∨ (ins = .astore j ∧ len = 2)) (hn : x.2.2.1 + len = n) (hj : j < mtL M) (k : WE M n [] [] σ cu su G) : WX M pc L st σ E cu su G := by
  subst hn
  intro l D aC z p e s m args below meth c H locs ls q ce C hP hS hl h1 h2 h3
  have hw := C.2.2.2.2.2.2.1
  have hkf := C.2.2.2.2.2.2.2.2.1
  have htab : c.exceptionTable.toList = tableOf pre ++ ⟨x.1, x.2.1, x.2.2.1, x.2.2.2⟩ :: tableOf suf := by
    rw [C.2.2.2.2.2.2.2.2.2.2.2.1, hH]
    simp [tableOf]
  refine vx_catch (own := (mtY M).cls) (name := E) C.2.2.2.2.2.1 (tableOf pre) ⟨x.1, x.2.1, x.2.2.1, x.2.2.2⟩ (tableOf suf) htab (fun zz hz => ?_) hx h0 (hw _ hlink) (va_Nw.use rfl (hkf.1 _ hcast rfl)) h1 h2 h3 ?_
  · obtain ⟨q, hq, rfl⟩ := List.mem_map.mp hz
    obtain ⟨nm, g0, g1, g2⟩ := preOK_mem hpre q hq
    exact Or.inr ⟨g0, nm, hw _ g1, hkf.2.2 _ g2⟩
  · have go : ∀ ls' : Array Slot, lv_has ls' (mtL M) ((j, Value.ref q) :: (trL z L).filter (fun q => !(q.1 == j) && !(q.1 + 1 == j && q.2.category == 2))) → W p l e (mtR M) s m args below meth c H locs cu su (G z D aC below args s) (F0 m (x.2.2.1 + len) ls' []) := fun ls' h => k l D aC z p e s m args below meth c H locs ls' C hP hS ⟨h.1, h.2.1, fun q hq => by cases hq⟩
    rcases hins with ⟨jj, rfl, rfl, rfl⟩ | ⟨rfl, rfl⟩
    · exact lv_astore_n C.2.1 C.2.2.1 hd rfl hl hj rfl go
    · exact lv_astore C.2.1 C.2.2.1 hd hl hj rfl go
theorem WE.ldcf {idx : Nat} {v : UInt32} (hd : decode (mtC M) pc = .ok (.ldc idx, 2)) (hn : pc + 2 = n) (hc : Cond.constantFloat (mtY M).cls idx v ∈ lw_tbl) (k : WE M n L (.float v :: st) σ cu su G) : WE M pc L st σ cu su G := by
  subst hn
  intro l D aC z p e s m args below meth c H locs ls C hP hS hl
  exact lv_ldcf (v := v) C.2.1 C.2.2.1 C.2.2.2.2.2.1 (va_Nw.use rfl (C.2.2.2.2.2.2.2.2.1.1 _ hc rfl)) hd (k l D aC z p e s m args below meth c H locs ls C hP hS hl)
theorem WE.ldc2d {idx : Nat} {v : UInt64} (hd : decode (mtC M) pc = .ok (.ldc2_w idx, 3)) (hn : pc + 3 = n) (hc : Cond.constantDouble (mtY M).cls idx v ∈ lw_tbl) (k : WE M n L (.double v :: st) σ cu su G) : WE M pc L st σ cu su G := by
  subst hn
  intro l D aC z p e s m args below meth c H locs ls C hP hS hl
  exact lv_ldc2d (v := v) C.2.1 C.2.2.1 C.2.2.2.2.2.1 (va_Nw.use rfl (C.2.2.2.2.2.2.2.2.1.1 _ hc rfl)) hd (k l D aC z p e s m args below meth c H locs ls C hP hS hl)
end WEX
/-- THE CONTRACT OUT OF THE WALK, a method with handlers -/
theorem CM.ofH {M : MT} {σ : SS} {Q : AO → SS → Prop} {as : List Value} (L0 : List (Nat × Value)) (hL0 : lv_args 0 as = L0) (hpl : plainName (mtY M).cls = true) (hwM : wM M = .codeWith (mtY M) (mtC M) (mtL M) (mtT M) (mtH M)) (hlen : (lg_sl as).length ≤ mtL M) (k : WE M 0 L0 [] σ 0 0 (GQ M Q)) : CM M as σ Q := by
  subst hL0
  intro l D aC z sz hst
  refine vx_ofWH (cc := mtC M) (maxL := mtL M) (ret := mtT M) (hh := mtH M) hpl (by rw [hwM]) ?_
  intro p e s m args below meth c s₁ B hml hv
  obtain ⟨rfl, rfl, hP, hK, hF, hZ, hz⟩ := hv
  have hts := atoms_spec (ws := wM M :: WG) B.pre
  have htab := vx_table (x := mtY M) B (by rw [← hwM]; exact hts _ List.mem_cons_self)
  have hl := lv_entry (as.map (trv z)) (n := mtL M) (by rw [lg_sl_trv]; exact hlen)
  rw [lv_args_trv] at hl
  rw [lg_entry_eq]
  exact k l D aC z p e s m _ below meth c s.heap [] _ ⟨hst, B.exec, B.bytes, hml, B.returns, findClass_of_methodNamed B.named, fun w h => hts w (List.mem_cons_of_mem _ h), hK, hF, hZ, B.notSynchronized, htab, hz⟩ hP va_S.rf hl
/-- what a helper answers for the j-th exception that it catches -/
def cdI (j : Nat) : Int32 := match j with
  | 0 => (-1001 : Int32)
  | 1 => (-1002 : Int32)
  | _ => (-1003 : Int32)
def HQ (l : List String) (Q : AO → SS → Prop) : AO → SS → Prop := PI fun k σ' => Q (.inl (some (.int k))) σ' ∨ ∃ E j, Q (.inr E) σ' ∧ l[j]? = some E ∧ k = cdI j
def isI (Q : AO → SS → Prop) : Prop := ∀ v σ1, Q (.inl v) σ1 → ∃ r, v = some (.int r)
def isX (l : List String) (Q : AO → SS → Prop) : Prop := ∀ E σ1, Q (.inr E) σ1 → E ∈ l
theorem cv_L_7 : CVL RL 7 mX5_ring 5 1 := ⟨g_945, g_946, g_947, g_21, g_948, rfl, ⟨by decide +kernel, by decide +kernel, by decide +kernel⟩, rfl, by decide⟩
abbrev mL_ring : MT := (yL_ring, cL_ring, 3, some .int, { frames := 8, cells := 1, slots := 6, locals := 256 }, [(0, 5, 6, 13)])
set_option maxRecDepth 20000 in
set_option maxHeartbeats 1000000 in
theorem h_ring (σ : SS) (Q : AO → SS → Prop) (x : Int32) (hM : CM mX5_ring [.ref 0, .int x] σ Q) (hI : isI Q) (hX : isX [iaE] Q) : CM mL_ring [.ref 0, .int x] σ (HQ [iaE] Q) := by
  refine CM.ofH [(0, .ref 0), (1, .int x)] rfl (by decide +kernel) rfl (Nat.le_of_ble_eq_true rfl) ?_
  refine WE.aload_n (n := 1) dL_ring_0 rfl rfl ?_
  refine WE.iload_n (n := 2) dL_ring_1 rfl rfl ?_
  refine WE.V1G (M' := mX5_ring) (n := 5) dL_ring_2 rfl cv_L_7 (by decide) ⟨⟨by decide, by decide⟩, by decide, by decide⟩ (Nat.le_of_ble_eq_true rfl) hM (fun v σ1 q => ?_) (fun E σ1 q => ?_)
  · obtain ⟨r, rfl⟩ := hI _ _ q
    change WE _ 5 _ (.int r :: []) _ _ _ _
    refine WE.iret (ty := .int) dL_ring_5 rfl rfl ⟨by decide, by decide⟩ ?_
    exact PI.mk (Or.inl q)
  · have hE := hX _ _ q
    simp only [List.mem_cons, List.not_mem_nil, or_false] at hE
    subst hE
    refine WX.catchA (n := 7) (j := 2) [] (0, 5, 6, 13) [] rfl trivial rfl (by decide) g_319 t_417 dL_ring_6 (Or.inl ⟨2, rfl, rfl, rfl⟩) rfl (by decide) ?_
    refine WE.sipush (n := 10) ((-1001 : Int32)) dL_ring_7 rfl (by decide) ?_
    refine WE.iret (ty := .int) dL_ring_10 rfl rfl ⟨by decide, by decide⟩ ?_
    exact PI.mk (Or.inr ⟨_, 0, q, rfl, rfl⟩)
theorem cv_L_15 : CVL RL 15 mX5_wind 5 3 := ⟨g_956, g_957, g_958, g_21, g_959, rfl, ⟨by decide +kernel, by decide +kernel, by decide +kernel⟩, rfl, by decide⟩
abbrev mL_wind : MT := (yL_wind, cL_wind, 5, some .int, { frames := 8, cells := 1, slots := 6, locals := 256 }, [(0, 7, 8, 19), (0, 7, 14, 13)])
set_option maxRecDepth 20000 in
set_option maxHeartbeats 1000000 in
theorem h_wind (σ : SS) (Q : AO → SS → Prop) (x y z : Int32) (hM : CM mX5_wind [.ref 0, .int x, .int y, .int z] σ Q) (hI : isI Q) (hX : isX [ioE, iaE] Q) : CM mL_wind [.ref 0, .int x, .int y, .int z] σ (HQ [ioE, iaE] Q) := by
  refine CM.ofH [(0, .ref 0), (1, .int x), (2, .int y), (3, .int z)] rfl (by decide +kernel) rfl (Nat.le_of_ble_eq_true rfl) ?_
  refine WE.aload_n (n := 1) dL_wind_0 rfl rfl ?_
  refine WE.iload_n (n := 2) dL_wind_1 rfl rfl ?_
  refine WE.iload_n (n := 3) dL_wind_2 rfl rfl ?_
  refine WE.iload_n (n := 4) dL_wind_3 rfl rfl ?_
  refine WE.V3G (M' := mX5_wind) (n := 7) dL_wind_4 rfl cv_L_15 (by decide) ⟨⟨by decide, by decide⟩, by decide, by decide⟩ (Nat.le_of_ble_eq_true rfl) hM (fun v σ1 q => ?_) (fun E σ1 q => ?_)
  · obtain ⟨r, rfl⟩ := hI _ _ q
    change WE _ 7 _ (.int r :: []) _ _ _ _
    refine WE.iret (ty := .int) dL_wind_7 rfl rfl ⟨by decide, by decide⟩ ?_
    exact PI.mk (Or.inl q)
  · have hE := hX _ _ q
    simp only [List.mem_cons, List.not_mem_nil, or_false] at hE
    rcases hE with rfl | rfl
    · refine WX.catchA (n := 10) (j := 4) [] (0, 7, 8, 19) [(0, 7, 14, 13)] rfl trivial rfl (by decide) g_470 t_345 dL_wind_8 (Or.inr ⟨rfl, rfl⟩) rfl (by decide) ?_
      refine WE.sipush (n := 13) ((-1001 : Int32)) dL_wind_10 rfl (by decide) ?_
      refine WE.iret (ty := .int) dL_wind_13 rfl rfl ⟨by decide, by decide⟩ ?_
      exact PI.mk (Or.inr ⟨_, 0, q, rfl, rfl⟩)
    · refine WX.catchA (n := 16) (j := 4) [(0, 7, 8, 19)] (0, 7, 14, 13) [] rfl ⟨⟨_, by decide, g_470, by decide +kernel⟩, trivial⟩ rfl (by decide) g_319 t_417 dL_wind_14 (Or.inr ⟨rfl, rfl⟩) rfl (by decide) ?_
      refine WE.sipush (n := 19) ((-1002 : Int32)) dL_wind_16 rfl (by decide) ?_
      refine WE.iret (ty := .int) dL_wind_19 rfl rfl ⟨by decide, by decide⟩ ?_
      exact PI.mk (Or.inr ⟨_, 1, q, rfl, rfl⟩)
theorem cv_L_21 : CVL RL 21 mX5_gas 5 1 := ⟨g_320, g_321, g_322, g_21, g_323, rfl, ⟨by decide +kernel, by decide +kernel, by decide +kernel⟩, rfl, by decide⟩
abbrev mL_gas : MT := (yL_gas, cL_gas, 3, some .int, { frames := 8, cells := 1, slots := 6, locals := 256 }, [(0, 5, 6, 13)])
set_option maxRecDepth 20000 in
set_option maxHeartbeats 1000000 in
theorem h_gas (σ : SS) (Q : AO → SS → Prop) (x : Int32) (hM : CM mX5_gas [.ref 0, .int x] σ Q) (hI : isI Q) (hX : isX [iaE] Q) : CM mL_gas [.ref 0, .int x] σ (HQ [iaE] Q) := by
  refine CM.ofH [(0, .ref 0), (1, .int x)] rfl (by decide +kernel) rfl (Nat.le_of_ble_eq_true rfl) ?_
  refine WE.aload_n (n := 1) dL_gas_0 rfl rfl ?_
  refine WE.iload_n (n := 2) dL_gas_1 rfl rfl ?_
  refine WE.V1G (M' := mX5_gas) (n := 5) dL_gas_2 rfl cv_L_21 (by decide) ⟨⟨by decide, by decide⟩, by decide, by decide⟩ (Nat.le_of_ble_eq_true rfl) hM (fun v σ1 q => ?_) (fun E σ1 q => ?_)
  · obtain ⟨r, rfl⟩ := hI _ _ q
    change WE _ 5 _ (.int r :: []) _ _ _ _
    refine WE.iret (ty := .int) dL_gas_5 rfl rfl ⟨by decide, by decide⟩ ?_
    exact PI.mk (Or.inl q)
  · have hE := hX _ _ q
    simp only [List.mem_cons, List.not_mem_nil, or_false] at hE
    subst hE
    refine WX.catchA (n := 7) (j := 2) [] (0, 5, 6, 13) [] rfl trivial rfl (by decide) g_319 t_417 dL_gas_6 (Or.inl ⟨2, rfl, rfl, rfl⟩) rfl (by decide) ?_
    refine WE.sipush (n := 10) ((-1001 : Int32)) dL_gas_7 rfl (by decide) ?_
    refine WE.iret (ty := .int) dL_gas_10 rfl rfl ⟨by decide, by decide⟩ ?_
    exact PI.mk (Or.inr ⟨_, 0, q, rfl, rfl⟩)
theorem cv_L_24 : CVL RL 24 mX5_balloon 5 1 := ⟨g_455, g_456, g_457, g_21, g_458, rfl, ⟨by decide +kernel, by decide +kernel, by decide +kernel⟩, rfl, by decide⟩
abbrev mL_balloon : MT := (yL_balloon, cL_balloon, 3, some .int, { frames := 8, cells := 1, slots := 6, locals := 256 }, [(0, 5, 6, 13), (0, 5, 11, 27)])
set_option maxRecDepth 20000 in
set_option maxHeartbeats 1000000 in
theorem h_balloon (σ : SS) (Q : AO → SS → Prop) (x : Int32) (hM : CM mX5_balloon [.ref 0, .int x] σ Q) (hI : isI Q) (hX : isX [iaE, uoE] Q) : CM mL_balloon [.ref 0, .int x] σ (HQ [iaE, uoE] Q) := by
  refine CM.ofH [(0, .ref 0), (1, .int x)] rfl (by decide +kernel) rfl (Nat.le_of_ble_eq_true rfl) ?_
  refine WE.aload_n (n := 1) dL_balloon_0 rfl rfl ?_
  refine WE.iload_n (n := 2) dL_balloon_1 rfl rfl ?_
  refine WE.V1G (M' := mX5_balloon) (n := 5) dL_balloon_2 rfl cv_L_24 (by decide) ⟨⟨by decide, by decide⟩, by decide, by decide⟩ (Nat.le_of_ble_eq_true rfl) hM (fun v σ1 q => ?_) (fun E σ1 q => ?_)
  · obtain ⟨r, rfl⟩ := hI _ _ q
    change WE _ 5 _ (.int r :: []) _ _ _ _
    refine WE.iret (ty := .int) dL_balloon_5 rfl rfl ⟨by decide, by decide⟩ ?_
    exact PI.mk (Or.inl q)
  · have hE := hX _ _ q
    simp only [List.mem_cons, List.not_mem_nil, or_false] at hE
    rcases hE with rfl | rfl
    · refine WX.catchA (n := 7) (j := 2) [] (0, 5, 6, 13) [(0, 5, 11, 27)] rfl trivial rfl (by decide) g_319 t_417 dL_balloon_6 (Or.inl ⟨2, rfl, rfl, rfl⟩) rfl (by decide) ?_
      refine WE.sipush (n := 10) ((-1001 : Int32)) dL_balloon_7 rfl (by decide) ?_
      refine WE.iret (ty := .int) dL_balloon_10 rfl rfl ⟨by decide, by decide⟩ ?_
      exact PI.mk (Or.inr ⟨_, 0, q, rfl, rfl⟩)
    · refine WX.catchA (n := 12) (j := 2) [(0, 5, 6, 13)] (0, 5, 11, 27) [] rfl ⟨⟨_, by decide, g_319, by decide +kernel⟩, trivial⟩ rfl (by decide) g_454 t_433 dL_balloon_11 (Or.inl ⟨2, rfl, rfl, rfl⟩) rfl (by decide) ?_
      refine WE.sipush (n := 15) ((-1002 : Int32)) dL_balloon_12 rfl (by decide) ?_
      refine WE.iret (ty := .int) dL_balloon_15 rfl rfl ⟨by decide, by decide⟩ ?_
      exact PI.mk (Or.inr ⟨_, 1, q, rfl, rfl⟩)
theorem cv_L_29 : CVL RL 29 mX5_fill 5 2 := ⟨g_491, g_492, g_493, g_21, g_494, rfl, ⟨by decide +kernel, by decide +kernel, by decide +kernel⟩, rfl, by decide⟩
abbrev mL_fill : MT := (yL_fill, cL_fill, 4, some .int, { frames := 8, cells := 1, slots := 6, locals := 256 }, [(0, 6, 7, 19), (0, 6, 12, 13), (0, 6, 17, 27)])
set_option maxRecDepth 20000 in
set_option maxHeartbeats 1000000 in
theorem h_fill (σ : SS) (Q : AO → SS → Prop) (x y : Int32) (hM : CM mX5_fill [.ref 0, .int x, .int y] σ Q) (hI : isI Q) (hX : isX [ioE, iaE, uoE] Q) : CM mL_fill [.ref 0, .int x, .int y] σ (HQ [ioE, iaE, uoE] Q) := by
  refine CM.ofH [(0, .ref 0), (1, .int x), (2, .int y)] rfl (by decide +kernel) rfl (Nat.le_of_ble_eq_true rfl) ?_
  refine WE.aload_n (n := 1) dL_fill_0 rfl rfl ?_
  refine WE.iload_n (n := 2) dL_fill_1 rfl rfl ?_
  refine WE.iload_n (n := 3) dL_fill_2 rfl rfl ?_
  refine WE.V2G (M' := mX5_fill) (n := 6) dL_fill_3 rfl cv_L_29 (by decide) ⟨⟨by decide, by decide⟩, by decide, by decide⟩ (Nat.le_of_ble_eq_true rfl) hM (fun v σ1 q => ?_) (fun E σ1 q => ?_)
  · obtain ⟨r, rfl⟩ := hI _ _ q
    change WE _ 6 _ (.int r :: []) _ _ _ _
    refine WE.iret (ty := .int) dL_fill_6 rfl rfl ⟨by decide, by decide⟩ ?_
    exact PI.mk (Or.inl q)
  · have hE := hX _ _ q
    simp only [List.mem_cons, List.not_mem_nil, or_false] at hE
    rcases hE with rfl | rfl | rfl
    · refine WX.catchA (n := 8) (j := 3) [] (0, 6, 7, 19) [(0, 6, 12, 13), (0, 6, 17, 27)] rfl trivial rfl (by decide) g_470 t_345 dL_fill_7 (Or.inl ⟨3, rfl, rfl, rfl⟩) rfl (by decide) ?_
      refine WE.sipush (n := 11) ((-1001 : Int32)) dL_fill_8 rfl (by decide) ?_
      refine WE.iret (ty := .int) dL_fill_11 rfl rfl ⟨by decide, by decide⟩ ?_
      exact PI.mk (Or.inr ⟨_, 0, q, rfl, rfl⟩)
    · refine WX.catchA (n := 13) (j := 3) [(0, 6, 7, 19)] (0, 6, 12, 13) [(0, 6, 17, 27)] rfl ⟨⟨_, by decide, g_470, by decide +kernel⟩, trivial⟩ rfl (by decide) g_319 t_417 dL_fill_12 (Or.inl ⟨3, rfl, rfl, rfl⟩) rfl (by decide) ?_
      refine WE.sipush (n := 16) ((-1002 : Int32)) dL_fill_13 rfl (by decide) ?_
      refine WE.iret (ty := .int) dL_fill_16 rfl rfl ⟨by decide, by decide⟩ ?_
      exact PI.mk (Or.inr ⟨_, 1, q, rfl, rfl⟩)
    · refine WX.catchA (n := 18) (j := 3) [(0, 6, 7, 19), (0, 6, 12, 13)] (0, 6, 17, 27) [] rfl ⟨⟨_, by decide, g_470, by decide +kernel⟩, ⟨_, by decide, g_319, by decide +kernel⟩, trivial⟩ rfl (by decide) g_454 t_433 dL_fill_17 (Or.inl ⟨3, rfl, rfl, rfl⟩) rfl (by decide) ?_
      refine WE.sipush (n := 21) ((-1003 : Int32)) dL_fill_18 rfl (by decide) ?_
      refine WE.iret (ty := .int) dL_fill_21 rfl rfl ⟨by decide, by decide⟩ ?_
      exact PI.mk (Or.inr ⟨_, 2, q, rfl, rfl⟩)
theorem cv_L_33 : CVL RL 33 mX5_ballast 5 2 := ⟨g_506, g_507, g_508, g_21, g_509, rfl, ⟨by decide +kernel, by decide +kernel, by decide +kernel⟩, rfl, by decide⟩
abbrev mL_ballast : MT := (yL_ballast, cL_ballast, 4, some .int, { frames := 8, cells := 1, slots := 6, locals := 256 }, [(0, 6, 7, 19), (0, 6, 12, 13), (0, 6, 17, 27)])
set_option maxRecDepth 20000 in
set_option maxHeartbeats 1000000 in
theorem h_ballast (σ : SS) (Q : AO → SS → Prop) (x y : Int32) (hM : CM mX5_ballast [.ref 0, .int x, .int y] σ Q) (hI : isI Q) (hX : isX [ioE, iaE, uoE] Q) : CM mL_ballast [.ref 0, .int x, .int y] σ (HQ [ioE, iaE, uoE] Q) := by
  refine CM.ofH [(0, .ref 0), (1, .int x), (2, .int y)] rfl (by decide +kernel) rfl (Nat.le_of_ble_eq_true rfl) ?_
  refine WE.aload_n (n := 1) dL_ballast_0 rfl rfl ?_
  refine WE.iload_n (n := 2) dL_ballast_1 rfl rfl ?_
  refine WE.iload_n (n := 3) dL_ballast_2 rfl rfl ?_
  refine WE.V2G (M' := mX5_ballast) (n := 6) dL_ballast_3 rfl cv_L_33 (by decide) ⟨⟨by decide, by decide⟩, by decide, by decide⟩ (Nat.le_of_ble_eq_true rfl) hM (fun v σ1 q => ?_) (fun E σ1 q => ?_)
  · obtain ⟨r, rfl⟩ := hI _ _ q
    change WE _ 6 _ (.int r :: []) _ _ _ _
    refine WE.iret (ty := .int) dL_ballast_6 rfl rfl ⟨by decide, by decide⟩ ?_
    exact PI.mk (Or.inl q)
  · have hE := hX _ _ q
    simp only [List.mem_cons, List.not_mem_nil, or_false] at hE
    rcases hE with rfl | rfl | rfl
    · refine WX.catchA (n := 8) (j := 3) [] (0, 6, 7, 19) [(0, 6, 12, 13), (0, 6, 17, 27)] rfl trivial rfl (by decide) g_470 t_345 dL_ballast_7 (Or.inl ⟨3, rfl, rfl, rfl⟩) rfl (by decide) ?_
      refine WE.sipush (n := 11) ((-1001 : Int32)) dL_ballast_8 rfl (by decide) ?_
      refine WE.iret (ty := .int) dL_ballast_11 rfl rfl ⟨by decide, by decide⟩ ?_
      exact PI.mk (Or.inr ⟨_, 0, q, rfl, rfl⟩)
    · refine WX.catchA (n := 13) (j := 3) [(0, 6, 7, 19)] (0, 6, 12, 13) [(0, 6, 17, 27)] rfl ⟨⟨_, by decide, g_470, by decide +kernel⟩, trivial⟩ rfl (by decide) g_319 t_417 dL_ballast_12 (Or.inl ⟨3, rfl, rfl, rfl⟩) rfl (by decide) ?_
      refine WE.sipush (n := 16) ((-1002 : Int32)) dL_ballast_13 rfl (by decide) ?_
      refine WE.iret (ty := .int) dL_ballast_16 rfl rfl ⟨by decide, by decide⟩ ?_
      exact PI.mk (Or.inr ⟨_, 1, q, rfl, rfl⟩)
    · refine WX.catchA (n := 18) (j := 3) [(0, 6, 7, 19), (0, 6, 12, 13)] (0, 6, 17, 27) [] rfl ⟨⟨_, by decide, g_470, by decide +kernel⟩, ⟨_, by decide, g_319, by decide +kernel⟩, trivial⟩ rfl (by decide) g_454 t_433 dL_ballast_17 (Or.inl ⟨3, rfl, rfl, rfl⟩) rfl (by decide) ?_
      refine WE.sipush (n := 21) ((-1003 : Int32)) dL_ballast_18 rfl (by decide) ?_
      refine WE.iret (ty := .int) dL_ballast_21 rfl rfl ⟨by decide, by decide⟩ ?_
      exact PI.mk (Or.inr ⟨_, 2, q, rfl, rfl⟩)
theorem cv_L_36 : CVL RL 36 mX5_courier 5 2 := ⟨g_517, g_518, g_519, g_21, g_520, rfl, ⟨by decide +kernel, by decide +kernel, by decide +kernel⟩, rfl, by decide⟩
abbrev mL_courier : MT := (yL_courier, cL_courier, 4, some .int, { frames := 8, cells := 1, slots := 6, locals := 256 }, [(0, 6, 7, 19), (0, 6, 12, 13), (0, 6, 17, 27)])
set_option maxRecDepth 20000 in
set_option maxHeartbeats 1000000 in
theorem h_courier (σ : SS) (Q : AO → SS → Prop) (x y : Int32) (hM : CM mX5_courier [.ref 0, .int x, .int y] σ Q) (hI : isI Q) (hX : isX [ioE, iaE, uoE] Q) : CM mL_courier [.ref 0, .int x, .int y] σ (HQ [ioE, iaE, uoE] Q) := by
  refine CM.ofH [(0, .ref 0), (1, .int x), (2, .int y)] rfl (by decide +kernel) rfl (Nat.le_of_ble_eq_true rfl) ?_
  refine WE.aload_n (n := 1) dL_courier_0 rfl rfl ?_
  refine WE.iload_n (n := 2) dL_courier_1 rfl rfl ?_
  refine WE.iload_n (n := 3) dL_courier_2 rfl rfl ?_
  refine WE.V2G (M' := mX5_courier) (n := 6) dL_courier_3 rfl cv_L_36 (by decide) ⟨⟨by decide, by decide⟩, by decide, by decide⟩ (Nat.le_of_ble_eq_true rfl) hM (fun v σ1 q => ?_) (fun E σ1 q => ?_)
  · obtain ⟨r, rfl⟩ := hI _ _ q
    change WE _ 6 _ (.int r :: []) _ _ _ _
    refine WE.iret (ty := .int) dL_courier_6 rfl rfl ⟨by decide, by decide⟩ ?_
    exact PI.mk (Or.inl q)
  · have hE := hX _ _ q
    simp only [List.mem_cons, List.not_mem_nil, or_false] at hE
    rcases hE with rfl | rfl | rfl
    · refine WX.catchA (n := 8) (j := 3) [] (0, 6, 7, 19) [(0, 6, 12, 13), (0, 6, 17, 27)] rfl trivial rfl (by decide) g_470 t_345 dL_courier_7 (Or.inl ⟨3, rfl, rfl, rfl⟩) rfl (by decide) ?_
      refine WE.sipush (n := 11) ((-1001 : Int32)) dL_courier_8 rfl (by decide) ?_
      refine WE.iret (ty := .int) dL_courier_11 rfl rfl ⟨by decide, by decide⟩ ?_
      exact PI.mk (Or.inr ⟨_, 0, q, rfl, rfl⟩)
    · refine WX.catchA (n := 13) (j := 3) [(0, 6, 7, 19)] (0, 6, 12, 13) [(0, 6, 17, 27)] rfl ⟨⟨_, by decide, g_470, by decide +kernel⟩, trivial⟩ rfl (by decide) g_319 t_417 dL_courier_12 (Or.inl ⟨3, rfl, rfl, rfl⟩) rfl (by decide) ?_
      refine WE.sipush (n := 16) ((-1002 : Int32)) dL_courier_13 rfl (by decide) ?_
      refine WE.iret (ty := .int) dL_courier_16 rfl rfl ⟨by decide, by decide⟩ ?_
      exact PI.mk (Or.inr ⟨_, 1, q, rfl, rfl⟩)
    · refine WX.catchA (n := 18) (j := 3) [(0, 6, 7, 19), (0, 6, 12, 13)] (0, 6, 17, 27) [] rfl ⟨⟨_, by decide, g_470, by decide +kernel⟩, ⟨_, by decide, g_319, by decide +kernel⟩, trivial⟩ rfl (by decide) g_454 t_433 dL_courier_17 (Or.inl ⟨3, rfl, rfl, rfl⟩) rfl (by decide) ?_
      refine WE.sipush (n := 21) ((-1003 : Int32)) dL_courier_18 rfl (by decide) ?_
      refine WE.iret (ty := .int) dL_courier_21 rfl rfl ⟨by decide, by decide⟩ ?_
      exact PI.mk (Or.inr ⟨_, 2, q, rfl, rfl⟩)
theorem cv_L_39 : CVL RL 39 mX5_letter 5 2 := ⟨g_528, g_529, g_530, g_21, g_531, rfl, ⟨by decide +kernel, by decide +kernel, by decide +kernel⟩, rfl, by decide⟩
abbrev mL_letter : MT := (yL_letter, cL_letter, 4, some .int, { frames := 8, cells := 1, slots := 6, locals := 256 }, [(0, 6, 7, 13), (0, 6, 12, 27)])
set_option maxRecDepth 20000 in
set_option maxHeartbeats 1000000 in
theorem h_letter (σ : SS) (Q : AO → SS → Prop) (x y : Int32) (hM : CM mX5_letter [.ref 0, .int x, .int y] σ Q) (hI : isI Q) (hX : isX [iaE, uoE] Q) : CM mL_letter [.ref 0, .int x, .int y] σ (HQ [iaE, uoE] Q) := by
  refine CM.ofH [(0, .ref 0), (1, .int x), (2, .int y)] rfl (by decide +kernel) rfl (Nat.le_of_ble_eq_true rfl) ?_
  refine WE.aload_n (n := 1) dL_letter_0 rfl rfl ?_
  refine WE.iload_n (n := 2) dL_letter_1 rfl rfl ?_
  refine WE.iload_n (n := 3) dL_letter_2 rfl rfl ?_
  refine WE.V2G (M' := mX5_letter) (n := 6) dL_letter_3 rfl cv_L_39 (by decide) ⟨⟨by decide, by decide⟩, by decide, by decide⟩ (Nat.le_of_ble_eq_true rfl) hM (fun v σ1 q => ?_) (fun E σ1 q => ?_)
  · obtain ⟨r, rfl⟩ := hI _ _ q
    change WE _ 6 _ (.int r :: []) _ _ _ _
    refine WE.iret (ty := .int) dL_letter_6 rfl rfl ⟨by decide, by decide⟩ ?_
    exact PI.mk (Or.inl q)
  · have hE := hX _ _ q
    simp only [List.mem_cons, List.not_mem_nil, or_false] at hE
    rcases hE with rfl | rfl
    · refine WX.catchA (n := 8) (j := 3) [] (0, 6, 7, 13) [(0, 6, 12, 27)] rfl trivial rfl (by decide) g_319 t_417 dL_letter_7 (Or.inl ⟨3, rfl, rfl, rfl⟩) rfl (by decide) ?_
      refine WE.sipush (n := 11) ((-1001 : Int32)) dL_letter_8 rfl (by decide) ?_
      refine WE.iret (ty := .int) dL_letter_11 rfl rfl ⟨by decide, by decide⟩ ?_
      exact PI.mk (Or.inr ⟨_, 0, q, rfl, rfl⟩)
    · refine WX.catchA (n := 13) (j := 3) [(0, 6, 7, 13)] (0, 6, 12, 27) [] rfl ⟨⟨_, by decide, g_319, by decide +kernel⟩, trivial⟩ rfl (by decide) g_454 t_433 dL_letter_12 (Or.inl ⟨3, rfl, rfl, rfl⟩) rfl (by decide) ?_
      refine WE.sipush (n := 16) ((-1002 : Int32)) dL_letter_13 rfl (by decide) ?_
      refine WE.iret (ty := .int) dL_letter_16 rfl rfl ⟨by decide, by decide⟩ ?_
      exact PI.mk (Or.inr ⟨_, 1, q, rfl, rfl⟩)
theorem cv_L_42 : CVL RL 42 mX5_load 5 2 := ⟨g_539, g_540, g_541, g_21, g_542, rfl, ⟨by decide +kernel, by decide +kernel, by decide +kernel⟩, rfl, by decide⟩
abbrev mL_load : MT := (yL_load, cL_load, 4, some .int, { frames := 8, cells := 1, slots := 6, locals := 256 }, [(0, 6, 7, 19), (0, 6, 12, 27)])
set_option maxRecDepth 20000 in
set_option maxHeartbeats 1000000 in
theorem h_load (σ : SS) (Q : AO → SS → Prop) (x y : Int32) (hM : CM mX5_load [.ref 0, .int x, .int y] σ Q) (hI : isI Q) (hX : isX [ioE, uoE] Q) : CM mL_load [.ref 0, .int x, .int y] σ (HQ [ioE, uoE] Q) := by
  refine CM.ofH [(0, .ref 0), (1, .int x), (2, .int y)] rfl (by decide +kernel) rfl (Nat.le_of_ble_eq_true rfl) ?_
  refine WE.aload_n (n := 1) dL_load_0 rfl rfl ?_
  refine WE.iload_n (n := 2) dL_load_1 rfl rfl ?_
  refine WE.iload_n (n := 3) dL_load_2 rfl rfl ?_
  refine WE.V2G (M' := mX5_load) (n := 6) dL_load_3 rfl cv_L_42 (by decide) ⟨⟨by decide, by decide⟩, by decide, by decide⟩ (Nat.le_of_ble_eq_true rfl) hM (fun v σ1 q => ?_) (fun E σ1 q => ?_)
  · obtain ⟨r, rfl⟩ := hI _ _ q
    change WE _ 6 _ (.int r :: []) _ _ _ _
    refine WE.iret (ty := .int) dL_load_6 rfl rfl ⟨by decide, by decide⟩ ?_
    exact PI.mk (Or.inl q)
  · have hE := hX _ _ q
    simp only [List.mem_cons, List.not_mem_nil, or_false] at hE
    rcases hE with rfl | rfl
    · refine WX.catchA (n := 8) (j := 3) [] (0, 6, 7, 19) [(0, 6, 12, 27)] rfl trivial rfl (by decide) g_470 t_345 dL_load_7 (Or.inl ⟨3, rfl, rfl, rfl⟩) rfl (by decide) ?_
      refine WE.sipush (n := 11) ((-1001 : Int32)) dL_load_8 rfl (by decide) ?_
      refine WE.iret (ty := .int) dL_load_11 rfl rfl ⟨by decide, by decide⟩ ?_
      exact PI.mk (Or.inr ⟨_, 0, q, rfl, rfl⟩)
    · refine WX.catchA (n := 13) (j := 3) [(0, 6, 7, 19)] (0, 6, 12, 27) [] rfl ⟨⟨_, by decide, g_470, by decide +kernel⟩, trivial⟩ rfl (by decide) g_454 t_433 dL_load_12 (Or.inl ⟨3, rfl, rfl, rfl⟩) rfl (by decide) ?_
      refine WE.sipush (n := 16) ((-1002 : Int32)) dL_load_13 rfl (by decide) ?_
      refine WE.iret (ty := .int) dL_load_16 rfl rfl ⟨by decide, by decide⟩ ?_
      exact PI.mk (Or.inr ⟨_, 1, q, rfl, rfl⟩)
theorem cv_L_45 : CVL RL 45 mX5_loadAll 5 1 := ⟨g_566, g_567, g_568, g_21, g_569, rfl, ⟨by decide +kernel, by decide +kernel, by decide +kernel⟩, rfl, by decide⟩
abbrev mL_loadAll : MT := (yL_loadAll, cL_loadAll, 3, some .int, { frames := 8, cells := 1, slots := 6, locals := 256 }, [(0, 5, 6, 19), (0, 5, 11, 27)])
set_option maxRecDepth 20000 in
set_option maxHeartbeats 1000000 in
theorem h_loadAll (σ : SS) (Q : AO → SS → Prop) (x : Int32) (hM : CM mX5_loadAll [.ref 0, .int x] σ Q) (hI : isI Q) (hX : isX [ioE, uoE] Q) : CM mL_loadAll [.ref 0, .int x] σ (HQ [ioE, uoE] Q) := by
  refine CM.ofH [(0, .ref 0), (1, .int x)] rfl (by decide +kernel) rfl (Nat.le_of_ble_eq_true rfl) ?_
  refine WE.aload_n (n := 1) dL_loadAll_0 rfl rfl ?_
  refine WE.iload_n (n := 2) dL_loadAll_1 rfl rfl ?_
  refine WE.V1G (M' := mX5_loadAll) (n := 5) dL_loadAll_2 rfl cv_L_45 (by decide) ⟨⟨by decide, by decide⟩, by decide, by decide⟩ (Nat.le_of_ble_eq_true rfl) hM (fun v σ1 q => ?_) (fun E σ1 q => ?_)
  · obtain ⟨r, rfl⟩ := hI _ _ q
    change WE _ 5 _ (.int r :: []) _ _ _ _
    refine WE.iret (ty := .int) dL_loadAll_5 rfl rfl ⟨by decide, by decide⟩ ?_
    exact PI.mk (Or.inl q)
  · have hE := hX _ _ q
    simp only [List.mem_cons, List.not_mem_nil, or_false] at hE
    rcases hE with rfl | rfl
    · refine WX.catchA (n := 7) (j := 2) [] (0, 5, 6, 19) [(0, 5, 11, 27)] rfl trivial rfl (by decide) g_470 t_345 dL_loadAll_6 (Or.inl ⟨2, rfl, rfl, rfl⟩) rfl (by decide) ?_
      refine WE.sipush (n := 10) ((-1001 : Int32)) dL_loadAll_7 rfl (by decide) ?_
      refine WE.iret (ty := .int) dL_loadAll_10 rfl rfl ⟨by decide, by decide⟩ ?_
      exact PI.mk (Or.inr ⟨_, 0, q, rfl, rfl⟩)
    · refine WX.catchA (n := 12) (j := 2) [(0, 5, 6, 19)] (0, 5, 11, 27) [] rfl ⟨⟨_, by decide, g_470, by decide +kernel⟩, trivial⟩ rfl (by decide) g_454 t_433 dL_loadAll_11 (Or.inl ⟨2, rfl, rfl, rfl⟩) rfl (by decide) ?_
      refine WE.sipush (n := 15) ((-1002 : Int32)) dL_loadAll_12 rfl (by decide) ?_
      refine WE.iret (ty := .int) dL_loadAll_15 rfl rfl ⟨by decide, by decide⟩ ?_
      exact PI.mk (Or.inr ⟨_, 1, q, rfl, rfl⟩)
theorem cv_L_48 : CVL RL 48 mX5_launch 5 1 := ⟨g_582, g_583, g_584, g_21, g_585, rfl, ⟨by decide +kernel, by decide +kernel, by decide +kernel⟩, rfl, by decide⟩
abbrev mL_launch : MT := (yL_launch, cL_launch, 3, some .int, { frames := 8, cells := 1, slots := 6, locals := 256 }, [(0, 5, 6, 19), (0, 5, 11, 27)])
set_option maxRecDepth 20000 in
set_option maxHeartbeats 1000000 in
theorem h_launch (σ : SS) (Q : AO → SS → Prop) (x : Int32) (hM : CM mX5_launch [.ref 0, .int x] σ Q) (hI : isI Q) (hX : isX [ioE, uoE] Q) : CM mL_launch [.ref 0, .int x] σ (HQ [ioE, uoE] Q) := by
  refine CM.ofH [(0, .ref 0), (1, .int x)] rfl (by decide +kernel) rfl (Nat.le_of_ble_eq_true rfl) ?_
  refine WE.aload_n (n := 1) dL_launch_0 rfl rfl ?_
  refine WE.iload_n (n := 2) dL_launch_1 rfl rfl ?_
  refine WE.V1G (M' := mX5_launch) (n := 5) dL_launch_2 rfl cv_L_48 (by decide) ⟨⟨by decide, by decide⟩, by decide, by decide⟩ (Nat.le_of_ble_eq_true rfl) hM (fun v σ1 q => ?_) (fun E σ1 q => ?_)
  · obtain ⟨r, rfl⟩ := hI _ _ q
    change WE _ 5 _ (.int r :: []) _ _ _ _
    refine WE.iret (ty := .int) dL_launch_5 rfl rfl ⟨by decide, by decide⟩ ?_
    exact PI.mk (Or.inl q)
  · have hE := hX _ _ q
    simp only [List.mem_cons, List.not_mem_nil, or_false] at hE
    rcases hE with rfl | rfl
    · refine WX.catchA (n := 7) (j := 2) [] (0, 5, 6, 19) [(0, 5, 11, 27)] rfl trivial rfl (by decide) g_470 t_345 dL_launch_6 (Or.inl ⟨2, rfl, rfl, rfl⟩) rfl (by decide) ?_
      refine WE.sipush (n := 10) ((-1001 : Int32)) dL_launch_7 rfl (by decide) ?_
      refine WE.iret (ty := .int) dL_launch_10 rfl rfl ⟨by decide, by decide⟩ ?_
      exact PI.mk (Or.inr ⟨_, 0, q, rfl, rfl⟩)
    · refine WX.catchA (n := 12) (j := 2) [(0, 5, 6, 19)] (0, 5, 11, 27) [] rfl ⟨⟨_, by decide, g_470, by decide +kernel⟩, trivial⟩ rfl (by decide) g_454 t_433 dL_launch_11 (Or.inl ⟨2, rfl, rfl, rfl⟩) rfl (by decide) ?_
      refine WE.sipush (n := 15) ((-1002 : Int32)) dL_launch_12 rfl (by decide) ?_
      refine WE.iret (ty := .int) dL_launch_15 rfl rfl ⟨by decide, by decide⟩ ?_
      exact PI.mk (Or.inr ⟨_, 1, q, rfl, rfl⟩)
theorem cv_L_51 : CVL RL 51 mX5_drop 5 2 := ⟨g_1032, g_1033, g_1034, g_21, g_1035, rfl, ⟨by decide +kernel, by decide +kernel, by decide +kernel⟩, rfl, by decide⟩
abbrev mL_drop : MT := (yL_drop, cL_drop, 4, some .int, { frames := 8, cells := 1, slots := 6, locals := 256 }, [(0, 6, 7, 19), (0, 6, 12, 13), (0, 6, 17, 27)])
set_option maxRecDepth 20000 in
set_option maxHeartbeats 1000000 in
theorem h_drop (σ : SS) (Q : AO → SS → Prop) (x y : Int32) (hM : CM mX5_drop [.ref 0, .int x, .int y] σ Q) (hI : isI Q) (hX : isX [ioE, iaE, uoE] Q) : CM mL_drop [.ref 0, .int x, .int y] σ (HQ [ioE, iaE, uoE] Q) := by
  refine CM.ofH [(0, .ref 0), (1, .int x), (2, .int y)] rfl (by decide +kernel) rfl (Nat.le_of_ble_eq_true rfl) ?_
  refine WE.aload_n (n := 1) dL_drop_0 rfl rfl ?_
  refine WE.iload_n (n := 2) dL_drop_1 rfl rfl ?_
  refine WE.iload_n (n := 3) dL_drop_2 rfl rfl ?_
  refine WE.V2G (M' := mX5_drop) (n := 6) dL_drop_3 rfl cv_L_51 (by decide) ⟨⟨by decide, by decide⟩, by decide, by decide⟩ (Nat.le_of_ble_eq_true rfl) hM (fun v σ1 q => ?_) (fun E σ1 q => ?_)
  · obtain ⟨r, rfl⟩ := hI _ _ q
    change WE _ 6 _ (.int r :: []) _ _ _ _
    refine WE.iret (ty := .int) dL_drop_6 rfl rfl ⟨by decide, by decide⟩ ?_
    exact PI.mk (Or.inl q)
  · have hE := hX _ _ q
    simp only [List.mem_cons, List.not_mem_nil, or_false] at hE
    rcases hE with rfl | rfl | rfl
    · refine WX.catchA (n := 8) (j := 3) [] (0, 6, 7, 19) [(0, 6, 12, 13), (0, 6, 17, 27)] rfl trivial rfl (by decide) g_470 t_345 dL_drop_7 (Or.inl ⟨3, rfl, rfl, rfl⟩) rfl (by decide) ?_
      refine WE.sipush (n := 11) ((-1001 : Int32)) dL_drop_8 rfl (by decide) ?_
      refine WE.iret (ty := .int) dL_drop_11 rfl rfl ⟨by decide, by decide⟩ ?_
      exact PI.mk (Or.inr ⟨_, 0, q, rfl, rfl⟩)
    · refine WX.catchA (n := 13) (j := 3) [(0, 6, 7, 19)] (0, 6, 12, 13) [(0, 6, 17, 27)] rfl ⟨⟨_, by decide, g_470, by decide +kernel⟩, trivial⟩ rfl (by decide) g_319 t_417 dL_drop_12 (Or.inl ⟨3, rfl, rfl, rfl⟩) rfl (by decide) ?_
      refine WE.sipush (n := 16) ((-1002 : Int32)) dL_drop_13 rfl (by decide) ?_
      refine WE.iret (ty := .int) dL_drop_16 rfl rfl ⟨by decide, by decide⟩ ?_
      exact PI.mk (Or.inr ⟨_, 1, q, rfl, rfl⟩)
    · refine WX.catchA (n := 18) (j := 3) [(0, 6, 7, 19), (0, 6, 12, 13)] (0, 6, 17, 27) [] rfl ⟨⟨_, by decide, g_470, by decide +kernel⟩, ⟨_, by decide, g_319, by decide +kernel⟩, trivial⟩ rfl (by decide) g_454 t_433 dL_drop_17 (Or.inl ⟨3, rfl, rfl, rfl⟩) rfl (by decide) ?_
      refine WE.sipush (n := 21) ((-1003 : Int32)) dL_drop_18 rfl (by decide) ?_
      refine WE.iret (ty := .int) dL_drop_21 rfl rfl ⟨by decide, by decide⟩ ?_
      exact PI.mk (Or.inr ⟨_, 2, q, rfl, rfl⟩)
theorem cv_L_54 : CVL RL 54 mX5_pass 5 1 := ⟨g_597, g_598, g_599, g_21, g_600, rfl, ⟨by decide +kernel, by decide +kernel, by decide +kernel⟩, rfl, by decide⟩
abbrev mL_pass : MT := (yL_pass, cL_pass, 3, some .int, { frames := 8, cells := 1, slots := 6, locals := 256 }, [(0, 5, 6, 13)])
set_option maxRecDepth 20000 in
set_option maxHeartbeats 1000000 in
theorem h_pass (σ : SS) (Q : AO → SS → Prop) (x : Int32) (hM : CM mX5_pass [.ref 0, .int x] σ Q) (hI : isI Q) (hX : isX [iaE] Q) : CM mL_pass [.ref 0, .int x] σ (HQ [iaE] Q) := by
  refine CM.ofH [(0, .ref 0), (1, .int x)] rfl (by decide +kernel) rfl (Nat.le_of_ble_eq_true rfl) ?_
  refine WE.aload_n (n := 1) dL_pass_0 rfl rfl ?_
  refine WE.iload_n (n := 2) dL_pass_1 rfl rfl ?_
  refine WE.V1G (M' := mX5_pass) (n := 5) dL_pass_2 rfl cv_L_54 (by decide) ⟨⟨by decide, by decide⟩, by decide, by decide⟩ (Nat.le_of_ble_eq_true rfl) hM (fun v σ1 q => ?_) (fun E σ1 q => ?_)
  · obtain ⟨r, rfl⟩ := hI _ _ q
    change WE _ 5 _ (.int r :: []) _ _ _ _
    refine WE.iret (ty := .int) dL_pass_5 rfl rfl ⟨by decide, by decide⟩ ?_
    exact PI.mk (Or.inl q)
  · have hE := hX _ _ q
    simp only [List.mem_cons, List.not_mem_nil, or_false] at hE
    subst hE
    refine WX.catchA (n := 7) (j := 2) [] (0, 5, 6, 13) [] rfl trivial rfl (by decide) g_319 t_417 dL_pass_6 (Or.inl ⟨2, rfl, rfl, rfl⟩) rfl (by decide) ?_
    refine WE.sipush (n := 10) ((-1001 : Int32)) dL_pass_7 rfl (by decide) ?_
    refine WE.iret (ty := .int) dL_pass_10 rfl rfl ⟨by decide, by decide⟩ ?_
    exact PI.mk (Or.inr ⟨_, 0, q, rfl, rfl⟩)
theorem cv_L_57 : CVL RL 57 mX5_balloonOf 5 2 := ⟨g_644, g_645, g_646, g_21, g_647, rfl, ⟨by decide +kernel, by decide +kernel, by decide +kernel⟩, rfl, by decide⟩
abbrev mL_balloonOf : MT := (yL_balloonOf, cL_balloonOf, 4, some .int, { frames := 8, cells := 2, slots := 12, locals := 256 }, [(0, 6, 7, 19), (0, 6, 12, 13)])
set_option maxRecDepth 20000 in
set_option maxHeartbeats 1000000 in
theorem h_balloonOf (σ : SS) (Q : AO → SS → Prop) (x y : Int32) (hM : CM mX5_balloonOf [.ref 0, .int x, .int y] σ Q) (hI : isI Q) (hX : isX [ioE, iaE] Q) : CM mL_balloonOf [.ref 0, .int x, .int y] σ (HQ [ioE, iaE] Q) := by
  refine CM.ofH [(0, .ref 0), (1, .int x), (2, .int y)] rfl (by decide +kernel) rfl (Nat.le_of_ble_eq_true rfl) ?_
  refine WE.aload_n (n := 1) dL_balloonOf_0 rfl rfl ?_
  refine WE.iload_n (n := 2) dL_balloonOf_1 rfl rfl ?_
  refine WE.iload_n (n := 3) dL_balloonOf_2 rfl rfl ?_
  refine WE.V2G (M' := mX5_balloonOf) (n := 6) dL_balloonOf_3 rfl cv_L_57 (by decide) ⟨⟨by decide, by decide⟩, by decide, by decide⟩ (Nat.le_of_ble_eq_true rfl) hM (fun v σ1 q => ?_) (fun E σ1 q => ?_)
  · obtain ⟨r, rfl⟩ := hI _ _ q
    change WE _ 6 _ (.int r :: []) _ _ _ _
    refine WE.iret (ty := .int) dL_balloonOf_6 rfl rfl ⟨by decide, by decide⟩ ?_
    exact PI.mk (Or.inl q)
  · have hE := hX _ _ q
    simp only [List.mem_cons, List.not_mem_nil, or_false] at hE
    rcases hE with rfl | rfl
    · refine WX.catchA (n := 8) (j := 3) [] (0, 6, 7, 19) [(0, 6, 12, 13)] rfl trivial rfl (by decide) g_470 t_345 dL_balloonOf_7 (Or.inl ⟨3, rfl, rfl, rfl⟩) rfl (by decide) ?_
      refine WE.sipush (n := 11) ((-1001 : Int32)) dL_balloonOf_8 rfl (by decide) ?_
      refine WE.iret (ty := .int) dL_balloonOf_11 rfl rfl ⟨by decide, by decide⟩ ?_
      exact PI.mk (Or.inr ⟨_, 0, q, rfl, rfl⟩)
    · refine WX.catchA (n := 13) (j := 3) [(0, 6, 7, 19)] (0, 6, 12, 13) [] rfl ⟨⟨_, by decide, g_470, by decide +kernel⟩, trivial⟩ rfl (by decide) g_319 t_417 dL_balloonOf_12 (Or.inl ⟨3, rfl, rfl, rfl⟩) rfl (by decide) ?_
      refine WE.sipush (n := 16) ((-1002 : Int32)) dL_balloonOf_13 rfl (by decide) ?_
      refine WE.iret (ty := .int) dL_balloonOf_16 rfl rfl ⟨by decide, by decide⟩ ?_
      exact PI.mk (Or.inr ⟨_, 1, q, rfl, rfl⟩)
theorem cv_L_60 : CVL RL 60 mX5_letterOf 5 2 := ⟨g_998, g_999, g_1000, g_21, g_1001, rfl, ⟨by decide +kernel, by decide +kernel, by decide +kernel⟩, rfl, by decide⟩
abbrev mL_letterOf : MT := (yL_letterOf, cL_letterOf, 4, some .int, { frames := 7, cells := 1, slots := 6, locals := 224 }, [(0, 6, 7, 19), (0, 6, 12, 13)])
set_option maxRecDepth 20000 in
set_option maxHeartbeats 1000000 in
theorem h_letterOf (σ : SS) (Q : AO → SS → Prop) (x y : Int32) (hM : CM mX5_letterOf [.ref 0, .int x, .int y] σ Q) (hI : isI Q) (hX : isX [ioE, iaE] Q) : CM mL_letterOf [.ref 0, .int x, .int y] σ (HQ [ioE, iaE] Q) := by
  refine CM.ofH [(0, .ref 0), (1, .int x), (2, .int y)] rfl (by decide +kernel) rfl (Nat.le_of_ble_eq_true rfl) ?_
  refine WE.aload_n (n := 1) dL_letterOf_0 rfl rfl ?_
  refine WE.iload_n (n := 2) dL_letterOf_1 rfl rfl ?_
  refine WE.iload_n (n := 3) dL_letterOf_2 rfl rfl ?_
  refine WE.V2G (M' := mX5_letterOf) (n := 6) dL_letterOf_3 rfl cv_L_60 (by decide) ⟨⟨by decide, by decide⟩, by decide, by decide⟩ (Nat.le_of_ble_eq_true rfl) hM (fun v σ1 q => ?_) (fun E σ1 q => ?_)
  · obtain ⟨r, rfl⟩ := hI _ _ q
    change WE _ 6 _ (.int r :: []) _ _ _ _
    refine WE.iret (ty := .int) dL_letterOf_6 rfl rfl ⟨by decide, by decide⟩ ?_
    exact PI.mk (Or.inl q)
  · have hE := hX _ _ q
    simp only [List.mem_cons, List.not_mem_nil, or_false] at hE
    rcases hE with rfl | rfl
    · refine WX.catchA (n := 8) (j := 3) [] (0, 6, 7, 19) [(0, 6, 12, 13)] rfl trivial rfl (by decide) g_470 t_345 dL_letterOf_7 (Or.inl ⟨3, rfl, rfl, rfl⟩) rfl (by decide) ?_
      refine WE.sipush (n := 11) ((-1001 : Int32)) dL_letterOf_8 rfl (by decide) ?_
      refine WE.iret (ty := .int) dL_letterOf_11 rfl rfl ⟨by decide, by decide⟩ ?_
      exact PI.mk (Or.inr ⟨_, 0, q, rfl, rfl⟩)
    · refine WX.catchA (n := 13) (j := 3) [(0, 6, 7, 19)] (0, 6, 12, 13) [] rfl ⟨⟨_, by decide, g_470, by decide +kernel⟩, trivial⟩ rfl (by decide) g_319 t_417 dL_letterOf_12 (Or.inl ⟨3, rfl, rfl, rfl⟩) rfl (by decide) ?_
      refine WE.sipush (n := 16) ((-1002 : Int32)) dL_letterOf_13 rfl (by decide) ?_
      refine WE.iret (ty := .int) dL_letterOf_16 rfl rfl ⟨by decide, by decide⟩ ?_
      exact PI.mk (Or.inr ⟨_, 1, q, rfl, rfl⟩)
theorem cv_L_63 : CVL RL 63 mX5_weightAgain 5 1 := ⟨g_987, g_988, g_989, g_21, g_990, rfl, ⟨by decide +kernel, by decide +kernel, by decide +kernel⟩, rfl, by decide⟩
abbrev mL_weightAgain : MT := (yL_weightAgain, cL_weightAgain, 3, some .int, { frames := 8, cells := 1, slots := 6, locals := 256 }, [(0, 5, 6, 19)])
set_option maxRecDepth 20000 in
set_option maxHeartbeats 1000000 in
theorem h_weightAgain (σ : SS) (Q : AO → SS → Prop) (x : Int32) (hM : CM mX5_weightAgain [.ref 0, .int x] σ Q) (hI : isI Q) (hX : isX [ioE] Q) : CM mL_weightAgain [.ref 0, .int x] σ (HQ [ioE] Q) := by
  refine CM.ofH [(0, .ref 0), (1, .int x)] rfl (by decide +kernel) rfl (Nat.le_of_ble_eq_true rfl) ?_
  refine WE.aload_n (n := 1) dL_weightAgain_0 rfl rfl ?_
  refine WE.iload_n (n := 2) dL_weightAgain_1 rfl rfl ?_
  refine WE.V1G (M' := mX5_weightAgain) (n := 5) dL_weightAgain_2 rfl cv_L_63 (by decide) ⟨⟨by decide, by decide⟩, by decide, by decide⟩ (Nat.le_of_ble_eq_true rfl) hM (fun v σ1 q => ?_) (fun E σ1 q => ?_)
  · obtain ⟨r, rfl⟩ := hI _ _ q
    change WE _ 5 _ (.int r :: []) _ _ _ _
    refine WE.iret (ty := .int) dL_weightAgain_5 rfl rfl ⟨by decide, by decide⟩ ?_
    exact PI.mk (Or.inl q)
  · have hE := hX _ _ q
    simp only [List.mem_cons, List.not_mem_nil, or_false] at hE
    subst hE
    refine WX.catchA (n := 7) (j := 2) [] (0, 5, 6, 19) [] rfl trivial rfl (by decide) g_470 t_345 dL_weightAgain_6 (Or.inl ⟨2, rfl, rfl, rfl⟩) rfl (by decide) ?_
    refine WE.sipush (n := 10) ((-1001 : Int32)) dL_weightAgain_7 rfl (by decide) ?_
    refine WE.iret (ty := .int) dL_weightAgain_10 rfl rfl ⟨by decide, by decide⟩ ?_
    exact PI.mk (Or.inr ⟨_, 0, q, rfl, rfl⟩)
theorem cv_L_66 : CVL RL 66 mX5_waiting 5 1 := ⟨g_664, g_665, g_666, g_21, g_667, rfl, ⟨by decide +kernel, by decide +kernel, by decide +kernel⟩, rfl, by decide⟩
abbrev mL_waiting : MT := (yL_waiting, cL_waiting, 3, some .int, { frames := 7, cells := 1, slots := 6, locals := 224 }, [(0, 5, 6, 69)])
set_option maxRecDepth 20000 in
set_option maxHeartbeats 1000000 in
theorem h_waiting (σ : SS) (Q : AO → SS → Prop) (x : Int32) (hM : CM mX5_waiting [.ref 0, .int x] σ Q) (hI : isI Q) (hX : isX [nsE] Q) : CM mL_waiting [.ref 0, .int x] σ (HQ [nsE] Q) := by
  refine CM.ofH [(0, .ref 0), (1, .int x)] rfl (by decide +kernel) rfl (Nat.le_of_ble_eq_true rfl) ?_
  refine WE.aload_n (n := 1) dL_waiting_0 rfl rfl ?_
  refine WE.iload_n (n := 2) dL_waiting_1 rfl rfl ?_
  refine WE.V1G (M' := mX5_waiting) (n := 5) dL_waiting_2 rfl cv_L_66 (by decide) ⟨⟨by decide, by decide⟩, by decide, by decide⟩ (Nat.le_of_ble_eq_true rfl) hM (fun v σ1 q => ?_) (fun E σ1 q => ?_)
  · obtain ⟨r, rfl⟩ := hI _ _ q
    change WE _ 5 _ (.int r :: []) _ _ _ _
    refine WE.iret (ty := .int) dL_waiting_5 rfl rfl ⟨by decide, by decide⟩ ?_
    exact PI.mk (Or.inl q)
  · have hE := hX _ _ q
    simp only [List.mem_cons, List.not_mem_nil, or_false] at hE
    subst hE
    refine WX.catchA (n := 7) (j := 2) [] (0, 5, 6, 69) [] rfl trivial rfl (by decide) g_663 t_674 dL_waiting_6 (Or.inl ⟨2, rfl, rfl, rfl⟩) rfl (by decide) ?_
    refine WE.sipush (n := 10) ((-1001 : Int32)) dL_waiting_7 rfl (by decide) ?_
    refine WE.iret (ty := .int) dL_waiting_10 rfl rfl ⟨by decide, by decide⟩ ?_
    exact PI.mk (Or.inr ⟨_, 0, q, rfl, rfl⟩)
theorem cv_L_71 : CVL RL 71 mX5_word 5 1 := ⟨g_691, g_692, g_693, g_21, g_694, rfl, ⟨by decide +kernel, by decide +kernel, by decide +kernel⟩, rfl, by decide⟩
abbrev mL_word : MT := (yL_word, cL_word, 3, some .int, { frames := 8, cells := 2, slots := 12, locals := 256 }, [(0, 5, 6, 19), (0, 5, 11, 69)])
set_option maxRecDepth 20000 in
set_option maxHeartbeats 1000000 in
theorem h_word (σ : SS) (Q : AO → SS → Prop) (x : Int32) (hM : CM mX5_word [.ref 0, .int x] σ Q) (hI : isI Q) (hX : isX [ioE, nsE] Q) : CM mL_word [.ref 0, .int x] σ (HQ [ioE, nsE] Q) := by
  refine CM.ofH [(0, .ref 0), (1, .int x)] rfl (by decide +kernel) rfl (Nat.le_of_ble_eq_true rfl) ?_
  refine WE.aload_n (n := 1) dL_word_0 rfl rfl ?_
  refine WE.iload_n (n := 2) dL_word_1 rfl rfl ?_
  refine WE.V1G (M' := mX5_word) (n := 5) dL_word_2 rfl cv_L_71 (by decide) ⟨⟨by decide, by decide⟩, by decide, by decide⟩ (Nat.le_of_ble_eq_true rfl) hM (fun v σ1 q => ?_) (fun E σ1 q => ?_)
  · obtain ⟨r, rfl⟩ := hI _ _ q
    change WE _ 5 _ (.int r :: []) _ _ _ _
    refine WE.iret (ty := .int) dL_word_5 rfl rfl ⟨by decide, by decide⟩ ?_
    exact PI.mk (Or.inl q)
  · have hE := hX _ _ q
    simp only [List.mem_cons, List.not_mem_nil, or_false] at hE
    rcases hE with rfl | rfl
    · refine WX.catchA (n := 7) (j := 2) [] (0, 5, 6, 19) [(0, 5, 11, 69)] rfl trivial rfl (by decide) g_470 t_345 dL_word_6 (Or.inl ⟨2, rfl, rfl, rfl⟩) rfl (by decide) ?_
      refine WE.sipush (n := 10) ((-1001 : Int32)) dL_word_7 rfl (by decide) ?_
      refine WE.iret (ty := .int) dL_word_10 rfl rfl ⟨by decide, by decide⟩ ?_
      exact PI.mk (Or.inr ⟨_, 0, q, rfl, rfl⟩)
    · refine WX.catchA (n := 12) (j := 2) [(0, 5, 6, 19)] (0, 5, 11, 69) [] rfl ⟨⟨_, by decide, g_470, by decide +kernel⟩, trivial⟩ rfl (by decide) g_663 t_674 dL_word_11 (Or.inl ⟨2, rfl, rfl, rfl⟩) rfl (by decide) ?_
      refine WE.sipush (n := 15) ((-1002 : Int32)) dL_word_12 rfl (by decide) ?_
      refine WE.iret (ty := .int) dL_word_15 rfl rfl ⟨by decide, by decide⟩ ?_
      exact PI.mk (Or.inr ⟨_, 1, q, rfl, rfl⟩)
theorem cv_L_74 : CVL RL 74 mX5_sign 5 1 := ⟨g_703, g_704, g_705, g_21, g_706, rfl, ⟨by decide +kernel, by decide +kernel, by decide +kernel⟩, rfl, by decide⟩
abbrev mL_sign : MT := (yL_sign, cL_sign, 3, some .int, { frames := 8, cells := 1, slots := 6, locals := 256 }, [(0, 5, 6, 19)])
set_option maxRecDepth 20000 in
set_option maxHeartbeats 1000000 in
theorem h_sign (σ : SS) (Q : AO → SS → Prop) (x : Int32) (hM : CM mX5_sign [.ref 0, .int x] σ Q) (hI : isI Q) (hX : isX [ioE] Q) : CM mL_sign [.ref 0, .int x] σ (HQ [ioE] Q) := by
  refine CM.ofH [(0, .ref 0), (1, .int x)] rfl (by decide +kernel) rfl (Nat.le_of_ble_eq_true rfl) ?_
  refine WE.aload_n (n := 1) dL_sign_0 rfl rfl ?_
  refine WE.iload_n (n := 2) dL_sign_1 rfl rfl ?_
  refine WE.V1G (M' := mX5_sign) (n := 5) dL_sign_2 rfl cv_L_74 (by decide) ⟨⟨by decide, by decide⟩, by decide, by decide⟩ (Nat.le_of_ble_eq_true rfl) hM (fun v σ1 q => ?_) (fun E σ1 q => ?_)
  · obtain ⟨r, rfl⟩ := hI _ _ q
    change WE _ 5 _ (.int r :: []) _ _ _ _
    refine WE.iret (ty := .int) dL_sign_5 rfl rfl ⟨by decide, by decide⟩ ?_
    exact PI.mk (Or.inl q)
  · have hE := hX _ _ q
    simp only [List.mem_cons, List.not_mem_nil, or_false] at hE
    subst hE
    refine WX.catchA (n := 7) (j := 2) [] (0, 5, 6, 19) [] rfl trivial rfl (by decide) g_470 t_345 dL_sign_6 (Or.inl ⟨2, rfl, rfl, rfl⟩) rfl (by decide) ?_
    refine WE.sipush (n := 10) ((-1001 : Int32)) dL_sign_7 rfl (by decide) ?_
    refine WE.iret (ty := .int) dL_sign_10 rfl rfl ⟨by decide, by decide⟩ ?_
    exact PI.mk (Or.inr ⟨_, 0, q, rfl, rfl⟩)
theorem cv_L_78 : CVL RL 78 mX5_isWithin 5 2 := ⟨g_1012, g_1013, g_1014, g_21, g_1015, rfl, ⟨by decide +kernel, by decide +kernel, by decide +kernel⟩, rfl, by decide⟩
abbrev mL_isWithin : MT := (yL_isWithin, cL_isWithin, 4, some .int, { frames := 7, cells := 1, slots := 6, locals := 224 }, [(0, 14, 15, 19)])
set_option maxRecDepth 20000 in
set_option maxHeartbeats 1000000 in
theorem h_isWithin (σ : SS) (Q : AO → SS → Prop) (x y : Int32) (hM : CM mX5_isWithin [.ref 0, .int x, .int y] σ Q) (hI : isI Q) (hX : isX [ioE] Q) (hB : ∀ r σ1, Q (.inl (some (.int r))) σ1 → r = nI 0 ∨ r = nI 1) : CM mL_isWithin [.ref 0, .int x, .int y] σ (HQ [ioE] Q) := by
  refine CM.ofH [(0, .ref 0), (1, .int x), (2, .int y)] rfl (by decide +kernel) rfl (Nat.le_of_ble_eq_true rfl) ?_
  refine WE.aload_n (n := 1) dL_isWithin_0 rfl rfl ?_
  refine WE.iload_n (n := 2) dL_isWithin_1 rfl rfl ?_
  refine WE.iload_n (n := 3) dL_isWithin_2 rfl rfl ?_
  refine WE.V2G (M' := mX5_isWithin) (n := 6) dL_isWithin_3 rfl cv_L_78 (by decide) ⟨⟨by decide, by decide⟩, by decide, by decide⟩ (Nat.le_of_ble_eq_true rfl) hM (fun v σ1 q => ?_) (fun E σ1 q => ?_)
  · obtain ⟨r, rfl⟩ := hI _ _ q
    change WE _ 6 _ (.int r :: []) _ _ _ _
    rcases hB _ _ q with rfl | rfl
    · refine WE.if_eq (n := 9) (tgt := 13) dL_isWithin_6 rfl (by decide) (fun h8 => ?_) (fun h8 => ?_)
      · refine WE.iconst (n := 14) (nI 0) dL_isWithin_13 rfl (by decide) ?_
        refine WE.iret (ty := .int) dL_isWithin_14 rfl rfl ⟨by decide, by decide⟩ ?_
        exact PI.mk (Or.inl q)
      · exact absurd rfl h8
    · refine WE.if_eq (n := 9) (tgt := 13) dL_isWithin_6 rfl (by decide) (fun h8 => ?_) (fun h8 => ?_)
      · exact absurd h8 (by decide)
      · refine WE.iconst (n := 10) (nI 1) dL_isWithin_9 rfl (by decide) ?_
        refine WE.goto (tgt := 14) dL_isWithin_10 (by decide) ?_
        refine WE.iret (ty := .int) dL_isWithin_14 rfl rfl ⟨by decide, by decide⟩ ?_
        exact PI.mk (Or.inl q)
  · have hE := hX _ _ q
    simp only [List.mem_cons, List.not_mem_nil, or_false] at hE
    subst hE
    refine WX.catchA (n := 16) (j := 3) [] (0, 14, 15, 19) [] rfl trivial rfl (by decide) g_470 t_345 dL_isWithin_15 (Or.inl ⟨3, rfl, rfl, rfl⟩) rfl (by decide) ?_
    refine WE.sipush (n := 19) ((-1001 : Int32)) dL_isWithin_16 rfl (by decide) ?_
    refine WE.iret (ty := .int) dL_isWithin_19 rfl rfl ⟨by decide, by decide⟩ ?_
    exact PI.mk (Or.inr ⟨_, 0, q, rfl, rfl⟩)
theorem cv_L_82 : CVL RL 82 mX5_endsIn 5 1 := ⟨g_710, g_711, g_712, g_21, g_713, rfl, ⟨by decide +kernel, by decide +kernel, by decide +kernel⟩, rfl, by decide⟩
abbrev mL_endsIn : MT := (yL_endsIn, cL_endsIn, 3, some .int, { frames := 8, cells := 2, slots := 12, locals := 256 }, [(0, 5, 6, 19), (0, 5, 11, 69)])
set_option maxRecDepth 20000 in
set_option maxHeartbeats 1000000 in
theorem h_endsIn (σ : SS) (Q : AO → SS → Prop) (x : Int32) (hM : CM mX5_endsIn [.ref 0, .int x] σ Q) (hI : isI Q) (hX : isX [ioE, nsE] Q) : CM mL_endsIn [.ref 0, .int x] σ (HQ [ioE, nsE] Q) := by
  refine CM.ofH [(0, .ref 0), (1, .int x)] rfl (by decide +kernel) rfl (Nat.le_of_ble_eq_true rfl) ?_
  refine WE.aload_n (n := 1) dL_endsIn_0 rfl rfl ?_
  refine WE.iload_n (n := 2) dL_endsIn_1 rfl rfl ?_
  refine WE.V1G (M' := mX5_endsIn) (n := 5) dL_endsIn_2 rfl cv_L_82 (by decide) ⟨⟨by decide, by decide⟩, by decide, by decide⟩ (Nat.le_of_ble_eq_true rfl) hM (fun v σ1 q => ?_) (fun E σ1 q => ?_)
  · obtain ⟨r, rfl⟩ := hI _ _ q
    change WE _ 5 _ (.int r :: []) _ _ _ _
    refine WE.iret (ty := .int) dL_endsIn_5 rfl rfl ⟨by decide, by decide⟩ ?_
    exact PI.mk (Or.inl q)
  · have hE := hX _ _ q
    simp only [List.mem_cons, List.not_mem_nil, or_false] at hE
    rcases hE with rfl | rfl
    · refine WX.catchA (n := 7) (j := 2) [] (0, 5, 6, 19) [(0, 5, 11, 69)] rfl trivial rfl (by decide) g_470 t_345 dL_endsIn_6 (Or.inl ⟨2, rfl, rfl, rfl⟩) rfl (by decide) ?_
      refine WE.sipush (n := 10) ((-1001 : Int32)) dL_endsIn_7 rfl (by decide) ?_
      refine WE.iret (ty := .int) dL_endsIn_10 rfl rfl ⟨by decide, by decide⟩ ?_
      exact PI.mk (Or.inr ⟨_, 0, q, rfl, rfl⟩)
    · refine WX.catchA (n := 12) (j := 2) [(0, 5, 6, 19)] (0, 5, 11, 69) [] rfl ⟨⟨_, by decide, g_470, by decide +kernel⟩, trivial⟩ rfl (by decide) g_663 t_674 dL_endsIn_11 (Or.inl ⟨2, rfl, rfl, rfl⟩) rfl (by decide) ?_
      refine WE.sipush (n := 15) ((-1002 : Int32)) dL_endsIn_12 rfl (by decide) ?_
      refine WE.iret (ty := .int) dL_endsIn_15 rfl rfl ⟨by decide, by decide⟩ ?_
      exact PI.mk (Or.inr ⟨_, 1, q, rfl, rfl⟩)
theorem cv_L_85 : CVL RL 85 mX5_ends 5 2 := ⟨g_726, g_727, g_728, g_21, g_729, rfl, ⟨by decide +kernel, by decide +kernel, by decide +kernel⟩, rfl, by decide⟩
abbrev mL_ends : MT := (yL_ends, cL_ends, 4, some .int, { frames := 8, cells := 3, slots := 18, locals := 256 }, [(0, 6, 7, 19), (0, 6, 12, 13), (0, 6, 17, 69)])
set_option maxRecDepth 20000 in
set_option maxHeartbeats 1000000 in
theorem h_ends (σ : SS) (Q : AO → SS → Prop) (x y : Int32) (hM : CM mX5_ends [.ref 0, .int x, .int y] σ Q) (hI : isI Q) (hX : isX [ioE, iaE, nsE] Q) : CM mL_ends [.ref 0, .int x, .int y] σ (HQ [ioE, iaE, nsE] Q) := by
  refine CM.ofH [(0, .ref 0), (1, .int x), (2, .int y)] rfl (by decide +kernel) rfl (Nat.le_of_ble_eq_true rfl) ?_
  refine WE.aload_n (n := 1) dL_ends_0 rfl rfl ?_
  refine WE.iload_n (n := 2) dL_ends_1 rfl rfl ?_
  refine WE.iload_n (n := 3) dL_ends_2 rfl rfl ?_
  refine WE.V2G (M' := mX5_ends) (n := 6) dL_ends_3 rfl cv_L_85 (by decide) ⟨⟨by decide, by decide⟩, by decide, by decide⟩ (Nat.le_of_ble_eq_true rfl) hM (fun v σ1 q => ?_) (fun E σ1 q => ?_)
  · obtain ⟨r, rfl⟩ := hI _ _ q
    change WE _ 6 _ (.int r :: []) _ _ _ _
    refine WE.iret (ty := .int) dL_ends_6 rfl rfl ⟨by decide, by decide⟩ ?_
    exact PI.mk (Or.inl q)
  · have hE := hX _ _ q
    simp only [List.mem_cons, List.not_mem_nil, or_false] at hE
    rcases hE with rfl | rfl | rfl
    · refine WX.catchA (n := 8) (j := 3) [] (0, 6, 7, 19) [(0, 6, 12, 13), (0, 6, 17, 69)] rfl trivial rfl (by decide) g_470 t_345 dL_ends_7 (Or.inl ⟨3, rfl, rfl, rfl⟩) rfl (by decide) ?_
      refine WE.sipush (n := 11) ((-1001 : Int32)) dL_ends_8 rfl (by decide) ?_
      refine WE.iret (ty := .int) dL_ends_11 rfl rfl ⟨by decide, by decide⟩ ?_
      exact PI.mk (Or.inr ⟨_, 0, q, rfl, rfl⟩)
    · refine WX.catchA (n := 13) (j := 3) [(0, 6, 7, 19)] (0, 6, 12, 13) [(0, 6, 17, 69)] rfl ⟨⟨_, by decide, g_470, by decide +kernel⟩, trivial⟩ rfl (by decide) g_319 t_417 dL_ends_12 (Or.inl ⟨3, rfl, rfl, rfl⟩) rfl (by decide) ?_
      refine WE.sipush (n := 16) ((-1002 : Int32)) dL_ends_13 rfl (by decide) ?_
      refine WE.iret (ty := .int) dL_ends_16 rfl rfl ⟨by decide, by decide⟩ ?_
      exact PI.mk (Or.inr ⟨_, 1, q, rfl, rfl⟩)
    · refine WX.catchA (n := 18) (j := 3) [(0, 6, 7, 19), (0, 6, 12, 13)] (0, 6, 17, 69) [] rfl ⟨⟨_, by decide, g_470, by decide +kernel⟩, ⟨_, by decide, g_319, by decide +kernel⟩, trivial⟩ rfl (by decide) g_663 t_674 dL_ends_17 (Or.inl ⟨3, rfl, rfl, rfl⟩) rfl (by decide) ?_
      refine WE.sipush (n := 21) ((-1003 : Int32)) dL_ends_18 rfl (by decide) ?_
      refine WE.iret (ty := .int) dL_ends_21 rfl rfl ⟨by decide, by decide⟩ ?_
      exact PI.mk (Or.inr ⟨_, 2, q, rfl, rfl⟩)
theorem cv_L_88 : CVL RL 88 mX5_bestDrop 5 1 := ⟨g_734, g_735, g_736, g_21, g_737, rfl, ⟨by decide +kernel, by decide +kernel, by decide +kernel⟩, rfl, by decide⟩
abbrev mL_bestDrop : MT := (yL_bestDrop, cL_bestDrop, 3, some .int, { frames := 8, cells := 3, slots := 18, locals := 256 }, [(0, 5, 6, 19), (0, 5, 11, 69)])
set_option maxRecDepth 20000 in
set_option maxHeartbeats 1000000 in
theorem h_bestDrop (σ : SS) (Q : AO → SS → Prop) (x : Int32) (hM : CM mX5_bestDrop [.ref 0, .int x] σ Q) (hI : isI Q) (hX : isX [ioE, nsE] Q) : CM mL_bestDrop [.ref 0, .int x] σ (HQ [ioE, nsE] Q) := by
  refine CM.ofH [(0, .ref 0), (1, .int x)] rfl (by decide +kernel) rfl (Nat.le_of_ble_eq_true rfl) ?_
  refine WE.aload_n (n := 1) dL_bestDrop_0 rfl rfl ?_
  refine WE.iload_n (n := 2) dL_bestDrop_1 rfl rfl ?_
  refine WE.V1G (M' := mX5_bestDrop) (n := 5) dL_bestDrop_2 rfl cv_L_88 (by decide) ⟨⟨by decide, by decide⟩, by decide, by decide⟩ (Nat.le_of_ble_eq_true rfl) hM (fun v σ1 q => ?_) (fun E σ1 q => ?_)
  · obtain ⟨r, rfl⟩ := hI _ _ q
    change WE _ 5 _ (.int r :: []) _ _ _ _
    refine WE.iret (ty := .int) dL_bestDrop_5 rfl rfl ⟨by decide, by decide⟩ ?_
    exact PI.mk (Or.inl q)
  · have hE := hX _ _ q
    simp only [List.mem_cons, List.not_mem_nil, or_false] at hE
    rcases hE with rfl | rfl
    · refine WX.catchA (n := 7) (j := 2) [] (0, 5, 6, 19) [(0, 5, 11, 69)] rfl trivial rfl (by decide) g_470 t_345 dL_bestDrop_6 (Or.inl ⟨2, rfl, rfl, rfl⟩) rfl (by decide) ?_
      refine WE.sipush (n := 10) ((-1001 : Int32)) dL_bestDrop_7 rfl (by decide) ?_
      refine WE.iret (ty := .int) dL_bestDrop_10 rfl rfl ⟨by decide, by decide⟩ ?_
      exact PI.mk (Or.inr ⟨_, 0, q, rfl, rfl⟩)
    · refine WX.catchA (n := 12) (j := 2) [(0, 5, 6, 19)] (0, 5, 11, 69) [] rfl ⟨⟨_, by decide, g_470, by decide +kernel⟩, trivial⟩ rfl (by decide) g_663 t_674 dL_bestDrop_11 (Or.inl ⟨2, rfl, rfl, rfl⟩) rfl (by decide) ?_
      refine WE.sipush (n := 15) ((-1002 : Int32)) dL_bestDrop_12 rfl (by decide) ?_
      refine WE.iret (ty := .int) dL_bestDrop_15 rfl rfl ⟨by decide, by decide⟩ ?_
      exact PI.mk (Or.inr ⟨_, 1, q, rfl, rfl⟩)
theorem cv_L_91 : CVL RL 91 mX5_append 5 1 := ⟨g_744, g_745, g_746, g_21, g_747, rfl, ⟨by decide +kernel, by decide +kernel, by decide +kernel⟩, rfl, by decide⟩
abbrev mL_append : MT := (yL_append, cL_append, 3, some .int, { frames := 7, cells := 1, slots := 6, locals := 224 }, [(0, 5, 6, 95)])
set_option maxRecDepth 20000 in
set_option maxHeartbeats 1000000 in
theorem h_append (σ : SS) (Q : AO → SS → Prop) (x : Int32) (hM : CM mX5_append [.ref 0, .int x] σ Q) (hI : isI Q) (hX : isX [isE] Q) : CM mL_append [.ref 0, .int x] σ (HQ [isE] Q) := by
  refine CM.ofH [(0, .ref 0), (1, .int x)] rfl (by decide +kernel) rfl (Nat.le_of_ble_eq_true rfl) ?_
  refine WE.aload_n (n := 1) dL_append_0 rfl rfl ?_
  refine WE.iload_n (n := 2) dL_append_1 rfl rfl ?_
  refine WE.V1G (M' := mX5_append) (n := 5) dL_append_2 rfl cv_L_91 (by decide) ⟨⟨by decide, by decide⟩, by decide, by decide⟩ (Nat.le_of_ble_eq_true rfl) hM (fun v σ1 q => ?_) (fun E σ1 q => ?_)
  · obtain ⟨r, rfl⟩ := hI _ _ q
    change WE _ 5 _ (.int r :: []) _ _ _ _
    refine WE.iret (ty := .int) dL_append_5 rfl rfl ⟨by decide, by decide⟩ ?_
    exact PI.mk (Or.inl q)
  · have hE := hX _ _ q
    simp only [List.mem_cons, List.not_mem_nil, or_false] at hE
    subst hE
    refine WX.catchA (n := 7) (j := 2) [] (0, 5, 6, 95) [] rfl trivial rfl (by decide) g_743 t_754 dL_append_6 (Or.inl ⟨2, rfl, rfl, rfl⟩) rfl (by decide) ?_
    refine WE.sipush (n := 10) ((-1001 : Int32)) dL_append_7 rfl (by decide) ?_
    refine WE.iret (ty := .int) dL_append_10 rfl rfl ⟨by decide, by decide⟩ ?_
    exact PI.mk (Or.inr ⟨_, 0, q, rfl, rfl⟩)
theorem cv_L_97 : CVL RL 97 mX5_read 5 0 := ⟨g_771, g_772, g_773, g_21, g_774, rfl, ⟨by decide +kernel, by decide +kernel, by decide +kernel⟩, rfl, by decide⟩
abbrev mL_read : MT := (yL_read, cL_read, 2, some .int, { frames := 8, cells := 3, slots := 18, locals := 256 }, [(0, 4, 5, 13), (0, 4, 10, 27)])
set_option maxRecDepth 20000 in
set_option maxHeartbeats 1000000 in
theorem h_read (σ : SS) (Q : AO → SS → Prop) (hM : CM mX5_read [.ref 0] σ Q) (hI : isI Q) (hX : isX [iaE, uoE] Q) : CM mL_read [.ref 0] σ (HQ [iaE, uoE] Q) := by
  refine CM.ofH [(0, .ref 0)] rfl (by decide +kernel) rfl (Nat.le_of_ble_eq_true rfl) ?_
  refine WE.aload_n (n := 1) dL_read_0 rfl rfl ?_
  refine WE.V0G (M' := mX5_read) (n := 4) dL_read_1 rfl cv_L_97 (by decide) ⟨⟨by decide, by decide⟩, by decide, by decide⟩ (Nat.le_of_ble_eq_true rfl) hM (fun v σ1 q => ?_) (fun E σ1 q => ?_)
  · obtain ⟨r, rfl⟩ := hI _ _ q
    change WE _ 4 _ (.int r :: []) _ _ _ _
    refine WE.iret (ty := .int) dL_read_4 rfl rfl ⟨by decide, by decide⟩ ?_
    exact PI.mk (Or.inl q)
  · have hE := hX _ _ q
    simp only [List.mem_cons, List.not_mem_nil, or_false] at hE
    rcases hE with rfl | rfl
    · refine WX.catchA (n := 6) (j := 1) [] (0, 4, 5, 13) [(0, 4, 10, 27)] rfl trivial rfl (by decide) g_319 t_417 dL_read_5 (Or.inl ⟨1, rfl, rfl, rfl⟩) rfl (by decide) ?_
      refine WE.sipush (n := 9) ((-1001 : Int32)) dL_read_6 rfl (by decide) ?_
      refine WE.iret (ty := .int) dL_read_9 rfl rfl ⟨by decide, by decide⟩ ?_
      exact PI.mk (Or.inr ⟨_, 0, q, rfl, rfl⟩)
    · refine WX.catchA (n := 11) (j := 1) [(0, 4, 5, 13)] (0, 4, 10, 27) [] rfl ⟨⟨_, by decide, g_319, by decide +kernel⟩, trivial⟩ rfl (by decide) g_454 t_433 dL_read_10 (Or.inl ⟨1, rfl, rfl, rfl⟩) rfl (by decide) ?_
      refine WE.sipush (n := 14) ((-1002 : Int32)) dL_read_11 rfl (by decide) ?_
      refine WE.iret (ty := .int) dL_read_14 rfl rfl ⟨by decide, by decide⟩ ?_
      exact PI.mk (Or.inr ⟨_, 1, q, rfl, rfl⟩)
theorem cv_L_101 : CVL RL 101 mX5_refusal 5 1 := ⟨g_934, g_935, g_936, g_21, g_937, rfl, ⟨by decide +kernel, by decide +kernel, by decide +kernel⟩, rfl, by decide⟩
abbrev mL_refusal : MT := (yL_refusal, cL_refusal, 3, some .int, { frames := 7, cells := 1, slots := 6, locals := 224 }, [(0, 5, 6, 69)])
set_option maxRecDepth 20000 in
set_option maxHeartbeats 1000000 in
theorem h_refusal (σ : SS) (Q : AO → SS → Prop) (x : Int32) (hM : CM mX5_refusal [.ref 0, .int x] σ Q) (hI : isI Q) (hX : isX [nsE] Q) : CM mL_refusal [.ref 0, .int x] σ (HQ [nsE] Q) := by
  refine CM.ofH [(0, .ref 0), (1, .int x)] rfl (by decide +kernel) rfl (Nat.le_of_ble_eq_true rfl) ?_
  refine WE.aload_n (n := 1) dL_refusal_0 rfl rfl ?_
  refine WE.iload_n (n := 2) dL_refusal_1 rfl rfl ?_
  refine WE.V1G (M' := mX5_refusal) (n := 5) dL_refusal_2 rfl cv_L_101 (by decide) ⟨⟨by decide, by decide⟩, by decide, by decide⟩ (Nat.le_of_ble_eq_true rfl) hM (fun v σ1 q => ?_) (fun E σ1 q => ?_)
  · obtain ⟨r, rfl⟩ := hI _ _ q
    change WE _ 5 _ (.int r :: []) _ _ _ _
    refine WE.iret (ty := .int) dL_refusal_5 rfl rfl ⟨by decide, by decide⟩ ?_
    exact PI.mk (Or.inl q)
  · have hE := hX _ _ q
    simp only [List.mem_cons, List.not_mem_nil, or_false] at hE
    subst hE
    refine WX.catchA (n := 7) (j := 2) [] (0, 5, 6, 69) [] rfl trivial rfl (by decide) g_663 t_674 dL_refusal_6 (Or.inl ⟨2, rfl, rfl, rfl⟩) rfl (by decide) ?_
    refine WE.sipush (n := 10) ((-1001 : Int32)) dL_refusal_7 rfl (by decide) ?_
    refine WE.iret (ty := .int) dL_refusal_10 rfl rfl ⟨by decide, by decide⟩ ?_
    exact PI.mk (Or.inr ⟨_, 0, q, rfl, rfl⟩)
theorem cv_L_105 : CVL RL 105 mX5_account 5 1 := ⟨g_838, g_839, g_840, g_21, g_841, rfl, ⟨by decide +kernel, by decide +kernel, by decide +kernel⟩, rfl, by decide⟩
abbrev mL_account : MT := (yL_account, cL_account, 3, some .int, { frames := 7, cells := 1, slots := 6, locals := 224 }, [(0, 5, 6, 13)])
set_option maxRecDepth 20000 in
set_option maxHeartbeats 1000000 in
theorem h_account (σ : SS) (Q : AO → SS → Prop) (x : Int32) (hM : CM mX5_account [.ref 0, .int x] σ Q) (hI : isI Q) (hX : isX [iaE] Q) : CM mL_account [.ref 0, .int x] σ (HQ [iaE] Q) := by
  refine CM.ofH [(0, .ref 0), (1, .int x)] rfl (by decide +kernel) rfl (Nat.le_of_ble_eq_true rfl) ?_
  refine WE.aload_n (n := 1) dL_account_0 rfl rfl ?_
  refine WE.iload_n (n := 2) dL_account_1 rfl rfl ?_
  refine WE.V1G (M' := mX5_account) (n := 5) dL_account_2 rfl cv_L_105 (by decide) ⟨⟨by decide, by decide⟩, by decide, by decide⟩ (Nat.le_of_ble_eq_true rfl) hM (fun v σ1 q => ?_) (fun E σ1 q => ?_)
  · obtain ⟨r, rfl⟩ := hI _ _ q
    change WE _ 5 _ (.int r :: []) _ _ _ _
    refine WE.iret (ty := .int) dL_account_5 rfl rfl ⟨by decide, by decide⟩ ?_
    exact PI.mk (Or.inl q)
  · have hE := hX _ _ q
    simp only [List.mem_cons, List.not_mem_nil, or_false] at hE
    subst hE
    refine WX.catchA (n := 7) (j := 2) [] (0, 5, 6, 13) [] rfl trivial rfl (by decide) g_319 t_417 dL_account_6 (Or.inl ⟨2, rfl, rfl, rfl⟩) rfl (by decide) ?_
    refine WE.sipush (n := 10) ((-1001 : Int32)) dL_account_7 rfl (by decide) ?_
    refine WE.iret (ty := .int) dL_account_10 rfl rfl ⟨by decide, by decide⟩ ?_
    exact PI.mk (Or.inr ⟨_, 0, q, rfl, rfl⟩)
theorem cv_L_108 : CVL RL 108 mX5_meanDistance 5 0 := ⟨g_881, g_882, g_883, g_21, g_884, rfl, ⟨by decide +kernel, by decide +kernel, by decide +kernel⟩, rfl, by decide⟩
abbrev mL_meanDistance : MT := (yL_meanDistance, cL_meanDistance, 2, some .double, { frames := 7, cells := 1, slots := 6, locals := 224 }, [(0, 4, 5, 112)])
set_option maxRecDepth 20000 in
set_option maxHeartbeats 1000000 in
theorem h_meanDistance (σ : SS) (n : Int32) (v : UInt64) (hM : CM mX5_meanDistance [.ref 0] σ (DX σ n (.double v))) : CM mL_meanDistance [.ref 0] σ (RW (.double (if n = 0 then 13875388141788987392 else v)) σ) := by
  refine CM.ofH [(0, .ref 0)] rfl (by decide +kernel) rfl (Nat.le_of_ble_eq_true rfl) ?_
  refine WE.aload_n (n := 1) dL_meanDistance_0 rfl rfl ?_
  refine WE.V0G (M' := mX5_meanDistance) (n := 4) dL_meanDistance_1 rfl cv_L_108 (by decide) ⟨⟨by decide, by decide⟩, by decide, by decide⟩ (Nat.le_of_ble_eq_true rfl) hM (fun v σ1 q => ?_) (fun E σ1 q => ?_)
  · obtain ⟨rfl, q⟩ := q
    by_cases h0 : n = 0
    · rw [if_pos h0] at q
      cases q
    rw [if_neg h0] at q
    cases q
    change WE _ 4 _ (.double v :: []) _ _ _ _
    refine WE.dret dL_meanDistance_4 rfl ⟨by decide, by decide⟩ ?_
    exact ⟨by rw [if_neg h0], rfl⟩
  · obtain ⟨rfl, q⟩ := q
    by_cases h0 : n = 0
    · rw [if_pos h0] at q
      cases q
      refine WX.catchA (n := 6) (j := 1) [] (0, 4, 5, 112) [] rfl trivial rfl (by decide) g_867 t_879 dL_meanDistance_5 (Or.inl ⟨1, rfl, rfl, rfl⟩) rfl (by decide) ?_
      refine WE.ldc2d (n := 9) (v := 13875388141788987392) dL_meanDistance_6 rfl t_893 ?_
      refine WE.dret dL_meanDistance_9 rfl ⟨by decide, by decide⟩ ?_
      exact ⟨by rw [if_pos h0], rfl⟩
    · rw [if_neg h0] at q
      cases q
theorem cv_L_116 : CVL RL 116 mX5_share 5 0 := ⟨g_897, g_898, g_899, g_21, g_900, rfl, ⟨by decide +kernel, by decide +kernel, by decide +kernel⟩, rfl, by decide⟩
abbrev mL_share : MT := (yL_share, cL_share, 2, some .float, { frames := 7, cells := 1, slots := 6, locals := 224 }, [(0, 4, 5, 112)])
set_option maxRecDepth 20000 in
set_option maxHeartbeats 1000000 in
theorem h_share (σ : SS) (n : Int32) (v : UInt32) (hM : CM mX5_share [.ref 0] σ (DX σ n (.float v))) : CM mL_share [.ref 0] σ (RW (.float (if n = 0 then 3296346112 else v)) σ) := by
  refine CM.ofH [(0, .ref 0)] rfl (by decide +kernel) rfl (Nat.le_of_ble_eq_true rfl) ?_
  refine WE.aload_n (n := 1) dL_share_0 rfl rfl ?_
  refine WE.V0G (M' := mX5_share) (n := 4) dL_share_1 rfl cv_L_116 (by decide) ⟨⟨by decide, by decide⟩, by decide, by decide⟩ (Nat.le_of_ble_eq_true rfl) hM (fun v σ1 q => ?_) (fun E σ1 q => ?_)
  · obtain ⟨rfl, q⟩ := q
    by_cases h0 : n = 0
    · rw [if_pos h0] at q
      cases q
    rw [if_neg h0] at q
    cases q
    change WE _ 4 _ (.float v :: []) _ _ _ _
    refine WE.fret dL_share_4 rfl ⟨by decide, by decide⟩ ?_
    exact ⟨by rw [if_neg h0], rfl⟩
  · obtain ⟨rfl, q⟩ := q
    by_cases h0 : n = 0
    · rw [if_pos h0] at q
      cases q
      refine WX.catchA (n := 6) (j := 1) [] (0, 4, 5, 112) [] rfl trivial rfl (by decide) g_867 t_879 dL_share_5 (Or.inl ⟨1, rfl, rfl, rfl⟩) rfl (by decide) ?_
      refine WE.ldcf (n := 8) (v := 3296346112) dL_share_6 rfl t_903 ?_
      refine WE.fret dL_share_8 rfl ⟨by decide, by decide⟩ ?_
      exact ⟨by rw [if_pos h0], rfl⟩
    · rw [if_neg h0] at q
      cases q
theorem cv_L_121 : CVL RL 121 mX5_undo 5 0 := ⟨g_907, g_908, g_909, g_21, g_910, rfl, ⟨by decide +kernel, by decide +kernel, by decide +kernel⟩, rfl, by decide⟩
abbrev mL_undo : MT := (yL_undo, cL_undo, 2, some .int, { frames := 7, cells := 1, slots := 6, locals := 224 }, [(0, 4, 5, 95)])
set_option maxRecDepth 20000 in
set_option maxHeartbeats 1000000 in
theorem h_undo (σ : SS) (Q : AO → SS → Prop) (hM : CM mX5_undo [.ref 0] σ Q) (hI : isI Q) (hX : isX [isE] Q) : CM mL_undo [.ref 0] σ (HQ [isE] Q) := by
  refine CM.ofH [(0, .ref 0)] rfl (by decide +kernel) rfl (Nat.le_of_ble_eq_true rfl) ?_
  refine WE.aload_n (n := 1) dL_undo_0 rfl rfl ?_
  refine WE.V0G (M' := mX5_undo) (n := 4) dL_undo_1 rfl cv_L_121 (by decide) ⟨⟨by decide, by decide⟩, by decide, by decide⟩ (Nat.le_of_ble_eq_true rfl) hM (fun v σ1 q => ?_) (fun E σ1 q => ?_)
  · obtain ⟨r, rfl⟩ := hI _ _ q
    change WE _ 4 _ (.int r :: []) _ _ _ _
    refine WE.iret (ty := .int) dL_undo_4 rfl rfl ⟨by decide, by decide⟩ ?_
    exact PI.mk (Or.inl q)
  · have hE := hX _ _ q
    simp only [List.mem_cons, List.not_mem_nil, or_false] at hE
    subst hE
    refine WX.catchA (n := 6) (j := 1) [] (0, 4, 5, 95) [] rfl trivial rfl (by decide) g_743 t_754 dL_undo_5 (Or.inl ⟨1, rfl, rfl, rfl⟩) rfl (by decide) ?_
    refine WE.sipush (n := 9) ((-1001 : Int32)) dL_undo_6 rfl (by decide) ?_
    refine WE.iret (ty := .int) dL_undo_9 rfl rfl ⟨by decide, by decide⟩ ?_
    exact PI.mk (Or.inr ⟨_, 0, q, rfl, rfl⟩)
theorem cv_L_124 : CVL RL 124 mX5_restore 5 0 := ⟨g_919, g_920, g_921, g_21, g_922, rfl, ⟨by decide +kernel, by decide +kernel, by decide +kernel⟩, rfl, by decide⟩
abbrev mL_restore : MT := (yL_restore, cL_restore, 2, some .int, { frames := 7, cells := 1, slots := 6, locals := 224 }, [(0, 4, 5, 95)])
set_option maxRecDepth 20000 in
set_option maxHeartbeats 1000000 in
theorem h_restore (σ : SS) (Q : AO → SS → Prop) (hM : CM mX5_restore [.ref 0] σ Q) (hI : isI Q) (hX : isX [isE] Q) : CM mL_restore [.ref 0] σ (HQ [isE] Q) := by
  refine CM.ofH [(0, .ref 0)] rfl (by decide +kernel) rfl (Nat.le_of_ble_eq_true rfl) ?_
  refine WE.aload_n (n := 1) dL_restore_0 rfl rfl ?_
  refine WE.V0G (M' := mX5_restore) (n := 4) dL_restore_1 rfl cv_L_124 (by decide) ⟨⟨by decide, by decide⟩, by decide, by decide⟩ (Nat.le_of_ble_eq_true rfl) hM (fun v σ1 q => ?_) (fun E σ1 q => ?_)
  · obtain ⟨r, rfl⟩ := hI _ _ q
    change WE _ 4 _ (.int r :: []) _ _ _ _
    refine WE.iret (ty := .int) dL_restore_4 rfl rfl ⟨by decide, by decide⟩ ?_
    exact PI.mk (Or.inl q)
  · have hE := hX _ _ q
    simp only [List.mem_cons, List.not_mem_nil, or_false] at hE
    subst hE
    refine WX.catchA (n := 6) (j := 1) [] (0, 4, 5, 95) [] rfl trivial rfl (by decide) g_743 t_754 dL_restore_5 (Or.inl ⟨1, rfl, rfl, rfl⟩) rfl (by decide) ?_
    refine WE.sipush (n := 9) ((-1001 : Int32)) dL_restore_6 rfl (by decide) ?_
    refine WE.iret (ty := .int) dL_restore_9 rfl rfl ⟨by decide, by decide⟩ ?_
    exact PI.mk (Or.inr ⟨_, 0, q, rfl, rfl⟩)
