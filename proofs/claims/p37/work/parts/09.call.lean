/-! calls, throws, ends -/
theorem met_of {l : Launch} {y : MethodName} {ws : List Cond} {rm : Room} {Pc : Array Value → State → Prop} {Qc : Array Value → State → Outcome → State → Prop} {XC : String → State → State → Prop} {mc ms : Nat} {free : Addr → Prop} (h : vx_Met l y ws rm Pc Qc XC mc ms free) (hn : ∀ E st t, ¬ XC E st t) : Met l y ws rm Pc Qc mc ms free := by
  intro p e h1 h2 h3 s m args below h4 h5 h6 h7
  obtain ⟨n, o, a1, a2, a3, a4⟩ := h p e h1 h2 h3 s m args below h4 h5 h6 h7
  refine ⟨n, o, a1, a2, a3, ?_⟩
  rcases a4 with a4 | ⟨q, -, E, ce, Lc, hx, -⟩
  · exact a4
  · exact absurd hx (hn _ _ _)
def dOK (y : MethodName) (np : Nat) : Prop := y.cls ≠ "java/lang/invoke/MethodHandle" ∧ y.cls ≠ "java/lang/invoke/VarHandle" ∧ (parseMethodDescriptor y.desc).map (fun d => d.parameters.length) = some np
/-- what a call of an instance method (of class d, with np arguments) asks of the tables -/
def CVL (own : String) (idx : Nat) (M' : MT) (d np : Nat) : Prop := Cond.methodLink own idx (mtY M') ∈ WG ∧ Cond.instanceMethod (mtY M') ∈ WG ∧ Cond.selects (mtY M').cls (mtY M') (mtY M') ∈ WG ∧ Cond.initialized (mtY M').cls ∈ WG ∧ wM M' ∈ WG ∧ mtH M' = [] ∧ dOK (mtY M') np ∧ (mtY M').cls = cR d ∧ d < 7
def CSL (own : String) (idx : Nat) (M' : MT) (np : Nat) : Prop := Cond.methodLink own idx (mtY M') ∈ WG ∧ Cond.static (mtY M') ∈ WG ∧ Cond.initialized (mtY M').cls ∈ WG ∧ wM M' ∈ WG ∧ mtH M' = [] ∧ dOK (mtY M') np
/-- a private static of a nest mate -/
def CNL (own : String) (idx : Nat) (M' : MT) (np : Nat) : Prop := Cond.methodLinkNest own idx (mtY M') "SiegePost" ∈ lw_tbl ∧ Cond.static (mtY M') ∈ WG ∧ Cond.initialized (mtY M').cls ∈ WG ∧ wM M' ∈ WG ∧ mtH M' = [] ∧ dOK (mtY M') np
def rC (M M' : MT) (cu su : Nat) : Prop := ((mtR M').frames + 1 ≤ (mtR M).frames ∧ 8 + (mtL M' + 11) + (mtR M').locals ≤ (mtR M).locals) ∧ cu + (mtR M').cells ≤ (mtR M).cells ∧ su + (mtR M').slots ≤ (mtR M).slots
theorem wM_nil {M : MT} (h : mtH M = []) : wM M = .code (mtY M) (mtC M) (mtL M) (mtT M) := by
  unfold wM
  rw [h]
theorem WG_in {w : Cond} (h : w ∈ WG) : ∀ w' ∈ w :: WG, w' ∈ WG ∧ ((w'.onTables && w'.keeps) = true ∨ ∃ ty, w' = .arrayClass ty) := by
  intro w' h'
  have h2 : w' ∈ WG := by
    rcases List.mem_cons.mp h' with rfl | h'
    · exact h
    · exact h'
  exact ⟨h2, good_of_word (WG_good h2)⟩
theorem ZQ.at {l : Launch} {M : MT} {D : va_G} {aC : Nat → ClassId} {z : Nat} {p : Program} {s U : State} {m : MethodId} {args : Array Value} {meth : Method} {c : Code} {H : Heap} {locs : List Loc} (C : Cx l M D aC z p s m args meth c) (hS : va_S (AA z s.heap.size) s.heap H locs) (hU : U.heap = H) (hW : s.WarmedH U.vm) : ZQ (AA z H.size) U U.heap := by
  have hZ := C.2.2.2.2.2.2.2.2.2.1
  have hn : ∀ q, AA z H.size q → AA z s.heap.size q := by
    intro q hq
    rcases hq with hq | hq
    · exact Or.inl hq
    · exact Or.inr (Nat.le_trans hS.1 hq)
  rw [hU]
  exact ⟨vx_Zq.moved hW.alike ((hZ.1.kept hS.2.1).narrow hn), vx_Zq.moved hW.alike ((hZ.2.1.kept hS.2.1).narrow hn), ZS.go hW hZ.2.2 hS.2.1 hn⟩
theorem SW.at {l : Launch} {M : MT} {D : va_G} {aC : Nat → ClassId} {z : Nat} {p : Program} {s U : State} {m : MethodId} {args : Array Value} {meth : Method} {c : Code} {H : Heap} {locs : List Loc} {σ : SS} (C : Cx l M D aC z p s m args meth c) (hP : va_P D vwc (wl z aC σ) H) (hS : va_S (AA z s.heap.size) s.heap H locs) (hU : U.heap = H) (hW : s.WarmedH U.vm) : SW z H.size D aC σ U :=
  ⟨by rw [hU], by rw [hU]; exact hP, va_K.moved hW.alike C.2.2.2.2.2.2.2.1, C.2.2.2.2.2.2.2.2.1.warm hW, ZQ.at C hS hU hW, Nat.le_trans C.2.2.2.2.2.2.2.2.2.2.2.2 hS.1⟩
theorem AA_in {z : Nat} {s : State} {H : Heap} {locs : List Loc} (hS : va_S (AA z s.heap.size) s.heap H locs) : ∀ q, AA z H.size q → AA z s.heap.size q := by
  intro q hq
  rcases hq with hq | hq
  · exact Or.inl hq
  · exact Or.inr (Nat.le_trans hS.1 hq)
section WEC
variable {M M' : MT} {pc n np idx : Nat} {L : List (Nat × Value)} {st : List Value} {σ : SS} {cu su : Nat} {G : GT} {Q' : AO → SS → Prop}
/-- from a run of the callee to the judgement behind the call -/
theorem WE.ofRun {pre : List Value} {l : Launch} {D : va_G} {aC : Nat → ClassId} {z : Nat} {p : Program} {e : Env} {s : State} {m : MethodId} {args : Array Value} {below : List Frame} {meth : Method} {c : Code} {H : Heap} {locs : List Loc} {ls : Array Slot} {a : Array Value}
    (C : Cx l M D aC z p s m args meth c) (hS : va_S (AA z s.heap.size) s.heap H locs) (hl : lv_has ls (mtL M) (trL z L))
    (hr : vx_Run p l e (mtR M) s m args below meth c H locs cu su (mtR M').cells (mtR M').slots (F0 m pc ls pre) (st.map (trv z)) (qR Q' z D aC H.size a) (qX Q' z D aC H.size) (AA z H.size))
    (kk : ∀ v σ', Q' (.inl v) σ' → WE M (pc + 3) L (v.toList ++ st) σ' (cu + (mtR M').cells) (su + (mtR M').slots) G)
    (kx : ∀ E σ', Q' (.inr E) σ' → WX M pc L st σ' E (cu + (mtR M').cells) (su + (mtR M').slots) G) :
    W p l e (mtR M) s m args below meth c H locs cu su (G z D aC below args s) (F0 m pc ls pre) := by
  intro T hT X
  rcases hr T hT X with ⟨v, st₀, t, T', Lc, h0, X', hL, e1, e2, hq, stp⟩ | ⟨q, st₀, t, T', Lc, E, ce, h0, X', hL, e1, e2, hxq, hce, hcv, hcl, stp⟩
  · obtain ⟨⟨v', σ', hv, hQ, hP1⟩, hF⟩ := hq
    obtain ⟨-, -, k3⟩ := vx_keep h0 e1 hS (fun q _ h => AA_in hS q h) (AA_in hS) hL hF
    have hv' : v = v'.map (trv z) := by
      cases hv
      rfl
    subst hv'
    obtain ⟨t2, a1, b1⟩ := kk v' σ' hQ l D aC z p e s m args below meth c T'.heap (locs ++ Lc) ls C (by rw [e1]; exact hP1) k3 hl T' rfl X'
    refine ⟨t2, stp t2 ?_, b1⟩
    cases v' <;> exact a1
  · obtain ⟨⟨σ', hQ, hP1⟩, hF⟩ := hxq
    obtain ⟨-, -, k3⟩ := vx_keep h0 e1 hS (fun q _ h => AA_in hS q h) (AA_in hS) hL hF
    obtain ⟨t2, a1, b1⟩ := kx E σ' hQ l D aC z p e s m args below meth c T'.heap (locs ++ Lc) ls q ce C (by rw [e1]; exact hP1) k3 hl (by rw [e1]; exact hce) hcv hcl T' rfl X'
    exact ⟨t2, stp.trans a1, b1⟩
theorem WE.callV {a d : Nat} (As : List Value) (hd : decode (mtC M) pc = .ok (.invokevirtual idx, 3)) (hn : pc + 3 = n) (cv : CVL (mtY M).cls idx M' d np) (hAs : As.length = np) (ha : KD a = d ∧ a < NN) (hR : rC M M' cu su) (hst : (st.map fun v => v.category).sum ≤ 8) (hM : CM M' (.ref a :: As) σ Q')
    (kk : ∀ v σ', Q' (.inl v) σ' → WE M n L (v.toList ++ st) σ' (cu + (mtR M').cells) (su + (mtR M').slots) G)
    (kx : ∀ E σ', Q' (.inr E) σ' → WX M pc L st σ' E (cu + (mtR M').cells) (su + (mtR M').slots) G) :
    WE M pc L (As.reverse ++ .ref a :: st) σ cu su G := by
  subst hn
  intro l D aC z p e s m args below meth c H locs ls C hP hS hl
  obtain ⟨c1, c2, c3, c4, c5, c6, c7, c8, c9⟩ := cv
  have hw := C.2.2.2.2.2.2.1
  have hwM := wM_nil c6
  refine WE.ofRun (M' := M') (Q' := Q') (a := (Value.ref (z + a) :: As.map (trv z)).toArray) C hS hl ?_ kk kx
  refine vx_runV (As := As.map (trv z)) (rest := st.map (trv z)) (Ts := WG) (own := (mtY M).cls) (C := (mtY M').cls) (b := z + a) (n := np) (bytes := mtC M') (maxL := mtL M') (ret := mtT M') ⟨C.2.1, C.2.2.1, C.2.2.2.1, C.2.2.2.2.2.1, hw⟩ (hM l D aC z H.size C.1)
    ⟨⟨rfl, rfl, hR.1.1, hR.1.2, pay_in hw (WG_in c5), by rw [hwM]; exact List.mem_cons_self, by rw [← hwM]; exact hw _ c5, hw _ c4, ⟨c7.1, c7.2.1⟩, fun sig h => ?_, hw _ c1⟩, hw _ c2, hw _ c3⟩
    ⟨SW.blind, ?_, fun U hU hW => ⟨rfl, SW.at C hP hS hU hW⟩⟩ rfl (by simpa using hAs) hl.1 ?_ ?_ hd hR.2
  · have h2 := c7.2.2
    rw [h] at h2
    exact (Option.some.inj h2).symm
  · have hv := va_recv (cl := vwc) C.2.2.2.2.2.2.2.1 hP (vwc_at c9) (q0 := a) ((wl_at z aC σ ha.2).trans (by rw [cE_obj ha.1 c9]))
    rw [c8]
    exact hv
  · show (As.reverse ++ Value.ref a :: st).map (trv z) = _
    simp [trv, List.map_reverse]
  · show 2 * 0 + _ ≤ 8
    rw [cat_trv]
    omega
theorem WE.callS (As : List Value) (hd : decode (mtC M) pc = .ok (.invokestatic idx, 3)) (hn : pc + 3 = n) (cv : CSL (mtY M).cls idx M' np) (hAs : As.length = np) (hR : rC M M' cu su) (hst : (st.map fun v => v.category).sum ≤ 8) (hM : CM M' As σ Q')
    (kk : ∀ v σ', Q' (.inl v) σ' → WE M n L (v.toList ++ st) σ' (cu + (mtR M').cells) (su + (mtR M').slots) G)
    (kx : ∀ E σ', Q' (.inr E) σ' → WX M pc L st σ' E (cu + (mtR M').cells) (su + (mtR M').slots) G) :
    WE M pc L (As.reverse ++ st) σ cu su G := by
  subst hn
  intro l D aC z p e s m args below meth c H locs ls C hP hS hl
  obtain ⟨c1, c2, c4, c5, c6, c7⟩ := cv
  have hw := C.2.2.2.2.2.2.1
  have hwM := wM_nil c6
  refine WE.ofRun (M' := M') (Q' := Q') (a := (As.map (trv z)).toArray) C hS hl ?_ kk kx
  refine vx_runS (As := As.map (trv z)) (rest := st.map (trv z)) (Ts := WG) (own := (mtY M).cls) (n := np) (bytes := mtC M') (maxL := mtL M') (ret := mtT M') ⟨C.2.1, C.2.2.1, C.2.2.2.1, C.2.2.2.2.2.1, hw⟩ (hM l D aC z H.size C.1)
    ⟨⟨rfl, rfl, hR.1.1, hR.1.2, pay_in hw (WG_in c5), by rw [hwM]; exact List.mem_cons_self, by rw [← hwM]; exact hw _ c5, hw _ c4, ⟨c7.1, c7.2.1⟩, fun sig h => ?_, hw _ c1⟩, hw _ c2⟩
    ⟨SW.blind, fun U hU hW => ⟨rfl, SW.at C hP hS hU hW⟩⟩ rfl (by simpa using hAs) hl.1 ?_ ?_ hd hR.2
  · have h2 := c7.2.2
    rw [h] at h2
    exact (Option.some.inj h2).symm
  · show (As.reverse ++ st).map (trv z) = _
    simp [List.map_reverse]
  · show 2 * 0 + _ ≤ 8
    rw [cat_trv]
    omega
theorem WE.callN (As : List Value) (hd : decode (mtC M) pc = .ok (.invokestatic idx, 3)) (hn : pc + 3 = n) (cv : CNL (mtY M).cls idx M' np) (hAs : As.length = np) (hR : rC M M' cu su) (hst : (st.map fun v => v.category).sum ≤ 8) (hM : CM M' As σ Q')
    (kk : ∀ v σ', Q' (.inl v) σ' → WE M n L (v.toList ++ st) σ' (cu + (mtR M').cells) (su + (mtR M').slots) G)
    (kx : ∀ E σ', ¬ Q' (.inr E) σ') :
    WE M pc L (As.reverse ++ st) σ cu su G := by
  subst hn
  intro l D aC z p e s m args below meth c H locs ls C hP hS hl
  obtain ⟨c1, c2, c4, c5, c6, c7⟩ := cv
  have hw := C.2.2.2.2.2.2.1
  have hwM := wM_nil c6
  refine WE.ofRun (M' := M') (Q' := Q') (a := (As.map (trv z)).toArray) C hS hl ?_ kk (fun E σ' h => absurd h (kx E σ'))
  have hr := va_runSN (As := As.map (trv z)) (rest := st.map (trv z)) (Ts := WG) (own := (mtY M).cls) (n := np) (bytes := mtC M') (maxL := mtL M') (ret := mtT M') (e := e) (l := l) (R := mtR M) (below := below) (meth := meth) (H := H) (locs := locs) (cells := cu) (slots := su) (g := F0 m pc ls ((As.reverse ++ st).map (trv z))) (host := "SiegePost") ⟨C.2.1, C.2.2.1, C.2.2.2.1, C.2.2.2.2.2.1, hw⟩ (met_of (hM l D aC z H.size C.1) (fun E st t h => kx E _ h.1.choose_spec.1))
    ⟨⟨⟨rfl, rfl, hR.1.1, hR.1.2, pay_in hw (WG_in c5), by rw [hwM]; exact List.mem_cons_self⟩, by rw [← hwM]; exact hw _ c5, hw _ c4, ⟨c7.1, c7.2.1⟩, fun sig h => ?_, va_Nw.use rfl (C.2.2.2.2.2.2.2.2.1.1 _ c1 (by simp [kfw]))⟩, hw _ c2, trivial⟩
    ⟨SW.blind, fun U hU hW => ⟨rfl, SW.at C hP hS hU hW⟩⟩ rfl (by simpa using hAs) hl.1 ?_ ?_ hd hR.2
  · intro T hT X
    exact Or.inl (hr T hT X)
  · have h2 := c7.2.2
    rw [h] at h2
    exact (Option.some.inj h2).symm
  · show (As.reverse ++ st).map (trv z) = _
    simp [List.map_reverse]
  · show 2 * 0 + _ ≤ 8
    rw [cat_trv]
    omega
end WEC
