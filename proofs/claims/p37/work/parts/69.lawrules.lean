/-! THE LAW: new objects, its row of longs -/
abbrev mL_law : MT := (yL_law, cL_law, 11, some .boolean, room_1, [])
/-- the script outside, the world behind all that stood at the entry -/
def EL (Ls : Nat) (xs : Nat → Int32) : ET := fun z b s => SX Ls xs z b s ∧ s.heap.size ≤ z ∧ NFo s
theorem EL.eg {Ls : Nat} {xs : Nat → Int32} : EG (EL Ls xs) (SX Ls xs) := fun z b s U H locs h hS hz hU hv => SX.eg z b s U H locs h.1 hS hz hU hv
def NLK5 : Prop := Cond.classLink "SiegePostLaw" 8 (cR 5) ∈ WG ∧ Cond.instantiable (cR 5) (cN 5) ∈ WG ∧ Cond.initialized (cR 5) ∈ WG
theorem nq_p {z n : Nat} {D : va_G} {aC : Nat → ClassId} {P : (Nat → RE) → Prop} {p : Program} {l : Launch} {e : Env} {R : Room} {s : State} {m : MethodId} {args : Array Value} {below : List Frame} {meth : Method} {c : Code} {H : Heap} {locs : List Loc} {cells slots mc ms : Nat} {g : JFrame} {rest : List Value} {a : Array Value} (h : va_Run p l e R s m args below meth c H locs cells slots mc ms g rest (NQ z D aC n P a) (AN z)) : va_Run p l e R s m args below meth c H locs cells slots mc ms g rest (JPQ (fun r9 H9 => r9 = none ∧ H9.size = z + n ∧ ∃ f, P f ∧ va_P D vwc (wf z aC n f) H9) (AN z) a) (AN z) := by
  intro T hT X
  obtain ⟨v9, st₀, t, T', L, h0, X', hL, e1, e2, ⟨⟨hv, h1, h2⟩, hFr⟩, stp⟩ := h T hT X
  exact ⟨v9, st₀, t, T', L, h0, X', hL, e1, e2, ⟨⟨none, hv, rfl, h1, h2⟩, hFr⟩, stp⟩
theorem Lx.mv {l : Launch} {M : MT} {D : va_G} {aC : Nat → ClassId} {z z' : Nat} {p : Program} {s : State} {m : MethodId} {args : Array Value} {meth : Method} {c : Code} (C : Lx l M D aC z p s m args meth c) (h : s.heap.size ≤ z') : Lx l M D aC z' p s m args meth c := by
  obtain ⟨c1, c2, c3, c4, c5, c6, c7, c8, c9, c10, c11, c12⟩ := C
  have hn : ∀ q, AA z' s.heap.size q → AA z s.heap.size q := by
    rintro q (hq | hq)
    · exact Or.inr (Nat.le_trans h hq.1)
    · exact Or.inr hq
  have hkk : ∀ a : Nat, a < s.heap.size → ¬ AA z s.heap.size a → s.heap[a]? = s.heap[a]? := fun _ _ _ => rfl
  exact ⟨c1, c2, c3, c4, c5, c6, c7, c8, c9, ⟨vx_Zq.moved (State.WarmedH.refl s).alike ((c10.1.kept hkk).narrow hn), vx_Zq.moved (State.WarmedH.refl s).alike ((c10.2.1.kept hkk).narrow hn), ZS.go (State.WarmedH.refl s) c10.2.2 hkk hn⟩, c11, c12⟩
section LNEW
variable {Ls : Nat} {xs : Nat → Int32} {pc n : Nat} {L : List (Nat × Value)} {st : List Value} {σ : SS} {f : XF} {cu su : Nat} {G : GT}
/-- a new SiegePost, whatever stands -/
theorem new_core (hd0 : decode cL_law pc = .ok (.new 8, 3)) (hd1 : decode cL_law (pc + 3) = .ok (.dup, 1)) (hd2 : decode cL_law (pc + 4) = .ok (.invokespecial 268, 3)) (hR : cu + 395 ≤ 781134 ∧ su + 2468 ≤ 6748446) (hG : ∀ z z' D aC below args s, G z D aC below args s = G z' D aC below args s) (kk : LE mL_law (EL Ls xs) (pc + 7) [(0, .ref SP)] [.ref 0] (cZ, 0, 0) none (cu + 395) (su + 2468) G)
    (l : Launch) (D : va_G) (aC : Nat → ClassId) (z b : Nat) (p : Program) (e : Env) (s : State) (m : MethodId) (args : Array Value) (below : List Frame) (meth : Method) (c : Code) (H : Heap) (locs : List Loc) (ls : Array Slot)
    (C : Lx l mL_law D aC z p s m args meth c) (hE : EL Ls xs z b s) (hS : va_S (AA z s.heap.size) s.heap H locs) (hl1 : ls.size = 11) (hl2 : lv_has ls 11 [(0, .ref b)]) :
    W p l e room_1 s m args below meth c H locs cu su (G z D aC below args s) (F0 m pc ls []) := by
  obtain ⟨hSX, hsz, hNF⟩ := hE
  have hw := C.2.2.2.2.2.2.1
  have hK := C.2.2.2.2.2.2.2.1
  have ho : s.vm.findClass "SiegePostLaw" = some m.cls := C.2.2.2.2.2.1
  have hHs := hS.1
  refine n_obj (own := "SiegePostLaw") (d := 5) C.2.1 C.2.2.1 hw ho hK g_51 g_52 g_21 (by decide) (show cu + 1 ≤ 781134 by omega) (show su + 6 ≤ 6748446 by omega) hd0 (fun H1 z1 hN o1 => ?_)
  refine lv_dup C.2.1 C.2.2.1 hd1 rfl ?_
  have hS1 : va_S (AA z s.heap.size) s.heap H1 locs := ⟨Nat.le_trans hS.1 (by omega), fun x h1 h2 => (o1 x (Nat.lt_of_lt_of_le h1 hS.1)).trans (hS.2.1 x h1 h2), hS.2.2⟩
  have hP1 : va_P D vwc (wf H.size aC 1 (fun _ => .inl (5, dfl 5))) H1 := fun k x hx => by
    obtain ⟨hk, rfl⟩ := wf_of hx
    obtain rfl : k = 0 := by omega
    exact hN 0 _ rfl
  refine p_call (A' := AN H.size) (rest := [.ref H.size]) (fun x h => Or.inr (Nat.le_trans hHs h)) (nq_p (va_runI (As := []) (rest := [.ref H.size]) (nL := 11) (n := 0) (own := "SiegePostLaw") (b := H.size) (cc := cL_law) (Ts := WG) ⟨C.2.1, C.2.2.1, C.2.2.2.1, ho, hw⟩ ((i_post (fun _ => .inl (5, dfl 5)) rfl) l D aC H.size) ⟨j_cb (M' := mX5_init) (np := 0) hw g_53 g_21 g_55 rfl ⟨by decide +kernel, by decide +kernel, by decide +kernel⟩ ⟨by decide, by decide⟩, rfl, hw _ g_54⟩ ⟨NS.blind, fun U hU hW => ⟨rfl, by rw [hU, z1], by rw [hU]; exact hP1, va_K.moved hW.alike hK, hNF.warm hW⟩⟩ rfl rfl hl1 rfl (Nat.le_of_ble_eq_true rfl) hd2 ⟨show cu + 1 + 394 ≤ 781134 by omega, show su + 6 + 2462 ≤ 6748446 by omega⟩)) hS1 (fun r H2 locs1 hR9 h1 h2 hS2 => ?_)
  obtain ⟨rfl, hz2, g9, hPV, hP2⟩ := hR9
  have hE2 : EL Ls xs H.size b s := by
    refine ⟨⟨hSX.1, hSX.2.1, ?_⟩, hHs, hNF⟩
    rintro (h | h)
    · exact absurd h.1 (Nat.not_le.mpr (Nat.lt_of_lt_of_le hSX.2.1 hHs))
    · exact absurd h (Nat.not_le.mpr hSX.2.1)
  have hS3 : va_S (AA H.size s.heap.size) s.heap H2 locs1 := by
    refine ⟨hS2.1, fun q h1 h2 => hS2.2.1 q h1 ?_, fun q hq => ?_⟩
    · rintro (h | h)
      · exact absurd h.1 (Nat.not_le.mpr (Nat.lt_of_lt_of_le h1 hsz))
      · exact h2 (Or.inr h)
    · rcases hS2.2.2 q hq with h | h
      · exact Or.inr (Nat.le_trans hsz h.1)
      · exact Or.inr h
  have h9 := kk l D aC H.size b 0 p e s m args below meth c H2 locs1 ls (C.mv hHs) hE2 (by rw [hz2]; exact Nat.le_refl _) trivial (wl_init hPV hP2) hS3 hl2
  rw [hG H.size z] at h9
  exact h9
theorem LE.newO (hd0 : decode cL_law pc = .ok (.new 8, 3)) (hd1 : decode cL_law (pc + 3) = .ok (.dup, 1)) (hd2 : decode cL_law (pc + 4) = .ok (.invokespecial 268, 3)) (hn : pc + 7 = n) (hR : cu + 395 ≤ 781134 ∧ su + 2468 ≤ 6748446) (hL : lkL 0 L = some (.ref SP)) (hG : ∀ z z' D aC below args s, G z D aC below args s = G z' D aC below args s) (kk : LE mL_law (EL Ls xs) n [(0, .ref SP)] [.ref 0] (cZ, 0, 0) none (cu + 395) (su + 2468) G) : LE mL_law (EL Ls xs) pc L [] σ f cu su G := by
  subst hn
  intro l D aC z b w p e s m args below meth c H locs ls C hE hzz hX hP hS hl
  refine new_core hd0 hd1 hd2 hR hG kk l D aC z b p e s m args below meth c H locs ls C hE hS hl.1 ⟨hl.1, hl.2.1, fun q hq => ?_⟩
  obtain rfl : q = (0, .ref b) := by
    simpa using hq
  exact lkw_has hl hL
/-- the row of thirteen longs -/
theorem LE.rowNew (hd : decode cL_law pc = .ok (.newarray .long, 2)) (hn : pc + 2 = n) (hR : cu + 1 ≤ 781134 ∧ su + 13 ≤ 6748446) (hq : noQ st) (hqL : noQL L) (kk : LE mL_law (EL Ls xs) n L (.ref SQ :: st) σ (some (.inl fun _ => 0)) (cu + 1) (su + 13) G) : LE mL_law (EL Ls xs) pc L (.int (nI 13) :: st) σ none cu su G := by
  subst hn
  intro l D aC z b w p e s m args below meth c H locs ls C hE hzz hX hP hS hl
  have hw := C.2.2.2.2.2.2.1
  have hK := C.2.2.2.2.2.2.2.1
  have hHs := hS.1
  refine va_newaK (atype := .long) C.2.1 C.2.2.1 (hw _ g_1311) rfl hd (N := 13) (rest := st.map (trw z b w)) rfl (by decide) (by decide) (by decide) hR.1 hR.2 rfl fun H1 cA e1 z1 o1 hAr hNm => ?_
  have hA5 : cA = aC 5 := by
    have h9 : s.vm.findClass ("[" ++ FieldType.long.toString) = some (aC 5) := (hK.2 5 _ rfl).2
    exact Option.some.inj (hNm.symm.trans h9)
  subst hA5
  have h9 := kk l D aC z b H.size p e s m args below meth c H1 locs ls C hE (by omega) ⟨hzz, hHs, e1⟩ (hP.kept (fun i x hx => o1 x.1 ((hP i x hx).lt))) ⟨Nat.le_trans hS.1 (by omega), fun x h1 h2 => (o1 x (Nat.lt_of_lt_of_le h1 hS.1)).trans (hS.2.1 x h1 h2), hS.2.2⟩ (by rw [hqL z b H.size w]; exact hl)
  have e9 : ((Value.ref SQ) :: st).map (trw z b H.size) = .ref H.size :: st.map (trw z b w) := by
    rw [List.map_cons, hq z b H.size w]
    rfl
  rw [e9] at h9
  exact h9
theorem LE.rowSet {g : Nat → Int64} {x : Int64} {i : Int32} (j : Nat) (hd : decode cL_law pc = .ok (.lastore, 1)) (hn : pc + 1 = n) (hi : i = nI j) (hj : j < 13) (kk : LE mL_law (EL Ls xs) n L st σ (some (.inl (vp_updL g j x))) cu su G) : LE mL_law (EL Ls xs) pc L (.long x :: .int i :: .ref SQ :: st) σ (some (.inl g)) cu su G := by
  subst hn
  subst hi
  intro l D aC z b w p e s m args below meth c H locs ls C hE hzz hX hP hS hl
  have hK := C.2.2.2.2.2.2.2.1
  obtain ⟨x1, x2, x3⟩ := hX
  have hlt : w < H.size := (Array.getElem?_eq_some_iff.mp x3).1
  have hP0 : va_P D vwc [(w, .inl (aC 5, 13, .inr (.inl g)))] H := fun k x hx => by
    have hk : k < 1 := (List.getElem?_eq_some_iff.mp hx).1
    rw [show k = 0 by omega] at hx
    cases hx
    exact x3
  refine W.last C.2.1 C.2.2.1 x3 ((hK.2 5 _ rfl).1 13 (fun j => .long (g j))) (fun q => by cases q) (by show ¬ (_ ∨ (arrV _ _ _).slots.size ≤ _); rw [arrV_size]; exact vp_in_nI hj (by decide)) rfl (rest := st.map (trw z b w)) rfl hd fun H1 e1 z1 oq => ?_
  refine kk l D aC z b w p e s m args below meth c H1 _ ls C hE (by rw [z1]; exact hzz) ⟨x1, x2, ?_⟩ (hP.kept (fun k q hk => oq q.1 (fun h => ?_))) (hS.put z1 oq (Or.inr x2)) hl
  · rw [e1, arrV_store, nI_clamp (by omega)]
    refine congrArg some (arrN _ (fun q _ => ?_))
    by_cases hq : q = j
    · subst hq
      simp [updV, vp_updL]
    · simp [updV, vp_updL, hq]
  · obtain ⟨h1, rfl⟩ := wl_of hk
    have : z + k = w := h
    omega
theorem LE.rowGet {g : Nat → Int64} {i : Int32} (j : Nat) (hd : decode cL_law pc = .ok (.laload, 1)) (hn : pc + 1 = n) (hi : i = nI j) (hj : j < 13) (kk : LE mL_law (EL Ls xs) n L (.long (g j) :: st) σ (some (.inl g)) cu su G) : LE mL_law (EL Ls xs) pc L (.int i :: .ref SQ :: st) σ (some (.inl g)) cu su G := by
  subst hn
  subst hi
  intro l D aC z b w p e s m args below meth c H locs ls C hE hzz hX hP hS hl
  have hK := C.2.2.2.2.2.2.2.1
  have hX0 := hX
  obtain ⟨x1, x2, x3⟩ := hX
  have hP0 : va_P D vwc [(w, .inl (aC 5, 13, .inr (.inl g)))] H := fun k x hx => by
    have hk : k < 1 := (List.getElem?_eq_some_iff.mp hx).1
    rw [show k = 0 by omega] at hx
    cases hx
    exact x3
  refine va_lald (D := D) (cl := vwc) C.2.1 C.2.2.1 hK hP0 0 5 rfl rfl (vp_in_nI hj (by decide)) hd ?_
  rw [nI_clamp (by omega)]
  exact kk l D aC z b w p e s m args below meth c H locs ls C hE hzz hX0 hP hS hl
end LNEW
