/-! the sums of texts in the second judgement: the StringBuilder stands at SQ -/
def dfl (d : Nat) : List Value := (List.range (cN d)).map fun k => defaultValue (cTy d k)
theorem cTy_ok8 {d : Nat} (h : d < 8) : ∀ k, k < cN d → parseFieldDescriptor (cT d k).2.2.1 = some (cTy d k) := by
  rcases (show d < 7 ∨ d = 7 by omega) with h | rfl
  · exact cTy_ok h
  · exact tyJ4_ok
theorem inWd8 {d : Nat} (h : d < 8) : ∀ w ∈ u_ws (cR d) (cT d) (cN d), w ∈ WG := by
  rcases (show d < 7 ∨ d = 7 by omega) with h | rfl
  · exact inWd h
  · exact inW7
section NOB
variable {p : Program} {l : Launch} {e : Env} {R : Room} {s : State} {m : MethodId} {args : Array Value} {below : List Frame} {meth : Method} {c : Code} {H : Heap} {locs : List Loc} {cells slots : Nat} {Q : State → Prop}
/-- a new object -/
theorem n_obj {D : va_G} {aC : Nat → ClassId} {own : String} {cc : ByteArray} {pc idx d : Nat} {ls : Array Slot} {rest : List Value} (hx : p.tables.exec = Jvm.exec) (hb : c.code = cc) (hw : ∀ w ∈ WG, w.before args s = true) (hown : s.vm.findClass own = some m.cls) (hK : va_K D vwc (tysOf aC) s) (h1 : Cond.classLink own idx (cR d) ∈ WG) (h2 : Cond.instantiable (cR d) (cN d) ∈ WG) (h3 : Cond.initialized (cR d) ∈ WG) (hd8 : d < 8) (hcells : cells + 1 ≤ R.cells) (hslots : slots + cN d ≤ R.slots) (hdg : decode cc pc = .ok (.new idx, 3))
    (kk : ∀ H1 : Heap, H1.size = H.size + 1 → va_P D vwc [(H.size, .inr (d, dfl d))] H1 → (∀ x : Nat, x < H.size → H1[x]? = H[x]?) → W p l e R s m args below meth c H1 locs (cells + 1) (slots + cN d) Q (F0 m (pc + 3) ls (.ref H.size :: rest))) : W p l e R s m args below meth c H locs cells slots Q (F0 m pc ls rest) := by
  have hKn := hK.1 d _ (vwc_at8 hd8)
  refine W.newcK hx hb hown (hw _ h1) (hw _ h2) (hw _ h3) rfl hdg hcells hslots hKn.2.1 rfl fun H1 kC hkC e1 z1 o1 => ?_
  refine kk H1 z1 (fun k x hx => ?_) o1
  have hz : k < 1 := (List.getElem?_eq_some_iff.mp hx).1
  rw [show k = 0 by omega] at hx
  cases hx
  refine ⟨_, vwc_at8 hd8, (u_born (cTy d) hw (inWd8 hd8) hKn hkC e1 (cTy_ok8 hd8)).to (fun j hj => ?_)⟩
  show defaultValue (cTy d j) = (dfl d).getD j .null
  unfold dfl
  rw [List.getD_eq_getElem?_getD]
  simp [show j < cN d from hj]
end NOB
theorem lx_zs {l : Launch} {M : MT} {D : va_G} {aC : Nat → ClassId} {z : Nat} {p : Program} {s U : State} {m : MethodId} {args : Array Value} {meth : Method} {c : Code} {H : Heap} {locs : List Loc} {A : Nat → Prop} (C : Lx l M D aC z p s m args meth c) (hS : va_S (AA z s.heap.size) s.heap H locs) (hA : ∀ x, A x → AA z s.heap.size x) (hU : U.heap = H) (hW : s.WarmedH U.vm) : ZS A U U.heap := by
  rw [hU]
  exact ZS.go hW C.2.2.2.2.2.2.2.2.2.1.2.2 hS.2.1 hA
/-- the new text, as String's methods see it -/
theorem S1.vks {D : va_G} {aC : Nat → ClassId} {b w k : Nat} {f : Nat → Int32} {A : Nat → Prop} {bs : List Int32} {s : State} {args : Array Value} {H : Heap} (hw : ∀ w ∈ WG, w.before args s = true) (hK : va_K D vwc (tysOf aC) s) (h : va_P D vwc (S1 aC b w k f) H) (hk : k = bs.length) (hk16 : k < 16) (hf : ∀ j, j < k → f j = bs.getD j 0) (hb : ¬ A b) (hw9 : ¬ A w) : vk_S 1 [bs.length] [bs] (fun _ => b) (fun _ => w) A s H := by
  subst hk
  have h1 : H[w]? = some (arrV (aC 6) bs.length (fun j => .int (va_cpy f (fun _ => 0) 0 0 bs.length j))) := h 1 (w, .inl (aC 6, bs.length, .inl (va_cpy f (fun _ => 0) 0 0 bs.length))) rfl
  obtain ⟨r, hr, cell, q1, q2, q3, q4⟩ := h 0 _ rfl
  have hr : r = (cR 6, cT 6, cN 6) := Option.some.inj (hr.symm.trans (vwc_at (d := 6) (by decide)))
  subst hr
  obtain ⟨hSl, hfc, kC, hkC, hkind⟩ := hK.1 6 _ (vwc_at (d := 6) (by decide))
  have fld : ∀ k, k < 4 → ∃ cf kf fi fd, s.fieldFound? (cT 6 k).1 (cT 6 k).2.1 (cT 6 k).2.2.1 = some (cf, kf, fi, fd) ∧ fd.isStatic = false ∧ cell.slots[fd.slot]? = some (vp_V [.ref w, .int 0, .int 0, .int 0] k) := by
    intro k hk
    obtain ⟨cf, kf, fi, fd, hi, hsl⟩ := hSl k hk
    refine ⟨cf, kf, fi, fd, hi, (u_facts hfc hkC (u_lays hw (inWd (d := 6) (by decide)) hk) hi).1, ?_⟩
    rw [hsl]
    exact q4 k hk
  have hun : cell.vm ≠ .unknown := by
    rw [q3]
    intro q
    cases q
  refine ⟨fun i hi => ?_, fun i j hi hj _ => by omega⟩
  have hi0 : i = 0 := by omega
  subst hi0
  refine ⟨⟨cell, q1, by rw [q3]; rfl, by rw [q2]; exact hfc, hb⟩, ?_, ?_, ?_⟩
  · obtain ⟨cf, kf, fi, fd, e1, e2, e3⟩ := fld 1 (by decide)
    exact ⟨cf, kf, fi, fd, cell, e1, e2, q1, hun, e3, hb⟩
  · obtain ⟨cf, kf, fi, fd, e1, e2, e3⟩ := fld 0 (by decide)
    exact ⟨cf, kf, fi, fd, cell, e1, e2, q1, hun, e3, hb⟩
  · refine ⟨_, h1, (hK.2 6 (aC 6, .byte) rfl).1 bs.length (fun j => .int (va_cpy f (fun _ => 0) 0 0 bs.length j)), ?_, ?_, ?_, ?_, hw9⟩
    · intro q
      cases q
    · rw [arrV_size]
      exact Nat.le_refl _
    · rw [arrV_size]
      rfl
    · intro j hj
      have hj9 : j < bs.length := hj
      refine (arrV_read _ _ hj9).trans (congrArg (fun x => some (Value.int x)) ?_)
      rw [pk_cpy_in (Nat.zero_le j) (by omega), show 0 + (j - 0) = j by omega]
      exact hf j hj9
section LESB
variable {M : MT} {E : ET} {pc pr n idx : Nat} {L : List (Nat × Value)} {st : List Value} {σ : SS} {k : Nat} {g : Nat → Int32} {cu su : Nat} {G : GT}
def noQ (st : List Value) : Prop := ∀ z b w w', st.map (trw z b w) = st.map (trw z b w')
def noQL (L : List (Nat × Value)) : Prop := ∀ z b w w', trwL z b w L = trwL z b w' L
theorem LE.sbNew (hown : (mtY M).cls = "SiegePostLaw") (hd0 : decode (mtC M) pc = .ok (.new 228, 3)) (hd1 : decode (mtC M) (pc + 3) = .ok (.dup, 1)) (hd2 : decode (mtC M) (pc + 4) = .ok (.invokespecial 230, 3)) (hn : pc + 7 = n) (hR : 4 ≤ (mtR M).frames ∧ 128 ≤ (mtR M).locals ∧ cu + 2 ≤ (mtR M).cells ∧ su + 20 ≤ (mtR M).slots) (hst : (st.map fun v => v.category).sum ≤ 7) (hq : noQ st) (hqL : noQL L) (kk : LE M E n L (.ref SQ :: st) σ (some (.inr (0, fun _ => 0))) (cu + 2) (su + 20) G) : LE M E pc L st σ none cu su G := by
  subst hn
  intro l D aC z b w p e s m args below meth c H locs ls C hE hzz hX hP hS hl
  have hw := C.2.2.2.2.2.2.1
  have hK := C.2.2.2.2.2.2.2.1
  have hF := C.2.2.2.2.2.2.2.2.1
  have ho : s.vm.findClass "SiegePostLaw" = some m.cls := hown ▸ C.2.2.2.2.2.1
  refine n_obj (own := "SiegePostLaw") (d := 7) C.2.1 C.2.2.1 hw ho hK g_1036 g_1037 g_46 (by decide) (by omega) (show su + 4 ≤ _ by omega) hd0 (fun H1 z1 hN o1 => ?_)
  refine lv_dup C.2.1 C.2.2.1 hd1 rfl ?_
  have hS1 : va_S (AA z s.heap.size) s.heap H1 locs := ⟨Nat.le_trans hS.1 (by omega), fun x h1 h2 => (o1 x (Nat.lt_of_lt_of_le h1 hS.1)).trans (hS.2.1 x h1 h2), hS.2.2⟩
  have hsz := hS.1
  have hAA : ∀ x, (x = H.size ∨ H.size + 1 ≤ x) → AA z s.heap.size x := fun x h => Or.inr (by omega)
  refine p_call (A' := fun x => x = H.size ∨ H.size + 1 ≤ x) (rest := .ref H.size :: st.map (trw z b w)) hAA (va_runI (As := []) (rest := .ref H.size :: st.map (trw z b w)) (nL := mtL M) (n := 0) (own := "SiegePostLaw") (b := H.size) (cc := mtC M) (Ts := WG) ⟨C.2.1, C.2.2.1, C.2.2.2.1, ho, hw⟩ (jb_bi0 l D aC H.size (H.size + 1) (fun x => x = H.size ∨ H.size + 1 ≤ x) (Or.inl rfl) (fun x h => Or.inr h) (by omega)) ⟨j_cb (M' := mJ_bi0) (np := 0) hw g_1038 g_46 g_1040 rfl ⟨by decide +kernel, by decide +kernel, by decide +kernel⟩ ⟨show 3 + 1 ≤ _ by omega, show 8 + (1 + 11) + 96 ≤ _ by omega⟩, rfl, hw _ g_1039⟩ ⟨JN.blind, fun U hU hW => ⟨rfl, by rw [hU, z1]; exact Nat.le_refl _, hF.warm hW, lx_zs C hS1 hAA hU hW, va_K.moved hW.alike hK, by rw [hU]; exact hN⟩⟩ rfl rfl hl.1 rfl (by
    show 2 * 0 + (1 + ((st.map (trw z b w)).map fun v => v.category).sum) ≤ 8
    rw [List.map_map, show ((fun v => v.category) ∘ trw z b w) = fun v : Value => v.category from funext fun v => trw_cat z b w v]
    omega) hd2 ⟨show cu + 1 + 1 ≤ _ by omega, show su + 4 + 16 ≤ _ by omega⟩) hS1 (fun r H2 locs1 hR9 h1 h2 hS2 => ?_)
  obtain ⟨rfl, v, hv1, hv2, hP0⟩ := hR9
  have hkeep : ∀ x : Nat, x < H.size → H2[x]? = H[x]? := fun x hx => (h2 x (by omega) (by omega)).trans (o1 x hx)
  have h9 := kk l D aC z b H.size p e s m args below meth c H2 locs1 ls C hE (by omega) ⟨v, by omega, hsz, by omega, by omega, hv2, hP0⟩ (hP.kept (fun i x hx => hkeep x.1 ((hP i x hx).lt))) hS2 (by rw [hqL z b H.size w]; exact hl)
  have e9 : ((Value.ref SQ) :: st).map (trw z b H.size) = .ref H.size :: st.map (trw z b w) := by
    rw [List.map_cons, hq z b H.size w]
    rfl
  rw [e9] at h9
  exact h9
theorem jbq_p {D : va_G} {aC : Nat → ClassId} {q v k : Nat} {f : Nat → Int32} {A : Nat → Prop} {r : Option Value} {p : Program} {l : Launch} {e : Env} {R : Room} {s : State} {m : MethodId} {args : Array Value} {below : List Frame} {meth : Method} {c : Code} {H : Heap} {locs : List Loc} {cells slots mc ms : Nat} {g : JFrame} {rest : List Value} {a : Array Value} (h : va_Run p l e R s m args below meth c H locs cells slots mc ms g rest (JBQ D aC q v k f A r a) A) : va_Run p l e R s m args below meth c H locs cells slots mc ms g rest (JPQ (fun r9 H9 => r9 = r ∧ va_P D vwc (W0 aC q v k f) H9) A a) A := by
  intro T hT X
  obtain ⟨v9, st₀, t, T', L, h0, X', hL, e1, e2, ⟨⟨hv, hP1⟩, hFr⟩, stp⟩ := h T hT X
  exact ⟨v9, st₀, t, T', L, h0, X', hL, e1, e2, ⟨⟨r, hv, rfl, hP1⟩, hFr⟩, stp⟩
theorem LE.sbS (q9 : Nat × String × List Int32) (hq9 : q9 ∈ LitL) (hB : BL q9.2.2) (hown : (mtY M).cls = "SiegePostLaw") (hd0 : decode (mtC M) pc = .ok (.ldc q9.1, 2)) (hd1 : decode (mtC M) (pc + 2) = .ok (.invokevirtual 233, 3)) (hn : pc + 5 = n) (hk : k + q9.2.2.length ≤ 16) (hR : 6 ≤ (mtR M).frames ∧ 192 ≤ (mtR M).locals ∧ cu ≤ (mtR M).cells ∧ su ≤ (mtR M).slots) (hst : (st.map fun v => v.category).sum ≤ 8) (kk : LE M E n L (.ref SQ :: st) σ (some (.inr (k + q9.2.2.length, va_cpy (fun j => q9.2.2.getD j 0) g 0 k q9.2.2.length))) cu su G) : LE M E pc L (.ref SQ :: st) σ (some (.inr (k, g))) cu su G := by
  subst hn
  intro l D aC z b w p e s m args below meth c H locs ls C hE hzz hX hP hS hl
  have hw := C.2.2.2.2.2.2.1
  have hK := C.2.2.2.2.2.2.2.1
  have hF := C.2.2.2.2.2.2.2.2.1
  have ho : s.vm.findClass "SiegePostLaw" = some m.cls := hown ▸ C.2.2.2.2.2.1
  obtain ⟨v, x1, x2, x3, x4, x5, hP0⟩ := hX
  have hwz : w < H.size := (hP0 0 _ rfl).lt
  have hvz : v < H.size := (hP0 1 _ rfl).lt
  have hAA : ∀ x, (x = w ∨ x = v) → AA z s.heap.size x := fun x h => Or.inr (by omega)
  obtain ⟨sa, va, hr1, hr2⟩ := C.2.2.2.2.2.2.2.2.2.1.2.2.2.2.2 q9 hq9
  refine va_ldcS (own := "SiegePostLaw") (tx := q9.2.1) C.2.1 C.2.2.1 ho hr1 hd0 ?_
  refine p_call (A' := fun x => x = w ∨ x = v) (rest := st.map (trw z b w)) hAA (jbq_p (va_runV (As := [.ref sa]) (rest := st.map (trw z b w)) (nL := mtL M) (n := 1) (own := "SiegePostLaw") (C := "java/lang/StringBuilder") (b := w) (cc := mtC M) (Ts := WG) ⟨C.2.1, C.2.2.1, C.2.2.2.1, ho, hw⟩ (jb_bS l D aC w v k g (fun x => x = w ∨ x = v) ⟨Or.inl rfl, Or.inr rfl, x5⟩ hB sa va hk) ⟨j_cb (M' := mJ_bS) (np := 1) hw g_1068 g_46 g_1071 rfl ⟨by decide +kernel, by decide +kernel, by decide +kernel⟩ ⟨show 5 + 1 ≤ _ by omega, show 8 + (2 + 11) + 160 ≤ _ by omega⟩, hw _ g_1069, hw _ g_1070⟩ ⟨JL.blind, va_recv hK hP0 (vwc_at8 (d := 7) (by decide)) (q0 := 0) rfl, fun U hU hW => ⟨rfl, ⟨hF.warm hW, lx_zs C hS hAA hU hW, va_K.moved hW.alike hK, by rw [hU]; exact hP0⟩, by rw [hU]; exact vk_S.moved hW.alike ((hr2.kept hS.2.1).narrow hAA)⟩⟩ rfl rfl hl.1 rfl (by
    show 2 * 0 + _ ≤ 8
    rw [List.map_map, show ((fun v => v.category) ∘ trw z b w) = fun v : Value => v.category from funext fun v => trw_cat z b w v]
    omega) hd1 ⟨hR.2.2.1, hR.2.2.2⟩)) hS (fun r H2 locs1 hR9 h1 h2 hS2 => ?_)
  obtain ⟨rfl, hP1⟩ := hR9
  exact kk l D aC z b w p e s m args below meth c H2 locs1 ls C hE (Nat.le_trans hzz h1) ⟨v, x1, x2, x3, x4, x5, hP1⟩ (hP.kept (fun i x hx => by
    obtain ⟨h3, rfl⟩ := wl_of hx
    exact h2 _ (hP i _ hx).lt (fun h => by
      rcases h with h | h
      · have : z + i = w := h
        omega
      · have : z + i = v := h
        omega))) hS2 hl
theorem LE.sbI {x : Int32} (d : Nat) (hd : d < 10) (hx9 : x = nI d) (hown : (mtY M).cls = "SiegePostLaw") (hd1 : decode (mtC M) pc = .ok (.invokevirtual 236, 3)) (hn : pc + 3 = n) (hk : k < 16) (hR : 6 ≤ (mtR M).frames ∧ 192 ≤ (mtR M).locals ∧ cu ≤ (mtR M).cells ∧ su ≤ (mtR M).slots) (hst : (st.map fun v => v.category).sum ≤ 8) (kk : LE M E n L (.ref SQ :: st) σ (some (.inr (k + 1, upd g k (nI (48 + d))))) cu su G) : LE M E pc L (.int x :: .ref SQ :: st) σ (some (.inr (k, g))) cu su G := by
  subst hn
  subst hx9
  intro l D aC z b w p e s m args below meth c H locs ls C hE hzz hX hP hS hl
  have hw := C.2.2.2.2.2.2.1
  have hK := C.2.2.2.2.2.2.2.1
  have hF := C.2.2.2.2.2.2.2.2.1
  have ho : s.vm.findClass "SiegePostLaw" = some m.cls := hown ▸ C.2.2.2.2.2.1
  obtain ⟨v, x1, x2, x3, x4, x5, hP0⟩ := hX
  have hwz : w < H.size := (hP0 0 _ rfl).lt
  have hvz : v < H.size := (hP0 1 _ rfl).lt
  have hAA : ∀ x, (x = w ∨ x = v) → AA z s.heap.size x := fun x h => Or.inr (by omega)
  refine p_call (A' := fun x => x = w ∨ x = v) (rest := st.map (trw z b w)) hAA (jbq_p (va_runV (As := [.int (nI d)]) (rest := st.map (trw z b w)) (nL := mtL M) (n := 1) (own := "SiegePostLaw") (C := "java/lang/StringBuilder") (b := w) (cc := mtC M) (Ts := WG) ⟨C.2.1, C.2.2.1, C.2.2.2.1, ho, hw⟩ (jb_bI l D aC w v k g (fun x => x = w ∨ x = v) ⟨Or.inl rfl, Or.inr rfl, x5⟩ d hd hk) ⟨j_cb (M' := mJ_bI) (np := 1) hw g_1184 g_46 g_1187 rfl ⟨by decide +kernel, by decide +kernel, by decide +kernel⟩ ⟨show 3 + 1 ≤ _ by omega, show 8 + (2 + 11) + 96 ≤ _ by omega⟩, hw _ g_1185, hw _ g_1186⟩ ⟨JB.blind, va_recv hK hP0 (vwc_at8 (d := 7) (by decide)) (q0 := 0) rfl, fun U hU hW => ⟨rfl, hF.warm hW, lx_zs C hS hAA hU hW, va_K.moved hW.alike hK, by rw [hU]; exact hP0⟩⟩ rfl rfl hl.1 rfl (by
    show 2 * 0 + _ ≤ 8
    rw [List.map_map, show ((fun v => v.category) ∘ trw z b w) = fun v : Value => v.category from funext fun v => trw_cat z b w v]
    omega) hd1 ⟨hR.2.2.1, hR.2.2.2⟩)) hS (fun r H2 locs1 hR9 h1 h2 hS2 => ?_)
  obtain ⟨rfl, hP1⟩ := hR9
  exact kk l D aC z b w p e s m args below meth c H2 locs1 ls C hE (Nat.le_trans hzz h1) ⟨v, x1, x2, x3, x4, x5, hP1⟩ (hP.kept (fun i x hx => by
    obtain ⟨h3, rfl⟩ := wl_of hx
    exact h2 _ (hP i _ hx).lt (fun h => by
      rcases h with h | h
      · have : z + i = w := h
        omega
      · have : z + i = v := h
        omega))) hS2 hl
/-- toString, and the text is read -/
theorem LE.sbRead {bs : List Int32} {p9 : Int32 → SS → Prop} (hown : (mtY M).cls = "SiegePostLaw") (hd0 : decode (mtC M) pc = .ok (.invokevirtual 243, 3)) (hgo : pc + 3 = pr ∨ ∃ off : Int, decode (mtC M) (pc + 3) = .ok (.goto off, 3) ∧ ((pc + 3 : Nat) : Int) + off = (pr : Int)) (hd : decode (mtC M) pr = .ok (.invokestatic idx, 3)) (hn : pr + 3 = n) (cv : CSL (mtY M).cls idx mL_reads 2) (hk : k = bs.length) (hk16 : k < 16) (hg : ∀ j, j < k → g j = bs.getD j 0) (hf8 : F8 g) (hR : 10 ≤ (mtR M).frames ∧ 330 ≤ (mtR M).locals ∧ cu + 62 ≤ (mtR M).cells ∧ su + 380 ≤ (mtR M).slots) (hst : (st.map fun v => v.category).sum ≤ 7) (hq : noQ st) (hM : CX (SE bs) mL_reads [.ref 0, .ref SP] σ (PI p9))
    (kk : ∀ r σ', p9 r σ' → LE M E n L (.int r :: st) σ' none (cu + 62) (su + 380) G) : LE M E pc L (.ref SQ :: .ref 0 :: st) σ (some (.inr (k, g))) cu su G := by
  subst hn
  intro l D aC z b w p e s m args below meth c H locs ls C hE hzz hX hP hS hl
  have hw := C.2.2.2.2.2.2.1
  have hK := C.2.2.2.2.2.2.2.1
  have hF := C.2.2.2.2.2.2.2.2.1
  have ho : s.vm.findClass "SiegePostLaw" = some m.cls := hown ▸ C.2.2.2.2.2.1
  obtain ⟨v, x1, x2, x3, x4, x5, hP0⟩ := hX
  have hwz : w < H.size := (hP0 0 _ rfl).lt
  have hvz : v < H.size := (hP0 1 _ rfl).lt
  have hAA : ∀ x, (x = w ∨ x = v) → AA z s.heap.size x := fun x h => Or.inr (by omega)
  refine p_call (A' := fun x => H.size ≤ x) (rest := (Value.ref 0 :: st).map (trw z b w)) (fun x h => Or.inr (Nat.le_trans hS.1 h)) (va_runV (As := []) (rest := (Value.ref 0 :: st).map (trw z b w)) (nL := mtL M) (n := 0) (own := "SiegePostLaw") (C := "java/lang/StringBuilder") (b := w) (cc := mtC M) (Ts := WG) ⟨C.2.1, C.2.2.1, C.2.2.2.1, ho, hw⟩ (jb_bts l D aC w v k H.size g hf8 hk16) ⟨j_cb (M' := mJ_bts) (np := 0) hw g_1211 g_46 g_1214 rfl ⟨by decide +kernel, by decide +kernel, by decide +kernel⟩ ⟨show 6 + 1 ≤ _ by omega, show 8 + (1 + 11) + 192 ≤ _ by omega⟩, hw _ g_1212, hw _ g_1213⟩ ⟨JT9.blind, va_recv hK hP0 (vwc_at8 (d := 7) (by decide)) (q0 := 0) rfl, fun U hU hW => ⟨rfl, hwz, hvz, by rw [hU]; exact Nat.le_refl _, hF.warm hW, lx_zs C hS (fun x h => Or.inr (Nat.le_trans hS.1 h)) hU hW, va_K.moved hW.alike hK, by rw [hU]; exact hP0⟩⟩ rfl rfl hl.1 rfl (by
    show 2 * 0 + (1 + ((st.map (trw z b w)).map fun v => v.category).sum) ≤ 8
    rw [List.map_map, show ((fun v => v.category) ∘ trw z b w) = fun v : Value => v.category from funext fun v => trw_cat z b w v]
    omega) hd0 ⟨show cu + 2 ≤ _ by omega, show su + 20 ≤ _ by omega⟩) hS (fun r H2 locs1 hR9 h1 h2 hS2 => ?_)
  obtain ⟨b9, w9, rfl, hb9, hw9, hbw, hP9⟩ := hR9
  have hb9z : @LT.lt Nat _ b9 H2.size := (hP9 0 _ rfl).lt
  have hw9z : @LT.lt Nat _ w9 H2.size := (hP9 1 _ rfl).lt
  have hPw : va_P D vwc (wl z aC σ) H2 := hP.kept (fun i x hx => h2 x.1 ((hP i x hx).lt) (fun h => absurd ((hP i x hx).lt) (Nat.not_lt.mpr h)))
  have hzz2 : z + NN ≤ H2.size := Nat.le_trans hzz h1
  have hV : vk_S 1 [bs.length] [bs] (fun _ => b9) (fun _ => w9) (AA z H2.size) s H2 := S1.vks hw hK hP9 hk hk16 hg (by
    rintro (h | h)
    · omega
    · omega) (by
    rintro (h | h)
    · omega
    · omega)
  have key : W p l e (mtR M) s m args below meth c H2 locs1 (cu + 2) (su + 20) (G z D aC below args s) (F0 m pr ls (.ref b9 :: .ref (z + 0) :: st.map (trw z b w))) := by
    obtain ⟨c1, c2, c4, c5, c6, c7⟩ := cv
    have hwM := wM_nil c6
    refine LE.ofRun (M' := mL_reads) (Q' := PI p9) (f := none) (a := ([.ref 0, .ref SP].map (trw z b9 0)).toArray) C hE hzz2 trivial hS2 hl ?_ (nrV.pi.map z b w) (fun v s9 h => by
      obtain ⟨r, h1, h2⟩ := h
      cases h1
      exact LE.cu (by show cu + 2 + 60 = cu + 62; omega) (by show su + 20 + 360 = su + 380; omega) (kk r s9 h2))
    exact va_runS (As := [.ref 0, .ref SP].map (trw z b9 0)) (rest := st.map (trw z b w)) (Ts := WG) (own := (mtY M).cls) (n := 2) (bytes := mtC mL_reads) (maxL := mtL mL_reads) (ret := mtT mL_reads) (nL := mtL M) (cc := mtC M) ⟨C.2.1, C.2.2.1, C.2.2.2.1, C.2.2.2.2.2.1, hw⟩ (hM l D aC z H2.size b9 C.1)
      ⟨⟨rfl, rfl, show 9 + 1 ≤ _ by omega, show 8 + (3 + 11) + 288 ≤ _ by omega, pay_in hw (WG_in c5), by rw [hwM]; exact List.mem_cons_self, by rw [← hwM]; exact hw _ c5, hw _ c4, ⟨c7.1, c7.2.1⟩, fun sig h => by
        have h2 := c7.2.2
        rw [h] at h2
        exact (Option.some.inj h2).symm, hw _ c1⟩, hw _ c2⟩
      ⟨CX.blind SE.eb, fun U hU hW => ⟨rfl, C.sw hzz2 hPw hS2 hU hW, w9, by rw [hU]; exact vk_S.moved hW.alike hV⟩⟩ rfl rfl hl.1 rfl (by
        show 2 * 0 + ((st.map (trw z b w)).map fun v => v.category).sum ≤ 8
        rw [List.map_map, show ((fun v => v.category) ∘ trw z b w) = fun v : Value => v.category from funext fun v => trw_cat z b w v]
        omega) hd ⟨show cu + 2 + 60 ≤ _ by omega, show su + 20 + 360 ≤ _ by omega⟩
  rcases hgo with rfl | ⟨off, hg1, hg2⟩
  · exact key
  · exact lv_goto C.2.1 C.2.2.1 hg1 hg2 key
end LESB
def TE : ET := fun _ _ _ => True
theorem TE.eb : EB TE := fun _ _ _ _ _ _ _ => trivial
theorem TE.eg {E : ET} : EG E TE := fun _ _ _ _ _ _ _ _ _ _ _ => trivial
