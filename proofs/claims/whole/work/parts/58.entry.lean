/-! THE LAW'S ENTRY: the two objects and the two rows are made -/
def Nl (b Ls : Nat) (xs : Nat → Int32) (l : Launch) (D : va_G) (aC : Nat → ClassId) (z : Nat) (p : Program) (s : State) (m : MethodId) (meth : Method) (c : Code) : Prop := Lx b Ls xs l D aC z p s m meth c ∧ NFo s ∧ s.heap.size = z
def LI (b Ls : Nat) (xs : Nat → Int32) (Z : ZT) (pc : Nat) (L : List (Nat × Value)) (st : List Value) (n : Nat) (f : Nat → RE) (cu su : Nat) : Prop :=
  ∀ (l : Launch) (D : va_G) (aC : Nat → ClassId) (z : Nat) (p : Program) (e : Env) (s : State) (m : MethodId) (below : List Frame) (meth : Method) (c : Code) (H : Heap) (locs : List Loc) (ls : Array Slot),
    Nl b Ls xs l D aC z p s m meth c → H.size = z + n → va_P D vwc (wf z aC n f) H → va_S (AN z) s.heap H locs → lv_has ls 9 ((0, .ref b) :: trL z L) →
    W p l e room_1 s m #[.ref b] below meth c H locs cu su (Z below #[.ref b] s) (F0 m pc ls (st.map (trv z)))
section LIQ
variable {b Ls : Nat} {xs : Nat → Int32} {Z : ZT} {pc n n1 : Nat} {L : List (Nat × Value)} {st : List Value} {f : Nat → RE} {cu su : Nat}
theorem LI.iconst {i : Int} (v : Int32) (hd : decode cL_law pc = .ok (.iconst i, 1)) (hn : pc + 1 = n1) (hv : Int32.ofInt i = v) (k : LI b Ls xs Z n1 L (.int v :: st) n f cu su) : LI b Ls xs Z pc L st n f cu su := by
  subst hn
  intro l D aC z p e s m below meth c H locs ls C hz hP hS hl
  exact lv_iconst C.1.1.2.1 C.1.1.2.2.1 hd hv (k l D aC z p e s m below meth c H locs ls C hz hP hS hl)
theorem LI.dup {a : Value} (hd : decode cL_law pc = .ok (.dup, 1)) (hn : pc + 1 = n1) (ha : a.category = 1) (k : LI b Ls xs Z n1 L (a :: a :: st) n f cu su) : LI b Ls xs Z pc L (a :: st) n f cu su := by
  subst hn
  intro l D aC z p e s m below meth c H locs ls C hz hP hS hl
  exact lv_dup C.1.1.2.1 C.1.1.2.2.1 hd ((trv_cat z a).trans ha) (k l D aC z p e s m below meth c H locs ls C hz hP hS hl)
theorem LI.astore_n {j : Fin 4} {x : Nat} (hd : decode cL_law pc = .ok (.astore_n j, 1)) (hn : pc + 1 = n1) (hj : j.val ≠ 0 ∧ j.val < 9) (k : LI b Ls xs Z n1 (stL j.val (.ref x) L) st n f cu su) : LI b Ls xs Z pc L (.ref x :: st) n f cu su := by
  subst hn
  intro l D aC z p e s m below meth c H locs ls C hz hP hS hl
  exact lv_astore_n C.1.1.2.1 C.1.1.2.2.1 hd rfl hl hj.2 rfl (fun ls' h => k l D aC z p e s m below meth c H locs ls' C hz hP hS (lst_ok (v := .ref x) hj.1 h))
theorem LI.astore {j x : Nat} (hd : decode cL_law pc = .ok (.astore j, 2)) (hn : pc + 2 = n1) (hj : j ≠ 0 ∧ j < 9) (k : LI b Ls xs Z n1 (stL j (.ref x) L) st n f cu su) : LI b Ls xs Z pc L (.ref x :: st) n f cu su := by
  subst hn
  intro l D aC z p e s m below meth c H locs ls C hz hP hS hl
  exact lv_astore C.1.1.2.1 C.1.1.2.2.1 hd hl hj.2 rfl (fun ls' h => k l D aC z p e s m below meth c H locs ls' C hz hP hS (lst_ok (v := .ref x) hj.1 h))
theorem LI.istore {j : Nat} {x : Int32} (hd : decode cL_law pc = .ok (.istore j, 2)) (hn : pc + 2 = n1) (hj : j ≠ 0 ∧ j < 9) (k : LI b Ls xs Z n1 (stL j (.int x) L) st n f cu su) : LI b Ls xs Z pc L (.int x :: st) n f cu su := by
  subst hn
  intro l D aC z p e s m below meth c H locs ls C hz hP hS hl
  exact lv_istore C.1.1.2.1 C.1.1.2.2.1 hd hl hj.2 rfl (fun ls' h => k l D aC z p e s m below meth c H locs ls' C hz hP hS (lst_ok (v := .int x) hj.1 h))
theorem LI.new {idx d ms : Nat} (hd : decode cL_law pc = .ok (.new idx, 3)) (hn : pc + 3 = n1) (hlk : NLK RL idx d) (hdd : d < 7) (hms : cN d = ms) (hc : cu + 1 ≤ 603072 ∧ su + ms ≤ 7211114) (k : LI b Ls xs Z n1 L (.ref n :: st) (n + 1) (up f n (.inl (d, dfl d))) (cu + 1) (su + ms)) : LI b Ls xs Z pc L st n f cu su := by
  subst hn
  subst hms
  intro l D aC z p e s m below meth c H locs ls C hz hP hS hl
  have hw := C.1.1.2.2.2.2.2.2.1
  have hK := C.1.1.2.2.2.2.2.2.2.1
  have hKn := hK.1 d _ (vwc_at hdd)
  refine W.newcK C.1.1.2.1 C.1.1.2.2.1 C.1.1.2.2.2.2.2.1 (hw _ hlk.1) (hw _ hlk.2.1) (hw _ hlk.2.2) rfl hd hc.1 hc.2 hKn.2.1 hz fun H1 kC hkC e1 z1 o1 => ?_
  have hk : ∀ (k : Nat) (x : Nat × va_E), (wf z aC n f)[k]? = some x → H1[x.1]? = H[x.1]? := fun k x hx => o1 x.1 (by rw [← hz]; exact (hP k x hx).lt)
  have hP1 : va_P D vwc (wf z aC n f ++ [(z + n, abE z aC (.inl (d, dfl d)))]) H1 := (hP.kept hk).app (fun k x hx => by
    have hz9 : k < 1 := (List.getElem?_eq_some_iff.mp hx).1
    rw [show k = 0 by omega] at hx
    cases hx
    refine ⟨_, vwc_at hdd, (u_born (cTy d) hw (inWd hdd) hKn hkC e1 (cTy_ok hdd)).to (fun j hj => ?_)⟩
    show defaultValue (cTy d j) = ((dfl d).map (trv z)).getD j .null
    unfold dfl
    rw [List.map_map, List.getD_eq_getElem?_getD]
    simp [show j < cN d from hj, trv_def])
  rw [wf_push] at hP1
  exact k l D aC z p e s m below meth c H1 locs ls C (by rw [z1]; omega) hP1 ⟨Nat.le_trans hS.1 (by omega), fun x h1 h2 => (o1 x (by have := Nat.lt_of_lt_of_le h1 hS.1; omega)).trans (hS.2.1 x h1 h2), hS.2.2⟩ hl
theorem LI.newa {at_ : ArrayType} {i : Int32} (w : Nat) {ty : FieldType} (hd : decode cL_law pc = .ok (.newarray at_, 2)) (hn : pc + 2 = n1) (hty : newarray.typeOf at_ = ty ∧ (ty = .long ∧ w = 0 ∨ ty = .double ∧ w = 1)) (harr : Cond.arrayClass ty ∈ WG) (hi : i = nI 1) (hc : cu + 1 ≤ 603072 ∧ su + 1 ≤ 7211114) (k : LI b Ls xs Z n1 L (.ref n :: st) (n + 1) (up f n (.inr (.inr (.inr w)))) (cu + 1) (su + 1)) : LI b Ls xs Z pc L (.int i :: st) n f cu su := by
  subst hn
  subst hi
  obtain ⟨rfl, hty⟩ := hty
  intro l D aC z p e s m below meth c H locs ls C hz hP hS hl
  have hw := C.1.1.2.2.2.2.2.2.1
  have hK := C.1.1.2.2.2.2.2.2.2.1
  refine va_newaK C.1.1.2.1 C.1.1.2.2.1 (hw _ harr) rfl hd (N := 1) (rest := st.map (trv z)) rfl (by decide) (by decide) (by rcases hty with ⟨e, -⟩ | ⟨e, -⟩ <;> rw [e] <;> decide) hc.1 hc.2 hz fun H1 cA e1 z1 o1 hAr hNm => ?_
  have hk : ∀ (k : Nat) (x : Nat × va_E), (wf z aC n f)[k]? = some x → H1[x.1]? = H[x.1]? := fun k x hx => o1 x.1 (by rw [← hz]; exact (hP k x hx).lt)
  have hP1 : va_P D vwc (wf z aC n f ++ [(z + n, abE z aC (.inr (.inr (.inr w))))]) H1 := (hP.kept hk).app (fun k x hx => by
    have hz9 : k < 1 := (List.getElem?_eq_some_iff.mp hx).1
    rw [show k = 0 by omega] at hx
    cases hx
    rcases hty with ⟨e, rfl⟩ | ⟨e, rfl⟩
    · have h9 : s.vm.findClass ("[" ++ FieldType.long.toString) = some (aC 5) := (hK.2 5 _ rfl).2
      rw [e, h9] at hNm
      cases Option.some.inj hNm
      refine Eq.trans e1 (congrArg some ?_)
      rw [e]
      rfl
    · have h9 : s.vm.findClass ("[" ++ FieldType.double.toString) = some (aC 6) := (hK.2 6 _ rfl).2
      rw [e, h9] at hNm
      cases Option.some.inj hNm
      refine Eq.trans e1 (congrArg some ?_)
      rw [e]
      rfl)
  rw [wf_push] at hP1
  exact k l D aC z p e s m below meth c H1 locs ls C (by rw [z1]; omega) hP1 ⟨Nat.le_trans hS.1 (by omega), fun x h1 h2 => (o1 x (by have := Nat.lt_of_lt_of_le h1 hS.1; omega)).trans (hS.2.1 x h1 h2), hS.2.2⟩ hl
theorem LI.init {M' : MT} {idx a n' : Nat} {P : (Nat → RE) → Prop} {mc ms : Nat} (hd : decode cL_law pc = .ok (.invokespecial idx, 3)) (hn : pc + 3 = n1) (cv : ILK RL idx M') (hm : (mtR M').cells = mc ∧ (mtR M').slots = ms) (hR : (mtR M').frames + 1 ≤ 19 ∧ 8 + (mtL M' + 11) + (mtR M').locals ≤ 10798) (hc : cu + mc ≤ 603072 ∧ su + ms ≤ 7211114) (hst : (st.map fun v => v.category).sum ≤ 8) (hM : CI M' [.ref a] n f n' P) (kk : ∀ g, P g → LI b Ls xs Z n1 L st n' g (cu + mc) (su + ms)) : LI b Ls xs Z pc L (.ref a :: st) n f cu su := by
  subst hn
  intro l D aC z p e s m below meth c H locs ls C hz hP hS hl
  obtain ⟨c1, c2, c4, c5, c6, c7, c8, c9⟩ := cv
  have hw := C.1.1.2.2.2.2.2.2.1
  have hwM := wM_nil c6
  rw [c9] at hwM
  have hlen : ∀ sig, parseMethodDescriptor (mtY M').desc = some sig → 0 = sig.parameters.length := fun sig h => by
    have h2 := c7.2.2
    rw [h] at h2
    exact (Option.some.inj h2).symm
  have hPre : PreS s H (va_Pc ([.ref a].map (trv z)) (NS z D aC n f)) (.ref (z + a) :: []) := ⟨NS.blind, fun U hU hW => ⟨rfl, by rw [hU]; exact hz, by rw [hU]; exact hP, va_K.moved hW.alike C.1.1.2.2.2.2.2.2.2.1, C.2.1.warm hW⟩⟩
  have hr : va_Run p l e room_1 s m #[.ref b] below meth c H locs cu su (mtR M').cells (mtR M').slots (F0 m pc ls ((Value.ref a :: st).map (trv z))) (st.map (trv z)) (NQ z D aC n' P (Value.ref (z + a) :: ([] : List Value)).toArray) (AN z) := by
    rcases c1 with c1 | c1
    · exact va_runI (As := []) (rest := st.map (trv z)) (Ts := WG) (own := RL) (n := 0) (nL := 9) (cc := cL_law) (bytes := mtC M') (maxL := mtL M') ⟨C.1.1.2.1, C.1.1.2.2.1, C.1.1.2.2.2.1, C.1.1.2.2.2.2.2.1, hw⟩ (hM l D aC z) ⟨⟨rfl, rfl, hR.1, hR.2, pay_in hw (WG_in c5), by rw [hwM]; exact List.mem_cons_self, by rw [← hwM]; exact hw _ c5, hw _ c4, ⟨c7.1, c7.2.1⟩, hlen, hw _ c1⟩, c8, hw _ c2⟩ hPre rfl rfl hl.1 rfl (by show 2 * 0 + _ ≤ 8; rw [cat_trv]; omega) hd (by rw [hm.1, hm.2]; exact hc)
    · exact va_runIN (As := []) (rest := st.map (trv z)) (Ts := WG) (own := RL) (host := "SiegePost") (n := 0) (nL := 9) (cc := cL_law) (bytes := mtC M') (maxL := mtL M') ⟨C.1.1.2.1, C.1.1.2.2.1, C.1.1.2.2.2.1, C.1.1.2.2.2.2.2.1, hw⟩ (hM l D aC z) ⟨⟨⟨rfl, rfl, hR.1, hR.2, pay_in hw (WG_in c5), by rw [hwM]; exact List.mem_cons_self⟩, by rw [← hwM]; exact hw _ c5, hw _ c4, ⟨c7.1, c7.2.1⟩, hlen, va_Nw.use rfl (C.2.1.1.1 _ c1 (by simp [kfw]))⟩, c8, hw _ c2⟩ hPre rfl rfl hl.1 rfl (by show 2 * 0 + _ ≤ 8; rw [cat_trv]; omega) hd (by rw [hm.1, hm.2]; exact hc)
  intro T hT X
  obtain ⟨v, st₀, t, T', Lc, h0, X', hL, e1, e2, ⟨⟨hv, hsz, g, hPg, hP1⟩, hFr⟩, stp⟩ := hr T hT X
  cases hv
  obtain ⟨-, -, k3⟩ := vx_keep h0 e1 hS (fun q _ h => h) (fun _ h => h) hL hFr
  rw [hm.1, hm.2] at X'
  obtain ⟨t2, a1, b1⟩ := kk g hPg l D aC z p e s m below meth c T'.heap (locs ++ Lc) ls C (by rw [e1]; exact hsz) (by rw [e1]; exact hP1) k3 hl T' rfl X'
  exact ⟨t2, stp t2 a1, b1⟩
/-- all is made: the world of ints begins -/
theorem LI.world (hf : FZ f) (k : LE b Ls xs Z pc L st (cZ, 0, 0) cu su) : LI b Ls xs Z pc L st 405 f cu su := by
  intro l D aC z p e s m below meth c H locs ls C hz hP hS hl
  have hsz := C.2.2
  have hA : ∀ q, AN z q → AA z s.heap.size q := fun q h => Or.inr (by rw [hsz]; exact h)
  exact k l D aC z p e s m below meth c H locs ls C.1 (wl_init hf hP) ⟨hS.1, fun q h1 h2 => hS.2.1 q h1 (fun h => h2 (hA q h)), fun q hq => hA _ (hS.2.2 q hq)⟩ hl
end LIQ
set_option maxRecDepth 20000 in
set_option maxHeartbeats 1000000 in
theorem law_entry {b Ls : Nat} {xs : Nat → Int32} {Z : ZT} (f : Nat → RE) (k : LE b Ls xs Z 28 (LL 0) [] (cZ, 0, 0) 405 4758) : LI b Ls xs Z 0 [] [] 0 f 0 0 := by
  refine LI.new (n1 := 3) (d := 5) dL_law_0 rfl ⟨g_83, g_84, g_61⟩ (by decide) (ms := 6) rfl ⟨by omega, by omega⟩ ?_
  refine LI.dup (n1 := 4) dL_law_3 rfl rfl ?_
  refine LI.init (M' := mX5_init) (n1 := 7) (mc := 394) (ms := 2462) dL_law_4 rfl ⟨Or.inl g_85, g_86, g_61, g_87, rfl, ⟨by decide +kernel, by decide +kernel, by decide +kernel⟩, rfl, rfl⟩ ⟨rfl, rfl⟩ ⟨by decide, by decide⟩ ⟨by omega, by omega⟩ (Nat.le_of_ble_eq_true rfl) (i_post _ (up_eq _ _ _)) (fun g hg => ?_)
  refine LI.astore_n (n1 := 8) dL_law_7 rfl ⟨by decide, by decide⟩ ?_
  refine LI.new (n1 := 11) (d := 6) dL_law_8 rfl ⟨g_1027, g_1028, g_67⟩ (by decide) (ms := 17) rfl ⟨by omega, by omega⟩ ?_
  refine LI.dup (n1 := 12) dL_law_11 rfl rfl ?_
  refine LI.init (M' := mX6_init) (n1 := 15) (mc := 7) (ms := 2271) dL_law_12 rfl ⟨Or.inl g_1029, g_1030, g_67, g_1031, rfl, ⟨by decide +kernel, by decide +kernel, by decide +kernel⟩, rfl, rfl⟩ ⟨rfl, rfl⟩ ⟨by decide, by decide⟩ ⟨by omega, by omega⟩ (Nat.le_of_ble_eq_true rfl) (i_model _ (up_eq _ _ _)) (fun g2 hg2 => ?_)
  refine LI.astore_n (n1 := 16) dL_law_15 rfl ⟨by decide, by decide⟩ ?_
  refine LI.iconst (n1 := 17) (nI 1) dL_law_16 rfl (by decide) ?_
  refine LI.newa (n1 := 19) (ty := .long) 0 dL_law_17 rfl ⟨rfl, Or.inl ⟨rfl, rfl⟩⟩ g_1435 rfl ⟨by omega, by omega⟩ ?_
  refine LI.astore_n (n1 := 20) dL_law_19 rfl ⟨by decide, by decide⟩ ?_
  refine LI.iconst (n1 := 21) (nI 1) dL_law_20 rfl (by decide) ?_
  refine LI.newa (n1 := 23) (ty := .double) 1 dL_law_21 rfl ⟨rfl, Or.inr ⟨rfl, rfl⟩⟩ g_1436 rfl ⟨by omega, by omega⟩ ?_
  refine LI.astore (n1 := 25) dL_law_23 rfl ⟨by decide, by decide⟩ ?_
  refine LI.iconst (n1 := 26) (nI 0) dL_law_25 rfl (by decide) ?_
  refine LI.istore (n1 := 28) dL_law_26 rfl ⟨by decide, by decide⟩ ?_
  obtain ⟨m0, m1, m2, m3, m4, m5, m6, m7, m8⟩ := hg2
  have lo : ∀ j, j < 395 → up (up g2 403 (.inr (.inr (.inr 0)))) 404 (.inr (.inr (.inr 1))) j = g j := fun j hj => by
    rw [up_ne _ _ (by omega), up_ne _ _ (by omega), m0 j hj, up_ne _ _ (by omega)]
  have mi : ∀ j, j < 403 → up (up g2 403 (.inr (.inr (.inr 0)))) 404 (.inr (.inr (.inr 1))) j = g2 j := fun j hj => by
    rw [up_ne _ _ (by omega), up_ne _ _ (by omega)]
  obtain ⟨p0, p1, p2, p3, p4, p5, p6, p7, p8, p9, p10, p11, p12⟩ := hg
  refine LI.world ⟨⟨(lo _ (by omega)).trans p0, fun o ho => (lo _ (by omega)).trans (p1 o ho), (lo _ (by omega)).trans p2, (lo _ (by omega)).trans p3, fun r hr o ho => (lo _ (by omega)).trans (p4 r hr o ho), fun o ho => (lo _ (by omega)).trans (p5 o ho), (lo _ (by omega)).trans p6, (lo _ (by omega)).trans p7, (lo _ (by omega)).trans p8, (lo _ (by omega)).trans p9, (lo _ (by omega)).trans p10, (lo _ (by omega)).trans p11, (lo _ (by omega)).trans p12⟩, (mi _ (by omega)).trans m1, (mi _ (by omega)).trans m2, (mi _ (by omega)).trans m3, (mi _ (by omega)).trans m4, (mi _ (by omega)).trans m5, (mi _ (by omega)).trans m6, (mi _ (by omega)).trans m7, (mi _ (by omega)).trans m8, (up_ne _ _ (by omega)).trans (up_eq _ _ _), up_eq _ _ _⟩ ?_
  exact LE.ofA (L' := LL 0) ⟨rfl, rfl, rfl, rfl, rfl, trivial⟩ k
