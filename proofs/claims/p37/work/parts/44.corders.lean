def FRO (c c' : CC) (o : Nat) : Prop := ∀ a k, ¬ (a = 389 ∧ (k = 6 ∨ k = 8)) → ¬ (391 ≤ a ∧ a ≤ 394 ∧ o ≤ k) → c' a k = c a k
/-- what taking the orders from p on comes to, o of them taken before -/
def TO (c c' : CC) (n p o f : Nat) (r : Int32) : Prop := r = b2i ((pSeq (c 390) n f p).2.isSome = true) ∧ FRO c c' o ∧ match (pSeq (c 390) n f p).2 with
  | none => c' 389 8 = nI (pSeq (c 390) n f p).1
  | some os => c' 389 6 = nI (o + os.length) ∧ o + os.length ≤ 20 ∧ ∀ i q, os[i]? = some q → OrdC c' (o + i) q
theorem TO.no {c c' : CC} {n p o f q : Nat} (e : pSeq (c 390) n f p = (q, none)) (hf : FRO c c' o) (h8 : c' 389 8 = nI q) : TO c c' n p o f (nI 0) := by
  unfold TO
  rw [e]
  exact ⟨rfl, hf, h8⟩
theorem CT.fro {c c' : CC} {n p o : Nat} (h : CT c c' n p o) : FRO c c' o := fun a k q1 q2 => h.2.2.2.2.2 a k (by omega) (by omega)
theorem OrdC.keep {c c' : CC} {o : Nat} {q : Ord} (h : OrdC c o q) (hk : ∀ a, 391 ≤ a → a ≤ 394 → c' a o = c a o) : OrdC c' o q := by
  unfold OrdC
  rw [hk 391 (by omega) (by omega), hk 392 (by omega) (by omega), hk 393 (by omega) (by omega), hk 394 (by omega) (by omega)]
  exact h
theorem CT.rf {c : CC} {n p o : Nat} (h5 : c 389 5 = nI n) (h8 : c 389 8 = nI p) (h6 : c 389 6 = nI o) (hp : p ≤ n) (ho : o < 20) : CT c c n p o := ⟨h5, h8, hp, h6, ho, fun _ _ _ _ => rfl⟩
/-- one order more -/
def nxC (c1 : CC) (o q : Nat) : CC := u2 (u2 c1 389 6 (nI (o + 1))) 389 8 (nI q)
theorem nx_o (c1 : CC) (o q : Nat) {a k : Nat} (h : ¬ (a = 389 ∧ (k = 6 ∨ k = 8))) : nxC c1 o q a k = c1 a k := by
  unfold nxC
  rw [u2_ne _ _ (by omega), u2_ne _ _ (by omega)]
theorem TO.more {c c1 c' : CC} {n p o f : Nat} {r : Int32} {q : Ord} (hq : (pOrd (c 390) n p).2 = some q) (h59 : (pOrd (c 390) n p).1 < n ∧ c 390 (pOrd (c 390) n p).1 = nI 59) (A1 : CT c c1 n (pOrd (c 390) n p).1 o) (V1 : OrdC c1 o q) (h : TO (nxC c1 o ((pOrd (c 390) n p).1 + 1)) c' n ((pOrd (c 390) n p).1 + 1) (o + 1) f r) : TO c c' n p o (f + 1) r := by
  have eT : nxC c1 o ((pOrd (c 390) n p).1 + 1) 390 = c 390 := funext fun k => (nx_o _ _ _ (by omega)).trans (congrFun A1.T k)
  have e1 := pSeq_more (f := f) hq h59.1 h59.2
  obtain ⟨h1, h2, h3⟩ := h
  rw [eT] at h1 h3
  have hfr : FRO c c' o := fun a k q1 q2 => by
    rw [h2 a k q1 (by omega), nx_o _ _ _ q1]
    exact A1.2.2.2.2.2 a k (by omega) (by omega)
  unfold TO
  rw [e1]
  rcases hs : (pSeq (c 390) n f ((pOrd (c 390) n p).1 + 1)).2 with _ | os
  · rw [hs] at h1 h3
    exact ⟨h1, hfr, h3⟩
  · rw [hs] at h1 h3
    refine ⟨h1, hfr, ?_⟩
    show c' 389 6 = nI (o + (q :: os).length) ∧ o + (q :: os).length ≤ 20 ∧ ∀ i x, (q :: os)[i]? = some x → OrdC c' (o + i) x
    refine ⟨?_, ?_, fun i x hx => ?_⟩
    · rw [h3.1, List.length_cons, show o + 1 + os.length = o + (os.length + 1) by omega]
    · have := h3.2.1
      rw [List.length_cons]
      omega
    · cases i with
      | zero =>
        have hx : some q = some x := hx
        cases hx
        exact V1.keep (fun a q1 q2 => by rw [h2 a o (by omega) (by omega), nx_o _ _ _ (by omega)])
      | succ i =>
        have := h3.2.2 i x hx
        rwa [show o + 1 + i = o + (i + 1) by omega] at this
theorem TO.end {c c1 c' : CC} {n p o f : Nat} {q : Ord} (hq : (pOrd (c 390) n p).2 = some q) (hn : ¬ (pOrd (c 390) n p).1 < n) (A1 : CT c c1 n (pOrd (c 390) n p).1 o) (V1 : OrdC c1 o q) (hc : c' = nxC c1 o (pOrd (c 390) n p).1) : TO c c' n p o (f + 1) (nI 1) := by
  subst hc
  unfold TO
  rw [pSeq_end hq hn]
  refine ⟨rfl, fun a k q1 q2 => by rw [nx_o _ _ _ q1]; exact A1.2.2.2.2.2 a k (by omega) (by omega), ?_⟩
  show nxC c1 o _ 389 6 = nI (o + [q].length) ∧ o + [q].length ≤ 20 ∧ ∀ i x, [q][i]? = some x → OrdC _ (o + i) x
  refine ⟨?_, ?_, fun i x hx => ?_⟩
  · unfold nxC
    rw [u2_ne _ _ (by omega), u2_eq]
    rfl
  · have := A1.2.2.2.2.1
    simp only [List.length_singleton]
    omega
  · cases i with
    | zero =>
      have hx : some q = some x := hx
      cases hx
      exact V1.keep (fun a q1 q2 => nx_o _ _ _ (by omega))
    | succ i => cases hx
theorem TO.bad {c c1 c' : CC} {n p o f : Nat} {q : Ord} (hq : (pOrd (c 390) n p).2 = some q) (hlt : (pOrd (c 390) n p).1 < n) (h59 : ¬ c 390 (pOrd (c 390) n p).1 = nI 59) (A1 : CT c c1 n (pOrd (c 390) n p).1 o) (hc : c' = nxC c1 o (pOrd (c 390) n p).1) : TO c c' n p o (f + 1) (nI 0) := by
  subst hc
  refine TO.no (pSeq_bad hq hlt h59) (fun a k q1 q2 => by rw [nx_o _ _ _ q1]; exact A1.2.2.2.2.2 a k (by omega) (by omega)) ?_
  exact u2_eq _ _ _ _
set_option maxRecDepth 20000 in
set_option maxHeartbeats 1000000 in
theorem to_out {G : GT} {σ : SS} (k : WE mX3_takeOrders 48 [(0, .ref 389)] [] σ 0 0 G) : WE mX3_takeOrders 2 [(0, .ref 389), (1, .int (nI 0))] [] σ 0 0 G := by
  refine WE.iload_n (n := 3) dX3_takeOrders_2 rfl rfl ?_
  refine WE.if_eq (n := 6) (tgt := 44) dX3_takeOrders_3 rfl (by decide) (fun h3 => ?_) (fun h3 => ?_)
  · skip
    refine WE.iload_n (n := 45) dX3_takeOrders_44 rfl rfl ?_
    refine WE.if_ne (n := 48) (tgt := 63) dX3_takeOrders_45 rfl (by decide) (fun h45 => ?_) (fun h45 => ?_)
    · skip
      exact absurd rfl h45
    · skip
      exact WE.ofA (L' := [(0, .ref 389)]) ⟨rfl, trivial⟩ k
  · skip
    exact absurd rfl h3
set_option maxRecDepth 20000 in
set_option maxHeartbeats 1000000 in
theorem c_take2 (od : Int64 × UInt64) (c : CC) (n p : Nat) (hn : n ≤ 60) (h5 : c 389 5 = nI n) (g8 : c 389 8 = nI p) (hp : p ≤ n) (x : Int32) : CM mX3_take [.ref 389, .int x] (c, od) (RI (b2i (p < n ∧ c 390 p = x)) (u2 c 389 8 (nI (if p < n ∧ c 390 p = x then p + 1 else p)), od)) := by
  refine CM.of [(0, .ref 389), (1, .int x)] rfl (by decide +kernel) rfl (Nat.le_of_ble_eq_true rfl) ?_
  refine WE.aload_n (n := 1) dX3_take_0 rfl rfl ?_
  refine WE.getI (n := 4) dX3_take_1 rfl fl_X3_35 ⟨by decide, by decide, rfl⟩ (by first | decide | exact kd_bal (by assumption) | exact kd_let (by assumption) | assumption) ?_
  refine WE.aload_n (n := 5) dX3_take_4 rfl rfl ?_
  refine WE.getI (n := 8) dX3_take_5 rfl fl_X3_32 ⟨by decide, by decide, rfl⟩ (by first | decide | exact kd_bal (by assumption) | exact kd_let (by assumption) | assumption) ?_
  refine WE.icmp_ge (n := 11) (tgt := 36) dX3_take_8 rfl (by decide) (fun h8 => ?_) (fun h8 => ?_)
  · skip
    have hpn : ¬ p < n := by rw [g8, h5] at h8; have := ge_t (by omega) (by omega) h8; omega
    refine WE.iconst (n := 37) (nI 0) dX3_take_36 rfl (by decide) ?_
    refine WE.iret (ty := .boolean) dX3_take_37 rfl (by first | rfl | exact b2i_nar _ | decide) ⟨by decide, by decide⟩ ?_
    have hq : ¬ (p < n ∧ c 390 p = x) := fun q => by first | exact hpn q.1 | exact h21 q.2
    exact RI.mk (b2i_f hq).symm (by rw [if_neg hq, u2_self _ _ _ g8])
  · skip
    have hpn : p < n := by rw [g8, h5] at h8; exact ge_f (by omega) (by omega) h8
    refine WE.aload_n (n := 12) dX3_take_11 rfl rfl ?_
    refine WE.getR (n := 15) dX3_take_12 rfl fl_X3_9 ⟨by decide, by decide⟩ rfl (by first | decide | exact kd_bal (by assumption) | exact kd_let (by assumption) | assumption) ?_
    refine WE.aload_n (n := 16) dX3_take_15 rfl rfl ?_
    refine WE.getI (n := 19) dX3_take_16 rfl fl_X3_35 ⟨by decide, by decide, rfl⟩ (by first | decide | exact kd_bal (by assumption) | exact kd_let (by assumption) | assumption) ?_
    refine WE.cald (n := 20) p dX3_take_19 rfl (by first | decide | assumption) g8 (by show _ < 60; omega) ?_
    refine WE.iload_n (n := 21) dX3_take_20 rfl rfl ?_
    refine WE.icmp_ne (n := 24) (tgt := 36) dX3_take_21 rfl (by decide) (fun h21 => ?_) (fun h21 => ?_)
    · skip
      refine WE.iconst (n := 37) (nI 0) dX3_take_36 rfl (by decide) ?_
      refine WE.iret (ty := .boolean) dX3_take_37 rfl (by first | rfl | exact b2i_nar _ | decide) ⟨by decide, by decide⟩ ?_
      have hq : ¬ (p < n ∧ c 390 p = x) := fun q => by first | exact hpn q.1 | exact h21 q.2
      exact RI.mk (b2i_f hq).symm (by rw [if_neg hq, u2_self _ _ _ g8])
    · skip
      refine WE.aload_n (n := 25) dX3_take_24 rfl rfl ?_
      refine WE.dup (n := 26) dX3_take_25 rfl rfl ?_
      refine WE.getI (n := 29) dX3_take_26 rfl fl_X3_35 ⟨by decide, by decide, rfl⟩ (by first | decide | exact kd_bal (by assumption) | exact kd_let (by assumption) | assumption) ?_
      refine WE.iconst (n := 30) (nI 1) dX3_take_29 rfl (by decide) ?_
      refine WE.iadd (n := 31) dX3_take_30 rfl ?_
      refine WE.putI (n := 34) dX3_take_31 rfl fl_X3_35 ⟨by decide, by decide, rfl, rfl⟩ ⟨by first | rfl | decide, by first | rfl | decide⟩ (by first | decide | exact kd_bal (by assumption) | exact kd_let (by assumption) | assumption) ?_
      refine WE.iconst (n := 35) (nI 1) dX3_take_34 rfl (by decide) ?_
      refine WE.iret (ty := .boolean) dX3_take_35 rfl (by first | rfl | exact b2i_nar _ | decide) ⟨by decide, by decide⟩ ?_
      have hq : p < n ∧ c 390 p = x := ⟨hpn, by first | exact h21 | exact Classical.not_not.mp h21⟩
      exact RI.mk (b2i_t hq).symm (by rw [if_pos hq, g8, nI_s1])
set_option maxRecDepth 20000 in
set_option maxHeartbeats 1000000 in
theorem c_to_loop (od : Int64 × UInt64) {n : Nat} (hn : n ≤ 60) {Fin : Int32 → CC → Prop} : ∀ (m f o p : Nat) (c : CC), f < m → o + f = 20 → p ≤ n → c 389 5 = nI n → c 389 8 = nI p → c 389 6 = nI o → (∀ r c', TO c c' n p o f r → Fin r c') → WE mX3_takeOrders 2 [(0, .ref 389), (1, .int (nI 1))] [] (c, od) 0 0 (GQ mX3_takeOrders (PI fun r σ => ∃ c', σ = (c', od) ∧ Fin r c')) := by
  intro m
  induction m with
  | zero =>
    intro f o p c h1
    exact absurd h1 (by omega)
  | succ m ih =>
    intro f o p c hm hof hp h5 h8 h6 tr
    refine WE.iload_n (n := 3) dX3_takeOrders_2 rfl rfl ?_
    refine WE.if_eq (n := 6) (tgt := 44) dX3_takeOrders_3 rfl (by decide) (fun h3 => ?_) (fun h3 => ?_)
    · skip
      exact absurd h3 (by decide)
    · skip
      refine WE.aload_n (n := 7) dX3_takeOrders_6 rfl rfl ?_
      refine WE.getI (n := 10) dX3_takeOrders_7 rfl fl_X3_38 ⟨by decide, by decide, rfl⟩ (by first | decide | exact kd_bal (by assumption) | exact kd_let (by assumption) | assumption) ?_
      refine WE.bipush (n := 12) (nI 20) dX3_takeOrders_10 rfl (by decide) ?_
      refine WE.icmp_ge (n := 15) (tgt := 44) dX3_takeOrders_12 rfl (by decide) (fun h12 => ?_) (fun h12 => ?_)
      · skip
        rw [h6] at h12
        have hge : 20 ≤ o := ge_t (by omega) (by decide) h12
        refine WE.iload_n (n := 45) dX3_takeOrders_44 rfl rfl ?_
        refine WE.if_ne (n := 48) (tgt := 63) dX3_takeOrders_45 rfl (by decide) (fun h45 => ?_) (fun h45 => ?_)
        · skip
          refine WE.iconst (n := 64) (nI 0) dX3_takeOrders_63 rfl (by decide) ?_
          refine WE.iret (ty := .boolean) dX3_takeOrders_64 rfl (by first | rfl | exact b2i_nar _ | decide) ⟨by decide, by decide⟩ ?_
          obtain rfl : f = 0 := by omega
          exact PI.mk ⟨_, rfl, tr _ _ (TO.no (q := p) rfl (fun _ _ _ _ => rfl) h8)⟩
        · skip
          exact absurd h45 (by decide)
      · skip
        rw [h6] at h12
        have ho20 : o < 20 := ge_f (by omega) (by decide) h12
        obtain ⟨f, rfl⟩ : ∃ g, f = g + 1 := ⟨f - 1, by omega⟩
        refine WE.aload_n (n := 16) dX3_takeOrders_15 rfl rfl ?_
        refine WE.V0PI (M' := mX3_takeOrder) (n := 19) dX3_takeOrders_16 rfl cv_X3_45 (by first | decide | exact kd_bal (by assumption) | exact kd_let (by assumption) | assumption) ⟨⟨by decide, by decide⟩, by decide, by decide⟩ (Nat.le_of_ble_eq_true rfl) (c_takeOrder od hn (CT.rf h5 h8 h6 hp ho20)) (fun r16 σ16 q16 => ?_)
        obtain ⟨c1, rfl, rfl, A1, V1⟩ := q16
        refine WE.if_neB (n := 22) (tgt := 24) dX3_takeOrders_19 rfl (by decide) (fun h19 => ?_) (fun h19 => ?_)
        · skip
          obtain ⟨q, hq⟩ := Option.isSome_iff_exists.mp h19
          have hpo := (pOrd_ok (c 390) hp).2.2 q hq
          have hle := A1.2.2.1
          have V1 := V1 q hq
          refine WE.aload_n (n := 25) dX3_takeOrders_24 rfl rfl ?_
          refine WE.dup (n := 26) dX3_takeOrders_25 rfl rfl ?_
          refine WE.getI (n := 29) dX3_takeOrders_26 rfl fl_X3_38 ⟨by decide, by decide, rfl⟩ (by first | decide | exact kd_bal (by assumption) | exact kd_let (by assumption) | assumption) ?_
          refine WE.iconst (n := 30) (nI 1) dX3_takeOrders_29 rfl (by decide) ?_
          refine WE.iadd (n := 31) dX3_takeOrders_30 rfl ?_
          refine WE.putI (n := 34) dX3_takeOrders_31 rfl fl_X3_38 ⟨by decide, by decide, rfl, rfl⟩ ⟨by first | rfl | decide, by first | rfl | decide⟩ (by first | decide | exact kd_bal (by assumption) | exact kd_let (by assumption) | assumption) ?_
          refine WE.ofS (σ' := ((u2 c1 389 6 (nI (o + 1))), od)) (by rw [A1.2.2.2.1, nI_s1]) ?_
          have eT : (u2 c1 389 6 (nI (o + 1))) 390 = c 390 := (u2_o _ _ _ (by omega)).trans A1.T
          refine WE.aload_n (n := 35) dX3_takeOrders_34 rfl rfl ?_
          refine WE.bipush (n := 37) (nI 59) dX3_takeOrders_35 rfl (by decide) ?_
          refine WE.V1I (M' := mX3_take) (n := 40) dX3_takeOrders_37 rfl cv_X3_48 (by first | decide | exact kd_bal (by assumption) | exact kd_let (by assumption) | assumption) ⟨⟨by decide, by decide⟩, by decide, by decide⟩ (Nat.le_of_ble_eq_true rfl) (c_take2 od (u2 c1 389 6 (nI (o + 1))) n (pOrd (c 390) n p).1 hn (by rw [u2_ne _ _ (by omega)]; exact A1.1) (by rw [u2_ne _ _ (by omega)]; exact A1.2.1) hle (nI 59)) ?_
          refine WE.istore_n (n := 41) dX3_takeOrders_40 rfl (by decide) ?_
          refine WE.goto (tgt := 2) dX3_takeOrders_41 (by decide) ?_
          rw [eT]
          by_cases hlt : (pOrd (c 390) n p).1 < n
          · by_cases h59 : c 390 (pOrd (c 390) n p).1 = nI 59
            · rw [if_pos (⟨hlt, h59⟩ : _ ∧ _)]
              refine WE.ofA (L' := [(0, .ref 389), (1, .int (nI 1))]) ⟨rfl, sI (b2i_t ⟨hlt, h59⟩), trivial⟩ (ih f (o + 1) ((pOrd (c 390) n p).1 + 1) (nxC c1 o ((pOrd (c 390) n p).1 + 1)) (by omega) (by omega) (by omega) ((nx_o _ _ _ (by omega)).trans A1.1) (u2_eq _ _ _ _) ?_ (fun r c' h => tr r c' (TO.more hq ⟨hlt, h59⟩ A1 V1 h)))
              unfold nxC
              rw [u2_ne _ _ (by omega), u2_eq]
            · rw [if_neg (fun z => h59 z.2)]
              refine WE.ofA (L' := [(0, .ref 389), (1, .int (nI 0))]) ⟨rfl, sI (b2i_f (fun z => h59 z.2)), trivial⟩ (to_out ?_)
              show WE _ _ _ _ (nxC c1 o (pOrd (c 390) n p).1, od) _ _ _
              have e8 : (nxC c1 o (pOrd (c 390) n p).1) 389 8 = nI (pOrd (c 390) n p).1 := u2_eq _ _ _ _
              have e5 : (nxC c1 o (pOrd (c 390) n p).1) 389 5 = nI n := (nx_o _ _ _ (by omega)).trans A1.1
              refine WE.aload_n (n := 49) dX3_takeOrders_48 rfl rfl ?_
              refine WE.getI (n := 52) dX3_takeOrders_49 rfl fl_X3_35 ⟨by decide, by decide, rfl⟩ (by first | decide | exact kd_bal (by assumption) | exact kd_let (by assumption) | assumption) ?_
              refine WE.aload_n (n := 53) dX3_takeOrders_52 rfl rfl ?_
              refine WE.getI (n := 56) dX3_takeOrders_53 rfl fl_X3_32 ⟨by decide, by decide, rfl⟩ (by first | decide | exact kd_bal (by assumption) | exact kd_let (by assumption) | assumption) ?_
              refine WE.icmp_ne (n := 59) (tgt := 63) dX3_takeOrders_56 rfl (by decide) (fun h56 => ?_) (fun h56 => ?_)
              · skip
                refine WE.iconst (n := 64) (nI 0) dX3_takeOrders_63 rfl (by decide) ?_
                refine WE.iret (ty := .boolean) dX3_takeOrders_64 rfl (by first | rfl | exact b2i_nar _ | decide) ⟨by decide, by decide⟩ ?_
                exact PI.mk ⟨_, rfl, tr _ _ (TO.bad hq hlt h59 A1 rfl)⟩
              · skip
                exfalso
                rw [e8, e5] at h56
                have h56 : nI (pOrd (c 390) n p).1 = nI n := by first | exact h56 | exact Classical.not_not.mp h56
                rw [nI_eq (by omega) (by omega)] at h56
                omega
          · rw [if_neg (fun z => hlt z.1)]
            refine WE.ofA (L' := [(0, .ref 389), (1, .int (nI 0))]) ⟨rfl, sI (b2i_f (fun z => hlt z.1)), trivial⟩ (to_out ?_)
            show WE _ _ _ _ (nxC c1 o (pOrd (c 390) n p).1, od) _ _ _
            have e8 : (nxC c1 o (pOrd (c 390) n p).1) 389 8 = nI (pOrd (c 390) n p).1 := u2_eq _ _ _ _
            have e5 : (nxC c1 o (pOrd (c 390) n p).1) 389 5 = nI n := (nx_o _ _ _ (by omega)).trans A1.1
            refine WE.aload_n (n := 49) dX3_takeOrders_48 rfl rfl ?_
            refine WE.getI (n := 52) dX3_takeOrders_49 rfl fl_X3_35 ⟨by decide, by decide, rfl⟩ (by first | decide | exact kd_bal (by assumption) | exact kd_let (by assumption) | assumption) ?_
            refine WE.aload_n (n := 53) dX3_takeOrders_52 rfl rfl ?_
            refine WE.getI (n := 56) dX3_takeOrders_53 rfl fl_X3_32 ⟨by decide, by decide, rfl⟩ (by first | decide | exact kd_bal (by assumption) | exact kd_let (by assumption) | assumption) ?_
            refine WE.icmp_ne (n := 59) (tgt := 63) dX3_takeOrders_56 rfl (by decide) (fun h56 => ?_) (fun h56 => ?_)
            · skip
              exfalso
              rw [e8, e5] at h56
              exact h56 (by rw [show (pOrd (c 390) n p).1 = n by omega])
            · skip
              refine WE.iconst (n := 60) (nI 1) dX3_takeOrders_59 rfl (by decide) ?_
              refine WE.goto (tgt := 64) dX3_takeOrders_60 (by decide) ?_
              refine WE.iret (ty := .boolean) dX3_takeOrders_64 rfl (by first | rfl | exact b2i_nar _ | decide) ⟨by decide, by decide⟩ ?_
              exact PI.mk ⟨_, rfl, tr _ _ (TO.end hq hlt A1 V1 rfl)⟩
        · skip
          refine WE.iconst (n := 23) (nI 0) dX3_takeOrders_22 rfl (by decide) ?_
          refine WE.iret (ty := .boolean) dX3_takeOrders_23 rfl (by first | rfl | exact b2i_nar _ | decide) ⟨by decide, by decide⟩ ?_
          exact PI.mk ⟨_, rfl, tr _ _ (TO.no (pSeq_none (by simpa using h19)) A1.fro A1.2.1)⟩
set_option maxRecDepth 20000 in
set_option maxHeartbeats 1000000 in
theorem c_takeOrders (od : Int64 × UInt64) (c : CC) (n : Nat) (hn : n ≤ 60) (h5 : c 389 5 = nI n) (h8 : c 389 8 = nI 0) (h6 : c 389 6 = nI 0) : CM mX3_takeOrders [.ref 389] (c, od) (PI fun r σ => ∃ c', σ = (c', od) ∧ TO c c' n 0 0 20 r) := by
  refine CM.of [(0, .ref 389)] rfl (by decide +kernel) rfl (Nat.le_of_ble_eq_true rfl) ?_
  refine WE.iconst (n := 1) (nI 1) dX3_takeOrders_0 rfl (by decide) ?_
  refine WE.istore_n (n := 2) dX3_takeOrders_1 rfl (by decide) ?_
  exact WE.ofA (L' := [(0, .ref 389), (1, .int (nI 1))]) ⟨rfl, rfl, trivial⟩ (c_to_loop od hn 21 20 0 0 c (by decide) rfl (Nat.zero_le _) h5 h8 h6 (fun _ _ h => h))
/-- what the class knows behind 'understand' -/
def UN (c c' : CC) (n : Nat) (r : Int32) : Prop := r = b2i ((pSeq (c 390) n 20 0).2.isSome = true) ∧ (∀ a k, a ≠ 389 → ¬ (391 ≤ a ∧ a ≤ 394) → c' a k = c a k) ∧ c' 389 5 = nI 0 ∧ match (pSeq (c 390) n 20 0).2 with
  | none => c' 389 7 = nI (pSeq (c 390) n 20 0).1
  | some os => c' 389 7 = (-1 : Int32) ∧ c' 389 6 = nI os.length ∧ os.length ≤ 20 ∧ ∀ i q, os[i]? = some q → OrdC c' i q
set_option maxRecDepth 20000 in
set_option maxHeartbeats 1000000 in
theorem c_understand (od : Int64 × UInt64) (c : CC) (n : Nat) (hn : n ≤ 60) (h5 : c 389 5 = nI n) : CM mX3_understand [.ref 389] (c, od) (PI fun r σ => ∃ c', σ = (c', od) ∧ UN c c' n r) := by
  refine CM.of [(0, .ref 389)] rfl (by decide +kernel) rfl (Nat.le_of_ble_eq_true rfl) ?_
  refine WE.aload_n (n := 1) dX3_understand_0 rfl rfl ?_
  refine WE.iconst (n := 2) (nI 0) dX3_understand_1 rfl (by decide) ?_
  refine WE.putI (n := 5) dX3_understand_2 rfl fl_X3_35 ⟨by decide, by decide, rfl, rfl⟩ ⟨by first | rfl | decide, by first | rfl | decide⟩ (by first | decide | exact kd_bal (by assumption) | exact kd_let (by assumption) | assumption) ?_
  refine WE.aload_n (n := 6) dX3_understand_5 rfl rfl ?_
  refine WE.iconst (n := 7) (nI 0) dX3_understand_6 rfl (by decide) ?_
  refine WE.putI (n := 10) dX3_understand_7 rfl fl_X3_38 ⟨by decide, by decide, rfl, rfl⟩ ⟨by first | rfl | decide, by first | rfl | decide⟩ (by first | decide | exact kd_bal (by assumption) | exact kd_let (by assumption) | assumption) ?_
  refine WE.aload_n (n := 11) dX3_understand_10 rfl rfl ?_
  refine WE.V0PI (M' := mX3_takeOrders) (n := 14) dX3_understand_11 rfl cv_X3_41 (by first | decide | exact kd_bal (by assumption) | exact kd_let (by assumption) | assumption) ⟨⟨by decide, by decide⟩, by decide, by decide⟩ (Nat.le_of_ble_eq_true rfl) (c_takeOrders od (u2 (u2 c 389 8 (nI 0)) 389 6 (nI 0)) n hn (by rw [u2_ne _ _ (by omega), u2_ne _ _ (by omega)]; exact h5) (by rw [u2_ne _ _ (by omega), u2_eq]) (u2_eq _ _ _ _)) (fun r11 σ11 q11 => ?_)
  obtain ⟨c1, rfl, t1, t2, t3⟩ := q11
  have eT : (u2 (u2 c 389 8 (nI 0)) 389 6 (nI 0)) 390 = c 390 := (u2_o _ _ _ (by omega)).trans (u2_o _ _ _ (by omega))
  rw [eT] at t1 t3
  subst t1
  have fr : ∀ a k, a ≠ 389 → ¬ (391 ≤ a ∧ a ≤ 394) → c1 a k = c a k := fun a k q1 q2 => by rw [t2 a k (by omega) (by omega), u2_ne _ _ (by omega), u2_ne _ _ (by omega)]
  refine WE.istore_n (n := 15) dX3_understand_14 rfl (by decide) ?_
  refine WE.aload_n (n := 16) dX3_understand_15 rfl rfl ?_
  refine WE.iload_n (n := 17) dX3_understand_16 rfl rfl ?_
  refine WE.if_eq (n := 20) (tgt := 24) dX3_understand_17 rfl (by decide) (fun h17 => ?_) (fun h17 => ?_)
  · skip
    refine WE.aload_n (n := 25) dX3_understand_24 rfl rfl ?_
    refine WE.getI (n := 28) dX3_understand_25 rfl fl_X3_35 ⟨by decide, by decide, rfl⟩ (by first | decide | exact kd_bal (by assumption) | exact kd_let (by assumption) | assumption) ?_
    refine WE.putI (n := 31) dX3_understand_28 rfl fl_X3_28 ⟨by decide, by decide, rfl, rfl⟩ ⟨by first | rfl | decide, by first | rfl | decide⟩ (by first | decide | exact kd_bal (by assumption) | exact kd_let (by assumption) | assumption) ?_
    refine WE.aload_n (n := 32) dX3_understand_31 rfl rfl ?_
    refine WE.iconst (n := 33) (nI 0) dX3_understand_32 rfl (by decide) ?_
    refine WE.putI (n := 36) dX3_understand_33 rfl fl_X3_32 ⟨by decide, by decide, rfl, rfl⟩ ⟨by first | rfl | decide, by first | rfl | decide⟩ (by first | decide | exact kd_bal (by assumption) | exact kd_let (by assumption) | assumption) ?_
    refine WE.iload_n (n := 37) dX3_understand_36 rfl rfl ?_
    refine WE.iret (ty := .boolean) dX3_understand_37 rfl (by first | rfl | exact b2i_nar _ | decide) ⟨by decide, by decide⟩ ?_
    refine PI.mk ⟨_, rfl, rfl, fun a k q1 q2 => by rw [u2_ne _ _ (by omega), u2_ne _ _ (by omega)]; exact fr a k q1 q2, u2_eq _ _ _ _, ?_⟩
    have hs : (pSeq (c 390) n 20 0).2 = none := by simpa using b2i_eq.mp h17
    rw [hs] at t3 ⊢
    show u2 _ _ _ _ _ _ = _
    rw [u2_ne _ _ (by omega), u2_eq]
    exact t3
  · skip
    refine WE.iconst (n := 21) ((-1 : Int32)) dX3_understand_20 rfl (by decide) ?_
    refine WE.goto (tgt := 28) dX3_understand_21 (by decide) ?_
    refine WE.putI (n := 31) dX3_understand_28 rfl fl_X3_28 ⟨by decide, by decide, rfl, rfl⟩ ⟨by first | rfl | decide, by first | rfl | decide⟩ (by first | decide | exact kd_bal (by assumption) | exact kd_let (by assumption) | assumption) ?_
    refine WE.aload_n (n := 32) dX3_understand_31 rfl rfl ?_
    refine WE.iconst (n := 33) (nI 0) dX3_understand_32 rfl (by decide) ?_
    refine WE.putI (n := 36) dX3_understand_33 rfl fl_X3_32 ⟨by decide, by decide, rfl, rfl⟩ ⟨by first | rfl | decide, by first | rfl | decide⟩ (by first | decide | exact kd_bal (by assumption) | exact kd_let (by assumption) | assumption) ?_
    refine WE.iload_n (n := 37) dX3_understand_36 rfl rfl ?_
    refine WE.iret (ty := .boolean) dX3_understand_37 rfl (by first | rfl | exact b2i_nar _ | decide) ⟨by decide, by decide⟩ ?_
    refine PI.mk ⟨_, rfl, rfl, fun a k q1 q2 => by rw [u2_ne _ _ (by omega), u2_ne _ _ (by omega)]; exact fr a k q1 q2, u2_eq _ _ _ _, ?_⟩
    obtain ⟨os, hs⟩ := Option.isSome_iff_exists.mp (b2i_ne.mp h17)
    rw [hs] at t3 ⊢
    obtain ⟨t4, t5, t6⟩ := t3
    refine ⟨by rw [u2_ne _ _ (by omega), u2_eq], by rw [u2_ne _ _ (by omega), u2_ne _ _ (by omega), t4, Nat.zero_add], by omega, fun i q hi => ?_⟩
    have := t6 i q hi
    rw [Nat.zero_add] at this
    exact this.keep (fun a q1 q2 => by rw [u2_ne _ _ (by omega), u2_ne _ _ (by omega)])
