theorem PD.out {c0 c : CC} {od : Int64 × UInt64} {n k : Nat} {R R' : PR} {r : Int32} {c' : CC} (e : R' = R) (hr : r = b2i (R.2.isSome = true)) (h : AtD c0 c c' n k R) : PD c0 c od n k R' (.inl (some (.int r))) (c', od) := by
  subst e
  exact ⟨r, rfl, c', rfl, hr, h⟩
theorem chr_t {c0 c' : CC} {n p : Nat} {x : Int32} (h : At c0 c' n (if p < n ∧ c0 401 p = x then p + 1 else p)) (q : p < n ∧ c0 401 p = x) : At c0 c' n (p + 1) := by
  rw [if_pos q] at h
  exact h
theorem chr_f {c0 c' : CC} {n p : Nat} {x : Int32} (h : At c0 c' n (if p < n ∧ c0 401 p = x then p + 1 else p)) (q : ¬ (p < n ∧ c0 401 p = x)) : At c0 c' n p := by
  rw [if_neg q] at h
  exact h
/-- the sign that may be left out -/
theorem m_chr0P (od : Int64 × UInt64) (x : Int32) {c0 c : CC} {n p : Nat} (hn : n ≤ 60) (h : At c0 c n p) : CM mX6_sign_ [.ref 395, .int x, .int (nI 0)] (c, od) (PI fun r σ => ∃ c', σ = (c', od) ∧ r = nI 1 ∧ At c0 c' n (if p < n ∧ c0 401 p = x then p + 1 else p) ∧ c' 402 = c 402 ∧ c' 395 11 = c 395 11) := by
  refine CM.mono (m_chr c od n p hn h.1 h.2.2.1 h.2.1 x (nI 0)) (fun o s q => ?_)
  obtain ⟨h1, rfl⟩ := q
  refine ⟨_, h1, _, rfl, b2i_t (Or.inr rfl), chS_At h, ?_, ?_⟩
  · unfold chS
    split
    · rw [u2_o _ _ _ (by decide)]
    · rfl
  · unfold chS
    split
    · rw [u2_ne _ _ (by decide)]
    · rfl
theorem At.told {c0 c : CC} {n p k : Nat} {x : Int32} (h : At c0 c n p) : At c0 (u2 c 402 k x) n p := by
  refine ⟨?_, ?_, h.2.2.1, fun a j h1 h2 => ?_⟩
  · rw [u2_ne _ _ (by omega)]; exact h.1
  · rw [u2_ne _ _ (by omega)]; exact h.2.1
  · rw [u2_ne _ _ (fun q => h1 q.1)]; exact h.2.2.2 a j h1 h2
theorem pDig_t {T : NA} {n q : Nat} (h : (pDig T n q).2.isSome = true) : isDg T n q := by
  unfold pDig at h
  split at h
  · assumption
  · cases h
theorem pDig_p {T : NA} {n q : Nat} (h : isDg T n q) : pDig T n q = (q + 1, some (T q - nI 48)) := if_pos h
theorem pDig_f {T : NA} {n q : Nat} (h : ¬ (pDig T n q).2.isSome = true) : ¬ isDg T n q ∧ pDig T n q = (q, none) := by
  unfold pDig at h ⊢
  split at h
  · exact absurd rfl h
  · rename_i h2
    exact ⟨h2, if_neg h2⟩
set_option maxRecDepth 20000 in
set_option maxHeartbeats 1000000 in
theorem m_windP (od : Int64 × UInt64) (k : Nat) (hk : k < 3) {c0 c : CC} {n p : Nat} (hn : n ≤ 60) (h : At c0 c n p) : CM mX6_wind_ [.ref 395, .int (nI k)] (c, od) (PD c0 c od n k (pSgn (c0 401) n p)) := by
  refine CM.of [(0, .ref 395), (1, .int (nI k))] rfl (by decide +kernel) rfl (Nat.le_of_ble_eq_true rfl) ?_
  refine WE.aload_n (n := 1) dX6_wind__0 rfl rfl ?_
  refine WE.getI (n := 4) dX6_wind__1 rfl fl_X6_181 ⟨by decide, by decide, rfl⟩ (by first | decide | exact kd_bal (by assumption) | exact kd_let (by assumption) | assumption) ?_
  refine WE.istore_n (n := 5) dX6_wind__4 rfl (by decide) ?_
  refine WE.aload_n (n := 6) dX6_wind__5 rfl rfl ?_
  refine WE.bipush (n := 8) (nI 45) dX6_wind__6 rfl (by decide) ?_
  refine WE.iconst (n := 9) (nI 0) dX6_wind__8 rfl (by decide) ?_
  refine WE.V2PI (M' := mX6_sign_) (n := 12) dX6_wind__9 rfl cv_X6_184 (by first | decide | exact kd_bal (by assumption) | exact kd_let (by assumption) | assumption) ⟨⟨by decide, by decide⟩, by decide, by decide⟩ (Nat.le_of_ble_eq_true rfl) (m_chr0P od (nI 45) hn h) (fun r9 σ9 q9 => ?_)
  obtain ⟨c9, rfl, rfl, A9, B9⟩ := q9
  have ep : c 395 9 = nI p := h.2.1
  by_cases hm : p < n ∧ c0 401 p = nI 45
  · have A9 := chr_t A9 hm
    refine WE.if_eq (n := 15) (tgt := 28) dX6_wind__12 rfl (by decide) (fun h12 => ?_) (fun h12 => ?_)
    · skip
      exact absurd h12 (by decide)
    · skip
      refine WE.aload_n (n := 16) dX6_wind__15 rfl rfl ?_
      refine WE.iload_n (n := 17) dX6_wind__16 rfl rfl ?_
      refine WE.iconst (n := 18) (nI 1) dX6_wind__17 rfl (by decide) ?_
      refine WE.V2PI (M' := mX6_digits) (n := 21) dX6_wind__18 rfl cv_X6_188 (by first | decide | exact kd_bal (by assumption) | exact kd_let (by assumption) | assumption) ⟨⟨by decide, by decide⟩, by decide, by decide⟩ (Nat.le_of_ble_eq_true rfl) (m_digP od k hk hn A9) (fun r18 σ18 q18 => ?_)
      obtain ⟨c18, rfl, rfl, A18, B18⟩ := q18
      refine WE.if_eqB (n := 24) (tgt := 28) dX6_wind__21 rfl (by decide) (fun h21 => ?_) (fun h21 => ?_)
      · skip
        have d21 := pDig_f h21
        refine WE.iconst (n := 29) (nI 0) dX6_wind__28 rfl (by decide) ?_
        refine WE.istore_n (n := 30) dX6_wind__29 rfl (by decide) ?_
        refine WE.iload_n (n := 31) dX6_wind__30 rfl rfl ?_
        refine WE.if_eq (n := 34) (tgt := 57) dX6_wind__31 rfl (by decide) (fun h31 => ?_) (fun h31 => ?_)
        · skip
          refine WE.iload_n (n := 58) dX6_wind__57 rfl rfl ?_
          refine WE.iret (ty := .boolean) dX6_wind__58 rfl (by first | rfl | exact b2i_nar _ | decide) ⟨by decide, by decide⟩ ?_
          refine PD.out (R := (p + 1, none)) ?_ rfl ⟨?_, ?_, ?_, ?_⟩
          · simp only [pSgn, hm, and_self, ↓reduceIte, d21.1]
          · rw [d21.2] at A18; exact A18
          · rw [d21.2] at B18; exact B18.1
          · intro j hj; rw [B18.2.1 j hj, B9.1]
          · exact B18.2.2.trans B9.2
        · skip
          exact absurd h31 (by decide)
      · skip
        have d21 := pDig_t h21
        have e21 := pDig_p d21
        refine WE.iconst (n := 25) (nI 1) dX6_wind__24 rfl (by decide) ?_
        refine WE.goto (tgt := 29) dX6_wind__25 (by decide) ?_
        refine WE.istore_n (n := 30) dX6_wind__29 rfl (by decide) ?_
        refine WE.iload_n (n := 31) dX6_wind__30 rfl rfl ?_
        refine WE.if_eq (n := 34) (tgt := 57) dX6_wind__31 rfl (by decide) (fun h31 => ?_) (fun h31 => ?_)
        · skip
          exact absurd h31 (by decide)
        · skip
          refine WE.aload_n (n := 35) dX6_wind__34 rfl rfl ?_
          refine WE.getI (n := 38) dX6_wind__35 rfl fl_X6_181 ⟨by decide, by decide, rfl⟩ (by first | decide | exact kd_bal (by assumption) | exact kd_let (by assumption) | assumption) ?_
          refine WE.iload_n (n := 39) dX6_wind__38 rfl rfl ?_
          refine WE.isub (n := 40) dX6_wind__39 rfl ?_
          refine WE.iconst (n := 41) (nI 2) dX6_wind__40 rfl (by decide) ?_
          refine WE.icmp_ne (n := 44) (tgt := 57) dX6_wind__41 rfl (by decide) (fun h41 => ?_) (fun h41 => ?_)
          · skip
            exfalso
            rw [e21] at A18
            apply h41
            rw [A18.2.1, ep, show nI (p + 1 + 1) - nI p = nI (p + 1 + 1 - p) from pk_sub (by omega)]
            congr 1
            omega
          · skip
            refine WE.aload_n (n := 45) dX6_wind__44 rfl rfl ?_
            refine WE.getR (n := 48) dX6_wind__45 rfl fl_X6_29 ⟨by decide, by decide⟩ rfl (by first | decide | exact kd_bal (by assumption) | exact kd_let (by assumption) | assumption) ?_
            refine WE.iload_n (n := 49) dX6_wind__48 rfl rfl ?_
            refine WE.aload_n (n := 50) dX6_wind__49 rfl rfl ?_
            refine WE.getR (n := 53) dX6_wind__50 rfl fl_X6_29 ⟨by decide, by decide⟩ rfl (by first | decide | exact kd_bal (by assumption) | exact kd_let (by assumption) | assumption) ?_
            refine WE.iload_n (n := 54) dX6_wind__53 rfl rfl ?_
            refine WE.iald (n := 55) k dX6_wind__54 rfl (by first | decide | assumption) rfl (by show _ < 3; omega) ?_
            refine WE.ineg (n := 56) dX6_wind__55 rfl ?_
            refine WE.iast (n := 57) k dX6_wind__56 rfl (by first | decide | assumption) rfl (by show _ < 3; omega) ?_
            refine WE.iload_n (n := 58) dX6_wind__57 rfl rfl ?_
            refine WE.iret (ty := .boolean) dX6_wind__58 rfl (by first | rfl | exact b2i_nar _ | decide) ⟨by decide, by decide⟩ ?_
            rw [e21] at A18 B18
            refine PD.out (R := (p + 2, some (-(c0 401 (p + 1) - nI 48)))) ?_ rfl ⟨A18.told, ?_, ?_, ?_⟩
            · simp only [pSgn, hm, and_self, ↓reduceIte]
              exact if_pos d21
            · rw [u2_eq, B18.1]; rfl
            · intro j hj; rw [u2_ne _ _ (fun q => hj q.2), B18.2.1 j hj, B9.1]
            · rw [u2_ne _ _ (by omega)]; exact B18.2.2.trans B9.2
  · have A9 := chr_f A9 hm
    refine WE.if_eq (n := 15) (tgt := 28) dX6_wind__12 rfl (by decide) (fun h12 => ?_) (fun h12 => ?_)
    · skip
      exact absurd h12 (by decide)
    · skip
      refine WE.aload_n (n := 16) dX6_wind__15 rfl rfl ?_
      refine WE.iload_n (n := 17) dX6_wind__16 rfl rfl ?_
      refine WE.iconst (n := 18) (nI 1) dX6_wind__17 rfl (by decide) ?_
      refine WE.V2PI (M' := mX6_digits) (n := 21) dX6_wind__18 rfl cv_X6_188 (by first | decide | exact kd_bal (by assumption) | exact kd_let (by assumption) | assumption) ⟨⟨by decide, by decide⟩, by decide, by decide⟩ (Nat.le_of_ble_eq_true rfl) (m_digP od k hk hn A9) (fun r18 σ18 q18 => ?_)
      obtain ⟨c18, rfl, rfl, A18, B18⟩ := q18
      refine WE.if_eqB (n := 24) (tgt := 28) dX6_wind__21 rfl (by decide) (fun h21 => ?_) (fun h21 => ?_)
      · skip
        have d21 := pDig_f h21
        refine WE.iconst (n := 29) (nI 0) dX6_wind__28 rfl (by decide) ?_
        refine WE.istore_n (n := 30) dX6_wind__29 rfl (by decide) ?_
        refine WE.iload_n (n := 31) dX6_wind__30 rfl rfl ?_
        refine WE.if_eq (n := 34) (tgt := 57) dX6_wind__31 rfl (by decide) (fun h31 => ?_) (fun h31 => ?_)
        · skip
          refine WE.iload_n (n := 58) dX6_wind__57 rfl rfl ?_
          refine WE.iret (ty := .boolean) dX6_wind__58 rfl (by first | rfl | exact b2i_nar _ | decide) ⟨by decide, by decide⟩ ?_
          refine PD.out (R := (p, none)) ?_ rfl ⟨?_, ?_, ?_, ?_⟩
          · simp only [pSgn, hm, ↓reduceIte, d21.2]
          · rw [d21.2] at A18; exact A18
          · rw [d21.2] at B18; exact B18.1
          · intro j hj; rw [B18.2.1 j hj, B9.1]
          · exact B18.2.2.trans B9.2
        · skip
          exact absurd h31 (by decide)
      · skip
        have d21 := pDig_t h21
        have e21 := pDig_p d21
        refine WE.iconst (n := 25) (nI 1) dX6_wind__24 rfl (by decide) ?_
        refine WE.goto (tgt := 29) dX6_wind__25 (by decide) ?_
        refine WE.istore_n (n := 30) dX6_wind__29 rfl (by decide) ?_
        refine WE.iload_n (n := 31) dX6_wind__30 rfl rfl ?_
        refine WE.if_eq (n := 34) (tgt := 57) dX6_wind__31 rfl (by decide) (fun h31 => ?_) (fun h31 => ?_)
        · skip
          exact absurd h31 (by decide)
        · skip
          refine WE.aload_n (n := 35) dX6_wind__34 rfl rfl ?_
          refine WE.getI (n := 38) dX6_wind__35 rfl fl_X6_181 ⟨by decide, by decide, rfl⟩ (by first | decide | exact kd_bal (by assumption) | exact kd_let (by assumption) | assumption) ?_
          refine WE.iload_n (n := 39) dX6_wind__38 rfl rfl ?_
          refine WE.isub (n := 40) dX6_wind__39 rfl ?_
          refine WE.iconst (n := 41) (nI 2) dX6_wind__40 rfl (by decide) ?_
          refine WE.icmp_ne (n := 44) (tgt := 57) dX6_wind__41 rfl (by decide) (fun h41 => ?_) (fun h41 => ?_)
          · skip
            refine WE.iload_n (n := 58) dX6_wind__57 rfl rfl ?_
            refine WE.iret (ty := .boolean) dX6_wind__58 rfl (by first | rfl | exact b2i_nar _ | decide) ⟨by decide, by decide⟩ ?_
            rw [e21] at A18 B18
            refine PD.out (R := (p + 1, some (c0 401 p - nI 48))) ?_ rfl ⟨A18, B18.1, ?_, ?_⟩
            · simp only [pSgn, hm, ↓reduceIte, e21]
            · intro j hj; rw [B18.2.1 j hj, B9.1]
            · exact B18.2.2.trans B9.2
          · skip
            exfalso
            rw [e21] at A18
            rw [A18.2.1, ep, show nI (p + 1) - nI p = nI (p + 1 - p) from pk_sub (by omega)] at h41
            have h41 : nI (p + 1 - p) = nI 2 := h41
            rw [nI_eq (by omega) (by omega)] at h41
            omega
  
/-- two numbers about a sign: the place, and the numbers -/
def pPair (f g : Nat → PR) (T : NA) (n : Nat) (x : Int32) (p : Nat) : Nat × Option (Int32 × Int32) :=
  if (f p).2.isSome = true then (if (f p).1 < n ∧ T (f p).1 = x then (if (g ((f p).1 + 1)).2.isSome = true then ((g ((f p).1 + 1)).1, some ((f p).2.getD (nI 0), (g ((f p).1 + 1)).2.getD (nI 0))) else ((g ((f p).1 + 1)).1, none)) else ((f p).1, none)) else ((f p).1, none)
abbrev Ord : Type := Int32 × Int32 × Int32 × Int32
def oPair (k : Int32) (R : Nat × Option (Int32 × Int32)) : Nat × Option Ord := (R.1, R.2.map fun ab => (k, ab.1, ab.2, nI 0))
def oOne (k : Int32) (R : PR) : Nat × Option Ord := (R.1, R.2.map fun a => (k, a, nI 0, nI 0))
def pWind (T : NA) (n p : Nat) : Nat × Option Ord :=
  if (pDig T n p).2.isSome = true then (if (pDig T n p).1 < n ∧ T (pDig T n p).1 = nI 58 then
    (if (pPair (pSgn T n) (pSgn T n) T n (nI 44) ((pDig T n p).1 + 1)).2.isSome = true then
      ((pPair (pSgn T n) (pSgn T n) T n (nI 44) ((pDig T n p).1 + 1)).1, some (nI 119, (pDig T n p).2.getD (nI 0), ((pPair (pSgn T n) (pSgn T n) T n (nI 44) ((pDig T n p).1 + 1)).2.getD (nI 0, nI 0)).1, ((pPair (pSgn T n) (pSgn T n) T n (nI 44) ((pDig T n p).1 + 1)).2.getD (nI 0, nI 0)).2))
    else ((pPair (pSgn T n) (pSgn T n) T n (nI 44) ((pDig T n p).1 + 1)).1, none)) else ((pDig T n p).1, none)) else ((pDig T n p).1, none)
/-- an order at p: the place behind, and the order -/
def pOrd (T : NA) (n p : Nat) : Nat × Option Ord :=
  if p < n then
    (if T p = nI 102 then oPair (nI 102) (pPair (pDig T n) (pNum T n) T n (nI 61) (p + 1))
     else if T p = nI 98 then oPair (nI 98) (pPair (pDig T n) (pNum T n) T n (nI 43) (p + 1))
     else if T p = nI 100 then oPair (nI 100) (pPair (pDig T n) (pNum T n) T n (nI 45) (p + 1))
     else if T p = nI 108 then oPair (nI 108) (pPair (pNum T n) (pDig T n) T n (nI 64) (p + 1))
     else if T p = nI 117 then oOne (nI 117) (pDig T n (p + 1))
     else if T p = nI 104 then oOne (nI 104) (pNum T n (p + 1))
     else if T p = nI 119 then pWind T n (p + 1)
     else (p, none))
  else (p, none)
/-- the reference holds the order o -/
def OrdM (c : CC) (o : Ord) : Prop := c 395 11 = o.1 ∧ c 402 0 = o.2.1 ∧ (¬ (o.1 = nI 117 ∨ o.1 = nI 104) → c 402 1 = o.2.2.1) ∧ (o.1 = nI 119 → c 402 2 = o.2.2.2)
def PO (c0 : CC) (od : Int64 × UInt64) (n p : Nat) : AO → SS → Prop := PI fun r σ => ∃ c', σ = (c', od) ∧ r = b2i ((pOrd (c0 401) n p).2.isSome = true) ∧ At c0 c' n (pOrd (c0 401) n p).1 ∧ ∀ o, (pOrd (c0 401) n p).2 = some o → OrdM c' o
theorem PO.no {c0 c' : CC} {od : Int64 × UInt64} {n p q : Nat} (e : pOrd (c0 401) n p = (q, none)) (h : At c0 c' n q) : PO c0 od n p (.inl (some (.int (nI 0)))) (c', od) := by
  refine ⟨_, rfl, c', rfl, ?_, ?_, ?_⟩
  · rw [e]; rfl
  · rw [e]; exact h
  · rw [e]; intro o h; cases h
theorem PO.yes {c0 c' : CC} {od : Int64 × UInt64} {n p q : Nat} {o : Ord} (e : pOrd (c0 401) n p = (q, some o)) (h : At c0 c' n q) (ho : OrdM c' o) : PO c0 od n p (.inl (some (.int (nI 1)))) (c', od) := by
  refine ⟨_, rfl, c', rfl, ?_, ?_, ?_⟩
  · rw [e]; rfl
  · rw [e]; exact h
  · rw [e]; intro o h; cases h; exact ho
theorem PO.one {c0 c c' : CC} {od : Int64 × UInt64} {n p : Nat} {R : PR} {k : Int32} (e : pOrd (c0 401) n p = oOne k R) (hk : k = nI 117 ∨ k = nI 104) (h : AtD c0 c c' n 0 R) (hc : c 395 11 = k) : PO c0 od n p (.inl (some (.int (b2i (R.2.isSome = true))))) (c', od) := by
  refine ⟨_, rfl, c', rfl, ?_, ?_, ?_⟩
  · rw [e]; congr 1; simp [oOne]
  · rw [e]; exact h.1
  · rw [e]
    intro o ho
    obtain ⟨q, v⟩ := R
    cases v with
    | none => cases ho
    | some v =>
      cases ho
      refine ⟨h.2.2.2.trans hc, h.2.1, fun q => absurd hk q, fun q => ?_⟩
      exfalso
      rcases hk with rfl | rfl
      · exact absurd (show nI 117 = nI 119 from q) (by decide)
      · exact absurd (show nI 104 = nI 119 from q) (by decide)
theorem sw_out1 {x : Int32} {a m : Nat} (ha : a < 2 ^ 30) (hm : m < 2 ^ 30) (h : ¬ (nI a ≤ x ∧ x ≤ nI m)) : x.toInt < (a : Int) ∨ (m : Int) < x.toInt := by
  by_cases h1 : x.toInt < (a : Int)
  · exact Or.inl h1
  · refine Or.inr ?_
    by_cases h2 : (m : Int) < x.toInt
    · exact h2
    · exfalso
      apply h
      rw [Int32.le_iff_toInt_le, Int32.le_iff_toInt_le, nI_toInt (show a < 2 ^ 31 by omega), nI_toInt (show m < 2 ^ 31 by omega)]
      omega
set_option maxRecDepth 20000 in
set_option maxHeartbeats 1000000 in
theorem m_isOrder (od : Int64 × UInt64) {c0 c : CC} {n p : Nat} (hn : n ≤ 60) (h : At c0 c n p) : CM mX6_isOrder [.ref 395] (c, od) (PO c0 od n p) := by
  refine CM.of [(0, .ref 395)] rfl (by decide +kernel) rfl (Nat.le_of_ble_eq_true rfl) ?_
  refine WE.aload_n (n := 1) dX6_isOrder_0 rfl rfl ?_
  refine WE.getI (n := 4) dX6_isOrder_1 rfl fl_X6_181 ⟨by decide, by decide, rfl⟩ (by first | decide | exact kd_bal (by assumption) | exact kd_let (by assumption) | assumption) ?_
  refine WE.aload_n (n := 5) dX6_isOrder_4 rfl rfl ?_
  refine WE.getI (n := 8) dX6_isOrder_5 rfl fl_X6_178 ⟨by decide, by decide, rfl⟩ (by first | decide | exact kd_bal (by assumption) | exact kd_let (by assumption) | assumption) ?_
  refine WE.icmp_ne (n := 11) (tgt := 13) dX6_isOrder_8 rfl (by decide) (fun h8 => ?_) (fun h8 => ?_)
  · skip
    have hp : p < n := by
      have : p ≠ n := fun q => h8 (by rw [h.2.1, h.1, q])
      have := h.2.2.1
      omega
    refine WE.aload_n (n := 14) dX6_isOrder_13 rfl rfl ?_
    refine WE.aload_n (n := 15) dX6_isOrder_14 rfl rfl ?_
    refine WE.getR (n := 18) dX6_isOrder_15 rfl fl_X6_25 ⟨by decide, by decide⟩ rfl (by first | decide | exact kd_bal (by assumption) | exact kd_let (by assumption) | assumption) ?_
    refine WE.aload_n (n := 19) dX6_isOrder_18 rfl rfl ?_
    refine WE.getI (n := 22) dX6_isOrder_19 rfl fl_X6_181 ⟨by decide, by decide, rfl⟩ (by first | decide | exact kd_bal (by assumption) | exact kd_let (by assumption) | assumption) ?_
    refine WE.cald (n := 23) p dX6_isOrder_22 rfl (by first | decide | assumption) h.2.1 (by show _ < 60; omega) ?_
    refine WE.putI (n := 26) dX6_isOrder_23 rfl fl_X6_192 ⟨by decide, by decide, rfl, rfl⟩ ⟨by first | rfl | decide, by first | rfl | decide⟩ (by first | decide | exact kd_bal (by assumption) | exact kd_let (by assumption) | assumption) ?_
    refine WE.aload_n (n := 27) dX6_isOrder_26 rfl rfl ?_
    refine WE.getR (n := 30) dX6_isOrder_27 rfl fl_X6_25 ⟨by decide, by decide⟩ rfl (by first | decide | exact kd_bal (by assumption) | exact kd_let (by assumption) | assumption) ?_
    refine WE.aload_n (n := 31) dX6_isOrder_30 rfl rfl ?_
    refine WE.getI (n := 34) dX6_isOrder_31 rfl fl_X6_181 ⟨by decide, by decide, rfl⟩ (by first | decide | exact kd_bal (by assumption) | exact kd_let (by assumption) | assumption) ?_
    refine WE.cald (n := 35) p dX6_isOrder_34 rfl (by first | decide | assumption) (by rw [u2_ne _ _ (by decide)]; exact h.2.1) (by show _ < 60; omega) ?_
    have hx0 : c 401 p = c0 401 p := congrFun h.T p
    by_cases hr : nI 98 ≤ c 401 p ∧ c 401 p ≤ nI 119
    · obtain ⟨k, hk1, hk2, hk⟩ := in1_of (by decide) (by decide) hr
      rcases (show k = 98 ∨ k = 99 ∨ k = 100 ∨ k = 101 ∨ k = 102 ∨ k = 103 ∨ k = 104 ∨ k = 105 ∨ k = 106 ∨ k = 107 ∨ k = 108 ∨ k = 109 ∨ k = 110 ∨ k = 111 ∨ k = 112 ∨ k = 113 ∨ k = 114 ∨ k = 115 ∨ k = 116 ∨ k = 117 ∨ k = 118 ∨ k = 119 by omega) with rfl | rfl | rfl | rfl | rfl | rfl | rfl | rfl | rfl | rfl | rfl | rfl | rfl | rfl | rfl | rfl | rfl | rfl | rfl | rfl | rfl | rfl
      · have hx : c0 401 p = nI 98 := hx0.symm.trans hk
        refine WE.tsw (tgt := 180) dX6_isOrder_35 98 (by show (c 401 p).toInt = _; rw [hk]; decide) (by decide) (by decide) rfl (by decide) ?_
        refine WE.aload_n (n := 181) dX6_isOrder_180 rfl rfl ?_
        refine WE.dup (n := 182) dX6_isOrder_181 rfl rfl ?_
        refine WE.getI (n := 185) dX6_isOrder_182 rfl fl_X6_181 ⟨by decide, by decide, rfl⟩ (by first | decide | exact kd_bal (by assumption) | exact kd_let (by assumption) | assumption) ?_
        refine WE.iconst (n := 186) (nI 1) dX6_isOrder_185 rfl (by decide) ?_
        refine WE.iadd (n := 187) dX6_isOrder_186 rfl ?_
        refine WE.putI (n := 190) dX6_isOrder_187 rfl fl_X6_181 ⟨by decide, by decide, rfl, rfl⟩ ⟨by first | rfl | decide, by first | rfl | decide⟩ (by first | decide | exact kd_bal (by assumption) | exact kd_let (by assumption) | assumption) ?_
        refine WE.aload_n (n := 191) dX6_isOrder_190 rfl rfl ?_
        refine WE.iconst (n := 192) (nI 0) dX6_isOrder_191 rfl (by decide) ?_
        refine WE.iconst (n := 193) (nI 1) dX6_isOrder_192 rfl (by decide) ?_
        refine WE.V2PI (M' := mX6_digits) (n := 196) dX6_isOrder_193 rfl cv_X6_188 (by first | decide | exact kd_bal (by assumption) | exact kd_let (by assumption) | assumption) ⟨⟨by decide, by decide⟩, by decide, by decide⟩ (Nat.le_of_ble_eq_true rfl) (m_digP od 0 (by decide) hn (At.inc (At.ord h (c 401 p)) hp)) (fun r193 σ193 q193 => ?_)
        obtain ⟨c193, rfl, rfl, A193, B193⟩ := q193
        refine WE.if_eqB (n := 199) (tgt := 222) dX6_isOrder_196 rfl (by decide) (fun h196 => ?_) (fun h196 => ?_)
        · skip
          refine WE.iconst (n := 223) (nI 0) dX6_isOrder_222 rfl (by decide) ?_
          refine WE.iret (ty := .boolean) dX6_isOrder_223 rfl (by first | rfl | exact b2i_nar _ | decide) ⟨by decide, by decide⟩ ?_
          first
            | exact PO.no (e := by simp only [pOrd, hp, hx, show ¬ nI 98 = nI 102 by decide, ↓reduceIte, oPair, pPair, h196, Option.map_some, Option.map_none, and_self, Bool.false_eq_true]) A193
            | exact PO.yes (o := (nI 98, (pDig (c0 401) n (p + 1)).2.getD (nI 0), (pNum (c0 401) n ((pDig (c0 401) n (p + 1)).1 + 1)).2.getD (nI 0), nI 0)) (e := by simp only [pOrd, hp, hx, show ¬ nI 98 = nI 102 by decide, ↓reduceIte, oPair, pPair, h196, Option.map_some, Option.map_none, and_self, Bool.false_eq_true]) A212 ⟨by rw [B212.2.2, B203.2, B193.2.2, u2_ne _ _ (by decide), u2_eq, h.T, hx], by rw [B212.2.1 0 (by decide), B203.1, B193.1], fun _ => B212.1, fun q => absurd q (show ¬ nI 98 = nI 119 by decide)⟩
        · skip
          refine WE.aload_n (n := 200) dX6_isOrder_199 rfl rfl ?_
          refine WE.bipush (n := 202) (nI 43) dX6_isOrder_200 rfl (by decide) ?_
          refine WE.iconst (n := 203) (nI 1) dX6_isOrder_202 rfl (by decide) ?_
          refine WE.V2PI (M' := mX6_sign_) (n := 206) dX6_isOrder_203 rfl cv_X6_184 (by first | decide | exact kd_bal (by assumption) | exact kd_let (by assumption) | assumption) ⟨⟨by decide, by decide⟩, by decide, by decide⟩ (Nat.le_of_ble_eq_true rfl) (m_chrP od (nI 43) hn A193) (fun r203 σ203 q203 => ?_)
          obtain ⟨c203, rfl, rfl, A203, B203⟩ := q203
          refine WE.if_eqB (n := 209) (tgt := 222) dX6_isOrder_206 rfl (by decide) (fun h206 => ?_) (fun h206 => ?_)
          · skip
            refine WE.iconst (n := 223) (nI 0) dX6_isOrder_222 rfl (by decide) ?_
            refine WE.iret (ty := .boolean) dX6_isOrder_223 rfl (by first | rfl | exact b2i_nar _ | decide) ⟨by decide, by decide⟩ ?_
            first
              | exact PO.no (e := by simp only [pOrd, hp, hx, show ¬ nI 98 = nI 102 by decide, ↓reduceIte, oPair, pPair, h196, h206, Option.map_some, Option.map_none, and_self, Bool.false_eq_true]) (chr_f A203 h206)
              | exact PO.yes (o := (nI 98, (pDig (c0 401) n (p + 1)).2.getD (nI 0), (pNum (c0 401) n ((pDig (c0 401) n (p + 1)).1 + 1)).2.getD (nI 0), nI 0)) (e := by simp only [pOrd, hp, hx, show ¬ nI 98 = nI 102 by decide, ↓reduceIte, oPair, pPair, h196, h206, Option.map_some, Option.map_none, and_self, Bool.false_eq_true]) A212 ⟨by rw [B212.2.2, B203.2, B193.2.2, u2_ne _ _ (by decide), u2_eq, h.T, hx], by rw [B212.2.1 0 (by decide), B203.1, B193.1], fun _ => B212.1, fun q => absurd q (show ¬ nI 98 = nI 119 by decide)⟩
          · skip
            refine WE.aload_n (n := 210) dX6_isOrder_209 rfl rfl ?_
            refine WE.iconst (n := 211) (nI 1) dX6_isOrder_210 rfl (by decide) ?_
            refine WE.iconst (n := 212) (nI 2) dX6_isOrder_211 rfl (by decide) ?_
            refine WE.V2PI (M' := mX6_digits) (n := 215) dX6_isOrder_212 rfl cv_X6_188 (by first | decide | exact kd_bal (by assumption) | exact kd_let (by assumption) | assumption) ⟨⟨by decide, by decide⟩, by decide, by decide⟩ (Nat.le_of_ble_eq_true rfl) (m_numP od 1 (by decide) hn (chr_t A203 h206)) (fun r212 σ212 q212 => ?_)
            obtain ⟨c212, rfl, rfl, A212, B212⟩ := q212
            refine WE.if_eqB (n := 218) (tgt := 222) dX6_isOrder_215 rfl (by decide) (fun h215 => ?_) (fun h215 => ?_)
            · skip
              refine WE.iconst (n := 223) (nI 0) dX6_isOrder_222 rfl (by decide) ?_
              refine WE.iret (ty := .boolean) dX6_isOrder_223 rfl (by first | rfl | exact b2i_nar _ | decide) ⟨by decide, by decide⟩ ?_
              first
                | exact PO.no (e := by simp only [pOrd, hp, hx, show ¬ nI 98 = nI 102 by decide, ↓reduceIte, oPair, pPair, h196, h206, h215, Option.map_some, Option.map_none, and_self, Bool.false_eq_true]) A212
                | exact PO.yes (o := (nI 98, (pDig (c0 401) n (p + 1)).2.getD (nI 0), (pNum (c0 401) n ((pDig (c0 401) n (p + 1)).1 + 1)).2.getD (nI 0), nI 0)) (e := by simp only [pOrd, hp, hx, show ¬ nI 98 = nI 102 by decide, ↓reduceIte, oPair, pPair, h196, h206, h215, Option.map_some, Option.map_none, and_self, Bool.false_eq_true]) A212 ⟨by rw [B212.2.2, B203.2, B193.2.2, u2_ne _ _ (by decide), u2_eq, h.T, hx], by rw [B212.2.1 0 (by decide), B203.1, B193.1], fun _ => B212.1, fun q => absurd q (show ¬ nI 98 = nI 119 by decide)⟩
            · skip
              refine WE.iconst (n := 219) (nI 1) dX6_isOrder_218 rfl (by decide) ?_
              refine WE.goto (tgt := 223) dX6_isOrder_219 (by decide) ?_
              refine WE.iret (ty := .boolean) dX6_isOrder_223 rfl (by first | rfl | exact b2i_nar _ | decide) ⟨by decide, by decide⟩ ?_
              first
                | exact PO.no (e := by simp only [pOrd, hp, hx, show ¬ nI 98 = nI 102 by decide, ↓reduceIte, oPair, pPair, h196, h206, h215, Option.map_some, Option.map_none, and_self, Bool.false_eq_true]) A212
                | exact PO.yes (o := (nI 98, (pDig (c0 401) n (p + 1)).2.getD (nI 0), (pNum (c0 401) n ((pDig (c0 401) n (p + 1)).1 + 1)).2.getD (nI 0), nI 0)) (e := by simp only [pOrd, hp, hx, show ¬ nI 98 = nI 102 by decide, ↓reduceIte, oPair, pPair, h196, h206, h215, Option.map_some, Option.map_none, and_self, Bool.false_eq_true]) A212 ⟨by rw [B212.2.2, B203.2, B193.2.2, u2_ne _ _ (by decide), u2_eq, h.T, hx], by rw [B212.2.1 0 (by decide), B203.1, B193.1], fun _ => B212.1, fun q => absurd q (show ¬ nI 98 = nI 119 by decide)⟩
      · have hx : c0 401 p = nI 99 := hx0.symm.trans hk
        refine WE.tsw (tgt := 407) dX6_isOrder_35 99 (by show (c 401 p).toInt = _; rw [hk]; decide) (by decide) (by decide) rfl (by decide) ?_
        refine WE.iconst (n := 408) (nI 0) dX6_isOrder_407 rfl (by decide) ?_
        refine WE.iret (ty := .boolean) dX6_isOrder_408 rfl (by first | rfl | exact b2i_nar _ | decide) ⟨by decide, by decide⟩ ?_
        exact PO.no (e := by simp only [pOrd, hp, hx, show ¬ nI 99 = nI 102 by decide, show ¬ nI 99 = nI 98 by decide, show ¬ nI 99 = nI 100 by decide, show ¬ nI 99 = nI 108 by decide, show ¬ nI 99 = nI 117 by decide, show ¬ nI 99 = nI 104 by decide, show ¬ nI 99 = nI 119 by decide, ↓reduceIte]) (At.ord h _)
      · have hx : c0 401 p = nI 100 := hx0.symm.trans hk
        refine WE.tsw (tgt := 224) dX6_isOrder_35 100 (by show (c 401 p).toInt = _; rw [hk]; decide) (by decide) (by decide) rfl (by decide) ?_
        refine WE.aload_n (n := 225) dX6_isOrder_224 rfl rfl ?_
        refine WE.dup (n := 226) dX6_isOrder_225 rfl rfl ?_
        refine WE.getI (n := 229) dX6_isOrder_226 rfl fl_X6_181 ⟨by decide, by decide, rfl⟩ (by first | decide | exact kd_bal (by assumption) | exact kd_let (by assumption) | assumption) ?_
        refine WE.iconst (n := 230) (nI 1) dX6_isOrder_229 rfl (by decide) ?_
        refine WE.iadd (n := 231) dX6_isOrder_230 rfl ?_
        refine WE.putI (n := 234) dX6_isOrder_231 rfl fl_X6_181 ⟨by decide, by decide, rfl, rfl⟩ ⟨by first | rfl | decide, by first | rfl | decide⟩ (by first | decide | exact kd_bal (by assumption) | exact kd_let (by assumption) | assumption) ?_
        refine WE.aload_n (n := 235) dX6_isOrder_234 rfl rfl ?_
        refine WE.iconst (n := 236) (nI 0) dX6_isOrder_235 rfl (by decide) ?_
        refine WE.iconst (n := 237) (nI 1) dX6_isOrder_236 rfl (by decide) ?_
        refine WE.V2PI (M' := mX6_digits) (n := 240) dX6_isOrder_237 rfl cv_X6_188 (by first | decide | exact kd_bal (by assumption) | exact kd_let (by assumption) | assumption) ⟨⟨by decide, by decide⟩, by decide, by decide⟩ (Nat.le_of_ble_eq_true rfl) (m_digP od 0 (by decide) hn (At.inc (At.ord h (c 401 p)) hp)) (fun r237 σ237 q237 => ?_)
        obtain ⟨c237, rfl, rfl, A237, B237⟩ := q237
        refine WE.if_eqB (n := 243) (tgt := 266) dX6_isOrder_240 rfl (by decide) (fun h240 => ?_) (fun h240 => ?_)
        · skip
          refine WE.iconst (n := 267) (nI 0) dX6_isOrder_266 rfl (by decide) ?_
          refine WE.iret (ty := .boolean) dX6_isOrder_267 rfl (by first | rfl | exact b2i_nar _ | decide) ⟨by decide, by decide⟩ ?_
          first
            | exact PO.no (e := by simp only [pOrd, hp, hx, show ¬ nI 100 = nI 102 by decide, show ¬ nI 100 = nI 98 by decide, ↓reduceIte, oPair, pPair, h240, Option.map_some, Option.map_none, and_self, Bool.false_eq_true]) A237
            | exact PO.yes (o := (nI 100, (pDig (c0 401) n (p + 1)).2.getD (nI 0), (pNum (c0 401) n ((pDig (c0 401) n (p + 1)).1 + 1)).2.getD (nI 0), nI 0)) (e := by simp only [pOrd, hp, hx, show ¬ nI 100 = nI 102 by decide, show ¬ nI 100 = nI 98 by decide, ↓reduceIte, oPair, pPair, h240, Option.map_some, Option.map_none, and_self, Bool.false_eq_true]) A256 ⟨by rw [B256.2.2, B247.2, B237.2.2, u2_ne _ _ (by decide), u2_eq, h.T, hx], by rw [B256.2.1 0 (by decide), B247.1, B237.1], fun _ => B256.1, fun q => absurd q (show ¬ nI 100 = nI 119 by decide)⟩
        · skip
          refine WE.aload_n (n := 244) dX6_isOrder_243 rfl rfl ?_
          refine WE.bipush (n := 246) (nI 45) dX6_isOrder_244 rfl (by decide) ?_
          refine WE.iconst (n := 247) (nI 1) dX6_isOrder_246 rfl (by decide) ?_
          refine WE.V2PI (M' := mX6_sign_) (n := 250) dX6_isOrder_247 rfl cv_X6_184 (by first | decide | exact kd_bal (by assumption) | exact kd_let (by assumption) | assumption) ⟨⟨by decide, by decide⟩, by decide, by decide⟩ (Nat.le_of_ble_eq_true rfl) (m_chrP od (nI 45) hn A237) (fun r247 σ247 q247 => ?_)
          obtain ⟨c247, rfl, rfl, A247, B247⟩ := q247
          refine WE.if_eqB (n := 253) (tgt := 266) dX6_isOrder_250 rfl (by decide) (fun h250 => ?_) (fun h250 => ?_)
          · skip
            refine WE.iconst (n := 267) (nI 0) dX6_isOrder_266 rfl (by decide) ?_
            refine WE.iret (ty := .boolean) dX6_isOrder_267 rfl (by first | rfl | exact b2i_nar _ | decide) ⟨by decide, by decide⟩ ?_
            first
              | exact PO.no (e := by simp only [pOrd, hp, hx, show ¬ nI 100 = nI 102 by decide, show ¬ nI 100 = nI 98 by decide, ↓reduceIte, oPair, pPair, h240, h250, Option.map_some, Option.map_none, and_self, Bool.false_eq_true]) (chr_f A247 h250)
              | exact PO.yes (o := (nI 100, (pDig (c0 401) n (p + 1)).2.getD (nI 0), (pNum (c0 401) n ((pDig (c0 401) n (p + 1)).1 + 1)).2.getD (nI 0), nI 0)) (e := by simp only [pOrd, hp, hx, show ¬ nI 100 = nI 102 by decide, show ¬ nI 100 = nI 98 by decide, ↓reduceIte, oPair, pPair, h240, h250, Option.map_some, Option.map_none, and_self, Bool.false_eq_true]) A256 ⟨by rw [B256.2.2, B247.2, B237.2.2, u2_ne _ _ (by decide), u2_eq, h.T, hx], by rw [B256.2.1 0 (by decide), B247.1, B237.1], fun _ => B256.1, fun q => absurd q (show ¬ nI 100 = nI 119 by decide)⟩
          · skip
            refine WE.aload_n (n := 254) dX6_isOrder_253 rfl rfl ?_
            refine WE.iconst (n := 255) (nI 1) dX6_isOrder_254 rfl (by decide) ?_
            refine WE.iconst (n := 256) (nI 2) dX6_isOrder_255 rfl (by decide) ?_
            refine WE.V2PI (M' := mX6_digits) (n := 259) dX6_isOrder_256 rfl cv_X6_188 (by first | decide | exact kd_bal (by assumption) | exact kd_let (by assumption) | assumption) ⟨⟨by decide, by decide⟩, by decide, by decide⟩ (Nat.le_of_ble_eq_true rfl) (m_numP od 1 (by decide) hn (chr_t A247 h250)) (fun r256 σ256 q256 => ?_)
            obtain ⟨c256, rfl, rfl, A256, B256⟩ := q256
            refine WE.if_eqB (n := 262) (tgt := 266) dX6_isOrder_259 rfl (by decide) (fun h259 => ?_) (fun h259 => ?_)
            · skip
              refine WE.iconst (n := 267) (nI 0) dX6_isOrder_266 rfl (by decide) ?_
              refine WE.iret (ty := .boolean) dX6_isOrder_267 rfl (by first | rfl | exact b2i_nar _ | decide) ⟨by decide, by decide⟩ ?_
              first
                | exact PO.no (e := by simp only [pOrd, hp, hx, show ¬ nI 100 = nI 102 by decide, show ¬ nI 100 = nI 98 by decide, ↓reduceIte, oPair, pPair, h240, h250, h259, Option.map_some, Option.map_none, and_self, Bool.false_eq_true]) A256
                | exact PO.yes (o := (nI 100, (pDig (c0 401) n (p + 1)).2.getD (nI 0), (pNum (c0 401) n ((pDig (c0 401) n (p + 1)).1 + 1)).2.getD (nI 0), nI 0)) (e := by simp only [pOrd, hp, hx, show ¬ nI 100 = nI 102 by decide, show ¬ nI 100 = nI 98 by decide, ↓reduceIte, oPair, pPair, h240, h250, h259, Option.map_some, Option.map_none, and_self, Bool.false_eq_true]) A256 ⟨by rw [B256.2.2, B247.2, B237.2.2, u2_ne _ _ (by decide), u2_eq, h.T, hx], by rw [B256.2.1 0 (by decide), B247.1, B237.1], fun _ => B256.1, fun q => absurd q (show ¬ nI 100 = nI 119 by decide)⟩
            · skip
              refine WE.iconst (n := 263) (nI 1) dX6_isOrder_262 rfl (by decide) ?_
              refine WE.goto (tgt := 267) dX6_isOrder_263 (by decide) ?_
              refine WE.iret (ty := .boolean) dX6_isOrder_267 rfl (by first | rfl | exact b2i_nar _ | decide) ⟨by decide, by decide⟩ ?_
              first
                | exact PO.no (e := by simp only [pOrd, hp, hx, show ¬ nI 100 = nI 102 by decide, show ¬ nI 100 = nI 98 by decide, ↓reduceIte, oPair, pPair, h240, h250, h259, Option.map_some, Option.map_none, and_self, Bool.false_eq_true]) A256
                | exact PO.yes (o := (nI 100, (pDig (c0 401) n (p + 1)).2.getD (nI 0), (pNum (c0 401) n ((pDig (c0 401) n (p + 1)).1 + 1)).2.getD (nI 0), nI 0)) (e := by simp only [pOrd, hp, hx, show ¬ nI 100 = nI 102 by decide, show ¬ nI 100 = nI 98 by decide, ↓reduceIte, oPair, pPair, h240, h250, h259, Option.map_some, Option.map_none, and_self, Bool.false_eq_true]) A256 ⟨by rw [B256.2.2, B247.2, B237.2.2, u2_ne _ _ (by decide), u2_eq, h.T, hx], by rw [B256.2.1 0 (by decide), B247.1, B237.1], fun _ => B256.1, fun q => absurd q (show ¬ nI 100 = nI 119 by decide)⟩
      · have hx : c0 401 p = nI 101 := hx0.symm.trans hk
        refine WE.tsw (tgt := 407) dX6_isOrder_35 101 (by show (c 401 p).toInt = _; rw [hk]; decide) (by decide) (by decide) rfl (by decide) ?_
        refine WE.iconst (n := 408) (nI 0) dX6_isOrder_407 rfl (by decide) ?_
        refine WE.iret (ty := .boolean) dX6_isOrder_408 rfl (by first | rfl | exact b2i_nar _ | decide) ⟨by decide, by decide⟩ ?_
        exact PO.no (e := by simp only [pOrd, hp, hx, show ¬ nI 101 = nI 102 by decide, show ¬ nI 101 = nI 98 by decide, show ¬ nI 101 = nI 100 by decide, show ¬ nI 101 = nI 108 by decide, show ¬ nI 101 = nI 117 by decide, show ¬ nI 101 = nI 104 by decide, show ¬ nI 101 = nI 119 by decide, ↓reduceIte]) (At.ord h _)
      · have hx : c0 401 p = nI 102 := hx0.symm.trans hk
        refine WE.tsw (tgt := 136) dX6_isOrder_35 102 (by show (c 401 p).toInt = _; rw [hk]; decide) (by decide) (by decide) rfl (by decide) ?_
        refine WE.aload_n (n := 137) dX6_isOrder_136 rfl rfl ?_
        refine WE.dup (n := 138) dX6_isOrder_137 rfl rfl ?_
        refine WE.getI (n := 141) dX6_isOrder_138 rfl fl_X6_181 ⟨by decide, by decide, rfl⟩ (by first | decide | exact kd_bal (by assumption) | exact kd_let (by assumption) | assumption) ?_
        refine WE.iconst (n := 142) (nI 1) dX6_isOrder_141 rfl (by decide) ?_
        refine WE.iadd (n := 143) dX6_isOrder_142 rfl ?_
        refine WE.putI (n := 146) dX6_isOrder_143 rfl fl_X6_181 ⟨by decide, by decide, rfl, rfl⟩ ⟨by first | rfl | decide, by first | rfl | decide⟩ (by first | decide | exact kd_bal (by assumption) | exact kd_let (by assumption) | assumption) ?_
        refine WE.aload_n (n := 147) dX6_isOrder_146 rfl rfl ?_
        refine WE.iconst (n := 148) (nI 0) dX6_isOrder_147 rfl (by decide) ?_
        refine WE.iconst (n := 149) (nI 1) dX6_isOrder_148 rfl (by decide) ?_
        refine WE.V2PI (M' := mX6_digits) (n := 152) dX6_isOrder_149 rfl cv_X6_188 (by first | decide | exact kd_bal (by assumption) | exact kd_let (by assumption) | assumption) ⟨⟨by decide, by decide⟩, by decide, by decide⟩ (Nat.le_of_ble_eq_true rfl) (m_digP od 0 (by decide) hn (At.inc (At.ord h (c 401 p)) hp)) (fun r149 σ149 q149 => ?_)
        obtain ⟨c149, rfl, rfl, A149, B149⟩ := q149
        refine WE.if_eqB (n := 155) (tgt := 178) dX6_isOrder_152 rfl (by decide) (fun h152 => ?_) (fun h152 => ?_)
        · skip
          refine WE.iconst (n := 179) (nI 0) dX6_isOrder_178 rfl (by decide) ?_
          refine WE.iret (ty := .boolean) dX6_isOrder_179 rfl (by first | rfl | exact b2i_nar _ | decide) ⟨by decide, by decide⟩ ?_
          first
            | exact PO.no (e := by simp only [pOrd, hp, hx, ↓reduceIte, oPair, pPair, h152, Option.map_some, Option.map_none, and_self, Bool.false_eq_true]) A149
            | exact PO.yes (o := (nI 102, (pDig (c0 401) n (p + 1)).2.getD (nI 0), (pNum (c0 401) n ((pDig (c0 401) n (p + 1)).1 + 1)).2.getD (nI 0), nI 0)) (e := by simp only [pOrd, hp, hx, ↓reduceIte, oPair, pPair, h152, Option.map_some, Option.map_none, and_self, Bool.false_eq_true]) A168 ⟨by rw [B168.2.2, B159.2, B149.2.2, u2_ne _ _ (by decide), u2_eq, h.T, hx], by rw [B168.2.1 0 (by decide), B159.1, B149.1], fun _ => B168.1, fun q => absurd q (show ¬ nI 102 = nI 119 by decide)⟩
        · skip
          refine WE.aload_n (n := 156) dX6_isOrder_155 rfl rfl ?_
          refine WE.bipush (n := 158) (nI 61) dX6_isOrder_156 rfl (by decide) ?_
          refine WE.iconst (n := 159) (nI 1) dX6_isOrder_158 rfl (by decide) ?_
          refine WE.V2PI (M' := mX6_sign_) (n := 162) dX6_isOrder_159 rfl cv_X6_184 (by first | decide | exact kd_bal (by assumption) | exact kd_let (by assumption) | assumption) ⟨⟨by decide, by decide⟩, by decide, by decide⟩ (Nat.le_of_ble_eq_true rfl) (m_chrP od (nI 61) hn A149) (fun r159 σ159 q159 => ?_)
          obtain ⟨c159, rfl, rfl, A159, B159⟩ := q159
          refine WE.if_eqB (n := 165) (tgt := 178) dX6_isOrder_162 rfl (by decide) (fun h162 => ?_) (fun h162 => ?_)
          · skip
            refine WE.iconst (n := 179) (nI 0) dX6_isOrder_178 rfl (by decide) ?_
            refine WE.iret (ty := .boolean) dX6_isOrder_179 rfl (by first | rfl | exact b2i_nar _ | decide) ⟨by decide, by decide⟩ ?_
            first
              | exact PO.no (e := by simp only [pOrd, hp, hx, ↓reduceIte, oPair, pPair, h152, h162, Option.map_some, Option.map_none, and_self, Bool.false_eq_true]) (chr_f A159 h162)
              | exact PO.yes (o := (nI 102, (pDig (c0 401) n (p + 1)).2.getD (nI 0), (pNum (c0 401) n ((pDig (c0 401) n (p + 1)).1 + 1)).2.getD (nI 0), nI 0)) (e := by simp only [pOrd, hp, hx, ↓reduceIte, oPair, pPair, h152, h162, Option.map_some, Option.map_none, and_self, Bool.false_eq_true]) A168 ⟨by rw [B168.2.2, B159.2, B149.2.2, u2_ne _ _ (by decide), u2_eq, h.T, hx], by rw [B168.2.1 0 (by decide), B159.1, B149.1], fun _ => B168.1, fun q => absurd q (show ¬ nI 102 = nI 119 by decide)⟩
          · skip
            refine WE.aload_n (n := 166) dX6_isOrder_165 rfl rfl ?_
            refine WE.iconst (n := 167) (nI 1) dX6_isOrder_166 rfl (by decide) ?_
            refine WE.iconst (n := 168) (nI 2) dX6_isOrder_167 rfl (by decide) ?_
            refine WE.V2PI (M' := mX6_digits) (n := 171) dX6_isOrder_168 rfl cv_X6_188 (by first | decide | exact kd_bal (by assumption) | exact kd_let (by assumption) | assumption) ⟨⟨by decide, by decide⟩, by decide, by decide⟩ (Nat.le_of_ble_eq_true rfl) (m_numP od 1 (by decide) hn (chr_t A159 h162)) (fun r168 σ168 q168 => ?_)
            obtain ⟨c168, rfl, rfl, A168, B168⟩ := q168
            refine WE.if_eqB (n := 174) (tgt := 178) dX6_isOrder_171 rfl (by decide) (fun h171 => ?_) (fun h171 => ?_)
            · skip
              refine WE.iconst (n := 179) (nI 0) dX6_isOrder_178 rfl (by decide) ?_
              refine WE.iret (ty := .boolean) dX6_isOrder_179 rfl (by first | rfl | exact b2i_nar _ | decide) ⟨by decide, by decide⟩ ?_
              first
                | exact PO.no (e := by simp only [pOrd, hp, hx, ↓reduceIte, oPair, pPair, h152, h162, h171, Option.map_some, Option.map_none, and_self, Bool.false_eq_true]) A168
                | exact PO.yes (o := (nI 102, (pDig (c0 401) n (p + 1)).2.getD (nI 0), (pNum (c0 401) n ((pDig (c0 401) n (p + 1)).1 + 1)).2.getD (nI 0), nI 0)) (e := by simp only [pOrd, hp, hx, ↓reduceIte, oPair, pPair, h152, h162, h171, Option.map_some, Option.map_none, and_self, Bool.false_eq_true]) A168 ⟨by rw [B168.2.2, B159.2, B149.2.2, u2_ne _ _ (by decide), u2_eq, h.T, hx], by rw [B168.2.1 0 (by decide), B159.1, B149.1], fun _ => B168.1, fun q => absurd q (show ¬ nI 102 = nI 119 by decide)⟩
            · skip
              refine WE.iconst (n := 175) (nI 1) dX6_isOrder_174 rfl (by decide) ?_
              refine WE.goto (tgt := 179) dX6_isOrder_175 (by decide) ?_
              refine WE.iret (ty := .boolean) dX6_isOrder_179 rfl (by first | rfl | exact b2i_nar _ | decide) ⟨by decide, by decide⟩ ?_
              first
                | exact PO.no (e := by simp only [pOrd, hp, hx, ↓reduceIte, oPair, pPair, h152, h162, h171, Option.map_some, Option.map_none, and_self, Bool.false_eq_true]) A168
                | exact PO.yes (o := (nI 102, (pDig (c0 401) n (p + 1)).2.getD (nI 0), (pNum (c0 401) n ((pDig (c0 401) n (p + 1)).1 + 1)).2.getD (nI 0), nI 0)) (e := by simp only [pOrd, hp, hx, ↓reduceIte, oPair, pPair, h152, h162, h171, Option.map_some, Option.map_none, and_self, Bool.false_eq_true]) A168 ⟨by rw [B168.2.2, B159.2, B149.2.2, u2_ne _ _ (by decide), u2_eq, h.T, hx], by rw [B168.2.1 0 (by decide), B159.1, B149.1], fun _ => B168.1, fun q => absurd q (show ¬ nI 102 = nI 119 by decide)⟩
      · have hx : c0 401 p = nI 103 := hx0.symm.trans hk
        refine WE.tsw (tgt := 407) dX6_isOrder_35 103 (by show (c 401 p).toInt = _; rw [hk]; decide) (by decide) (by decide) rfl (by decide) ?_
        refine WE.iconst (n := 408) (nI 0) dX6_isOrder_407 rfl (by decide) ?_
        refine WE.iret (ty := .boolean) dX6_isOrder_408 rfl (by first | rfl | exact b2i_nar _ | decide) ⟨by decide, by decide⟩ ?_
        exact PO.no (e := by simp only [pOrd, hp, hx, show ¬ nI 103 = nI 102 by decide, show ¬ nI 103 = nI 98 by decide, show ¬ nI 103 = nI 100 by decide, show ¬ nI 103 = nI 108 by decide, show ¬ nI 103 = nI 117 by decide, show ¬ nI 103 = nI 104 by decide, show ¬ nI 103 = nI 119 by decide, ↓reduceIte]) (At.ord h _)
      · have hx : c0 401 p = nI 104 := hx0.symm.trans hk
        refine WE.tsw (tgt := 329) dX6_isOrder_35 104 (by show (c 401 p).toInt = _; rw [hk]; decide) (by decide) (by decide) rfl (by decide) ?_
        refine WE.aload_n (n := 330) dX6_isOrder_329 rfl rfl ?_
        refine WE.dup (n := 331) dX6_isOrder_330 rfl rfl ?_
        refine WE.getI (n := 334) dX6_isOrder_331 rfl fl_X6_181 ⟨by decide, by decide, rfl⟩ (by first | decide | exact kd_bal (by assumption) | exact kd_let (by assumption) | assumption) ?_
        refine WE.iconst (n := 335) (nI 1) dX6_isOrder_334 rfl (by decide) ?_
        refine WE.iadd (n := 336) dX6_isOrder_335 rfl ?_
        refine WE.putI (n := 339) dX6_isOrder_336 rfl fl_X6_181 ⟨by decide, by decide, rfl, rfl⟩ ⟨by first | rfl | decide, by first | rfl | decide⟩ (by first | decide | exact kd_bal (by assumption) | exact kd_let (by assumption) | assumption) ?_
        refine WE.aload_n (n := 340) dX6_isOrder_339 rfl rfl ?_
        refine WE.iconst (n := 341) (nI 0) dX6_isOrder_340 rfl (by decide) ?_
        refine WE.iconst (n := 342) (nI 2) dX6_isOrder_341 rfl (by decide) ?_
        refine WE.V2PI (M' := mX6_digits) (n := 345) dX6_isOrder_342 rfl cv_X6_188 (by first | decide | exact kd_bal (by assumption) | exact kd_let (by assumption) | assumption) ⟨⟨by decide, by decide⟩, by decide, by decide⟩ (Nat.le_of_ble_eq_true rfl) (m_numP od 0 (by decide) hn (At.inc (At.ord h (c 401 p)) hp)) (fun r342 σ342 q342 => ?_)
        obtain ⟨c342, rfl, rfl, A342, B342⟩ := q342
        refine WE.iret (ty := .boolean) dX6_isOrder_345 rfl (by first | rfl | exact b2i_nar _ | decide) ⟨by decide, by decide⟩ ?_
        exact PO.one (k := nI 104) (e := by simp only [pOrd, hp, hx, show ¬ nI 104 = nI 102 by decide, show ¬ nI 104 = nI 98 by decide, show ¬ nI 104 = nI 100 by decide, show ¬ nI 104 = nI 108 by decide, show ¬ nI 104 = nI 117 by decide, ↓reduceIte]) (by first | exact Or.inl rfl | exact Or.inr rfl) ⟨A342, B342⟩ (by rw [u2_ne _ _ (by decide), u2_eq, h.T, hx])
      · have hx : c0 401 p = nI 105 := hx0.symm.trans hk
        refine WE.tsw (tgt := 407) dX6_isOrder_35 105 (by show (c 401 p).toInt = _; rw [hk]; decide) (by decide) (by decide) rfl (by decide) ?_
        refine WE.iconst (n := 408) (nI 0) dX6_isOrder_407 rfl (by decide) ?_
        refine WE.iret (ty := .boolean) dX6_isOrder_408 rfl (by first | rfl | exact b2i_nar _ | decide) ⟨by decide, by decide⟩ ?_
        exact PO.no (e := by simp only [pOrd, hp, hx, show ¬ nI 105 = nI 102 by decide, show ¬ nI 105 = nI 98 by decide, show ¬ nI 105 = nI 100 by decide, show ¬ nI 105 = nI 108 by decide, show ¬ nI 105 = nI 117 by decide, show ¬ nI 105 = nI 104 by decide, show ¬ nI 105 = nI 119 by decide, ↓reduceIte]) (At.ord h _)
      · have hx : c0 401 p = nI 106 := hx0.symm.trans hk
        refine WE.tsw (tgt := 407) dX6_isOrder_35 106 (by show (c 401 p).toInt = _; rw [hk]; decide) (by decide) (by decide) rfl (by decide) ?_
        refine WE.iconst (n := 408) (nI 0) dX6_isOrder_407 rfl (by decide) ?_
        refine WE.iret (ty := .boolean) dX6_isOrder_408 rfl (by first | rfl | exact b2i_nar _ | decide) ⟨by decide, by decide⟩ ?_
        exact PO.no (e := by simp only [pOrd, hp, hx, show ¬ nI 106 = nI 102 by decide, show ¬ nI 106 = nI 98 by decide, show ¬ nI 106 = nI 100 by decide, show ¬ nI 106 = nI 108 by decide, show ¬ nI 106 = nI 117 by decide, show ¬ nI 106 = nI 104 by decide, show ¬ nI 106 = nI 119 by decide, ↓reduceIte]) (At.ord h _)
      · have hx : c0 401 p = nI 107 := hx0.symm.trans hk
        refine WE.tsw (tgt := 407) dX6_isOrder_35 107 (by show (c 401 p).toInt = _; rw [hk]; decide) (by decide) (by decide) rfl (by decide) ?_
        refine WE.iconst (n := 408) (nI 0) dX6_isOrder_407 rfl (by decide) ?_
        refine WE.iret (ty := .boolean) dX6_isOrder_408 rfl (by first | rfl | exact b2i_nar _ | decide) ⟨by decide, by decide⟩ ?_
        exact PO.no (e := by simp only [pOrd, hp, hx, show ¬ nI 107 = nI 102 by decide, show ¬ nI 107 = nI 98 by decide, show ¬ nI 107 = nI 100 by decide, show ¬ nI 107 = nI 108 by decide, show ¬ nI 107 = nI 117 by decide, show ¬ nI 107 = nI 104 by decide, show ¬ nI 107 = nI 119 by decide, ↓reduceIte]) (At.ord h _)
      · have hx : c0 401 p = nI 108 := hx0.symm.trans hk
        refine WE.tsw (tgt := 268) dX6_isOrder_35 108 (by show (c 401 p).toInt = _; rw [hk]; decide) (by decide) (by decide) rfl (by decide) ?_
        refine WE.aload_n (n := 269) dX6_isOrder_268 rfl rfl ?_
        refine WE.dup (n := 270) dX6_isOrder_269 rfl rfl ?_
        refine WE.getI (n := 273) dX6_isOrder_270 rfl fl_X6_181 ⟨by decide, by decide, rfl⟩ (by first | decide | exact kd_bal (by assumption) | exact kd_let (by assumption) | assumption) ?_
        refine WE.iconst (n := 274) (nI 1) dX6_isOrder_273 rfl (by decide) ?_
        refine WE.iadd (n := 275) dX6_isOrder_274 rfl ?_
        refine WE.putI (n := 278) dX6_isOrder_275 rfl fl_X6_181 ⟨by decide, by decide, rfl, rfl⟩ ⟨by first | rfl | decide, by first | rfl | decide⟩ (by first | decide | exact kd_bal (by assumption) | exact kd_let (by assumption) | assumption) ?_
        refine WE.aload_n (n := 279) dX6_isOrder_278 rfl rfl ?_
        refine WE.iconst (n := 280) (nI 0) dX6_isOrder_279 rfl (by decide) ?_
        refine WE.iconst (n := 281) (nI 2) dX6_isOrder_280 rfl (by decide) ?_
        refine WE.V2PI (M' := mX6_digits) (n := 284) dX6_isOrder_281 rfl cv_X6_188 (by first | decide | exact kd_bal (by assumption) | exact kd_let (by assumption) | assumption) ⟨⟨by decide, by decide⟩, by decide, by decide⟩ (Nat.le_of_ble_eq_true rfl) (m_numP od 0 (by decide) hn (At.inc (At.ord h (c 401 p)) hp)) (fun r281 σ281 q281 => ?_)
        obtain ⟨c281, rfl, rfl, A281, B281⟩ := q281
        refine WE.if_eqB (n := 287) (tgt := 310) dX6_isOrder_284 rfl (by decide) (fun h284 => ?_) (fun h284 => ?_)
        · skip
          refine WE.iconst (n := 311) (nI 0) dX6_isOrder_310 rfl (by decide) ?_
          refine WE.iret (ty := .boolean) dX6_isOrder_311 rfl (by first | rfl | exact b2i_nar _ | decide) ⟨by decide, by decide⟩ ?_
          first
            | exact PO.no (e := by simp only [pOrd, hp, hx, show ¬ nI 108 = nI 102 by decide, show ¬ nI 108 = nI 98 by decide, show ¬ nI 108 = nI 100 by decide, ↓reduceIte, oPair, pPair, h284, Option.map_some, Option.map_none, and_self, Bool.false_eq_true]) A281
            | exact PO.yes (o := (nI 108, (pNum (c0 401) n (p + 1)).2.getD (nI 0), (pDig (c0 401) n ((pNum (c0 401) n (p + 1)).1 + 1)).2.getD (nI 0), nI 0)) (e := by simp only [pOrd, hp, hx, show ¬ nI 108 = nI 102 by decide, show ¬ nI 108 = nI 98 by decide, show ¬ nI 108 = nI 100 by decide, ↓reduceIte, oPair, pPair, h284, Option.map_some, Option.map_none, and_self, Bool.false_eq_true]) A300 ⟨by rw [B300.2.2, B291.2, B281.2.2, u2_ne _ _ (by decide), u2_eq, h.T, hx], by rw [B300.2.1 0 (by decide), B291.1, B281.1], fun _ => B300.1, fun q => absurd q (show ¬ nI 108 = nI 119 by decide)⟩
        · skip
          refine WE.aload_n (n := 288) dX6_isOrder_287 rfl rfl ?_
          refine WE.bipush (n := 290) (nI 64) dX6_isOrder_288 rfl (by decide) ?_
          refine WE.iconst (n := 291) (nI 1) dX6_isOrder_290 rfl (by decide) ?_
          refine WE.V2PI (M' := mX6_sign_) (n := 294) dX6_isOrder_291 rfl cv_X6_184 (by first | decide | exact kd_bal (by assumption) | exact kd_let (by assumption) | assumption) ⟨⟨by decide, by decide⟩, by decide, by decide⟩ (Nat.le_of_ble_eq_true rfl) (m_chrP od (nI 64) hn A281) (fun r291 σ291 q291 => ?_)
          obtain ⟨c291, rfl, rfl, A291, B291⟩ := q291
          refine WE.if_eqB (n := 297) (tgt := 310) dX6_isOrder_294 rfl (by decide) (fun h294 => ?_) (fun h294 => ?_)
          · skip
            refine WE.iconst (n := 311) (nI 0) dX6_isOrder_310 rfl (by decide) ?_
            refine WE.iret (ty := .boolean) dX6_isOrder_311 rfl (by first | rfl | exact b2i_nar _ | decide) ⟨by decide, by decide⟩ ?_
            first
              | exact PO.no (e := by simp only [pOrd, hp, hx, show ¬ nI 108 = nI 102 by decide, show ¬ nI 108 = nI 98 by decide, show ¬ nI 108 = nI 100 by decide, ↓reduceIte, oPair, pPair, h284, h294, Option.map_some, Option.map_none, and_self, Bool.false_eq_true]) (chr_f A291 h294)
              | exact PO.yes (o := (nI 108, (pNum (c0 401) n (p + 1)).2.getD (nI 0), (pDig (c0 401) n ((pNum (c0 401) n (p + 1)).1 + 1)).2.getD (nI 0), nI 0)) (e := by simp only [pOrd, hp, hx, show ¬ nI 108 = nI 102 by decide, show ¬ nI 108 = nI 98 by decide, show ¬ nI 108 = nI 100 by decide, ↓reduceIte, oPair, pPair, h284, h294, Option.map_some, Option.map_none, and_self, Bool.false_eq_true]) A300 ⟨by rw [B300.2.2, B291.2, B281.2.2, u2_ne _ _ (by decide), u2_eq, h.T, hx], by rw [B300.2.1 0 (by decide), B291.1, B281.1], fun _ => B300.1, fun q => absurd q (show ¬ nI 108 = nI 119 by decide)⟩
          · skip
            refine WE.aload_n (n := 298) dX6_isOrder_297 rfl rfl ?_
            refine WE.iconst (n := 299) (nI 1) dX6_isOrder_298 rfl (by decide) ?_
            refine WE.iconst (n := 300) (nI 1) dX6_isOrder_299 rfl (by decide) ?_
            refine WE.V2PI (M' := mX6_digits) (n := 303) dX6_isOrder_300 rfl cv_X6_188 (by first | decide | exact kd_bal (by assumption) | exact kd_let (by assumption) | assumption) ⟨⟨by decide, by decide⟩, by decide, by decide⟩ (Nat.le_of_ble_eq_true rfl) (m_digP od 1 (by decide) hn (chr_t A291 h294)) (fun r300 σ300 q300 => ?_)
            obtain ⟨c300, rfl, rfl, A300, B300⟩ := q300
            refine WE.if_eqB (n := 306) (tgt := 310) dX6_isOrder_303 rfl (by decide) (fun h303 => ?_) (fun h303 => ?_)
            · skip
              refine WE.iconst (n := 311) (nI 0) dX6_isOrder_310 rfl (by decide) ?_
              refine WE.iret (ty := .boolean) dX6_isOrder_311 rfl (by first | rfl | exact b2i_nar _ | decide) ⟨by decide, by decide⟩ ?_
              first
                | exact PO.no (e := by simp only [pOrd, hp, hx, show ¬ nI 108 = nI 102 by decide, show ¬ nI 108 = nI 98 by decide, show ¬ nI 108 = nI 100 by decide, ↓reduceIte, oPair, pPair, h284, h294, h303, Option.map_some, Option.map_none, and_self, Bool.false_eq_true]) A300
                | exact PO.yes (o := (nI 108, (pNum (c0 401) n (p + 1)).2.getD (nI 0), (pDig (c0 401) n ((pNum (c0 401) n (p + 1)).1 + 1)).2.getD (nI 0), nI 0)) (e := by simp only [pOrd, hp, hx, show ¬ nI 108 = nI 102 by decide, show ¬ nI 108 = nI 98 by decide, show ¬ nI 108 = nI 100 by decide, ↓reduceIte, oPair, pPair, h284, h294, h303, Option.map_some, Option.map_none, and_self, Bool.false_eq_true]) A300 ⟨by rw [B300.2.2, B291.2, B281.2.2, u2_ne _ _ (by decide), u2_eq, h.T, hx], by rw [B300.2.1 0 (by decide), B291.1, B281.1], fun _ => B300.1, fun q => absurd q (show ¬ nI 108 = nI 119 by decide)⟩
            · skip
              refine WE.iconst (n := 307) (nI 1) dX6_isOrder_306 rfl (by decide) ?_
              refine WE.goto (tgt := 311) dX6_isOrder_307 (by decide) ?_
              refine WE.iret (ty := .boolean) dX6_isOrder_311 rfl (by first | rfl | exact b2i_nar _ | decide) ⟨by decide, by decide⟩ ?_
              first
                | exact PO.no (e := by simp only [pOrd, hp, hx, show ¬ nI 108 = nI 102 by decide, show ¬ nI 108 = nI 98 by decide, show ¬ nI 108 = nI 100 by decide, ↓reduceIte, oPair, pPair, h284, h294, h303, Option.map_some, Option.map_none, and_self, Bool.false_eq_true]) A300
                | exact PO.yes (o := (nI 108, (pNum (c0 401) n (p + 1)).2.getD (nI 0), (pDig (c0 401) n ((pNum (c0 401) n (p + 1)).1 + 1)).2.getD (nI 0), nI 0)) (e := by simp only [pOrd, hp, hx, show ¬ nI 108 = nI 102 by decide, show ¬ nI 108 = nI 98 by decide, show ¬ nI 108 = nI 100 by decide, ↓reduceIte, oPair, pPair, h284, h294, h303, Option.map_some, Option.map_none, and_self, Bool.false_eq_true]) A300 ⟨by rw [B300.2.2, B291.2, B281.2.2, u2_ne _ _ (by decide), u2_eq, h.T, hx], by rw [B300.2.1 0 (by decide), B291.1, B281.1], fun _ => B300.1, fun q => absurd q (show ¬ nI 108 = nI 119 by decide)⟩
      · have hx : c0 401 p = nI 109 := hx0.symm.trans hk
        refine WE.tsw (tgt := 407) dX6_isOrder_35 109 (by show (c 401 p).toInt = _; rw [hk]; decide) (by decide) (by decide) rfl (by decide) ?_
        refine WE.iconst (n := 408) (nI 0) dX6_isOrder_407 rfl (by decide) ?_
        refine WE.iret (ty := .boolean) dX6_isOrder_408 rfl (by first | rfl | exact b2i_nar _ | decide) ⟨by decide, by decide⟩ ?_
        exact PO.no (e := by simp only [pOrd, hp, hx, show ¬ nI 109 = nI 102 by decide, show ¬ nI 109 = nI 98 by decide, show ¬ nI 109 = nI 100 by decide, show ¬ nI 109 = nI 108 by decide, show ¬ nI 109 = nI 117 by decide, show ¬ nI 109 = nI 104 by decide, show ¬ nI 109 = nI 119 by decide, ↓reduceIte]) (At.ord h _)
      · have hx : c0 401 p = nI 110 := hx0.symm.trans hk
        refine WE.tsw (tgt := 407) dX6_isOrder_35 110 (by show (c 401 p).toInt = _; rw [hk]; decide) (by decide) (by decide) rfl (by decide) ?_
        refine WE.iconst (n := 408) (nI 0) dX6_isOrder_407 rfl (by decide) ?_
        refine WE.iret (ty := .boolean) dX6_isOrder_408 rfl (by first | rfl | exact b2i_nar _ | decide) ⟨by decide, by decide⟩ ?_
        exact PO.no (e := by simp only [pOrd, hp, hx, show ¬ nI 110 = nI 102 by decide, show ¬ nI 110 = nI 98 by decide, show ¬ nI 110 = nI 100 by decide, show ¬ nI 110 = nI 108 by decide, show ¬ nI 110 = nI 117 by decide, show ¬ nI 110 = nI 104 by decide, show ¬ nI 110 = nI 119 by decide, ↓reduceIte]) (At.ord h _)
      · have hx : c0 401 p = nI 111 := hx0.symm.trans hk
        refine WE.tsw (tgt := 407) dX6_isOrder_35 111 (by show (c 401 p).toInt = _; rw [hk]; decide) (by decide) (by decide) rfl (by decide) ?_
        refine WE.iconst (n := 408) (nI 0) dX6_isOrder_407 rfl (by decide) ?_
        refine WE.iret (ty := .boolean) dX6_isOrder_408 rfl (by first | rfl | exact b2i_nar _ | decide) ⟨by decide, by decide⟩ ?_
        exact PO.no (e := by simp only [pOrd, hp, hx, show ¬ nI 111 = nI 102 by decide, show ¬ nI 111 = nI 98 by decide, show ¬ nI 111 = nI 100 by decide, show ¬ nI 111 = nI 108 by decide, show ¬ nI 111 = nI 117 by decide, show ¬ nI 111 = nI 104 by decide, show ¬ nI 111 = nI 119 by decide, ↓reduceIte]) (At.ord h _)
      · have hx : c0 401 p = nI 112 := hx0.symm.trans hk
        refine WE.tsw (tgt := 407) dX6_isOrder_35 112 (by show (c 401 p).toInt = _; rw [hk]; decide) (by decide) (by decide) rfl (by decide) ?_
        refine WE.iconst (n := 408) (nI 0) dX6_isOrder_407 rfl (by decide) ?_
        refine WE.iret (ty := .boolean) dX6_isOrder_408 rfl (by first | rfl | exact b2i_nar _ | decide) ⟨by decide, by decide⟩ ?_
        exact PO.no (e := by simp only [pOrd, hp, hx, show ¬ nI 112 = nI 102 by decide, show ¬ nI 112 = nI 98 by decide, show ¬ nI 112 = nI 100 by decide, show ¬ nI 112 = nI 108 by decide, show ¬ nI 112 = nI 117 by decide, show ¬ nI 112 = nI 104 by decide, show ¬ nI 112 = nI 119 by decide, ↓reduceIte]) (At.ord h _)
      · have hx : c0 401 p = nI 113 := hx0.symm.trans hk
        refine WE.tsw (tgt := 407) dX6_isOrder_35 113 (by show (c 401 p).toInt = _; rw [hk]; decide) (by decide) (by decide) rfl (by decide) ?_
        refine WE.iconst (n := 408) (nI 0) dX6_isOrder_407 rfl (by decide) ?_
        refine WE.iret (ty := .boolean) dX6_isOrder_408 rfl (by first | rfl | exact b2i_nar _ | decide) ⟨by decide, by decide⟩ ?_
        exact PO.no (e := by simp only [pOrd, hp, hx, show ¬ nI 113 = nI 102 by decide, show ¬ nI 113 = nI 98 by decide, show ¬ nI 113 = nI 100 by decide, show ¬ nI 113 = nI 108 by decide, show ¬ nI 113 = nI 117 by decide, show ¬ nI 113 = nI 104 by decide, show ¬ nI 113 = nI 119 by decide, ↓reduceIte]) (At.ord h _)
      · have hx : c0 401 p = nI 114 := hx0.symm.trans hk
        refine WE.tsw (tgt := 407) dX6_isOrder_35 114 (by show (c 401 p).toInt = _; rw [hk]; decide) (by decide) (by decide) rfl (by decide) ?_
        refine WE.iconst (n := 408) (nI 0) dX6_isOrder_407 rfl (by decide) ?_
        refine WE.iret (ty := .boolean) dX6_isOrder_408 rfl (by first | rfl | exact b2i_nar _ | decide) ⟨by decide, by decide⟩ ?_
        exact PO.no (e := by simp only [pOrd, hp, hx, show ¬ nI 114 = nI 102 by decide, show ¬ nI 114 = nI 98 by decide, show ¬ nI 114 = nI 100 by decide, show ¬ nI 114 = nI 108 by decide, show ¬ nI 114 = nI 117 by decide, show ¬ nI 114 = nI 104 by decide, show ¬ nI 114 = nI 119 by decide, ↓reduceIte]) (At.ord h _)
      · have hx : c0 401 p = nI 115 := hx0.symm.trans hk
        refine WE.tsw (tgt := 407) dX6_isOrder_35 115 (by show (c 401 p).toInt = _; rw [hk]; decide) (by decide) (by decide) rfl (by decide) ?_
        refine WE.iconst (n := 408) (nI 0) dX6_isOrder_407 rfl (by decide) ?_
        refine WE.iret (ty := .boolean) dX6_isOrder_408 rfl (by first | rfl | exact b2i_nar _ | decide) ⟨by decide, by decide⟩ ?_
        exact PO.no (e := by simp only [pOrd, hp, hx, show ¬ nI 115 = nI 102 by decide, show ¬ nI 115 = nI 98 by decide, show ¬ nI 115 = nI 100 by decide, show ¬ nI 115 = nI 108 by decide, show ¬ nI 115 = nI 117 by decide, show ¬ nI 115 = nI 104 by decide, show ¬ nI 115 = nI 119 by decide, ↓reduceIte]) (At.ord h _)
      · have hx : c0 401 p = nI 116 := hx0.symm.trans hk
        refine WE.tsw (tgt := 407) dX6_isOrder_35 116 (by show (c 401 p).toInt = _; rw [hk]; decide) (by decide) (by decide) rfl (by decide) ?_
        refine WE.iconst (n := 408) (nI 0) dX6_isOrder_407 rfl (by decide) ?_
        refine WE.iret (ty := .boolean) dX6_isOrder_408 rfl (by first | rfl | exact b2i_nar _ | decide) ⟨by decide, by decide⟩ ?_
        exact PO.no (e := by simp only [pOrd, hp, hx, show ¬ nI 116 = nI 102 by decide, show ¬ nI 116 = nI 98 by decide, show ¬ nI 116 = nI 100 by decide, show ¬ nI 116 = nI 108 by decide, show ¬ nI 116 = nI 117 by decide, show ¬ nI 116 = nI 104 by decide, show ¬ nI 116 = nI 119 by decide, ↓reduceIte]) (At.ord h _)
      · have hx : c0 401 p = nI 117 := hx0.symm.trans hk
        refine WE.tsw (tgt := 312) dX6_isOrder_35 117 (by show (c 401 p).toInt = _; rw [hk]; decide) (by decide) (by decide) rfl (by decide) ?_
        refine WE.aload_n (n := 313) dX6_isOrder_312 rfl rfl ?_
        refine WE.dup (n := 314) dX6_isOrder_313 rfl rfl ?_
        refine WE.getI (n := 317) dX6_isOrder_314 rfl fl_X6_181 ⟨by decide, by decide, rfl⟩ (by first | decide | exact kd_bal (by assumption) | exact kd_let (by assumption) | assumption) ?_
        refine WE.iconst (n := 318) (nI 1) dX6_isOrder_317 rfl (by decide) ?_
        refine WE.iadd (n := 319) dX6_isOrder_318 rfl ?_
        refine WE.putI (n := 322) dX6_isOrder_319 rfl fl_X6_181 ⟨by decide, by decide, rfl, rfl⟩ ⟨by first | rfl | decide, by first | rfl | decide⟩ (by first | decide | exact kd_bal (by assumption) | exact kd_let (by assumption) | assumption) ?_
        refine WE.aload_n (n := 323) dX6_isOrder_322 rfl rfl ?_
        refine WE.iconst (n := 324) (nI 0) dX6_isOrder_323 rfl (by decide) ?_
        refine WE.iconst (n := 325) (nI 1) dX6_isOrder_324 rfl (by decide) ?_
        refine WE.V2PI (M' := mX6_digits) (n := 328) dX6_isOrder_325 rfl cv_X6_188 (by first | decide | exact kd_bal (by assumption) | exact kd_let (by assumption) | assumption) ⟨⟨by decide, by decide⟩, by decide, by decide⟩ (Nat.le_of_ble_eq_true rfl) (m_digP od 0 (by decide) hn (At.inc (At.ord h (c 401 p)) hp)) (fun r325 σ325 q325 => ?_)
        obtain ⟨c325, rfl, rfl, A325, B325⟩ := q325
        refine WE.iret (ty := .boolean) dX6_isOrder_328 rfl (by first | rfl | exact b2i_nar _ | decide) ⟨by decide, by decide⟩ ?_
        exact PO.one (k := nI 117) (e := by simp only [pOrd, hp, hx, show ¬ nI 117 = nI 102 by decide, show ¬ nI 117 = nI 98 by decide, show ¬ nI 117 = nI 100 by decide, show ¬ nI 117 = nI 108 by decide, ↓reduceIte]) (by first | exact Or.inl rfl | exact Or.inr rfl) ⟨A325, B325⟩ (by rw [u2_ne _ _ (by decide), u2_eq, h.T, hx])
      · have hx : c0 401 p = nI 118 := hx0.symm.trans hk
        refine WE.tsw (tgt := 407) dX6_isOrder_35 118 (by show (c 401 p).toInt = _; rw [hk]; decide) (by decide) (by decide) rfl (by decide) ?_
        refine WE.iconst (n := 408) (nI 0) dX6_isOrder_407 rfl (by decide) ?_
        refine WE.iret (ty := .boolean) dX6_isOrder_408 rfl (by first | rfl | exact b2i_nar _ | decide) ⟨by decide, by decide⟩ ?_
        exact PO.no (e := by simp only [pOrd, hp, hx, show ¬ nI 118 = nI 102 by decide, show ¬ nI 118 = nI 98 by decide, show ¬ nI 118 = nI 100 by decide, show ¬ nI 118 = nI 108 by decide, show ¬ nI 118 = nI 117 by decide, show ¬ nI 118 = nI 104 by decide, show ¬ nI 118 = nI 119 by decide, ↓reduceIte]) (At.ord h _)
      · have hx : c0 401 p = nI 119 := hx0.symm.trans hk
        refine WE.tsw (tgt := 346) dX6_isOrder_35 119 (by show (c 401 p).toInt = _; rw [hk]; decide) (by decide) (by decide) rfl (by decide) ?_
        refine WE.aload_n (n := 347) dX6_isOrder_346 rfl rfl ?_
        refine WE.dup (n := 348) dX6_isOrder_347 rfl rfl ?_
        refine WE.getI (n := 351) dX6_isOrder_348 rfl fl_X6_181 ⟨by decide, by decide, rfl⟩ (by first | decide | exact kd_bal (by assumption) | exact kd_let (by assumption) | assumption) ?_
        refine WE.iconst (n := 352) (nI 1) dX6_isOrder_351 rfl (by decide) ?_
        refine WE.iadd (n := 353) dX6_isOrder_352 rfl ?_
        refine WE.putI (n := 356) dX6_isOrder_353 rfl fl_X6_181 ⟨by decide, by decide, rfl, rfl⟩ ⟨by first | rfl | decide, by first | rfl | decide⟩ (by first | decide | exact kd_bal (by assumption) | exact kd_let (by assumption) | assumption) ?_
        refine WE.aload_n (n := 357) dX6_isOrder_356 rfl rfl ?_
        refine WE.iconst (n := 358) (nI 0) dX6_isOrder_357 rfl (by decide) ?_
        refine WE.iconst (n := 359) (nI 1) dX6_isOrder_358 rfl (by decide) ?_
        refine WE.V2PI (M' := mX6_digits) (n := 362) dX6_isOrder_359 rfl cv_X6_188 (by first | decide | exact kd_bal (by assumption) | exact kd_let (by assumption) | assumption) ⟨⟨by decide, by decide⟩, by decide, by decide⟩ (Nat.le_of_ble_eq_true rfl) (m_digP od 0 (by decide) hn (At.inc (At.ord h (c 401 p)) hp)) (fun r359 σ359 q359 => ?_)
        obtain ⟨c359, rfl, rfl, A359, B359⟩ := q359
        refine WE.if_eqB (n := 365) (tgt := 405) dX6_isOrder_362 rfl (by decide) (fun h362 => ?_) (fun h362 => ?_)
        · skip
          refine WE.iconst (n := 406) (nI 0) dX6_isOrder_405 rfl (by decide) ?_
          refine WE.iret (ty := .boolean) dX6_isOrder_406 rfl (by first | rfl | exact b2i_nar _ | decide) ⟨by decide, by decide⟩ ?_
          first
            | exact PO.no (e := by simp only [pOrd, hp, hx, show ¬ nI 119 = nI 102 by decide, show ¬ nI 119 = nI 98 by decide, show ¬ nI 119 = nI 100 by decide, show ¬ nI 119 = nI 108 by decide, show ¬ nI 119 = nI 117 by decide, show ¬ nI 119 = nI 104 by decide, ↓reduceIte, pWind, pPair, h362, Option.isSome_some, Option.isSome_none, Option.getD_some, Bool.false_eq_true, and_self]) A359
            | exact PO.yes (o := (nI 119, (pDig (c0 401) n (p + 1)).2.getD (nI 0), (pSgn (c0 401) n ((pDig (c0 401) n (p + 1)).1 + 1)).2.getD (nI 0), (pSgn (c0 401) n ((pSgn (c0 401) n ((pDig (c0 401) n (p + 1)).1 + 1)).1 + 1)).2.getD (nI 0))) (e := by simp only [pOrd, hp, hx, show ¬ nI 119 = nI 102 by decide, show ¬ nI 119 = nI 98 by decide, show ¬ nI 119 = nI 100 by decide, show ¬ nI 119 = nI 108 by decide, show ¬ nI 119 = nI 117 by decide, show ¬ nI 119 = nI 104 by decide, ↓reduceIte, pWind, pPair, h362, Option.isSome_some, Option.isSome_none, Option.getD_some, Bool.false_eq_true, and_self]) A395 ⟨by rw [B395.2.2, B387.2, B377.2.2, B369.2, B359.2.2, u2_ne _ _ (by decide), u2_eq, h.T, hx], by rw [B395.2.1 0 (by decide), B387.1, B377.2.1 0 (by decide), B369.1, B359.1], fun _ => by rw [B395.2.1 1 (by decide), B387.1, B377.1], fun _ => B395.1⟩
        · skip
          refine WE.aload_n (n := 366) dX6_isOrder_365 rfl rfl ?_
          refine WE.bipush (n := 368) (nI 58) dX6_isOrder_366 rfl (by decide) ?_
          refine WE.iconst (n := 369) (nI 1) dX6_isOrder_368 rfl (by decide) ?_
          refine WE.V2PI (M' := mX6_sign_) (n := 372) dX6_isOrder_369 rfl cv_X6_184 (by first | decide | exact kd_bal (by assumption) | exact kd_let (by assumption) | assumption) ⟨⟨by decide, by decide⟩, by decide, by decide⟩ (Nat.le_of_ble_eq_true rfl) (m_chrP od (nI 58) hn A359) (fun r369 σ369 q369 => ?_)
          obtain ⟨c369, rfl, rfl, A369, B369⟩ := q369
          refine WE.if_eqB (n := 375) (tgt := 405) dX6_isOrder_372 rfl (by decide) (fun h372 => ?_) (fun h372 => ?_)
          · skip
            refine WE.iconst (n := 406) (nI 0) dX6_isOrder_405 rfl (by decide) ?_
            refine WE.iret (ty := .boolean) dX6_isOrder_406 rfl (by first | rfl | exact b2i_nar _ | decide) ⟨by decide, by decide⟩ ?_
            first
              | exact PO.no (e := by simp only [pOrd, hp, hx, show ¬ nI 119 = nI 102 by decide, show ¬ nI 119 = nI 98 by decide, show ¬ nI 119 = nI 100 by decide, show ¬ nI 119 = nI 108 by decide, show ¬ nI 119 = nI 117 by decide, show ¬ nI 119 = nI 104 by decide, ↓reduceIte, pWind, pPair, h362, h372, Option.isSome_some, Option.isSome_none, Option.getD_some, Bool.false_eq_true, and_self]) (chr_f A369 h372)
              | exact PO.yes (o := (nI 119, (pDig (c0 401) n (p + 1)).2.getD (nI 0), (pSgn (c0 401) n ((pDig (c0 401) n (p + 1)).1 + 1)).2.getD (nI 0), (pSgn (c0 401) n ((pSgn (c0 401) n ((pDig (c0 401) n (p + 1)).1 + 1)).1 + 1)).2.getD (nI 0))) (e := by simp only [pOrd, hp, hx, show ¬ nI 119 = nI 102 by decide, show ¬ nI 119 = nI 98 by decide, show ¬ nI 119 = nI 100 by decide, show ¬ nI 119 = nI 108 by decide, show ¬ nI 119 = nI 117 by decide, show ¬ nI 119 = nI 104 by decide, ↓reduceIte, pWind, pPair, h362, h372, Option.isSome_some, Option.isSome_none, Option.getD_some, Bool.false_eq_true, and_self]) A395 ⟨by rw [B395.2.2, B387.2, B377.2.2, B369.2, B359.2.2, u2_ne _ _ (by decide), u2_eq, h.T, hx], by rw [B395.2.1 0 (by decide), B387.1, B377.2.1 0 (by decide), B369.1, B359.1], fun _ => by rw [B395.2.1 1 (by decide), B387.1, B377.1], fun _ => B395.1⟩
          · skip
            refine WE.aload_n (n := 376) dX6_isOrder_375 rfl rfl ?_
            refine WE.iconst (n := 377) (nI 1) dX6_isOrder_376 rfl (by decide) ?_
            refine WE.V1PI (M' := mX6_wind_) (n := 380) dX6_isOrder_377 rfl cv_X6_195 (by first | decide | exact kd_bal (by assumption) | exact kd_let (by assumption) | assumption) ⟨⟨by decide, by decide⟩, by decide, by decide⟩ (Nat.le_of_ble_eq_true rfl) (m_windP od 1 (by decide) hn (chr_t A369 h372)) (fun r377 σ377 q377 => ?_)
            obtain ⟨c377, rfl, rfl, A377, B377⟩ := q377
            refine WE.if_eqB (n := 383) (tgt := 405) dX6_isOrder_380 rfl (by decide) (fun h380 => ?_) (fun h380 => ?_)
            · skip
              refine WE.iconst (n := 406) (nI 0) dX6_isOrder_405 rfl (by decide) ?_
              refine WE.iret (ty := .boolean) dX6_isOrder_406 rfl (by first | rfl | exact b2i_nar _ | decide) ⟨by decide, by decide⟩ ?_
              first
                | exact PO.no (e := by simp only [pOrd, hp, hx, show ¬ nI 119 = nI 102 by decide, show ¬ nI 119 = nI 98 by decide, show ¬ nI 119 = nI 100 by decide, show ¬ nI 119 = nI 108 by decide, show ¬ nI 119 = nI 117 by decide, show ¬ nI 119 = nI 104 by decide, ↓reduceIte, pWind, pPair, h362, h372, h380, Option.isSome_some, Option.isSome_none, Option.getD_some, Bool.false_eq_true, and_self]) A377
                | exact PO.yes (o := (nI 119, (pDig (c0 401) n (p + 1)).2.getD (nI 0), (pSgn (c0 401) n ((pDig (c0 401) n (p + 1)).1 + 1)).2.getD (nI 0), (pSgn (c0 401) n ((pSgn (c0 401) n ((pDig (c0 401) n (p + 1)).1 + 1)).1 + 1)).2.getD (nI 0))) (e := by simp only [pOrd, hp, hx, show ¬ nI 119 = nI 102 by decide, show ¬ nI 119 = nI 98 by decide, show ¬ nI 119 = nI 100 by decide, show ¬ nI 119 = nI 108 by decide, show ¬ nI 119 = nI 117 by decide, show ¬ nI 119 = nI 104 by decide, ↓reduceIte, pWind, pPair, h362, h372, h380, Option.isSome_some, Option.isSome_none, Option.getD_some, Bool.false_eq_true, and_self]) A395 ⟨by rw [B395.2.2, B387.2, B377.2.2, B369.2, B359.2.2, u2_ne _ _ (by decide), u2_eq, h.T, hx], by rw [B395.2.1 0 (by decide), B387.1, B377.2.1 0 (by decide), B369.1, B359.1], fun _ => by rw [B395.2.1 1 (by decide), B387.1, B377.1], fun _ => B395.1⟩
            · skip
              refine WE.aload_n (n := 384) dX6_isOrder_383 rfl rfl ?_
              refine WE.bipush (n := 386) (nI 44) dX6_isOrder_384 rfl (by decide) ?_
              refine WE.iconst (n := 387) (nI 1) dX6_isOrder_386 rfl (by decide) ?_
              refine WE.V2PI (M' := mX6_sign_) (n := 390) dX6_isOrder_387 rfl cv_X6_184 (by first | decide | exact kd_bal (by assumption) | exact kd_let (by assumption) | assumption) ⟨⟨by decide, by decide⟩, by decide, by decide⟩ (Nat.le_of_ble_eq_true rfl) (m_chrP od (nI 44) hn A377) (fun r387 σ387 q387 => ?_)
              obtain ⟨c387, rfl, rfl, A387, B387⟩ := q387
              refine WE.if_eqB (n := 393) (tgt := 405) dX6_isOrder_390 rfl (by decide) (fun h390 => ?_) (fun h390 => ?_)
              · skip
                refine WE.iconst (n := 406) (nI 0) dX6_isOrder_405 rfl (by decide) ?_
                refine WE.iret (ty := .boolean) dX6_isOrder_406 rfl (by first | rfl | exact b2i_nar _ | decide) ⟨by decide, by decide⟩ ?_
                first
                  | exact PO.no (e := by simp only [pOrd, hp, hx, show ¬ nI 119 = nI 102 by decide, show ¬ nI 119 = nI 98 by decide, show ¬ nI 119 = nI 100 by decide, show ¬ nI 119 = nI 108 by decide, show ¬ nI 119 = nI 117 by decide, show ¬ nI 119 = nI 104 by decide, ↓reduceIte, pWind, pPair, h362, h372, h380, h390, Option.isSome_some, Option.isSome_none, Option.getD_some, Bool.false_eq_true, and_self]) (chr_f A387 h390)
                  | exact PO.yes (o := (nI 119, (pDig (c0 401) n (p + 1)).2.getD (nI 0), (pSgn (c0 401) n ((pDig (c0 401) n (p + 1)).1 + 1)).2.getD (nI 0), (pSgn (c0 401) n ((pSgn (c0 401) n ((pDig (c0 401) n (p + 1)).1 + 1)).1 + 1)).2.getD (nI 0))) (e := by simp only [pOrd, hp, hx, show ¬ nI 119 = nI 102 by decide, show ¬ nI 119 = nI 98 by decide, show ¬ nI 119 = nI 100 by decide, show ¬ nI 119 = nI 108 by decide, show ¬ nI 119 = nI 117 by decide, show ¬ nI 119 = nI 104 by decide, ↓reduceIte, pWind, pPair, h362, h372, h380, h390, Option.isSome_some, Option.isSome_none, Option.getD_some, Bool.false_eq_true, and_self]) A395 ⟨by rw [B395.2.2, B387.2, B377.2.2, B369.2, B359.2.2, u2_ne _ _ (by decide), u2_eq, h.T, hx], by rw [B395.2.1 0 (by decide), B387.1, B377.2.1 0 (by decide), B369.1, B359.1], fun _ => by rw [B395.2.1 1 (by decide), B387.1, B377.1], fun _ => B395.1⟩
              · skip
                refine WE.aload_n (n := 394) dX6_isOrder_393 rfl rfl ?_
                refine WE.iconst (n := 395) (nI 2) dX6_isOrder_394 rfl (by decide) ?_
                refine WE.V1PI (M' := mX6_wind_) (n := 398) dX6_isOrder_395 rfl cv_X6_195 (by first | decide | exact kd_bal (by assumption) | exact kd_let (by assumption) | assumption) ⟨⟨by decide, by decide⟩, by decide, by decide⟩ (Nat.le_of_ble_eq_true rfl) (m_windP od 2 (by decide) hn (chr_t A387 h390)) (fun r395 σ395 q395 => ?_)
                obtain ⟨c395, rfl, rfl, A395, B395⟩ := q395
                refine WE.if_eqB (n := 401) (tgt := 405) dX6_isOrder_398 rfl (by decide) (fun h398 => ?_) (fun h398 => ?_)
                · skip
                  refine WE.iconst (n := 406) (nI 0) dX6_isOrder_405 rfl (by decide) ?_
                  refine WE.iret (ty := .boolean) dX6_isOrder_406 rfl (by first | rfl | exact b2i_nar _ | decide) ⟨by decide, by decide⟩ ?_
                  first
                    | exact PO.no (e := by simp only [pOrd, hp, hx, show ¬ nI 119 = nI 102 by decide, show ¬ nI 119 = nI 98 by decide, show ¬ nI 119 = nI 100 by decide, show ¬ nI 119 = nI 108 by decide, show ¬ nI 119 = nI 117 by decide, show ¬ nI 119 = nI 104 by decide, ↓reduceIte, pWind, pPair, h362, h372, h380, h390, h398, Option.isSome_some, Option.isSome_none, Option.getD_some, Bool.false_eq_true, and_self]) A395
                    | exact PO.yes (o := (nI 119, (pDig (c0 401) n (p + 1)).2.getD (nI 0), (pSgn (c0 401) n ((pDig (c0 401) n (p + 1)).1 + 1)).2.getD (nI 0), (pSgn (c0 401) n ((pSgn (c0 401) n ((pDig (c0 401) n (p + 1)).1 + 1)).1 + 1)).2.getD (nI 0))) (e := by simp only [pOrd, hp, hx, show ¬ nI 119 = nI 102 by decide, show ¬ nI 119 = nI 98 by decide, show ¬ nI 119 = nI 100 by decide, show ¬ nI 119 = nI 108 by decide, show ¬ nI 119 = nI 117 by decide, show ¬ nI 119 = nI 104 by decide, ↓reduceIte, pWind, pPair, h362, h372, h380, h390, h398, Option.isSome_some, Option.isSome_none, Option.getD_some, Bool.false_eq_true, and_self]) A395 ⟨by rw [B395.2.2, B387.2, B377.2.2, B369.2, B359.2.2, u2_ne _ _ (by decide), u2_eq, h.T, hx], by rw [B395.2.1 0 (by decide), B387.1, B377.2.1 0 (by decide), B369.1, B359.1], fun _ => by rw [B395.2.1 1 (by decide), B387.1, B377.1], fun _ => B395.1⟩
                · skip
                  refine WE.iconst (n := 402) (nI 1) dX6_isOrder_401 rfl (by decide) ?_
                  refine WE.goto (tgt := 406) dX6_isOrder_402 (by decide) ?_
                  refine WE.iret (ty := .boolean) dX6_isOrder_406 rfl (by first | rfl | exact b2i_nar _ | decide) ⟨by decide, by decide⟩ ?_
                  first
                    | exact PO.no (e := by simp only [pOrd, hp, hx, show ¬ nI 119 = nI 102 by decide, show ¬ nI 119 = nI 98 by decide, show ¬ nI 119 = nI 100 by decide, show ¬ nI 119 = nI 108 by decide, show ¬ nI 119 = nI 117 by decide, show ¬ nI 119 = nI 104 by decide, ↓reduceIte, pWind, pPair, h362, h372, h380, h390, h398, Option.isSome_some, Option.isSome_none, Option.getD_some, Bool.false_eq_true, and_self]) A395
                    | exact PO.yes (o := (nI 119, (pDig (c0 401) n (p + 1)).2.getD (nI 0), (pSgn (c0 401) n ((pDig (c0 401) n (p + 1)).1 + 1)).2.getD (nI 0), (pSgn (c0 401) n ((pSgn (c0 401) n ((pDig (c0 401) n (p + 1)).1 + 1)).1 + 1)).2.getD (nI 0))) (e := by simp only [pOrd, hp, hx, show ¬ nI 119 = nI 102 by decide, show ¬ nI 119 = nI 98 by decide, show ¬ nI 119 = nI 100 by decide, show ¬ nI 119 = nI 108 by decide, show ¬ nI 119 = nI 117 by decide, show ¬ nI 119 = nI 104 by decide, ↓reduceIte, pWind, pPair, h362, h372, h380, h390, h398, Option.isSome_some, Option.isSome_none, Option.getD_some, Bool.false_eq_true, and_self]) A395 ⟨by rw [B395.2.2, B387.2, B377.2.2, B369.2, B359.2.2, u2_ne _ _ (by decide), u2_eq, h.T, hx], by rw [B395.2.1 0 (by decide), B387.1, B377.2.1 0 (by decide), B369.1, B359.1], fun _ => by rw [B395.2.1 1 (by decide), B387.1, B377.1], fun _ => B395.1⟩
    · refine WE.tswO (tgt := 407) dX6_isOrder_35 (sw_out1 (by decide) (by decide) hr) (by decide) ?_
      have n102 : ¬ c0 401 p = nI 102 := fun q => hr (by rw [hx0, q]; decide)
      have n98 : ¬ c0 401 p = nI 98 := fun q => hr (by rw [hx0, q]; decide)
      have n100 : ¬ c0 401 p = nI 100 := fun q => hr (by rw [hx0, q]; decide)
      have n108 : ¬ c0 401 p = nI 108 := fun q => hr (by rw [hx0, q]; decide)
      have n117 : ¬ c0 401 p = nI 117 := fun q => hr (by rw [hx0, q]; decide)
      have n104 : ¬ c0 401 p = nI 104 := fun q => hr (by rw [hx0, q]; decide)
      have n119 : ¬ c0 401 p = nI 119 := fun q => hr (by rw [hx0, q]; decide)
      refine WE.iconst (n := 408) (nI 0) dX6_isOrder_407 rfl (by decide) ?_
      refine WE.iret (ty := .boolean) dX6_isOrder_408 rfl (by first | rfl | exact b2i_nar _ | decide) ⟨by decide, by decide⟩ ?_
      exact PO.no (e := by simp only [pOrd, hp, n102, n98, n100, n108, n117, n104, n119, ↓reduceIte]) (At.ord h _)
  · skip
    have hp : ¬ p < n := by
      have h8 : nI p = nI n := by rw [← h.2.1, ← h.1]; exact h8
      have := h.2.2.1
      have := (nI_eq (by omega) (by omega)).mp h8
      omega
    refine WE.iconst (n := 12) (nI 0) dX6_isOrder_11 rfl (by decide) ?_
    refine WE.iret (ty := .boolean) dX6_isOrder_12 rfl (by first | rfl | exact b2i_nar _ | decide) ⟨by decide, by decide⟩ ?_
    exact PO.no (e := by simp only [pOrd, hp, ↓reduceIte]) h
