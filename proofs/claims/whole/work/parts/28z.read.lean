theorem OR_inl {q q' : Int32 × NA} (h : (Sum.inl q : OR) = .inl q') : q = q' := by cases h; rfl
/-- an order leaves the counts as they are; a refusal's reason is not 0 -/
def OKr (N : NA) (r : OR) : Prop := (∀ q, r = .inl q → q.2 3 = N 3 ∧ q.2 4 = N 4) ∧ (∀ q, r = .inr (.inl q) → 0 < q.1)
theorem OKr.of1 {N : NA} {k : Nat} : OKr N (.inr (.inr k)) := ⟨fun q h => (by cases h), fun q h => (by cases h)⟩
theorem OKr.of2 {N : NA} {x y : Int32} (hx : 0 < x) : OKr N (.inr (.inl (x, y))) := ⟨fun q h => (by cases h), fun q h => (by cases h; exact hx)⟩
theorem OKr.of3 {N M : NA} {x : Int32} (h3 : M 3 = N 3) (h4 : M 4 = N 4) : OKr N (.inl (x, M)) := ⟨fun q h => (by cases h; exact ⟨h3, h4⟩), fun q h => (by cases h)⟩
theorem ok_ord (N : NA) (o : Ord) : OKr N (S_ord N o) := by
  have u2 : ∀ (i j : Nat) (x y : Int32), i ≠ 3 → i ≠ 4 → j ≠ 3 → j ≠ 4 → ∀ v, OKr N (.inl (v, upN (upN N i x) j y)) := fun i j x y h1 h2 h3 h4 v => OKr.of3 (by rw [upN_ne _ _ _ (Ne.symm h3), upN_ne _ _ _ (Ne.symm h1)]) (by rw [upN_ne _ _ _ (Ne.symm h4), upN_ne _ _ _ (Ne.symm h2)])
  unfold S_ord
  repeat' split
  · unfold S_fills bk
    repeat' split
    all_goals first | exact OKr.of1 | exact OKr.of2 (by decide) | exact u2 _ _ _ _ (by omega) (by omega) (by omega) (by omega) _
  · unfold S_lays bk
    repeat' split
    all_goals first | exact OKr.of1 | exact OKr.of2 (by decide) | exact u2 _ _ _ _ (by omega) (by omega) (by omega) (by omega) _
  · unfold S_drops bk
    repeat' split
    all_goals first | exact OKr.of1 | exact OKr.of2 (by decide) | exact u2 _ _ _ _ (by omega) (by omega) (by omega) (by omega) _
  · unfold S_loads lk
    repeat' split
    all_goals first | exact OKr.of1 | exact OKr.of2 (by decide) | exact OKr.of3 (ldN_at _ _ _ (by omega) (by omega)) (ldN_at _ _ _ (by omega) (by omega))
  · unfold S_launches bk
    repeat' split
    all_goals first | exact OKr.of1 | exact OKr.of2 (by decide) | exact OKr.of3 (upN_ne _ _ _ (by omega)) (upN_ne _ _ _ (by omega))
  · unfold S_passes
    split
    · exact OKr.of3 (psL_lo _ _ _ (by decide) (by decide) (by decide) (by decide) (by decide) _) (psL_lo _ _ _ (by decide) (by decide) (by decide) (by decide) (by decide) _)
    · exact OKr.of1
  · unfold S_blows
    repeat' split
    all_goals first | exact OKr.of1 | exact OKr.of2 (by decide) | exact u2 _ _ _ _ (by omega) (by omega) (by omega) (by omega) _
theorem mcode_ne {N : NA} {r : OR} (h : OKr N r) {x : (Int32 × Int32) ⊕ Nat} (e : r = .inr x) : ¬ mcode (.inr x) = 0 := by
  subst e
  cases x with
  | inl q =>
    intro z
    have := h.2 q rfl
    rw [show q.1 = 0 from z] at this
    exact absurd this (by decide)
  | inr k =>
    rcases k with _ | _ | k
    · exact show ¬ ((-2 : Int32) = 0) by decide
    · exact show ¬ ((-1 : Int32) = 0) by decide
    · exact show ¬ ((-2 : Int32) = 0) by decide
theorem pSeq_none {T : NA} {n f p : Nat} (h : (pOrd T n p).2 = none) : pSeq T n (f + 1) p = ((pOrd T n p).1, none) := by
  simp only [pSeq, h]
theorem pSeq_end {T : NA} {n f p : Nat} {o : Ord} (h : (pOrd T n p).2 = some o) (hq : ¬ (pOrd T n p).1 < n) : pSeq T n (f + 1) p = ((pOrd T n p).1, some [o]) := by
  simp only [pSeq, h]
  rw [if_neg hq]
theorem pSeq_bad {T : NA} {n f p : Nat} {o : Ord} (h : (pOrd T n p).2 = some o) (hq : (pOrd T n p).1 < n) (h59 : ¬ T (pOrd T n p).1 = nI 59) : pSeq T n (f + 1) p = ((pOrd T n p).1, none) := by
  simp only [pSeq, h]
  rw [if_pos hq, if_neg h59]
theorem pSeq_more {T : NA} {n f p : Nat} {o : Ord} (h : (pOrd T n p).2 = some o) (hq : (pOrd T n p).1 < n) (h59 : T (pOrd T n p).1 = nI 59) : pSeq T n (f + 1) p = ((pSeq T n f ((pOrd T n p).1 + 1)).1, (pSeq T n f ((pOrd T n p).1 + 1)).2.map (o :: ·)) := by
  simp only [pSeq, h]
  rw [if_pos hq, if_pos h59]
set_option maxRecDepth 20000 in
set_option maxHeartbeats 1000000 in
theorem rd_out {G : GT} {σ : SS} (k : WE mX6_read 64 [(0, .ref 395)] [] σ 0 0 G) : WE mX6_read 19 [(0, .ref 395), (1, .int (nI 0))] [] σ 0 0 G := by
  refine WE.iload_n (n := 20) dX6_read_19 rfl rfl ?_
  refine WE.if_eq (n := 23) (tgt := 60) dX6_read_20 rfl (by decide) (fun h20 => ?_) (fun h20 => ?_)
  · skip
    refine WE.iload_n (n := 61) dX6_read_60 rfl rfl ?_
    refine WE.if_ne (n := 64) (tgt := 83) dX6_read_61 rfl (by decide) (fun h61 => ?_) (fun h61 => ?_)
    · skip
      exact absurd rfl h61
    · skip
      exact WE.ofA (L' := [(0, .ref 395)]) ⟨rfl, trivial⟩ k
  · skip
    exact absurd rfl h20
set_option maxRecDepth 20000 in
set_option maxHeartbeats 1000000 in
theorem m_read_l1 {G : GT} (od : Int64 × UInt64) {c0 : CC} {n : Nat} (hn : n ≤ 60) (kf : ∀ c' q, pSeq (c0 401) n 20 0 = (q, none) → At c0 c' n q → WE mX6_read 64 [(0, .ref 395)] [] (c', od) 0 0 G) (ks : ∀ c' os, (pSeq (c0 401) n 20 0).2 = some os → At c0 c' n n → WE mX6_read 83 [(0, .ref 395)] [] (c', od) 0 0 G) : ∀ (f p : Nat) (c1 : CC) (x : Int32), p ≤ n → n ≤ p + 3 * f → (∀ q, pSeq (c0 401) n f p = (q, none) → pSeq (c0 401) n 20 0 = (q, none)) → ((pSeq (c0 401) n f p).2.isSome = true → (pSeq (c0 401) n 20 0).2.isSome = true) → At c0 c1 n (pOrd (c0 401) n p).1 → x = b2i ((pOrd (c0 401) n p).2.isSome = true) → WE mX6_read 19 [(0, .ref 395), (1, .int x)] [] (c1, od) 0 0 G := by
  intro f
  induction f with
  | zero =>
    intro p c1 x hp hf t1 t2 hA hx
    have e : p = n := by omega
    subst e
    have e1 : pOrd (c0 401) p p = (p, none) := by
      unfold pOrd
      rw [if_neg (Nat.lt_irrefl _)]
    rw [e1] at hA hx
    rw [show x = nI 0 from hx]
    exact rd_out (kf _ _ (t1 _ rfl) hA)
  | succ f ih =>
    intro p c1 x hp hf t1 t2 hA hx
    subst hx
    have hpo := pOrd_ok (c0 401) hp
    refine WE.iload_n (n := 20) dX6_read_19 rfl rfl ?_
    refine WE.if_eqB (n := 23) (tgt := 60) dX6_read_20 rfl (by decide) (fun h20 => ?_) (fun h20 => ?_)
    · skip
      refine WE.iload_n (n := 61) dX6_read_60 rfl rfl ?_
      refine WE.if_neB (n := 64) (tgt := 83) dX6_read_61 rfl (by decide) (fun h61 => ?_) (fun h61 => ?_)
      · skip
        exact absurd h61 h20
      · skip
        exact WE.ofA (L' := [(0, .ref 395)]) ⟨rfl, trivial⟩ (kf _ _ (t1 _ (pSeq_none (by simpa using h20))) hA)
    · skip
      obtain ⟨o, ho⟩ := Option.isSome_iff_exists.mp h20
      refine WE.aload_n (n := 24) dX6_read_23 rfl rfl ?_
      refine WE.getI (n := 27) dX6_read_24 rfl fl_X6_181 ⟨by decide, by decide, rfl⟩ (by first | decide | exact kd_bal (by assumption) | exact kd_let (by assumption) | assumption) ?_
      refine WE.aload_n (n := 28) dX6_read_27 rfl rfl ?_
      refine WE.getI (n := 31) dX6_read_28 rfl fl_X6_178 ⟨by decide, by decide, rfl⟩ (by first | decide | exact kd_bal (by assumption) | exact kd_let (by assumption) | assumption) ?_
      refine WE.icmp_ge (n := 34) (tgt := 60) dX6_read_31 rfl (by decide) (fun h31 => ?_) (fun h31 => ?_)
      · skip
        rw [hA.1, hA.2.1] at h31
        have hle := hA.2.2.1
        have hge : n ≤ (pOrd (c0 401) n p).1 := ge_t (by omega) (by omega) h31
        have hqe : (pOrd (c0 401) n p).1 = n := by omega
        obtain ⟨os, hos⟩ := Option.isSome_iff_exists.mp (t2 (by rw [pSeq_end ho (by omega)]; rfl))
        refine WE.iload_n (n := 61) dX6_read_60 rfl rfl ?_
        refine WE.if_neB (n := 64) (tgt := 83) dX6_read_61 rfl (by decide) (fun h61 => ?_) (fun h61 => ?_)
        · skip
          exact WE.ofA (L' := [(0, .ref 395)]) ⟨rfl, trivial⟩ (ks _ os hos (by rw [hqe] at hA; exact hA))
        · skip
          exact absurd h20 h61
      · skip
        rw [hA.1, hA.2.1] at h31
        have hle := hA.2.2.1
        have hlt : (pOrd (c0 401) n p).1 < n := ge_f (by omega) (by omega) h31
        have hstep := hpo.2.2 o ho
        refine WE.aload_n (n := 35) dX6_read_34 rfl rfl ?_
        refine WE.bipush (n := 37) (nI 59) dX6_read_35 rfl (by decide) ?_
        refine WE.iconst (n := 38) (nI 1) dX6_read_37 rfl (by decide) ?_
        refine WE.V2PI (M' := mX6_sign_) (n := 41) dX6_read_38 rfl cv_X6_184 (by first | decide | exact kd_bal (by assumption) | exact kd_let (by assumption) | assumption) ⟨⟨by decide, by decide⟩, by decide, by decide⟩ (Nat.le_of_ble_eq_true rfl) (m_chrP od (nI 59) hn hA) (fun r38 σ38 q38 => ?_)
        obtain ⟨c38, rfl, rfl, A38, B38⟩ := q38
        refine WE.if_eqB (n := 44) (tgt := 55) dX6_read_41 rfl (by decide) (fun h41 => ?_) (fun h41 => ?_)
        · skip
          refine WE.iconst (n := 56) (nI 0) dX6_read_55 rfl (by decide) ?_
          refine WE.istore_n (n := 57) dX6_read_56 rfl (by decide) ?_
          refine WE.goto (tgt := 19) dX6_read_57 (by decide) ?_
          exact WE.ofA (L' := [(0, .ref 395), (1, .int (nI 0))]) ⟨rfl, rfl, trivial⟩ (rd_out (kf _ _ (t1 _ (pSeq_bad ho hlt (fun z => h41 ⟨hlt, z⟩))) (chr_f A38 h41)))
        · skip
          have A38 := chr_t A38 h41
          have e1 := pSeq_more (f := f) ho hlt h41.2
          refine WE.aload_n (n := 45) dX6_read_44 rfl rfl ?_
          refine WE.V0PI (M' := mX6_isOrder) (n := 48) dX6_read_45 rfl cv_X6_198 (by first | decide | exact kd_bal (by assumption) | exact kd_let (by assumption) | assumption) ⟨⟨by decide, by decide⟩, by decide, by decide⟩ (Nat.le_of_ble_eq_true rfl) (m_isOrder od hn A38) (fun r45 σ45 q45 => ?_)
          obtain ⟨c45, rfl, rfl, A45, B45⟩ := q45
          refine WE.if_eqB (n := 51) (tgt := 55) dX6_read_48 rfl (by decide) (fun h48 => ?_) (fun h48 => ?_)
          · skip
            refine WE.iconst (n := 56) (nI 0) dX6_read_55 rfl (by decide) ?_
            refine WE.istore_n (n := 57) dX6_read_56 rfl (by decide) ?_
            refine WE.goto (tgt := 19) dX6_read_57 (by decide) ?_
            exact WE.ofA (L' := [(0, .ref 395), (1, .int (nI 0))]) ⟨rfl, rfl, trivial⟩ (ih ((pOrd (c0 401) n p).1 + 1) c45 _ (by omega) (by omega) (fun q hq => t1 q (by rw [e1, hq]; rfl)) (fun hq => t2 (by rw [e1]; simpa using hq)) A45 (by first | exact (b2i_t h48).symm | exact (b2i_f h48).symm))
          · skip
            refine WE.iconst (n := 52) (nI 1) dX6_read_51 rfl (by decide) ?_
            refine WE.goto (tgt := 56) dX6_read_52 (by decide) ?_
            refine WE.istore_n (n := 57) dX6_read_56 rfl (by decide) ?_
            refine WE.goto (tgt := 19) dX6_read_57 (by decide) ?_
            exact WE.ofA (L' := [(0, .ref 395), (1, .int (nI 1))]) ⟨rfl, rfl, trivial⟩ (ih ((pOrd (c0 401) n p).1 + 1) c45 _ (by omega) (by omega) (fun q hq => t1 q (by rw [e1, hq]; rfl)) (fun hq => t2 (by rw [e1]; simpa using hq)) A45 (by first | exact (b2i_t h48).symm | exact (b2i_f h48).symm))
def FR (c0 c1 : CC) : Prop := ∀ a k, a ≠ 396 → a ≠ 402 → ¬ (a = 395 ∧ (k = 9 ∨ k = 11 ∨ k = 15)) → c1 a k = c0 a k
def EXR (c0 c' : CC) (r : NA ⊕ ((Int32 × Int32) ⊕ Nat)) (tot : Nat) (cnt no : Int32) : Prop := match r with
  | .inl M => no = nI 0 ∧ cnt = nI tot ∧ c' 396 = M ∧ FR c0 c'
  | .inr x => no = mcode (.inr x) ∧ ∃ c2, FR c0 c2 ∧ c' = mS c2 (.inr x)
def QQ (c0 c1 : CC) (n p : Nat) (N : NA) : Prop := c1 395 8 = nI n ∧ c1 395 9 = nI p ∧ p ≤ n ∧ c1 396 = N ∧ FR c0 c1
theorem QQ.T {c0 c : CC} {n p : Nat} {N : NA} (h : QQ c0 c n p N) : c 401 = c0 401 := funext fun k => h.2.2.2.2 401 k (by decide) (by decide) (by omega)
theorem At.QQ {c0 c1 c2 : CC} {n p q : Nat} {N : NA} (h : QQ c0 c1 n p N) (h2 : At c1 c2 n q) : QQ c0 c2 n q N := by
  refine ⟨h2.1, h2.2.1, h2.2.2.1, ?_, fun a k h3 h4 h5 => ?_⟩
  · rw [show c2 396 = c1 396 from funext fun k => h2.2.2.2 396 k (by decide) (by omega)]
    exact h.2.2.2.1
  · rw [h2.2.2.2 a k h4 (by omega)]
    exact h.2.2.2.2 a k h3 h4 h5
theorem QQ.done {c0 c : CC} {n p : Nat} {N M : NA} (h : QQ c0 c n p N) (v : Int32) : QQ c0 (setN (u2 c 395 15 v) M) n p M := by
  refine ⟨?_, ?_, h.2.2.1, setN_at _ _, fun a k h3 h4 h5 => ?_⟩
  · rw [setN_o _ _ (by decide), u2_ne _ _ (by decide)]
    exact h.1
  · rw [setN_o _ _ (by decide), u2_ne _ _ (by decide)]
    exact h.2.1
  · rw [setN_o _ _ h3, u2_ne _ _ (by omega)]
    exact h.2.2.2.2 a k h3 h4 h5
theorem At.same {c : CC} {n p : Nat} (h1 : c 395 8 = nI n) (h2 : c 395 9 = nI p) (h3 : p ≤ n) : At c c n p := ⟨h1, h2, h3, fun _ _ _ _ => rfl⟩
set_option maxRecDepth 20000 in
set_option maxHeartbeats 1000000 in
theorem rd2_out {G : GT} {σ : SS} {x y : Int32} (k : WE mX6_read 152 [(0, .ref 395), (2, .int x), (3, .int y)] [] σ 0 0 G) : WE mX6_read 95 [(0, .ref 395), (2, .int x), (3, .int y), (4, .int (nI 0))] [] σ 0 0 G := by
  refine WE.iload (n := 97) dX6_read_95 rfl rfl ?_
  refine WE.if_eq (n := 100) (tgt := 152) dX6_read_97 rfl (by decide) (fun h97 => ?_) (fun h97 => ?_)
  · skip
    exact WE.ofA (L' := [(0, .ref 395), (2, .int x), (3, .int y)]) ⟨rfl, rfl, rfl, trivial⟩ k
  · skip
    exact absurd rfl h97
set_option maxRecDepth 20000 in
set_option maxHeartbeats 1000000 in
theorem m_read_l2 {G : GT} (od : Int64 × UInt64) {c0 : CC} {n : Nat} (hn : n ≤ 60) {T : NA} (hT : c0 401 = T) (nb : Nat) (hnb : nb ≤ 6) (nl : Nat) (hnl : nl ≤ 24) {R : NA ⊕ ((Int32 × Int32) ⊕ Nat)} {tot : Nat} (KK : ∀ c' cnt no, EXR c0 c' R tot cnt no → WE mX6_read 152 [(0, .ref 395), (2, .int cnt), (3, .int no)] [] (c', od) 0 0 G) : ∀ (f p k : Nat) (os : List Ord) (N : NA) (c1 : CC), p ≤ n → (pSeq T n f p).2 = some os → QQ c0 c1 n p N → R = exL N os → k + os.length = tot → N 3 = nI nb → N 4 = nI nl → WE mX6_read 95 [(0, .ref 395), (2, .int (nI k)), (4, .int (nI 1))] [] (c1, od) 0 0 G := by
  intro f
  induction f with
  | zero =>
    intro p k os N c1 hp hos
    cases hos
  | succ f ih =>
    intro p k os N c1 hp hos hQ hex htot h3 h4
    have hpo := pOrd_ok T hp
    obtain ⟨o, ho⟩ : ∃ o, (pOrd T n p).2 = some o := by
      rcases h : (pOrd T n p).2 with _ | o
      · rw [pSeq_none h] at hos
        cases hos
      · exact ⟨o, rfl⟩
    have hstep := hpo.2.2 o ho
    refine WE.iload (n := 97) dX6_read_95 rfl rfl ?_
    refine WE.if_eq (n := 100) (tgt := 152) dX6_read_97 rfl (by decide) (fun h97 => ?_) (fun h97 => ?_)
    · skip
      exact absurd h97 (by decide)
    · skip
      refine WE.aload_n (n := 101) dX6_read_100 rfl rfl ?_
      refine WE.V0PI (M' := mX6_isOrder) (n := 104) dX6_read_101 rfl cv_X6_198 (by first | decide | exact kd_bal (by assumption) | exact kd_let (by assumption) | assumption) ⟨⟨by decide, by decide⟩, by decide, by decide⟩ (Nat.le_of_ble_eq_true rfl) (m_isOrder od hn (At.same hQ.1 hQ.2.1 hQ.2.2.1)) (fun r101 σ101 q101 => ?_)
      obtain ⟨c101, rfl, rfl, A101, B101⟩ := q101
      have hq101 := At.QQ hQ A101
      rw [hQ.T, hT] at B101 hq101
      refine WE.istore_n (n := 105) dX6_read_104 rfl (by decide) ?_
      refine WE.aload_n (n := 106) dX6_read_105 rfl rfl ?_
      refine WE.V0I (M' := mX6_carries) (n := 109) dX6_read_106 rfl cv_X6_202 (by first | decide | exact kd_bal (by assumption) | exact kd_let (by assumption) | assumption) ⟨⟨by decide, by decide⟩, by decide, by decide⟩ (Nat.le_of_ble_eq_true rfl) (m_carries c101 od nb hnb (by rw [hq101.2.2.2.1]; exact h3) nl hnl (by rw [hq101.2.2.2.1]; exact h4) o hstep.1 (B101 o ho)) ?_
      rw [hq101.2.2.2.1]
      have hok := ok_ord N o
      rcases hS : S_ord N o with q | x
      · have hqd : QQ c0 (setN (u2 c101 395 15 q.1) q.2) n (pOrd T n p).1 q.2 := hq101.done q.1
        refine WE.ofS (σ' := ((setN (u2 c101 395 15 q.1) q.2), od)) rfl ?_
        show WE _ _ _ (.int (nI 0) :: []) _ _ _ _
        refine WE.istore_n (n := 110) dX6_read_109 rfl (by decide) ?_
        refine WE.iload_n (n := 111) dX6_read_110 rfl rfl ?_
        refine WE.if_ne (n := 114) (tgt := 117) dX6_read_111 rfl (by decide) (fun h111 => ?_) (fun h111 => ?_)
        · skip
          exact absurd rfl h111
        · skip
          refine WE.iinc (n := 117) dX6_read_114 rfl rfl (by decide) ?_
          refine WE.iload_n (n := 118) dX6_read_117 rfl rfl ?_
          refine WE.if_ne (n := 121) (tgt := 146) dX6_read_118 rfl (by decide) (fun h118 => ?_) (fun h118 => ?_)
          · skip
            exact absurd rfl h118
          · skip
            refine WE.aload_n (n := 122) dX6_read_121 rfl rfl ?_
            refine WE.getI (n := 125) dX6_read_122 rfl fl_X6_181 ⟨by decide, by decide, rfl⟩ (by first | decide | exact kd_bal (by assumption) | exact kd_let (by assumption) | assumption) ?_
            refine WE.aload_n (n := 126) dX6_read_125 rfl rfl ?_
            refine WE.getI (n := 129) dX6_read_126 rfl fl_X6_178 ⟨by decide, by decide, rfl⟩ (by first | decide | exact kd_bal (by assumption) | exact kd_let (by assumption) | assumption) ?_
            refine WE.icmp_ge (n := 132) (tgt := 146) dX6_read_129 rfl (by decide) (fun h129 => ?_) (fun h129 => ?_)
            · skip
              rw [hqd.1, hqd.2.1] at h129
              have hle := hqd.2.2.1
              have hge := ge_t (by omega) (by omega) h129
              rw [pSeq_end ho (by omega)] at hos
              cases hos
              refine WE.iconst (n := 147) (nI 0) dX6_read_146 rfl (by decide) ?_
              refine WE.istore (n := 149) dX6_read_147 rfl (by decide) ?_
              refine WE.goto (tgt := 95) dX6_read_149 (by decide) ?_
              exact WE.ofA (L' := [(0, .ref 395), (2, .int (nI (k + 1))), (3, .int (nI 0)), (4, .int (nI 0))]) ⟨rfl, (by first | rfl | exact congrArg (fun x => some (Value.int x)) (nI_inc k)), rfl, rfl, trivial⟩ (rd2_out (KK _ _ _ (by rw [hex]; simp only [exL, hS]; exact ⟨rfl, by rw [← htot]; rfl, hqd.2.2.2.1, hqd.2.2.2.2⟩)))
            · skip
              rw [hqd.1, hqd.2.1] at h129
              have hle := hqd.2.2.1
              have hlt : (pOrd T n p).1 < n := ge_f (by omega) (by omega) h129
              refine WE.aload_n (n := 133) dX6_read_132 rfl rfl ?_
              refine WE.bipush (n := 135) (nI 59) dX6_read_133 rfl (by decide) ?_
              refine WE.iconst (n := 136) (nI 1) dX6_read_135 rfl (by decide) ?_
              refine WE.V2PI (M' := mX6_sign_) (n := 139) dX6_read_136 rfl cv_X6_184 (by first | decide | exact kd_bal (by assumption) | exact kd_let (by assumption) | assumption) ⟨⟨by decide, by decide⟩, by decide, by decide⟩ (Nat.le_of_ble_eq_true rfl) (m_chrP od (nI 59) hn (At.same hqd.1 hqd.2.1 hqd.2.2.1)) (fun r136 σ136 q136 => ?_)
              obtain ⟨c136, rfl, rfl, A136, B136⟩ := q136
              have eT : (setN (u2 c101 395 15 q.1) q.2) 401 = T := by rw [hqd.T]; exact hT
              refine WE.if_eqB (n := 142) (tgt := 146) dX6_read_139 rfl (by decide) (fun h139 => ?_) (fun h139 => ?_)
              · skip
                exfalso
                rw [eT] at h139
                rw [pSeq_bad ho hlt (fun z => h139 ⟨hlt, z⟩)] at hos
                cases hos
              · skip
                have A136 := At.QQ hqd (chr_t A136 h139)
                rw [eT] at h139
                rw [pSeq_more ho hlt h139.2] at hos
                obtain ⟨os2, hos2, rfl⟩ := Option.map_eq_some_iff.mp hos
                refine WE.iconst (n := 143) (nI 1) dX6_read_142 rfl (by decide) ?_
                refine WE.goto (tgt := 147) dX6_read_143 (by decide) ?_
                refine WE.istore (n := 149) dX6_read_147 rfl (by decide) ?_
                refine WE.goto (tgt := 95) dX6_read_149 (by decide) ?_
                exact WE.ofA (L' := [(0, .ref 395), (2, .int (nI (k + 1))), (4, .int (nI 1))]) ⟨rfl, (by first | rfl | exact congrArg (fun x => some (Value.int x)) (nI_inc k)), rfl, trivial⟩ (ih ((pOrd T n p).1 + 1) (k + 1) os2 q.2 c136 (by omega) hos2 A136 (by rw [hex]; simp only [exL, hS]) (by rw [← htot, List.length_cons]; omega) (by rw [(hok.1 q hS).1]; exact h3) (by rw [(hok.1 q hS).2]; exact h4))
      · have hexe : exL N os = .inr x := by
          obtain ⟨ox, hox⟩ : ∃ t, os = o :: t := by
            by_cases hq : (pOrd T n p).1 < n
            · by_cases h59 : T (pOrd T n p).1 = nI 59
              · rw [pSeq_more ho hq h59] at hos
                obtain ⟨t, _, rfl⟩ := Option.map_eq_some_iff.mp hos
                exact ⟨t, rfl⟩
              · rw [pSeq_bad ho hq h59] at hos
                cases hos
            · rw [pSeq_end ho hq] at hos
              cases hos
              exact ⟨[], rfl⟩
          rw [hox]
          simp only [exL, hS]
        refine WE.ofS (σ' := (mS c101 (.inr x), od)) rfl ?_
        refine WE.istore_n (n := 110) dX6_read_109 rfl (by decide) ?_
        refine WE.iload_n (n := 111) dX6_read_110 rfl rfl ?_
        refine WE.if_ne (n := 114) (tgt := 117) dX6_read_111 rfl (by decide) (fun h111 => ?_) (fun h111 => ?_)
        · skip
          refine WE.iload_n (n := 118) dX6_read_117 rfl rfl ?_
          refine WE.if_ne (n := 121) (tgt := 146) dX6_read_118 rfl (by decide) (fun h118 => ?_) (fun h118 => ?_)
          · skip
            refine WE.iconst (n := 147) (nI 0) dX6_read_146 rfl (by decide) ?_
            refine WE.istore (n := 149) dX6_read_147 rfl (by decide) ?_
            refine WE.goto (tgt := 95) dX6_read_149 (by decide) ?_
            exact WE.ofA (L' := [(0, .ref 395), (2, .int (nI k)), (3, .int (mcode (.inr x))), (4, .int (nI 0))]) ⟨rfl, rfl, rfl, rfl, trivial⟩ (rd2_out (KK _ _ _ (by rw [hex, hexe]; exact ⟨rfl, c101, hq101.2.2.2.2, rfl⟩)))
          · skip
            exact absurd h118 (mcode_ne hok hS)
        · skip
          exact absurd h111 (mcode_ne hok hS)
def rdS (c : CC) : CC := u2 (u2 (triesS c) 395 9 (nI 0)) 395 12 (-1 : Int32)
def rdSame (c c' : CC) : Prop := (∀ k, k < 184 → c' 396 k = c 396 k) ∧ c' 399 = c 399 ∧ c' 395 4 = c 395 4
def whySame (c c' : CC) : Prop := c' 395 13 = c 395 13 ∧ c' 395 14 = c 395 14
def rdX (c c' : CC) (os : List Ord) (r : Int32) (R : NA ⊕ ((Int32 × Int32) ⊕ Nat)) : Prop := match R with
  | .inl M => r = nI os.length ∧ c' 395 16 = nI 0 ∧ whySame c c' ∧ c' 396 = M ∧ ∃ c1 : CC, c1 399 = c 399 ∧ c1 395 4 = c 395 4 ∧ (∀ k, k < 184 → c1 397 k = c 396 k) ∧ c' 399 = S_keeps c1 399 ∧ c' 395 4 = S_keeps c1 395 4
  | .inr (.inl q) => rdSame c c' ∧ c' 395 13 = q.1 ∧ c' 395 14 = q.2 ∧ c' 395 16 = nI 2
  | .inr (.inr _) => rdSame c c' ∧ whySame c c' ∧ c' 395 16 = nI 1
def rdO (c c' : CC) (n : Nat) (r : Int32) : Prop := (∀ a k, a ≠ 395 → a ≠ 396 → a ≠ 397 → a ≠ 399 → a ≠ 402 → c' a k = c a k) ∧ c' 395 6 = c 395 6 ∧ c' 395 8 = nI 0 ∧
  match (pSeq (c 401) n 20 0).2 with
  | none => c' 395 12 = nI (pSeq (c 401) n 20 0).1 ∧ rdSame c c' ∧ whySame c c' ∧ c' 395 16 = nI 1
  | some os => c' 395 12 = (-1 : Int32) ∧ rdX c c' os r (exL (c 396) os)
theorem rdS_396 (c : CC) : rdS c 396 = c 396 := by
  unfold rdS
  rw [u2_o _ _ _ (by decide), u2_o _ _ _ (by decide), tr_396]
theorem rdS_o (c : CC) {a : Nat} (h5 : a ≠ 395) (h7 : a ≠ 397) : rdS c a = c a := by
  unfold rdS
  rw [u2_o _ _ _ h5, u2_o _ _ _ h5]
  unfold triesS
  rw [setR_o _ _ h7, u2_o _ _ _ h5]
theorem rdS_7 (c : CC) {k : Nat} (h : k < 184) : rdS c 397 k = c 396 k := by
  unfold rdS
  rw [u2_o _ _ _ (by decide), u2_o _ _ _ (by decide)]
  unfold triesS
  rw [setR_at, cpN_lt _ _ h]
theorem rdS_5 (c : CC) {k : Nat} (h9 : k ≠ 9) (h12 : k ≠ 12) (h16 : k ≠ 16) : rdS c 395 k = c 395 k := by
  unfold rdS
  rw [u2_ne _ _ (by omega), u2_ne _ _ (by omega), tr_395 _ h16]
theorem rdS_16 (c : CC) : rdS c 395 16 = nI 0 := by
  unfold rdS
  rw [u2_ne _ _ (by decide), u2_ne _ _ (by decide)]
  unfold triesS
  rw [setR_o _ _ (by decide), u2_eq]
theorem rdS_12 (c : CC) : rdS c 395 12 = (-1 : Int32) := u2_eq _ _ _ _
theorem kp_o (c : CC) {a k : Nat} (h9 : a ≠ 399) (h4 : ¬ (a = 395 ∧ k = 4)) : S_keeps c a k = c a k := by
  unfold S_keeps
  split
  · rw [u2_ne _ _ h4, setR_o _ _ h9]
  · rw [u2_ne _ _ h4, setR_o _ _ h9]
set_option maxRecDepth 20000 in
set_option maxHeartbeats 1000000 in
theorem m_read_f (c c' : CC) (od : Int64 × UInt64) (n q : Nat) (hs : pSeq (c 401) n 20 0 = (q, none)) (hA : At (rdS c) c' n q) : WE mX6_read 64 [(0, .ref 395)] [] (c', od) 0 0 (GQ mX6_read (PI fun r σ => ∃ c', σ = (c', od) ∧ rdO c c' n r)) := by
  refine WE.aload_n (n := 65) dX6_read_64 rfl rfl ?_
  refine WE.iconst (n := 66) (nI 0) dX6_read_65 rfl (by decide) ?_
  refine WE.putI (n := 69) dX6_read_66 rfl fl_X6_178 ⟨by decide, by decide, rfl, rfl⟩ ⟨by first | rfl | decide, by first | rfl | decide⟩ (by first | decide | exact kd_bal (by assumption) | exact kd_let (by assumption) | assumption) ?_
  refine WE.aload_n (n := 70) dX6_read_69 rfl rfl ?_
  refine WE.aload_n (n := 71) dX6_read_70 rfl rfl ?_
  refine WE.getI (n := 74) dX6_read_71 rfl fl_X6_181 ⟨by decide, by decide, rfl⟩ (by first | decide | exact kd_bal (by assumption) | exact kd_let (by assumption) | assumption) ?_
  refine WE.putI (n := 77) dX6_read_74 rfl fl_X6_32 ⟨by decide, by decide, rfl, rfl⟩ ⟨by first | rfl | decide, by first | rfl | decide⟩ (by first | decide | exact kd_bal (by assumption) | exact kd_let (by assumption) | assumption) ?_
  refine WE.aload_n (n := 78) dX6_read_77 rfl rfl ?_
  refine WE.iconst (n := 79) (nI 1) dX6_read_78 rfl (by decide) ?_
  refine WE.V1I (M' := mX6_raises) (n := 82) dX6_read_79 rfl cv_X6_55 (by first | decide | exact kd_bal (by assumption) | exact kd_let (by assumption) | assumption) ⟨⟨by decide, by decide⟩, by decide, by decide⟩ (Nat.le_of_ble_eq_true rfl) (m_raises _ od (nI 1)) ?_
  refine WE.iret (ty := .int) dX6_read_82 rfl rfl ⟨by decide, by decide⟩ ?_
  refine PI.mk ⟨_, rfl, ?_⟩
  have hp : ∀ a k, a ≠ 402 → ¬ (a = 395 ∧ (k = 9 ∨ k = 11 ∨ k = 8 ∨ k = 12 ∨ k = 16)) → u2 (u2 (u2 c' 395 8 (nI 0)) 395 12 ((u2 c' 395 8 (nI 0)) 395 9)) 395 16 (nI 1) a k = rdS c a k := fun a k h1 h2 => by rw [u2_ne _ _ (by omega), u2_ne _ _ (by omega), u2_ne _ _ (by omega)]; exact hA.2.2.2 a k h1 (by omega)
  refine ⟨fun a k h1 h2 h3 h4 h5 => by rw [hp _ _ h5 (by omega), rdS_o _ h1 h3], by rw [hp _ _ (by decide) (by omega), rdS_5 _ (by decide) (by decide) (by decide)], by rw [u2_ne _ _ (by decide), u2_ne _ _ (by decide), u2_eq], ?_⟩
  rw [hs]
  refine ⟨?_, ⟨fun k hk => by rw [hp _ _ (by decide) (by omega), rdS_396], ?_, by rw [hp _ _ (by decide) (by omega), rdS_5 _ (by decide) (by decide) (by decide)]⟩, ⟨by rw [hp _ _ (by decide) (by omega), rdS_5 _ (by decide) (by decide) (by decide)], by rw [hp _ _ (by decide) (by omega), rdS_5 _ (by decide) (by decide) (by decide)]⟩, u2_eq _ _ _ _⟩
  · rw [u2_ne _ _ (by decide), u2_eq, u2_ne _ _ (by decide), hA.2.1]
  · funext k
    rw [hp _ _ (by decide) (by omega), rdS_o _ (by decide) (by decide)]
set_option maxRecDepth 20000 in
set_option maxHeartbeats 1000000 in
theorem m_read_g (c c' : CC) (od : Int64 × UInt64) (n : Nat) (u : Nat) (hu : u ≤ 8) (hcu : c 395 4 = nI u) {os : List Ord} (hos : (pSeq (c 401) n 20 0).2 = some os) {M : NA} (hR : exL (c 396) os = .inl M) (cnt : Int32) (hc : cnt = nI os.length) (hM : c' 396 = M) (hF : FR (rdS c) c') : WE mX6_read 152 [(0, .ref 395), (2, .int cnt), (3, .int (nI 0))] [] (c', od) 0 0 (GQ mX6_read (PI fun r σ => ∃ c', σ = (c', od) ∧ rdO c c' n r)) := by
  have hcu' : c' 395 4 = nI u := by rw [hF _ _ (by decide) (by decide) (by omega), rdS_5 _ (by decide) (by decide) (by decide)]; exact hcu
  refine WE.aload_n (n := 153) dX6_read_152 rfl rfl ?_
  refine WE.iconst (n := 154) (nI 0) dX6_read_153 rfl (by decide) ?_
  refine WE.putI (n := 157) dX6_read_154 rfl fl_X6_178 ⟨by decide, by decide, rfl, rfl⟩ ⟨by first | rfl | decide, by first | rfl | decide⟩ (by first | decide | exact kd_bal (by assumption) | exact kd_let (by assumption) | assumption) ?_
  refine WE.iload_n (n := 158) dX6_read_157 rfl rfl ?_
  refine WE.if_ne (n := 161) (tgt := 167) dX6_read_158 rfl (by decide) (fun h158 => ?_) (fun h158 => ?_)
  · skip
    exact absurd rfl h158
  · skip
    refine WE.aload_n (n := 162) dX6_read_161 rfl rfl ?_
    refine WE.iload_n (n := 163) dX6_read_162 rfl rfl ?_
    refine WE.V1I (M' := mX6_keeps) (n := 166) dX6_read_163 rfl cv_X6_51 (by first | decide | exact kd_bal (by assumption) | exact kd_let (by assumption) | assumption) ⟨⟨by decide, by decide⟩, by decide, by decide⟩ (Nat.le_of_ble_eq_true rfl) (m_keeps _ od cnt u hu (by rw [u2_ne _ _ (by decide)]; exact hcu')) ?_
    refine WE.iret (ty := .int) dX6_read_166 rfl rfl ⟨by decide, by decide⟩ ?_
    refine PI.mk ⟨_, rfl, ?_⟩
    refine ⟨fun a k h1 h2 h3 h4 h5 => by rw [kp_o _ h4 (by omega), u2_ne _ _ (by omega), hF a k h2 h5 (by omega), rdS_o _ h1 h3], by rw [kp_o _ (by decide) (by omega), u2_ne _ _ (by decide), hF _ _ (by decide) (by decide) (by omega), rdS_5 _ (by decide) (by decide) (by decide)], by rw [kp_o _ (by decide) (by omega), u2_eq], ?_⟩
    rw [hos]
    refine ⟨by rw [kp_o _ (by decide) (by omega), u2_ne _ _ (by decide), hF _ _ (by decide) (by decide) (by omega), rdS_12], ?_⟩
    rw [hR]
    refine ⟨hc, by rw [kp_o _ (by decide) (by omega), u2_ne _ _ (by decide), hF _ _ (by decide) (by decide) (by omega), rdS_16], ⟨by rw [kp_o _ (by decide) (by omega), u2_ne _ _ (by decide), hF _ _ (by decide) (by decide) (by omega), rdS_5 _ (by decide) (by decide) (by decide)], by rw [kp_o _ (by decide) (by omega), u2_ne _ _ (by decide), hF _ _ (by decide) (by decide) (by omega), rdS_5 _ (by decide) (by decide) (by decide)]⟩, ?_, u2 c' 395 8 (nI 0), ?_, ?_, ?_, rfl, rfl⟩
    · funext k
      rw [kp_o _ (by decide) (by omega), u2_o _ _ _ (by decide), hM]
    · funext k
      rw [u2_ne _ _ (by omega), hF _ _ (by decide) (by decide) (by omega), rdS_o _ (by decide) (by decide)]
    · rw [u2_ne _ _ (by omega), hF _ _ (by decide) (by decide) (by omega), rdS_5 _ (by decide) (by decide) (by decide)]
    · intro k hk
      rw [u2_ne _ _ (by omega), hF _ _ (by decide) (by decide) (by omega), rdS_7 _ hk]
set_option maxRecDepth 20000 in
set_option maxHeartbeats 1000000 in
theorem m_read_x (c c2 : CC) (od : Int64 × UInt64) (n : Nat) {os : List Ord} (hos : (pSeq (c 401) n 20 0).2 = some os) {x : (Int32 × Int32) ⊕ Nat} (hR : exL (c 396) os = .inr x) (cnt : Int32) (hne : ¬ mcode (.inr x) = 0) (hok : ∀ q, x = .inl q → 0 < q.1) (hF : FR (rdS c) c2) : WE mX6_read 152 [(0, .ref 395), (2, .int cnt), (3, .int (mcode (.inr x)))] [] (mS c2 (.inr x), od) 0 0 (GQ mX6_read (PI fun r σ => ∃ c', σ = (c', od) ∧ rdO c c' n r)) := by
  refine WE.aload_n (n := 153) dX6_read_152 rfl rfl ?_
  refine WE.iconst (n := 154) (nI 0) dX6_read_153 rfl (by decide) ?_
  refine WE.putI (n := 157) dX6_read_154 rfl fl_X6_178 ⟨by decide, by decide, rfl, rfl⟩ ⟨by first | rfl | decide, by first | rfl | decide⟩ (by first | decide | exact kd_bal (by assumption) | exact kd_let (by assumption) | assumption) ?_
  refine WE.iload_n (n := 158) dX6_read_157 rfl rfl ?_
  refine WE.if_ne (n := 161) (tgt := 167) dX6_read_158 rfl (by decide) (fun h158 => ?_) (fun h158 => ?_)
  · skip
    refine WE.aload_n (n := 168) dX6_read_167 rfl rfl ?_
    refine WE.V0V (M' := mX6_comesBack) (n := 171) dX6_read_168 rfl cv_X6_205 (by first | decide | exact kd_bal (by assumption) | exact kd_let (by assumption) | assumption) ⟨⟨by decide, by decide⟩, by decide, by decide⟩ (Nat.le_of_ble_eq_true rfl) (m_comesBack _ od) ?_
    refine WE.aload_n (n := 172) dX6_read_171 rfl rfl ?_
    refine WE.iload_n (n := 173) dX6_read_172 rfl rfl ?_
    refine WE.if_ge (n := 176) (tgt := 180) dX6_read_173 rfl (by decide) (fun h173 => ?_) (fun h173 => ?_)
    · skip
      refine WE.iconst (n := 181) (nI 2) dX6_read_180 rfl (by decide) ?_
      refine WE.V1I (M' := mX6_raises) (n := 184) dX6_read_181 rfl cv_X6_55 (by first | decide | exact kd_bal (by assumption) | exact kd_let (by assumption) | assumption) ⟨⟨by decide, by decide⟩, by decide, by decide⟩ (Nat.le_of_ble_eq_true rfl) (m_raises _ od _) ?_
      refine WE.iret (ty := .int) dX6_read_184 rfl rfl ⟨by decide, by decide⟩ ?_
      refine PI.mk ⟨_, rfl, ?_⟩
      have hm : ∀ a k, ¬ (a = 395 ∧ (k = 13 ∨ k = 14)) → mS c2 (.inr x) a k = c2 a k := fun a k h => by
        rcases x with q | k
        · show u2 (u2 c2 395 13 _) 395 14 _ a _ = _
          rw [u2_ne _ _ (by omega), u2_ne _ _ (by omega)]
        · rfl
      have hp : ∀ a k, a ≠ 396 → ¬ (a = 395 ∧ (k = 8 ∨ k = 16)) → (u2 (setR (u2 (mS c2 (.inr x)) 395 8 (nI 0)) 396 (cpN 184 (u2 (mS c2 (.inr x)) 395 8 (nI 0) 397) (u2 (mS c2 (.inr x)) 395 8 (nI 0) 396))) 395 16 (nI 2)) a k = mS c2 (.inr x) a k := fun a k h1 h2 => by rw [u2_ne _ _ (by omega), setR_o _ _ h1, u2_ne _ _ (by omega)]
      have hq : ∀ a k, a ≠ 396 → a ≠ 402 → ¬ (a = 395 ∧ (k = 8 ∨ k = 9 ∨ k = 11 ∨ k = 13 ∨ k = 14 ∨ k = 15 ∨ k = 16)) → (u2 (setR (u2 (mS c2 (.inr x)) 395 8 (nI 0)) 396 (cpN 184 (u2 (mS c2 (.inr x)) 395 8 (nI 0) 397) (u2 (mS c2 (.inr x)) 395 8 (nI 0) 396))) 395 16 (nI 2)) a k = rdS c a k := fun a k h1 h2 h3 => by rw [hp _ _ h1 (by omega), hm _ _ (by omega), hF a k h1 h2 (by omega)]
      have h8 : (u2 (setR (u2 (mS c2 (.inr x)) 395 8 (nI 0)) 396 (cpN 184 (u2 (mS c2 (.inr x)) 395 8 (nI 0) 397) (u2 (mS c2 (.inr x)) 395 8 (nI 0) 396))) 395 16 (nI 2)) 395 8 = nI 0 := by rw [u2_ne _ _ (by decide), setR_o _ _ (by decide), u2_eq]
      have h16 := u2_eq (setR (u2 (mS c2 (.inr x)) 395 8 (nI 0)) 396 (cpN 184 (u2 (mS c2 (.inr x)) 395 8 (nI 0) 397) (u2 (mS c2 (.inr x)) 395 8 (nI 0) 396))) 395 16 (nI 2)
      have hsame : rdSame c ((u2 (setR (u2 (mS c2 (.inr x)) 395 8 (nI 0)) 396 (cpN 184 (u2 (mS c2 (.inr x)) 395 8 (nI 0) 397) (u2 (mS c2 (.inr x)) 395 8 (nI 0) 396))) 395 16 (nI 2))) := ⟨fun k hk => by rw [u2_ne _ _ (by omega), setR_at, cpN_lt _ _ hk, u2_ne _ _ (by omega), hm _ _ (by omega), hF _ _ (by decide) (by decide) (by omega), rdS_7 _ hk], funext fun k => by rw [hq _ _ (by decide) (by decide) (by omega), rdS_o _ (by decide) (by decide)], by rw [hq _ _ (by decide) (by decide) (by omega), rdS_5 _ (by decide) (by decide) (by decide)]⟩
      refine ⟨fun a k h1 h2 h3 h4 h5 => by rw [hq _ _ h2 h5 (by omega), rdS_o _ h1 h3], by rw [hq _ _ (by decide) (by decide) (by omega), rdS_5 _ (by decide) (by decide) (by decide)], h8, ?_⟩
      rw [hos]
      refine ⟨by rw [hq _ _ (by decide) (by decide) (by omega), rdS_12], ?_⟩
      rw [hR]
      rcases x with q | k
      · exact ⟨hsame, by rw [hp _ _ (by decide) (by omega)]; show u2 (u2 c2 395 13 q.1) 395 14 q.2 395 13 = _; rw [u2_ne _ _ (by decide), u2_eq], by rw [hp _ _ (by decide) (by omega)]; show u2 (u2 c2 395 13 q.1) 395 14 q.2 395 14 = _; rw [u2_eq], h16⟩
      · exfalso
        rcases k with _ | _ | k
        · exact absurd (show (0 : Int32) ≤ (-2 : Int32) from h173) (by decide)
        · exact absurd (show (0 : Int32) ≤ (-1 : Int32) from h173) (by decide)
        · exact absurd (show (0 : Int32) ≤ (-2 : Int32) from h173) (by decide)
    · skip
      refine WE.iconst (n := 177) (nI 1) dX6_read_176 rfl (by decide) ?_
      refine WE.goto (tgt := 181) dX6_read_177 (by decide) ?_
      refine WE.V1I (M' := mX6_raises) (n := 184) dX6_read_181 rfl cv_X6_55 (by first | decide | exact kd_bal (by assumption) | exact kd_let (by assumption) | assumption) ⟨⟨by decide, by decide⟩, by decide, by decide⟩ (Nat.le_of_ble_eq_true rfl) (m_raises _ od _) ?_
      refine WE.iret (ty := .int) dX6_read_184 rfl rfl ⟨by decide, by decide⟩ ?_
      refine PI.mk ⟨_, rfl, ?_⟩
      have hm : ∀ a k, ¬ (a = 395 ∧ (k = 13 ∨ k = 14)) → mS c2 (.inr x) a k = c2 a k := fun a k h => by
        rcases x with q | k
        · show u2 (u2 c2 395 13 _) 395 14 _ a _ = _
          rw [u2_ne _ _ (by omega), u2_ne _ _ (by omega)]
        · rfl
      have hp : ∀ a k, a ≠ 396 → ¬ (a = 395 ∧ (k = 8 ∨ k = 16)) → (u2 (setR (u2 (mS c2 (.inr x)) 395 8 (nI 0)) 396 (cpN 184 (u2 (mS c2 (.inr x)) 395 8 (nI 0) 397) (u2 (mS c2 (.inr x)) 395 8 (nI 0) 396))) 395 16 (nI 1)) a k = mS c2 (.inr x) a k := fun a k h1 h2 => by rw [u2_ne _ _ (by omega), setR_o _ _ h1, u2_ne _ _ (by omega)]
      have hq : ∀ a k, a ≠ 396 → a ≠ 402 → ¬ (a = 395 ∧ (k = 8 ∨ k = 9 ∨ k = 11 ∨ k = 13 ∨ k = 14 ∨ k = 15 ∨ k = 16)) → (u2 (setR (u2 (mS c2 (.inr x)) 395 8 (nI 0)) 396 (cpN 184 (u2 (mS c2 (.inr x)) 395 8 (nI 0) 397) (u2 (mS c2 (.inr x)) 395 8 (nI 0) 396))) 395 16 (nI 1)) a k = rdS c a k := fun a k h1 h2 h3 => by rw [hp _ _ h1 (by omega), hm _ _ (by omega), hF a k h1 h2 (by omega)]
      have h8 : (u2 (setR (u2 (mS c2 (.inr x)) 395 8 (nI 0)) 396 (cpN 184 (u2 (mS c2 (.inr x)) 395 8 (nI 0) 397) (u2 (mS c2 (.inr x)) 395 8 (nI 0) 396))) 395 16 (nI 1)) 395 8 = nI 0 := by rw [u2_ne _ _ (by decide), setR_o _ _ (by decide), u2_eq]
      have h16 := u2_eq (setR (u2 (mS c2 (.inr x)) 395 8 (nI 0)) 396 (cpN 184 (u2 (mS c2 (.inr x)) 395 8 (nI 0) 397) (u2 (mS c2 (.inr x)) 395 8 (nI 0) 396))) 395 16 (nI 1)
      have hsame : rdSame c ((u2 (setR (u2 (mS c2 (.inr x)) 395 8 (nI 0)) 396 (cpN 184 (u2 (mS c2 (.inr x)) 395 8 (nI 0) 397) (u2 (mS c2 (.inr x)) 395 8 (nI 0) 396))) 395 16 (nI 1))) := ⟨fun k hk => by rw [u2_ne _ _ (by omega), setR_at, cpN_lt _ _ hk, u2_ne _ _ (by omega), hm _ _ (by omega), hF _ _ (by decide) (by decide) (by omega), rdS_7 _ hk], funext fun k => by rw [hq _ _ (by decide) (by decide) (by omega), rdS_o _ (by decide) (by decide)], by rw [hq _ _ (by decide) (by decide) (by omega), rdS_5 _ (by decide) (by decide) (by decide)]⟩
      refine ⟨fun a k h1 h2 h3 h4 h5 => by rw [hq _ _ h2 h5 (by omega), rdS_o _ h1 h3], by rw [hq _ _ (by decide) (by decide) (by omega), rdS_5 _ (by decide) (by decide) (by decide)], h8, ?_⟩
      rw [hos]
      refine ⟨by rw [hq _ _ (by decide) (by decide) (by omega), rdS_12], ?_⟩
      rw [hR]
      rcases x with q | k
      · exfalso
        have := hok q rfl
        exact h173 (show (0 : Int32) ≤ mcode (.inr (.inl q)) from Int32.le_of_lt this)
      · exact ⟨hsame, ⟨by rw [hp _ _ (by decide) (by omega)]; show c2 395 13 = _; rw [hF _ _ (by decide) (by decide) (by omega), rdS_5 _ (by decide) (by decide) (by decide)], by rw [hp _ _ (by decide) (by omega)]; show c2 395 14 = _; rw [hF _ _ (by decide) (by decide) (by omega), rdS_5 _ (by decide) (by decide) (by decide)]⟩, h16⟩
  · skip
    exact absurd h158 hne
theorem exL_inr {N : NA} : ∀ {os : List Ord} {x : (Int32 × Int32) ⊕ Nat}, exL N os = .inr x → ∃ (M : NA) (o : Ord), S_ord M o = .inr x := by
  intro os
  induction os generalizing N with
  | nil => intro x h; cases h
  | cons o os ih =>
    intro x h
    simp only [exL] at h
    split at h
    · exact ih h
    · rename_i y hy
      cases h
      exact ⟨N, o, hy⟩
set_option maxRecDepth 20000 in
set_option maxHeartbeats 1000000 in
theorem m_read (c : CC) (od : Int64 × UInt64) (n : Nat) (hn : n ≤ 60) (hl : c 395 8 = nI n) (nb : Nat) (hnb : nb ≤ 6) (hc3 : c 396 3 = nI nb) (nl : Nat) (hnl : nl ≤ 24) (hc4 : c 396 4 = nI nl) (u : Nat) (hu : u ≤ 8) (hcu : c 395 4 = nI u) : CM mX6_read [.ref 395] (c, od) (PI fun r σ => ∃ c', σ = (c', od) ∧ rdO c c' n r) := by
  refine CM.of [(0, .ref 395)] rfl (by decide +kernel) rfl (Nat.le_of_ble_eq_true rfl) ?_
  have e401 : rdS c 401 = c 401 := rdS_o _ (by decide) (by decide)
  refine WE.aload_n (n := 1) dX6_read_0 rfl rfl ?_
  refine WE.V0V (M' := mX6_tries) (n := 4) dX6_read_1 rfl cv_X6_83 (by first | decide | exact kd_bal (by assumption) | exact kd_let (by assumption) | assumption) ⟨⟨by decide, by decide⟩, by decide, by decide⟩ (Nat.le_of_ble_eq_true rfl) (m_tries c od) ?_
  refine WE.aload_n (n := 5) dX6_read_4 rfl rfl ?_
  refine WE.iconst (n := 6) (nI 0) dX6_read_5 rfl (by decide) ?_
  refine WE.putI (n := 9) dX6_read_6 rfl fl_X6_181 ⟨by decide, by decide, rfl, rfl⟩ ⟨by first | rfl | decide, by first | rfl | decide⟩ (by first | decide | exact kd_bal (by assumption) | exact kd_let (by assumption) | assumption) ?_
  refine WE.aload_n (n := 10) dX6_read_9 rfl rfl ?_
  refine WE.iconst (n := 11) ((-1 : Int32)) dX6_read_10 rfl (by decide) ?_
  refine WE.putI (n := 14) dX6_read_11 rfl fl_X6_32 ⟨by decide, by decide, rfl, rfl⟩ ⟨by first | rfl | decide, by first | rfl | decide⟩ (by first | decide | exact kd_bal (by assumption) | exact kd_let (by assumption) | assumption) ?_
  refine WE.aload_n (n := 15) dX6_read_14 rfl rfl ?_
  refine WE.V0PI (M' := mX6_isOrder) (n := 18) dX6_read_15 rfl cv_X6_198 (by first | decide | exact kd_bal (by assumption) | exact kd_let (by assumption) | assumption) ⟨⟨by decide, by decide⟩, by decide, by decide⟩ (Nat.le_of_ble_eq_true rfl) (m_isOrder od hn (At.same (c := rdS c) (by rw [rdS_5 _ (by decide) (by decide) (by decide)]; exact hl) (by unfold rdS; rw [u2_ne _ _ (by decide), u2_eq]) (Nat.zero_le _))) (fun r15 σ15 q15 => ?_)
  obtain ⟨c15, rfl, rfl, A15, B15⟩ := q15
  refine WE.istore_n (n := 19) dX6_read_18 rfl (by decide) ?_
  refine WE.ofA (L' := [(0, .ref 395), (1, .int (b2i ((pOrd (rdS c 401) n 0).2.isSome = true)))]) ⟨rfl, rfl, trivial⟩ (m_read_l1 od hn (fun c' q hq hA => ?_) (fun c' os hos hA => ?_) 20 0 c15 _ (Nat.zero_le _) (by omega) (fun q h => h) (fun h => h) A15 rfl)
  · exact m_read_f c c' od n q (by rw [← e401]; exact hq) hA
  · have hos' : (pSeq (c 401) n 20 0).2 = some os := by rw [← e401]; exact hos
    refine WE.aload_n (n := 84) dX6_read_83 rfl rfl ?_
    refine WE.iconst (n := 85) (nI 0) dX6_read_84 rfl (by decide) ?_
    refine WE.putI (n := 88) dX6_read_85 rfl fl_X6_181 ⟨by decide, by decide, rfl, rfl⟩ ⟨by first | rfl | decide, by first | rfl | decide⟩ (by first | decide | exact kd_bal (by assumption) | exact kd_let (by assumption) | assumption) ?_
    refine WE.iconst (n := 89) (nI 0) dX6_read_88 rfl (by decide) ?_
    refine WE.istore_n (n := 90) dX6_read_89 rfl (by decide) ?_
    refine WE.iconst (n := 91) (nI 0) dX6_read_90 rfl (by decide) ?_
    refine WE.istore_n (n := 92) dX6_read_91 rfl (by decide) ?_
    refine WE.iconst (n := 93) (nI 1) dX6_read_92 rfl (by decide) ?_
    refine WE.istore (n := 95) dX6_read_93 rfl (by decide) ?_
    refine WE.ofA (L' := [(0, .ref 395), (2, .int (nI 0)), (4, .int (nI 1))]) ⟨rfl, rfl, rfl, trivial⟩ (m_read_l2 (c0 := rdS c) od hn e401 nb hnb nl hnl (fun c3 cnt no hE => ?_) 20 0 0 os (c 396) _ (Nat.zero_le _) hos' ⟨(by rw [u2_ne _ _ (by decide)]; exact hA.1), u2_eq _ _ _ _, Nat.zero_le _, (by rw [u2_o _ _ _ (by decide), show c' 396 = rdS c 396 from funext fun k => hA.2.2.2 396 k (by decide) (by omega), rdS_396]), (fun a k h1 h2 h3 => by rw [u2_ne _ _ (by omega)]; exact hA.2.2.2 a k h2 (by omega))⟩ rfl (Nat.zero_add _) hc3 hc4)
    rcases hR : exL (c 396) os with M | x
    · rw [hR] at hE
      obtain ⟨rfl, h2, h3, h4⟩ := hE
      exact m_read_g c c3 od n u hu hcu hos' hR cnt h2 h3 h4
    · rw [hR] at hE
      obtain ⟨rfl, c2, h3, rfl⟩ := hE
      obtain ⟨M, o, ho⟩ := exL_inr hR
      exact m_read_x c c2 od n hos' hR cnt (mcode_ne (ok_ord M o) ho) (fun q hq => (ok_ord M o).2 q (by rw [ho, hq])) h3
