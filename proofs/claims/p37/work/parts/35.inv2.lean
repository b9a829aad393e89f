theorem IN.free {N : NA} (h : IN N) {b : Nat} (hb : nbN N ≤ b) (hb2 : b < 2 ^ 31) {l : Nat} (hl : l < nlN N) : ¬ (0 < N (88 + 4 * l + 2) ∧ N (88 + 4 * l + 3) = nI b) := by
  have hn := h.cn.1
  rintro ⟨q1, q2⟩
  rcases (h.l hl).2.2 with ⟨e1, e2⟩ | ⟨j, hj, e1, e2⟩
  · rw [e1] at q1
    exact absurd q1 (by decide)
  · exact nI_ne (by omega) hb2 (by omega) (e1.symm.trans q2)
theorem ok_balloon {N : NA} (h : IN N) (s : Int32) : OkS (S_balloon N s) := by
  have hn := h.cn.1
  unfold S_balloon
  split
  · rename_i hr
    obtain ⟨m, hm1, hm, rfl⟩ := in1_of (by decide) (by decide) hr
    split
    · exact OkS.no
    · rename_i h6
      rw [h.cn.2.1] at h6 ⊢
      have hlt : nbN N < 6 := by
        by_cases e : nbN N = 6
        · exact absurd (by rw [e]) h6
        · omega
      rw [nI_clamp (show nbN N < 2 ^ 31 by omega)]
      have eo : ∀ k, k ≠ 3 → ¬ (22 + 11 * nbN N ≤ k ∧ k < 22 + 11 * nbN N + 11) → baN N (nbN N) (nI m) k = N k := fun k q1 q2 => baN_o _ _ _ q1 q2
      have e3 : baN N (nbN N) (nI m) 3 = nI (nbN N + 1) := by rw [baN_3, h.cn.2.1, nI_s1]
      have e4 : baN N (nbN N) (nI m) 4 = N 4 := eo 4 (by decide) (by omega)
      have hb3 : nbN (baN N (nbN N) (nI m)) = nbN N + 1 := by
        show Int32.toNatClampNeg _ = _
        rw [e3, nI_clamp (by omega)]
      have hb4 : nlN (baN N (nbN N) (nI m)) = nlN N := congrArg Int32.toNatClampNeg e4
      have er : ∀ w, w < 11 → baN N (nbN N) (nI m) (22 + 11 * nbN N + w) = if w = 0 then nI m else if w = 6 ∨ w = 7 then nI 20 else nI 0 := fun w hw => baN_row _ _ _ hw
      refine OkS.mk ⟨⟨?_, ?_, ?_, ?_⟩, ?_, ?_, fun k hk => ?_, fun i hi => ?_, fun l hl => ?_, ?_⟩ (NF.n (by omega))
      · rw [hb3]
        omega
      · rw [hb3]
        exact e3
      · rw [hb4]
        exact h.cn.2.2.1
      · rw [hb4, e4]
        exact h.cn.2.2.2
      · rw [eo _ (by decide) (by omega)]
        exact h.2.1
      · rw [eo _ (by decide) (by omega)]
        exact h.2.2.1
      · rw [eo _ (by omega) (by omega), eo _ (by omega) (by omega)]
        exact h.2.2.2.1 k hk
      · rw [hb3] at hi
        by_cases e : i = nbN N
        · subst e
          refine ⟨⟨m, 0, hm1, hm, by omega, er 0 (by decide), er 1 (by decide)⟩, ⟨0, by decide, er 2 (by decide)⟩, ⟨0, 0, by decide, by decide, er 3 (by decide), er 4 (by decide)⟩, ⟨0, by decide, er 5 (by decide)⟩⟩
        · exact (h.b (j := i) (by omega)).congr (fun w hw => eo _ (by omega) (by omega))
      · rw [hb4] at hl
        have hL := h.l hl
        refine ⟨?_, ?_, ?_⟩
        · rw [eo _ (by omega) (by omega)]
          exact hL.1
        · rw [eo _ (by omega) (by omega)]
          exact hL.2.1
        · rcases hL.2.2 with ⟨q1, q2⟩ | ⟨j, hj, q1, q2⟩
          · exact Or.inl ⟨by rw [eo _ (by omega) (by omega)]; exact q1, by rw [eo _ (by omega) (by omega)]; exact q2⟩
          · exact Or.inr ⟨j, by rw [hb3]; omega, by rw [eo _ (by omega) (by omega)]; exact q1, by rw [eo _ (by omega) (by omega), eo _ (by omega) (by omega)]; exact q2⟩
      · rw [hb3, eo _ (by decide) (by omega), eo _ (by decide) (by omega), eo _ (by decide) (by omega), eo _ (by decide) (by omega), heN_s, heN_congr (N := N) _ (fun j hj => hv_congr (eo _ (by omega) (by omega)) (eo _ (by omega) (by omega))), hv_t (Or.inl (er 5 (by decide))), show baN N (nbN N) (nI m) (22 + 11 * nbN N + 2) = 0 from er 2 (by decide), Int32.add_zero]
        exact h.led
  · exact OkS.no
theorem ok_letter {N : NA} (h : IN N) (s r : Int32) : OkS (S_letter N s r) := by
  have hn := h.cn.1
  have hn2 := h.cn.2.2.1
  unfold S_letter
  split
  · rename_i hr
    obtain ⟨m, hm1, hm, rfl⟩ := in1_of (by decide) (by decide) hr
    split
    · rename_i hr2
      obtain ⟨k, hk, rfl⟩ := in_of (m := 2) (by decide) hr2
      split
      · exact OkS.no
      · rename_i h6
        rw [h.cn.2.2.2] at h6 ⊢
        have hlt : nlN N < 24 := by
          by_cases e : nlN N = 24
          · exact absurd (by rw [e]) h6
          · omega
        rw [nI_clamp (show nlN N < 2 ^ 31 by omega)]
        have eo : ∀ q, q ≠ 4 → ¬ (88 + 4 * nlN N ≤ q ∧ q < 88 + 4 * nlN N + 4) → leN N (nlN N) (nI m) (nI k) q = N q := fun q q1 q2 => leN_o _ _ _ _ q1 q2
        have e4 : leN N (nlN N) (nI m) (nI k) 4 = nI (nlN N + 1) := by
          unfold leN
          rw [upN_ne _ _ _ (by omega), upN_ne _ _ _ (by omega), upN_ne _ _ _ (by omega), upN_ne _ _ _ (by omega), upN_eq, h.cn.2.2.2, nI_s1]
        have hb3 : nbN (leN N (nlN N) (nI m) (nI k)) = nbN N := congrArg Int32.toNatClampNeg (eo 3 (by decide) (by omega))
        have hb4 : nlN (leN N (nlN N) (nI m) (nI k)) = nlN N + 1 := by
          show Int32.toNatClampNeg _ = _
          rw [e4, nI_clamp (by omega)]
        refine OkS.mk ⟨⟨?_, ?_, ?_, ?_⟩, ?_, ?_, fun k hk => ?_, fun i hi => ?_, fun l hl => ?_, ?_⟩ (by rw [m1m]; exact NF.n (by omega))
        · rw [hb3]
          omega
        · rw [hb3, eo _ (by decide) (by omega)]
          exact h.cn.2.1
        · rw [hb4]
          omega
        · rw [hb4]
          exact e4
        · rw [eo _ (by decide) (by omega)]
          exact h.2.1
        · rw [eo _ (by decide) (by omega)]
          exact h.2.2.1
        · rw [eo _ (by omega) (by omega), eo _ (by omega) (by omega)]
          exact h.2.2.2.1 k hk
        · rw [hb3] at hi
          exact (h.b hi).congr (fun w hw => eo _ (by omega) (by omega))
        · rw [hb4] at hl
          by_cases e : l = nlN N
          · subst e
            refine ⟨⟨m, hm1, hm, ?_⟩, ⟨k, hk, ?_⟩, Or.inl ⟨?_, ?_⟩⟩
            · unfold leN
              rw [upN_ne _ _ _ (by omega), upN_ne _ _ _ (by omega), upN_ne _ _ _ (by omega), upN_eq]
            · unfold leN
              rw [upN_ne _ _ _ (by omega), upN_ne _ _ _ (by omega), upN_eq]
            · unfold leN
              rw [upN_ne _ _ _ (by omega), upN_eq]
              rfl
            · unfold leN
              rw [upN_eq]
          · have hL := h.l (l := l) (by omega)
            refine ⟨?_, ?_, ?_⟩
            · rw [eo _ (by omega) (by omega)]
              exact hL.1
            · rw [eo _ (by omega) (by omega)]
              exact hL.2.1
            · exact hL.2.2.congr hb3 (eo _ (by omega) (by omega)) (eo _ (by omega) (by omega)) (fun j hj => by rw [eo _ (by omega) (by omega)])
        · rw [hb3, eo _ (by decide) (by omega), eo _ (by decide) (by omega), eo _ (by decide) (by omega), eo _ (by decide) (by omega), heN_congr (N := N) _ (fun j hj => hv_congr (eo _ (by omega) (by omega)) (eo _ (by omega) (by omega)))]
          exact h.led
    · exact OkS.no
  · exact OkS.no
/-- loading one after another -/
theorem la_ok {j nl : Nat} : ∀ (ls : List Nat) (M : NA), IN M → j < nbN M → M (22 + 11 * j + 5) = 0 → ls.Nodup → (∀ l, l ∈ ls → l < nlN M ∧ M (88 + 4 * l + 2) = 0) → IN (laF j nl M ls).1 ∧ (laF j nl M ls).2 ≤ ls.length
  | [], M, h, _, _, _, _ => ⟨h, Nat.le_refl _⟩
  | l :: ls, M, h, hj, h5, hd, hw => by
    have hn := h.cn.1
    have hl := hw l List.mem_cons_self
    unfold laF
    split
    · have h2 := h.ld hl.1 hj h5
      obtain ⟨i1, i2⟩ := la_ok (j := j) (nl := nl) ls (ldN M l (nI j)) h2 (by rw [ld_nb]; exact hj) (by rw [ldN_o _ _ _ (by omega) (by omega)]; exact h5) (List.nodup_cons.mp hd).2 (fun x hx => by
        have hx2 := hw x (List.mem_cons_of_mem _ hx)
        have hne : x ≠ l := fun e => (List.nodup_cons.mp hd).1 (e ▸ hx)
        exact ⟨by rw [ld_nl]; exact hx2.1, by rw [ldN_o _ _ _ (by omega) (by omega)]; exact hx2.2⟩)
      exact ⟨i1, by show _ + 1 ≤ _; simp only [List.length_cons]; omega⟩
    · obtain ⟨i1, i2⟩ := la_ok (j := j) (nl := nl) ls M h hj h5 (List.nodup_cons.mp hd).2 (fun x hx => hw x (List.mem_cons_of_mem _ hx))
      exact ⟨i1, by simp only [List.length_cons]; omega⟩
theorem ok_loadAll {N : NA} (h : IN N) (b : Int32) : OkS (S_loadAll N b) := by
  have hn := h.cn.1
  have hn2 := h.cn.2.2.1
  unfold S_loadAll
  split
  · rename_i hb
    obtain ⟨j, hj, rfl⟩ := h.isB hb
    unfold bk
    rw [nI_clamp (show j < 2 ^ 31 by omega)]
    split
    · rename_i h5
      obtain ⟨i1, i2⟩ := la_ok (j := j) (nl := nlN N) (WL N (nlN N)) N h hj h5 (WL_nodup _ _) (fun l hl => WL_mem hl)
      have := WL_len N (nlN N)
      exact OkS.mk i1 (NF.n (by omega))
    · exact OkS.no
  · exact OkS.no
theorem land_led {a b c d x y e : Int32} (h : a = b + c + d + x) (hr : y + e = x + 0) : a = b + (c + e) + d + y ∧ a = b + c + (d + e) + y := by
  rw [Int32.add_zero] at hr
  rw [h, ← hr]
  exact ⟨by ac_rfl, by ac_rfl⟩
theorem IN.fl {N : NA} (h : IN N) {j : Nat} (hj : j < nbN N) (h5 : N (22 + 11 * j + 5) = nI 1) : IN (flN N j (nlN N)) := by
  have hn := h.cn.1
  have hM := fl_R N (show j < 6 by omega) (nlN N)
  obtain ⟨M, eM⟩ : ∃ M, M = flN N j (nlN N) := ⟨_, rfl⟩
  rw [← eM] at hM ⊢
  obtain ⟨hC, e3, e4⟩ := h.cn.of (hM.rest 3 (by decide) (by decide) (by decide) (by decide)) (hM.rest 4 (by decide) (by decide) (by decide) (by decide))
  obtain ⟨⟨s, f, hs1, hs2, hf, es, ef⟩, ⟨a, ha, ea⟩, ⟨k, w, hk, hw, ek, ew⟩, hst⟩ := h.b hj
  refine ⟨hC, ?_, ?_, fun k hk => ?_, fun i hi => ?_, fun l hl => ?_, ?_⟩
  · rw [hM.rest 1 (by decide) (by decide) (by decide) (by decide)]
    exact h.2.1
  · rw [hM.rest 2 (by decide) (by decide) (by decide) (by decide)]
    exact h.2.2.1
  · rw [hM.rest _ (by omega) (by omega) (by omega) (by omega), hM.rest _ (by omega) (by omega) (by omega) (by omega)]
    exact h.2.2.2.1 k hk
  · rw [e3] at hi
    by_cases e : i = j
    · subst e
      refine ⟨⟨s, f - (f + 19) / 20, hs1, hs2, by omega, ?_, ?_⟩, ⟨a, ha, ?_⟩, ⟨k, w, hk, hw, ?_, ?_⟩, ?_⟩
      · rw [hM.own 0 (by decide) (Or.inl rfl)]
        exact es
      · rw [hM.gas]
        unfold lkN
        rw [ef, nI_add, pk_div (by omega) (by decide) (by decide), pk_sub (by omega)]
      · rw [hM.own 2 (by decide) (by decide)]
        exact ea
      · rw [hM.own 3 (by decide) (by decide)]
        exact ek
      · rw [hM.own 4 (by decide) (by decide)]
        exact ew
      · rcases hM.st with q | q | q
        · exact ⟨1, by decide, q.1.trans h5⟩
        · exact ⟨2, by decide, q.1⟩
        · exact ⟨3, by decide, q.1⟩
    · exact (h.b hi).congr (fun w hw => hM.rows i e w (by omega) (by omega))
  · rw [e4] at hl
    have hL := h.l hl
    refine ⟨?_, ?_, ?_⟩
    · have := hM.lets l 0 (by decide) (by decide)
      rw [show M (88 + 4 * l) = N (88 + 4 * l) from this]
      exact hL.1
    · rw [hM.lets l 1 (by decide) (by decide)]
      exact hL.2.1
    · have e3l := hM.lets l 3 (by decide) (by decide)
      rcases hL.2.2 with ⟨q1, q2⟩ | ⟨i, hi, q1, q2⟩
      · refine Or.inl ⟨?_, e3l.trans q2⟩
        have h01 : ¬ (N (88 + 4 * l + 2) = nI 1 ∧ N (88 + 4 * l + 3) = nI j) := fun z => absurd (q1.symm.trans z.1) (by decide)
        rcases hM.st with q | q | q
        · rw [q.2.2.2 l]
          exact q1
        · rw [q.2.2.2.2 l hl, if_neg h01]
          exact q1
        · rw [q.2.2.2 l hl, if_neg h01]
          exact q1
      · refine Or.inr ⟨i, by rw [e3]; exact hi, e3l.trans q1, ?_⟩
        by_cases e : i = j
        · subst e
          have e1 : N (88 + 4 * l + 2) = nI 1 := by
            rw [q2, h5]
            decide
          rcases hM.st with q | q | q
          · rw [q.2.2.2 l, q.1]
            exact q2
          · rw [q.2.2.2.2 l hl, if_pos ⟨e1, q1⟩, q.1]
            decide
          · rw [q.2.2.2 l hl, if_pos ⟨e1, q1⟩, q.1]
            decide
        · have h01 : ¬ (N (88 + 4 * l + 2) = nI 1 ∧ N (88 + 4 * l + 3) = nI j) := fun z => nI_ne (by omega) (by omega) e (q1.symm.trans z.2)
          have e5 := hM.rows i e 5 (by decide) (by omega)
          rw [e5, ← q2]
          rcases hM.st with q | q | q
          · rw [q.2.2.2 l]
          · rw [q.2.2.2.2 l hl, if_neg h01]
          · rw [q.2.2.2 l hl, if_neg h01]
  · have hr := heN_row (N := N) (M := M) (nbN N) hj (fun i hi hne => hv_congr (hM.rows i hne 2 (by decide) (by omega)) (hM.rows i hne 5 (by decide) (by omega)))
    have h5M := hM.rest 5 (by decide) (by decide) (by decide) (by decide)
    have h6M := hM.rest 6 (by decide) (by decide) (by decide) (by decide)
    rw [e3, h5M, h6M]
    rcases hM.st with q | q | q
    · rw [hv_t (Or.inr h5), hv_t (Or.inr (q.1.trans h5)), hM.own 2 (by decide) (by decide)] at hr
      rw [q.2.1, q.2.2.1, add_cR hr]
      exact h.led
    · rw [hv_t (Or.inr h5), hv_f (N := M) (by rw [q.1]; decide)] at hr
      rw [q.2.1, q.2.2.1]
      exact (land_led h.led hr).1
    · rw [hv_t (Or.inr h5), hv_f (N := M) (by rw [q.1]; decide)] at hr
      rw [q.2.1, q.2.2.1]
      exact (land_led h.led hr).2
theorem go_ok {N : NA} (h : IN N) : ∀ n, n ≤ nbN N → IN (goL N (nlN N) n).1 ∧ nbN (goL N (nlN N) n).1 = nbN N ∧ nlN (goL N (nlN N) n).1 = nlN N ∧ ∃ m : Nat, m ≤ n ∧ (goL N (nlN N) n).2 = nI m
  | 0, _ => ⟨h, rfl, rfl, 0, Nat.le_refl _, rfl⟩
  | n + 1, hn => by
    obtain ⟨i1, i2, i3, m, hm, em⟩ := go_ok h n (by omega)
    have hn6 := h.cn.1
    by_cases q : (goL N (nlN N) n).1 (22 + 11 * n + 5) = nI 1
    · rw [goL_t q]
      have hf := i1.fl (j := n) (by rw [i2]; omega) q
      rw [i3] at hf
      have hR := fl_R (goL N (nlN N) n).1 (show n < 6 by omega) (nlN N)
      obtain ⟨_, a1, a2⟩ := i1.cn.of (hR.rest 3 (by decide) (by decide) (by decide) (by decide)) (hR.rest 4 (by decide) (by decide) (by decide) (by decide))
      refine ⟨hf, a1.trans i2, a2.trans i3, ?_⟩
      show ∃ m : Nat, m ≤ n + 1 ∧ (ite _ _ _) = nI m
      split
      · exact ⟨m + 1, by omega, by rw [em, nI_s1]⟩
      · exact ⟨m, by omega, em⟩
    · rw [goL_f q]
      exact ⟨i1, i2, i3, m, by omega, em⟩
theorem ps_ok {N : NA} (h : IN N) : ∀ n, IN (psL N (nbN N) (nlN N) n).1 ∧ nbN (psL N (nbN N) (nlN N) n).1 = nbN N ∧ nlN (psL N (nbN N) (nlN N) n).1 = nlN N ∧ ∃ m : Nat, m ≤ 6 * n ∧ (psL N (nbN N) (nlN N) n).2 = nI m
  | 0 => ⟨h, rfl, rfl, 0, Nat.le_refl _, rfl⟩
  | n + 1 => by
    obtain ⟨i1, i2, i3, m, hm, em⟩ := ps_ok h n
    have hn6 := h.cn.1
    obtain ⟨g1, g2, g3, m2, hm2, em2⟩ := go_ok i1 (nbN (psL N (nbN N) (nlN N) n).1) (Nat.le_refl _)
    rw [i2, i3] at g1 g2 g3 em2
    have eo : ∀ k, k ≠ 0 → upN (goL (psL N (nbN N) (nlN N) n).1 (nlN N) (nbN N)).1 0 ((goL (psL N (nbN N) (nlN N) n).1 (nlN N) (nbN N)).1 0 + nI 1) k = (goL (psL N (nbN N) (nlN N) n).1 (nlN N) (nbN N)).1 k := fun k hk => upN_ne _ _ _ hk
    obtain ⟨_, a1, a2⟩ := g1.cn.of (eo 3 (by decide)) (eo 4 (by decide))
    refine ⟨g1.low (fun k hk => eo k (by omega)) (eo 3 (by decide)) (eo 4 (by decide)) ?_ ?_ (fun k hk => ?_) (eo 5 (by decide)) (eo 6 (by decide)) (eo 7 (by decide)) (eo 8 (by decide)), a1.trans g2, a2.trans g3, m + m2, ?_, ?_⟩
    · obtain ⟨r, r1, r2, r3⟩ := g1.2.1
      exact ⟨r, r1, r2, (eo 1 (by decide)).trans r3⟩
    · obtain ⟨r, r1, r3⟩ := g1.2.2.1
      exact ⟨r, r1, (eo 2 (by decide)).trans r3⟩
    · have w := g1.2.2.2.1 k hk
      rw [← eo (10 + 2 * k) (by omega), ← eo (10 + 2 * k + 1) (by omega)] at w
      exact w
    · rw [i2] at hm2
      omega
    · show (psL N (nbN N) (nlN N) n).2 + (goL (psL N (nbN N) (nlN N) n).1 (nlN N) (nbN N)).2 = _
      rw [em, em2, nI_add]
theorem ok_passes {N : NA} (h : IN N) (x : Int32) : OkS (S_passes N x) := by
  unfold S_passes
  split
  · rename_i hr
    obtain ⟨k, hk1, hk, rfl⟩ := in1_of (by decide) (by decide) hr
    rw [nI_clamp (show k < 2 ^ 31 by omega)]
    obtain ⟨i1, _, _, m, hm, em⟩ := ps_ok h k
    show OkS (.inl ((psL N (nbN N) (nlN N) k).2, (psL N (nbN N) (nlN N) k).1))
    rw [em]
    exact OkS.mk i1 (NF.n (by omega))
  · exact OkS.no
theorem ok_order {N : NA} (h : IN N) (o : Ord) : OkS (S_ord N o) := by
  unfold S_ord
  split
  · exact ok_fills h _ _
  · split
    · exact ok_lays h _ _
    · split
      · exact ok_drops h _ _
      · split
        · exact ok_loads h _ _
        · split
          · exact ok_launches h _
          · split
            · exact ok_passes h _
            · exact ok_blows h _ _ _
theorem ok_exL : ∀ (os : List Ord) {N M : NA}, IN N → exL N os = .inl M → IN M
  | [], N, M, h, e => by
    cases e
    exact h
  | o :: os, N, M, h, e => by
    simp only [exL] at e
    split at e
    · rename_i q hq
      exact ok_exL os ((ok_order h o) q hq).1 e
    · cases e
