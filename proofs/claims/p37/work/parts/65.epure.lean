/-! THE FIRST OBJECT: what its numbers are at each step, and the answers -/
theorem IN.congr {N M : NA} (h : IN N) (hk : ∀ k, k < 184 → M k = N k) : IN M := by
  obtain ⟨⟨c1, c2, c3, c4⟩, h1, h2, h3, h4, h5, h6⟩ := h
  have e3 : nbN M = nbN N := by
    unfold nbN
    rw [hk 3 (by decide)]
  have e4 : nlN M = nlN N := by
    unfold nlN
    rw [hk 4 (by decide)]
  refine ⟨⟨by rw [e3]; exact c1, by rw [e3, hk 3 (by decide)]; exact c2, by rw [e4]; exact c3, by rw [e4, hk 4 (by decide)]; exact c4⟩, ?_, ?_, fun h hh => ?_, fun j hj => ?_, fun l hl => ?_, ?_⟩
  · rw [hk 1 (by decide)]
    exact h1
  · rw [hk 2 (by decide)]
    exact h2
  · rw [hk _ (by omega), hk _ (by omega)]
    exact h3 h hh
  · rw [e3] at hj
    exact (h4 j hj).congr (fun w hw => hk _ (by omega))
  · rw [e4] at hl
    obtain ⟨q1, q2, q3⟩ := h5 l hl
    refine ⟨?_, ?_, q3.congr e3 (hk _ (by omega)) (hk _ (by omega)) (fun j hj => by rw [hk _ (by omega)])⟩
    · rw [hk _ (by omega)]
      exact q1
    · rw [hk _ (by omega)]
      exact q2
  · rw [e3, hk 5 (by decide), hk 6 (by decide), hk 7 (by decide), hk 8 (by decide), heN_congr (N := N) _ (fun j hj => hv_congr (hk _ (by omega)) (hk _ (by omega)))]
    exact h6
theorem CA.congr {c : CC} {N M : NA} {h : List NA} {s : Option NA} {n : Nat} {t : NA} {e : Int32} {w : Int32 × Int32} (H : CA c (N, h, s, n, t, e, w)) (hk : ∀ k, k < 184 → M k = N k) : CA c (M, h, s, n, t, e, w) := by
  obtain ⟨h1, h2, h3⟩ := H
  exact ⟨h1.congr hk, RelT.congr h1.cn.1 h1.cn.2.2.1 (fun _ _ _ => rfl) (fun _ _ => ⟨rfl, rfl⟩) (fun _ _ _ _ => rfl) (fun _ _ _ _ => rfl) hk h2, h3⟩
/-- a change comes off with answer v and leaves E -/
def okR (R : OR) (v : Int32) (E : NA) : Bool := match R with
  | .inl q => q.1 == v && (List.range 184).all (fun k => E k == q.2 k)
  | .inr _ => false
def refR (R : OR) (q : Int32 × Int32) : Bool := match R with
  | .inr (.inl p) => p == q
  | _ => false
def okV (R : OR) (v : Int32) : Bool := match R with
  | .inl q => q.1 == v
  | .inr _ => false
def getN (R : OR) : NA := match R with
  | .inl q => q.2
  | .inr _ => fun _ => 0
theorem okR.get {R : OR} {v : Int32} {E : NA} (h : okR R v E = true) : ∃ N', R = .inl (v, N') ∧ ∀ k, k < 184 → E k = N' k := by
  rcases R with ⟨a, N'⟩ | x
  · unfold okR at h
    rw [Bool.and_eq_true] at h
    have h1 : a = v := beq_iff_eq.mp h.1
    subst h1
    exact ⟨N', rfl, fun k hk => beq_iff_eq.mp (List.all_eq_true.mp h.2 k (List.mem_range.mpr hk))⟩
  · cases h
theorem okV.get {R : OR} {v : Int32} (h : okV R v = true) : R = .inl (v, getN R) := by
  rcases R with ⟨a, N'⟩ | x
  · have h1 : a = v := beq_iff_eq.mp h
    subst h1
    rfl
  · cases h
theorem refR.get {R : OR} {q : Int32 × Int32} (h : refR R q = true) : R = .inr (.inl q) := by
  rcases R with ⟨a, N'⟩ | x | k
  · cases h
  · exact congrArg (fun y => Sum.inr (Sum.inl y)) (beq_iff_eq.mp h)
  · cases h
/-- the first object's state: its numbers N, m towns behind, the snapshot, the latest refusal -/
def ES (N : NA) (m : Nat) (sn : Option NA) (w : Int32 × Int32) (c : CC) : Prop := ∃ h t e, h.length = m ∧ CA c (N, h, sn, 0, t, e, w)
section ESQ
variable {M : MT} {as : List Value} {c : CC} {od : Int64 × UInt64} {N : NA} {m : Nat} {sn : Option NA} {w : Int32 × Int32} {R : OR} {v : Int32} {E : NA}
theorem es_ok (n : Nat) (hR : okR R v E = true) (hE : ES N m sn w c) (hx : ∀ h t e, CA c (N, h, sn, 0, t, e, w) → CM M as (c, od) (PI (HP od (stepC (N, h, sn, 0, t, e, w) R (n + 1))))) : CM M as (c, od) (PI fun r σ' => r = v ∧ ∃ c', σ' = (c', od) ∧ ES E (min 8 (m + 1)) sn w c') := by
  obtain ⟨h, t, e, hm, H⟩ := hE
  obtain ⟨N', rfl, hk⟩ := okR.get hR
  refine CM.mono (hx h t e H) (fun o s q => ?_)
  obtain ⟨r, h1, c', h2, h3, h4⟩ := q
  exact ⟨r, h1, h4, c', h2, (N :: h).take 8, t, e, by rw [List.length_take, List.length_cons, hm], CA.congr h3 hk⟩
theorem es_ov (n : Nat) (hR : okV R v = true) (hE : ES N m sn w c) (hx : ∀ h t e, CA c (N, h, sn, 0, t, e, w) → CM M as (c, od) (PI (HP od (stepC (N, h, sn, 0, t, e, w) R (n + 1))))) : CM M as (c, od) (PI fun r σ' => r = v ∧ ∃ c', σ' = (c', od) ∧ ES (getN R) (min 8 (m + 1)) sn w c') := by
  obtain ⟨h, t, e, hm, H⟩ := hE
  have h9 := hx h t e H
  rw [okV.get hR] at h9
  refine CM.mono h9 (fun o s q => ?_)
  obtain ⟨r, h1, c', h2, h3, h4⟩ := q
  exact ⟨r, h1, h4, c', h2, (N :: h).take 8, t, e, by rw [List.length_take, List.length_cons, hm], h3⟩
theorem es_ref (n : Nat) {q : Int32 × Int32} (hR : refR R q = true) (hE : ES N m sn w c) (hx : ∀ h t e, CA c (N, h, sn, 0, t, e, w) → CM M as (c, od) (PI (HP od (stepC (N, h, sn, 0, t, e, w) R (n + 1))))) : CM M as (c, od) (PI fun r σ' => r = cdI n ∧ ∃ c', σ' = (c', od) ∧ ES N m sn q c') := by
  obtain ⟨h, t, e, hm, H⟩ := hE
  have h9 := hx h t e H
  rw [refR.get hR] at h9
  refine CM.mono h9 (fun o s q => ?_)
  obtain ⟨r, h1, c', h2, h3, h4⟩ := q
  exact ⟨r, h1, h4, c', h2, h, t, e, hm, h3⟩
theorem es_q (hE : ES N m sn w c) (hx : ∀ h t e, h.length = m → CA c (N, h, sn, 0, t, e, w) → CM M as (c, od) (PI (QP od (N, h, sn, 0, t, e, w) v))) : CM M as (c, od) (PI fun r σ' => r = v ∧ ∃ c', σ' = (c', od) ∧ ES N m sn w c') := by
  obtain ⟨h, t, e, hm, H⟩ := hE
  refine CM.mono (hx h t e hm H) (fun o s q => ?_)
  obtain ⟨r, h1, c', h2, h3, h4⟩ := q
  exact ⟨r, h1, h4, c', h2, h, t, e, hm, h3⟩
end ESQ
/-- hour, gas, full balloons, the next one's stage, letters, ballast of the first; letters aboard (1: aboard, as many as loadAll takes) and the first one's state -/
def eN (hr g nb p nl b2 la s0 : Nat) : NA := fun k =>
  if k = 0 then nI hr else if k = 1 then nI 5 else if k = 2 then nI g else if k = 3 then nI (if p = 0 then nb else nb + 1) else if k = 4 then nI nl else if k = 5 then nI b2
  else if k < 22 then 0
  else if k < 88 then
    (if (k - 22) / 11 < nb then (match (k - 22) % 11 with
      | 0 => nI 99
      | 1 => nI 99
      | 2 => if (k - 22) / 11 = 0 then nI b2 else 0
      | 3 => nI 2
      | 4 => nI 17
      | 5 => if (k - 22) / 11 = 0 then nI s0 else 0
      | 6 => nI 20
      | 7 => nI 20
      | _ => 0)
    else if (k - 22) / 11 = nb ∧ 0 < p then (match (k - 22) % 11 with
      | 0 => nI 99
      | 1 => if 2 ≤ p then nI 99 else 0
      | 3 => if p = 3 then nI 1 else 0
      | 4 => if p = 3 then nI 12 else 0
      | 6 => nI 20
      | 7 => nI 20
      | _ => 0)
    else 0)
  else if k < 184 then
    (if (k - 88) / 4 < nl then (match (k - 88) % 4 with
      | 0 => nI 9
      | 1 => nI ((k - 88) / 4 % 3)
      | 2 => if la = 1 ∧ (k - 88) / 4 % 3 = 2 ∧ (k - 88) / 4 < 21 then nI 1 else 0
      | _ => if la = 1 ∧ (k - 88) / 4 % 3 = 2 ∧ (k - 88) / 4 < 21 then 0 else (-1 : Int32))
    else 0)
  else 0
def gg (i : Nat) : Nat := min 9999 (1099 + 999 * i)
def E0 : NA := eN 0 100 0 0 0 0 0 0
theorem e_pass : okR (S_passes E0 (nI 48)) 0 (eN 48 100 0 0 0 0 0 0) = true := by decide +kernel
theorem e_gas0 : okR (S_gas (eN 48 100 0 0 0 0 0 0) (nI 999)) (nI 1099) (eN 48 (gg 0) 0 0 0 0 0 0) = true := by decide +kernel
theorem e_gas : ∀ i, i < 10 → okR (S_gas (eN 48 (gg i) 0 0 0 0 0 0) (nI 999)) (nI (gg (i + 1))) (eN 48 (gg (i + 1)) 0 0 0 0 0 0) = true := by decide +kernel
theorem e_gasv : ∀ i, i < 10 → (if nI 2098 + nI 999 * nI i < nI 9999 then nI 2098 + nI 999 * nI i else nI 9999) = nI (gg (i + 1)) := by decide +kernel
def gb (i : Nat) : Nat := 9999 - 99 * i
theorem e_bal : ∀ i, i < 6 → okR (S_balloon (eN 48 (gb i) i 0 0 0 0 0) (nI 99)) (nI i) (eN 48 (gb i) i 1 0 0 0 0) = true := by decide +kernel
theorem e_fil : ∀ i, i < 6 → okR (S_fills (eN 48 (gb i) i 1 0 0 0 0) (nI i) (nI 99)) (nI 99) (eN 48 (gb (i + 1)) i 2 0 0 0 0) = true := by decide +kernel
theorem e_co1 : ∀ i, i < 6 → okR (S_courier (eN 48 (gb (i + 1)) i 2 0 0 0 0) (nI i) (nI 12)) (nI 1) (eN 48 (gb (i + 1)) i 3 0 0 0 0) = true := by decide +kernel
theorem e_co2 : ∀ i, i < 6 → okR (S_courier (eN 48 (gb (i + 1)) i 3 0 0 0 0) (nI i) (nI 5)) (nI 2) (eN 48 (gb (i + 1)) (i + 1) 0 0 0 0 0) = true := by decide +kernel
theorem e_let : ∀ i, i < 24 → okR (S_letter (eN 48 9405 6 0 i 0 0 0) (nI 9) (nI i - nI i / nI 3 * nI 3)) (nI i) (eN 48 9405 6 0 (i + 1) 0 0 0) = true := by decide +kernel
def E6 : NA := eN 48 9405 6 0 24 0 0 0
def E7 : NA := eN 48 9405 6 0 24 50 0 0
def E8 : NA := eN 48 9405 6 0 24 50 1 0
def E9 : NA := eN 48 9405 6 0 24 50 1 1
theorem e6_bal : refR (S_balloon E6 (nI 10)) (nI 1, nI 6) = true := by decide +kernel
theorem e6_let : refR (S_letter E6 (nI 1) (nI 0)) (nI 1, nI 24) = true := by decide +kernel
theorem e6_cou : refR (S_courier E6 (nI 0) (nI 5)) (nI 1, nI 2) = true := by decide +kernel
theorem e6_fil : refR (S_fills E6 (nI 0) (nI 1)) (nI 5, nI 0) = true := by decide +kernel
theorem e6_lay : okR (S_lays E6 (nI 0) (nI 50)) (nI 50) E7 = true := by decide +kernel
theorem e7_lay : refR (S_lays E7 (nI 0) (nI 1)) (nI 6, nI 0) = true := by decide +kernel
theorem e7_all : okR (S_loadAll E7 (nI 0)) (nI 7) E8 = true := by decide +kernel
theorem e8_lau : okR (S_launches E8 (nI 0)) (nI 1) E9 = true := by decide +kernel
theorem e9_lau : refR (S_launches E9 (nI 0)) (nI 2, nI 0) = true := by decide +kernel
theorem e9_all : refR (S_loadAll E9 (nI 0)) (nI 2, nI 0) = true := by decide +kernel
theorem e9_loa : refR (S_loads E9 (nI 2) (nI 1)) (nI 8, nI 2) = true := by decide +kernel
theorem e9_pas : okV (S_passes E9 (nI 1)) (nI 0) = true := by decide +kernel
def EA : NA := getN (S_passes E9 (nI 1))
theorem q6_2 : hq (Q_acc E6 (nI 0) (nI 8) (nI 2)) = nI 9405 := by decide +kernel
theorem q7_20 : hq (Q_acc E7 (nI 0) (nI 8) (nI 20)) = nI 8 := by decide +kernel
theorem q0_0 : hq (Q_acc (eN 48 100 0 0 0 0 0 0) (nI 0) (nI 1) (nI 0)) = nI 48 := by decide +kernel
theorem qz_0 : hq (Q_acc E0 (nI 0) (nI 0) (nI 0)) = nI 0 := by decide +kernel
theorem qz_2 : hq (Q_acc E0 (nI 0) (nI 0) (nI 2)) = nI 100 := by decide +kernel
theorem q7_b : hq (Q_balloonOf E7 (nI 0) (nI 5)) = nI 77 := by decide +kernel
theorem q7_w0 : hq (Q_waiting E7 (nI 0)) = nI 2 := by decide +kernel
theorem q7_w8 : hq (Q_waiting E7 (nI 8)) = nI 1 := by decide +kernel
theorem q8_b : hq (Q_balloonOf E8 (nI 0) (nI 6)) = nI 1 := by decide +kernel
theorem q8_w0 : hq (Q_waiting E8 (nI 0)) = nI 23 := by decide +kernel
theorem q9_ei : hq (Q_endsIn E9 (nI 0) 1000) = nI 1 := by decide +kernel
theorem q9_e2 : hq (Q_ends E9 (nI 0) (nI 2) 1000) = nI 3 := by decide +kernel
theorem q9_bd : hqB (Q_bestDrop E9 (nI 0) 1000) = (-1002 : Int32) := by decide +kernel
theorem qA_7 : hq (Q_acc EA (nI 0) (nI 8) (nI 7)) = nI 1 := by decide +kernel
theorem qA_12 : hq (Q_acc EA (nI 0) (nI 8) (nI 12)) = nI 7 := by decide +kernel
theorem qA_17 : hq (Q_acc EA (nI 0) (nI 8) (nI 17)) = nI 50 := by decide +kernel
theorem qA_18 : hq (Q_acc EA (nI 0) (nI 8) (nI 18)) = nI 5 := by decide +kernel
theorem qA_w : hq (Q_word EA (nI 0)) = (-1002 : Int32) := by decide +kernel
theorem qA_b : hq (Q_balloonOf EA (nI 0) (nI 11)) = nI 1 := by decide +kernel
theorem qA_s : hq (Q_sign EA (nI 0)) = nI 120 := by decide +kernel
theorem qA_md : mdB EA = 13875388141788987392 := by decide +kernel
theorem qA_sh : shB EA = 0 := by decide +kernel
