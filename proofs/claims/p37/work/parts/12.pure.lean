-- whole, 12.leaf.lean.txt
def ab (x : Int32) : Int32 := if 0 ≤ x then x else 0 - x
def mx (x y : Int32) : Int32 := if x < y then y else x
def mn (x y : Int32) : Int32 := if y < x then y else x
def far (x y : Int32) : Int32 := mx (ab (x - nI 20)) (ab (y - nI 20))
abbrev NA : Type := Nat → Int32
def upN (N : NA) (k : Nat) (x : Int32) (j : Nat) : Int32 := if j = k then x else N j
theorem upN_eq (N : NA) (k : Nat) (x : Int32) : upN N k x k = x := if_pos rfl
theorem upN_ne (N : NA) (k : Nat) (x : Int32) {j : Nat} (h : j ≠ k) : upN N k x j = N j := if_neg h
theorem u2_o (c : CC) {a i : Nat} (k : Nat) (x : Int32) (h : i ≠ a) : u2 c a k x i = c i := by
  funext j
  simp [u2, h]
theorem ge_t {a b : Nat} (ha : a < 2 ^ 31) (hb : b < 2 ^ 31) (h : nI b ≤ nI a) : b ≤ a := (nI_leI hb ha).mp h
theorem ge_f {a b : Nat} (ha : a < 2 ^ 31) (hb : b < 2 ^ 31) (h : ¬ nI b ≤ nI a) : a < b := Nat.not_le.mp fun q => h ((nI_leI hb ha).mpr q)
theorem nI_inc (i : Nat) : nI i + Int32.ofInt 1 = nI (i + 1) := nI_1 i
/-- the sheets of the first n letters that balloon b has -/
def shN (N : NA) (b : Int32) : Nat → Int32
  | 0 => nI 0
  | n + 1 => if 0 < N (88 + 4 * n + 2) ∧ N (88 + 4 * n + 3) = b then shN N b n + N (88 + 4 * n) else shN N b n
def wgN (N : NA) (j nl : Nat) : Int32 := (N (22 + 11 * j + 0) + nI 9) / nI 10 + N (22 + 11 * j + 2) + N (22 + 11 * j + 4) + (shN N (nI j) nl + nI 2) / nI 3
def beN (N : NA) (j nl : Nat) : Int32 := N (22 + 11 * j + 1) - wgN N j nl
-- whole, 13.ops.lean.txt
/-- what an order or a change comes to: done (its answer, the numbers then), refused (reason, detail), or another exception (by its place) -/
abbrev OR : Type := (Int32 × NA) ⊕ (Int32 × Int32) ⊕ Nat
theorem isB_of {nb : Nat} {n b : Int32} (hb : nb ≤ 6) (hc : n = nI nb) (h : nI 0 ≤ b ∧ b ≤ n - nI 1) : ∃ j : Nat, j < nb ∧ b = nI j := by
  subst hc
  obtain ⟨j, hj, rfl⟩ := nI_of (x := b) (by
    have := h.1
    rw [Int32.le_iff_toInt_le] at this
    rw [Int32.lt_iff_toInt_lt]
    have h0 : (nI 0).toInt = 0 := by decide
    have h1 : (0 : Int32).toInt = 0 := by decide
    omega)
  refine ⟨j, ?_, rfl⟩
  have h2 := h.2
  rw [Int32.le_iff_toInt_le, pk_sub_toInt (by omega) (by omega), nI_toInt hj] at h2
  omega
theorem isL_of {nl : Nat} {n b : Int32} (hb : nl ≤ 24) (hc : n = nI nl) (h : nI 0 ≤ b ∧ b ≤ n - nI 1) : ∃ j : Nat, j < nl ∧ b = nI j := by
  subst hc
  obtain ⟨j, hj, rfl⟩ := nI_of (x := b) (by
    have := h.1
    rw [Int32.le_iff_toInt_le] at this
    rw [Int32.lt_iff_toInt_lt]
    have h0 : (nI 0).toInt = 0 := by decide
    have h1 : (0 : Int32).toInt = 0 := by decide
    omega)
  refine ⟨j, ?_, rfl⟩
  have h2 := h.2
  rw [Int32.le_iff_toInt_le, pk_sub_toInt (by omega) (by omega), nI_toInt hj] at h2
  omega
theorem in_of {m : Nat} {x : Int32} (hm : m < 2 ^ 30) (h : nI 0 ≤ x ∧ x ≤ nI m) : ∃ j : Nat, j ≤ m ∧ x = nI j := by
  obtain ⟨j, hj, rfl⟩ := nI_of (x := x) (by
    have := h.1
    rw [Int32.le_iff_toInt_le] at this
    rw [Int32.lt_iff_toInt_lt]
    have h0 : (nI 0).toInt = 0 := by decide
    have h1 : (0 : Int32).toInt = 0 := by decide
    omega)
  exact ⟨j, (nI_leI hj (by omega)).mp h.2, rfl⟩
abbrev isBN (N : NA) (b : Int32) : Prop := nI 0 ≤ b ∧ b ≤ N 3 - nI 1
abbrev isLN (N : NA) (b : Int32) : Prop := nI 0 ≤ b ∧ b ≤ N 4 - nI 1
def S_blows (N : NA) (h x y : Int32) : OR :=
  if nI 0 ≤ h ∧ h ≤ nI 5 then
    if (-3 : Int32) ≤ x ∧ x ≤ nI 3 then
      if (-3 : Int32) ≤ y ∧ y ≤ nI 3 then
        .inl (nI 10 * N (10 + 2 * h.toNatClampNeg) + N (10 + 2 * h.toNatClampNeg + 1), upN (upN N (10 + 2 * h.toNatClampNeg) x) (10 + 2 * h.toNatClampNeg + 1) y)
      else .inr (.inr 2)
    else .inr (.inr 2)
  else .inr (.inr 1)
abbrev bk (b : Int32) (w : Nat) : Nat := 22 + 11 * b.toNatClampNeg + w
def S_fills (N : NA) (b a : Int32) : OR :=
  if isBN N b then
    if nI 1 ≤ a ∧ a ≤ nI 99 then
      if N (bk b 5) = 0 then
        if a ≤ N 2 then
          if a ≤ N (bk b 0) - N (bk b 1) then .inl (N (bk b 1) + a, upN (upN N 2 (N 2 - a)) (bk b 1) (N (bk b 1) + a))
          else .inr (.inl (nI 5, N (bk b 0) - N (bk b 1)))
        else .inr (.inl (nI 4, N 2))
      else .inr (.inl (nI 2, b))
    else .inr (.inr 2)
  else .inr (.inr 1)
def S_lays (N : NA) (b a : Int32) : OR :=
  if isBN N b then
    if nI 1 ≤ a ∧ a ≤ nI 50 then
      if N (bk b 5) = 0 then
        if a ≤ nI 50 - N (bk b 2) then .inl (N (bk b 2) + a, upN (upN N (bk b 2) (N (bk b 2) + a)) 5 (N 5 + a))
        else .inr (.inl (nI 6, nI 50 - N (bk b 2)))
      else .inr (.inl (nI 2, b))
    else .inr (.inr 2)
  else .inr (.inr 1)
def nlN (N : NA) : Nat := (N 4).toNatClampNeg
def S_launches (N : NA) (b : Int32) : OR :=
  if isBN N b then
    if N (bk b 5) = 0 then
      if 0 ≤ beN N b.toNatClampNeg (nlN N) then .inl (beN N b.toNatClampNeg (nlN N), upN N (bk b 5) (nI 1))
      else .inr (.inl (nI 9, -(beN N b.toNatClampNeg (nlN N))))
    else .inr (.inl (nI 2, b))
  else .inr (.inr 1)
def S_drops (N : NA) (b a : Int32) : OR :=
  if isBN N b then
    if nI 1 ≤ a ∧ a ≤ nI 50 then
      if N (bk b 5) = nI 1 then
        if a ≤ N (bk b 2) then .inl (N (bk b 2) - a, upN (upN N (bk b 2) (N (bk b 2) - a)) 6 (N 6 + a))
        else .inr (.inl (nI 7, N (bk b 2)))
      else .inr (.inl (nI 3, b))
    else .inr (.inr 2)
  else .inr (.inr 1)
abbrev lk (l : Int32) (w : Nat) : Nat := 88 + 4 * l.toNatClampNeg + w
def ldN (N : NA) (l : Nat) (b : Int32) : NA := upN (upN N (88 + 4 * l + 2) (nI 1)) (88 + 4 * l + 3) b
def S_loads (N : NA) (l b : Int32) : OR :=
  if isLN N l then
    if isBN N b then
      if N (lk l 2) = 0 then
        if N (bk b 5) = 0 then .inl (wgN (ldN N l.toNatClampNeg b) b.toNatClampNeg (nlN N), ldN N l.toNatClampNeg b)
        else .inr (.inl (nI 2, b))
      else .inr (.inl (nI 8, l))
    else .inr (.inr 1)
  else .inr (.inr 1)
-- whole, 14.fly.lean.txt
/-- the first n letters, those that balloon b has aboard getting the state st -/
def dnL (N : NA) (st b : Int32) : Nat → NA
  | 0 => N
  | n + 1 => if dnL N st b n (88 + 4 * n + 2) = nI 1 then (if dnL N st b n (88 + 4 * n + 3) = b then upN (dnL N st b n) (88 + 4 * n + 2) st else dnL N st b n) else dnL N st b n
theorem dnL_lo (N : NA) (st b : Int32) {k : Nat} (h : k < 88) : ∀ n, dnL N st b n k = N k
  | 0 => rfl
  | n + 1 => by
    unfold dnL
    split
    · split
      · rw [upN_ne _ _ _ (by omega)]
        exact dnL_lo N st b h n
      · exact dnL_lo N st b h n
    · exact dnL_lo N st b h n
def dnN (N : NA) (j : Nat) (st : Int32) (nl : Nat) : NA :=
  let M := upN (upN (upN N (22 + 11 * j + 5) st) (22 + 11 * j + 9) (N 0)) (22 + 11 * j + 10) (nI 0)
  dnL (if st = nI 2 then upN M 7 (M 7 + N (22 + 11 * j + 2)) else upN M 8 (M 8 + N (22 + 11 * j + 2))) st (nI j) nl
def lkN (N : NA) (j : Nat) : Int32 := (N (22 + 11 * j + 1) + nI 19) / nI 20
/-- behind the leak -/
def fl1 (N : NA) (j : Nat) : NA := upN (upN (upN N (22 + 11 * j + 1) (N (22 + 11 * j + 1) - lkN N j)) (22 + 11 * j + 8) (N (22 + 11 * j + 8) + nI 1)) 9 (N 9 + lkN N j)
def htN (N : NA) (j nl : Nat) : Int32 := mn (nI 5) (beN N j nl / nI 4)
/-- behind the drift -/
def fl2 (N : NA) (j nl : Nat) : NA :=
  upN (upN (upN N (22 + 11 * j + 10) (htN N j nl)) (22 + 11 * j + 6) (N (22 + 11 * j + 6) + N (10 + 2 * (htN N j nl).toNatClampNeg))) (22 + 11 * j + 7) (N (22 + 11 * j + 7) + N (10 + 2 * (htN N j nl).toNatClampNeg + 1))
def flN (N : NA) (j nl : Nat) : NA :=
  if 0 ≤ beN (fl1 N j) j nl then
    if nI 0 ≤ fl2 (fl1 N j) j nl (22 + 11 * j + 6) ∧ fl2 (fl1 N j) j nl (22 + 11 * j + 6) ≤ nI 39 then
      if nI 0 ≤ fl2 (fl1 N j) j nl (22 + 11 * j + 7) ∧ fl2 (fl1 N j) j nl (22 + 11 * j + 7) ≤ nI 39 then fl2 (fl1 N j) j nl
      else dnN (fl2 (fl1 N j) j nl) j (nI 3) nl
    else dnN (fl2 (fl1 N j) j nl) j (nI 3) nl
  else dnN (fl1 N j) j (if fl1 N j 1 < far (fl1 N j (22 + 11 * j + 6)) (fl1 N j (22 + 11 * j + 7)) then nI 2 else nI 3) nl
theorem ht_of {N : NA} {j nl : Nat} (h : 0 ≤ beN N j nl) : ∃ k, k ≤ 5 ∧ htN N j nl = nI k := by
  obtain ⟨q, hq, e⟩ := nI_of (x := beN N j nl) (by
    rw [Int32.lt_iff_toInt_lt]
    rw [Int32.le_iff_toInt_le] at h
    omega)
  unfold htN
  rw [e, pk_div hq (by decide) (by decide)]
  unfold mn
  split
  · rename_i h1
    rw [nI_ltI (by omega) (by decide)] at h1
    exact ⟨q / 4, by omega, rfl⟩
  · exact ⟨5, Nat.le_refl _, rfl⟩
theorem dnN_lo (N : NA) (j : Nat) (st : Int32) (nl : Nat) {k : Nat} (h : k < 22) (h7 : k ≠ 7) (h8 : k ≠ 8) : dnN N j st nl k = N k := by
  unfold dnN
  rw [dnL_lo _ _ _ (by omega)]
  split
  · rw [upN_ne _ _ _ h7, upN_ne _ _ _ (by omega), upN_ne _ _ _ (by omega), upN_ne _ _ _ (by omega)]
  · rw [upN_ne _ _ _ h8, upN_ne _ _ _ (by omega), upN_ne _ _ _ (by omega), upN_ne _ _ _ (by omega)]
theorem fl1_lo (N : NA) (j : Nat) {k : Nat} (h : k < 22) (h9 : k ≠ 9) : fl1 N j k = N k := by
  unfold fl1
  rw [upN_ne _ _ _ h9, upN_ne _ _ _ (by omega), upN_ne _ _ _ (by omega)]
theorem fl2_lo (N : NA) (j nl : Nat) {k : Nat} (h : k < 22) : fl2 N j nl k = N k := by
  unfold fl2
  rw [upN_ne _ _ _ (by omega), upN_ne _ _ _ (by omega), upN_ne _ _ _ (by omega)]
theorem flN_lo (N : NA) (j nl : Nat) {k : Nat} (h : k < 22) (h7 : k ≠ 7) (h8 : k ≠ 8) (h9 : k ≠ 9) : flN N j nl k = N k := by
  unfold flN
  split
  · split
    · split
      · rw [fl2_lo _ _ _ h, fl1_lo _ _ h h9]
      · rw [dnN_lo _ _ _ _ h h7 h8, fl2_lo _ _ _ h, fl1_lo _ _ h h9]
    · rw [dnN_lo _ _ _ _ h h7 h8, fl2_lo _ _ _ h, fl1_lo _ _ h h9]
  · rw [dnN_lo _ _ _ _ h h7 h8, fl1_lo _ _ h h9]
/-- an hour of the first n balloons: the numbers, how many landed -/
def goL (N : NA) (nl : Nat) : Nat → NA × Int32
  | 0 => (N, nI 0)
  | n + 1 => if (goL N nl n).1 (22 + 11 * n + 5) = nI 1 then (flN (goL N nl n).1 n nl, if flN (goL N nl n).1 n nl (22 + 11 * n + 5) = nI 2 then (goL N nl n).2 + nI 1 else (goL N nl n).2) else goL N nl n
theorem goL_lo (N : NA) (nl : Nat) {k : Nat} (h : k < 22) (h7 : k ≠ 7) (h8 : k ≠ 8) (h9 : k ≠ 9) : ∀ n, (goL N nl n).1 k = N k
  | 0 => rfl
  | n + 1 => by
    unfold goL
    split
    · show flN _ _ _ k = N k
      rw [flN_lo _ _ _ h h7 h8 h9]
      exact goL_lo N nl h h7 h8 h9 n
    · exact goL_lo N nl h h7 h8 h9 n
def goN (N : NA) (nb nl : Nat) : NA × Int32 := (upN (goL N nl nb).1 0 ((goL N nl nb).1 0 + nI 1), (goL N nl nb).2)
def psL (N : NA) (nb nl : Nat) : Nat → NA × Int32
  | 0 => (N, nI 0)
  | n + 1 => ((goN (psL N nb nl n).1 nb nl).1, (psL N nb nl n).2 + (goN (psL N nb nl n).1 nb nl).2)
theorem psL_lo (N : NA) (nb nl : Nat) {k : Nat} (h : k < 22) (h0 : k ≠ 0) (h7 : k ≠ 7) (h8 : k ≠ 8) (h9 : k ≠ 9) : ∀ n, (psL N nb nl n).1 k = N k
  | 0 => rfl
  | n + 1 => by
    unfold psL
    show upN _ 0 _ k = N k
    rw [upN_ne _ _ _ h0, goL_lo _ _ h h7 h8 h9]
    exact psL_lo N nb nl h h0 h7 h8 h9 n
def S_passes (N : NA) (h : Int32) : OR :=
  if nI 1 ≤ h ∧ h ≤ nI 48 then .inl ((psL N (N 3).toNatClampNeg (nlN N) h.toNatClampNeg).2, (psL N (N 3).toNatClampNeg (nlN N) h.toNatClampNeg).1)
  else .inr (.inr 1)
-- whole, 15.copy.lean.txt
def ctL (p : Nat → Prop) [DecidablePred p] : Nat → Int32
  | 0 => nI 0
  | n + 1 => if p n then ctL p n + nI 1 else ctL p n
theorem nI_inc1 (x : Int32) : x + Int32.ofInt 1 = x + nI 1 := rfl
theorem le_of0 {x : Int32} (h : x ≤ 0) : ¬ 0 < x := by
  rw [Int32.le_iff_toInt_le] at h
  rw [Int32.lt_iff_toInt_lt]
  omega
theorem lt_of0 {x : Int32} (h : ¬ x ≤ 0) : 0 < x := by
  rw [Int32.le_iff_toInt_le] at h
  rw [Int32.lt_iff_toInt_lt]
  omega
abbrev hwP (N : NA) (j : Nat) : Prop := N (22 + 11 * j + 5) = nI 2 ∧ 0 < N (22 + 11 * j + 3)
def woN (N : NA) (j : Nat) : Int32 := N (22 + 11 * j + 9) + (far (N (22 + 11 * j + 6)) (N (22 + 11 * j + 7)) + nI 4) / nI 5
-- whole, 16.pass.lean.txt
theorem in1_of {a m : Nat} {x : Int32} (ha : a < 2 ^ 30) (hm : m < 2 ^ 30) (h : nI a ≤ x ∧ x ≤ nI m) : ∃ j : Nat, a ≤ j ∧ j ≤ m ∧ x = nI j := by
  have h0 : nI 0 ≤ x := by
    have := h.1
    rw [Int32.le_iff_toInt_le, nI_toInt (by omega)] at this ⊢
    omega
  obtain ⟨j, hj, rfl⟩ := in_of hm ⟨h0, h.2⟩
  exact ⟨j, (nI_leI (by omega) (by omega)).mp h.1, hj, rfl⟩
-- whole, 17.waits.lean.txt
/-- the letters below n that wait with rank r -/
def FL (N : NA) (r n : Nat) : List Nat := (List.range n).filter fun l => decide (N (88 + 4 * l + 2) = 0 ∧ N (88 + 4 * l + 1) = nI r)
theorem FL_t {N : NA} {r n : Nat} (h : N (88 + 4 * n + 2) = 0 ∧ N (88 + 4 * n + 1) = nI r) : FL N r (n + 1) = FL N r n ++ [n] := by
  simp [FL, List.range_succ, List.filter_append, h]
theorem FL_f {N : NA} {r n : Nat} (h : ¬ (N (88 + 4 * n + 2) = 0 ∧ N (88 + 4 * n + 1) = nI r)) : FL N r (n + 1) = FL N r n := by
  simp only [FL, List.range_succ, List.filter_append]
  rw [show List.filter (fun l => decide (N (88 + 4 * l + 2) = 0 ∧ N (88 + 4 * l + 1) = nI r)) [n] = [] by simp [h]]
  exact List.append_nil _
theorem FL_split (N : NA) (r i : Nat) : ∀ n, i ≤ n → ∃ t, FL N r n = FL N r i ++ t
  | 0, h => by
    have : i = 0 := by omega
    subst this
    exact ⟨[], (List.append_nil _).symm⟩
  | n + 1, h => by
    by_cases e : i = n + 1
    · subst e
      exact ⟨[], (List.append_nil _).symm⟩
    · obtain ⟨t, ht⟩ := FL_split N r i n (by omega)
      by_cases hp : N (88 + 4 * n + 2) = 0 ∧ N (88 + 4 * n + 1) = nI r
      · exact ⟨t ++ [n], by rw [FL_t hp, ht, List.append_assoc]⟩
      · exact ⟨t, by rw [FL_f hp, ht]⟩
theorem FL_len (N : NA) (r : Nat) : ∀ n, (FL N r n).length ≤ n
  | 0 => Nat.le_refl _
  | n + 1 => by
    by_cases hp : N (88 + 4 * n + 2) = 0 ∧ N (88 + 4 * n + 1) = nI r
    · rw [FL_t hp, List.length_append]
      have := FL_len N r n
      simp
      omega
    · rw [FL_f hp]
      have := FL_len N r n
      omega
/-- the letters that wait, in their order -/
def WL (N : NA) (nl : Nat) : List Nat := FL N 2 nl ++ (FL N 1 nl ++ FL N 0 nl)
def wres (o : Option Nat) : Int32 := match o with
  | some l => nI l
  | none => (-1 : Int32)
theorem FL_at {N : NA} {r i nl : Nat} (pre post : List Nat) (hi : i < nl) (h : N (88 + 4 * i + 2) = 0 ∧ N (88 + 4 * i + 1) = nI r) : (pre ++ (FL N r nl ++ post))[pre.length + (FL N r i).length]? = some i := by
  obtain ⟨t, ht⟩ := FL_split N r (i + 1) nl hi
  rw [ht, FL_t h]
  simp
-- whole, 18.loadall.lean.txt
theorem FL_mem {N : NA} {r l : Nat} : ∀ {n : Nat}, l ∈ FL N r n ↔ l < n ∧ N (88 + 4 * l + 2) = 0 ∧ N (88 + 4 * l + 1) = nI r := by
  intro n
  simp [FL]
theorem FL_nodup (N : NA) (r n : Nat) : (FL N r n).Nodup := List.Pairwise.filter _ List.nodup_range
theorem WL_mem {N : NA} {nl l : Nat} (h : l ∈ WL N nl) : l < nl ∧ N (88 + 4 * l + 2) = 0 := by
  rcases List.mem_append.mp h with h | h
  · exact ⟨(FL_mem.mp h).1, (FL_mem.mp h).2.1⟩
  · rcases List.mem_append.mp h with h | h
    · exact ⟨(FL_mem.mp h).1, (FL_mem.mp h).2.1⟩
    · exact ⟨(FL_mem.mp h).1, (FL_mem.mp h).2.1⟩
theorem nI_ne {a b : Nat} (ha : a < 2 ^ 31) (hb : b < 2 ^ 31) (h : a ≠ b) : nI a ≠ nI b := fun q => h ((nI_eq ha hb).mp q)
theorem WL_nodup (N : NA) (nl : Nat) : (WL N nl).Nodup := by
  have hd : ∀ {r s : Nat}, r < 3 → s < 3 → r ≠ s → ∀ l, l ∈ FL N r nl → l ∉ FL N s nl := by
    intro r s hr hs hrs l h1 h2
    exact nI_ne (by omega) (by omega) hrs ((FL_mem.mp h1).2.2.symm.trans (FL_mem.mp h2).2.2)
  unfold WL
  rw [List.nodup_append, List.nodup_append]
  refine ⟨FL_nodup _ _ _, ⟨FL_nodup _ _ _, FL_nodup _ _ _, fun a ha b hb e => ?_⟩, fun a ha b hb e => ?_⟩
  · subst e
    exact hd (by decide) (by decide) (by decide) a ha hb
  · subst e
    rcases List.mem_append.mp hb with hb | hb
    · exact hd (by decide) (by decide) (by decide) a ha hb
    · exact hd (by decide) (by decide) (by decide) a ha hb
theorem ldN_2 (N : NA) (l : Nat) (b : Int32) : ldN N l b (88 + 4 * l + 2) = nI 1 := by
  unfold ldN
  rw [upN_ne _ _ _ (by omega), upN_eq]
/-- the letters of a list gone through: each is loaded into balloon j if it is borne -/
def laF (j nl : Nat) : NA → List Nat → NA × Nat
  | N, [] => (N, 0)
  | N, l :: ls => if 0 ≤ beN (ldN N l (nI j)) j nl then ((laF j nl (ldN N l (nI j)) ls).1, (laF j nl (ldN N l (nI j)) ls).2 + 1) else laF j nl N ls
def S_loadAll (N : NA) (b : Int32) : OR :=
  if isBN N b then
    if N (bk b 5) = 0 then .inl (nI (laF b.toNatClampNeg (nlN N) N (WL N (nlN N))).2, (laF b.toNatClampNeg (nlN N) N (WL N (nlN N))).1)
    else .inr (.inl (nI 2, b))
  else .inr (.inr 1)
-- whole, 19.face.lean.txt
def S_ring (N : NA) (r : Int32) : OR := if nI 1 ≤ r ∧ r ≤ nI 15 then .inl (N 1, upN N 1 r) else .inr (.inr 1)
def S_gas (N : NA) (a : Int32) : OR := if nI 1 ≤ a ∧ a ≤ nI 999 then .inl (mn (nI 9999) (N 2 + a), upN N 2 (mn (nI 9999) (N 2 + a))) else .inr (.inr 1)
def zeN (N : NA) (j n : Nat) : NA := fun k => if 22 + 11 * j ≤ k ∧ k < 22 + 11 * j + n then nI 0 else N k
def baN (N : NA) (j : Nat) (s : Int32) : NA := upN (upN (upN (zeN (upN N 3 (N 3 + nI 1)) j 11) (22 + 11 * j + 0) s) (22 + 11 * j + 6) (nI 20)) (22 + 11 * j + 7) (nI 20)
def S_balloon (N : NA) (s : Int32) : OR :=
  if nI 10 ≤ s ∧ s ≤ nI 99 then
    if N 3 = nI 6 then .inr (.inl (nI 1, nI 6)) else .inl (N 3, baN N (N 3).toNatClampNeg s)
  else .inr (.inr 1)
def S_courier (N : NA) (b w : Int32) : OR :=
  if isBN N b then
    if nI 5 ≤ w ∧ w ≤ nI 12 then
      if N (bk b 5) = 0 then
        if N (bk b 3) = nI 2 then .inr (.inl (nI 1, nI 2))
        else .inl (N (bk b 3) + nI 1, upN (upN N (bk b 3) (N (bk b 3) + nI 1)) (bk b 4) (N (bk b 4) + w))
      else .inr (.inl (nI 2, b))
    else .inr (.inr 2)
  else .inr (.inr 1)
def leN (N : NA) (l : Nat) (s r : Int32) : NA := upN (upN (upN (upN (upN N 4 (N 4 + nI 1)) (88 + 4 * l) s) (88 + 4 * l + 1) r) (88 + 4 * l + 2) (nI 0)) (88 + 4 * l + 3) (-1 : Int32)
def S_letter (N : NA) (s r : Int32) : OR :=
  if nI 1 ≤ s ∧ s ≤ nI 9 then
    if nI 0 ≤ r ∧ r ≤ nI 2 then
      if N 4 = nI 24 then .inr (.inl (nI 1, nI 24)) else .inl (N 4 + nI 1 - nI 1, leN N (N 4).toNatClampNeg s r)
    else .inr (.inr 1)
  else .inr (.inr 1)
-- whole, 20.query.lean.txt
/-- what a question comes to: its answer, or an exception by its place -/
abbrev QR : Type := Int32 ⊕ Nat
def Q_balN (N : NA) (j nl k : Nat) : Int32 := match k with
  | 0 => N (22 + 11 * j + 0)
  | 1 => N (22 + 11 * j + 1)
  | 2 => N (22 + 11 * j + 2)
  | 3 => N (22 + 11 * j + 3)
  | 4 => ctL (fun n => 0 < N (88 + 4 * n + 2) ∧ N (88 + 4 * n + 3) = nI j) nl
  | 5 => wgN N j nl
  | 6 => beN N j nl
  | 7 => N (22 + 11 * j + 5)
  | 8 => N (22 + 11 * j + 10)
  | 9 => N (22 + 11 * j + 6)
  | 10 => N (22 + 11 * j + 7)
  | _ => N (22 + 11 * j + 8)
def Q_balloonOf (N : NA) (b x : Int32) : QR := if isBN N b then (if nI 0 ≤ x ∧ x ≤ nI 11 then .inl (Q_balN N b.toNatClampNeg (nlN N) x.toNatClampNeg) else .inr 2) else .inr 1
def Q_letterOf (N : NA) (l x : Int32) : QR := if isLN N l then (if nI 0 ≤ x ∧ x ≤ nI 3 then .inl (N (88 + 4 * l.toNatClampNeg + x.toNatClampNeg)) else .inr 2) else .inr 1
def Q_weight (N : NA) (b : Int32) : QR := if isBN N b then .inl (wgN N b.toNatClampNeg (nlN N)) else .inr 1
def Q_waiting (N : NA) (x : Int32) : QR := if 0 ≤ x then (match (WL N (nlN N))[x.toNatClampNeg]? with
  | some l => .inl (nI l)
  | none => .inr 1) else .inr 1
def Q_word (N : NA) (b : Int32) : QR := if isBN N b then (if hwP N b.toNatClampNeg then .inl (woN N b.toNatClampNeg) else .inr 2) else .inr 1
def Q_within (N : NA) (x y : Int32) : QR := if nI 0 ≤ x ∧ x ≤ nI 39 then (if nI 0 ≤ y ∧ y ≤ nI 39 then .inl (b2i (¬ N 1 < far x y)) else .inr 1) else .inr 1
-- whole, 21.more.lean.txt
theorem WL_len (N : NA) (nl : Nat) : (WL N nl).length ≤ 3 * nl := by
  have h2 := FL_len N 2 nl
  have h1 := FL_len N 1 nl
  have h0 := FL_len N 0 nl
  simp only [WL, List.length_append]
  omega
/-- a flight to its end: at most f hours, h before -/
def foN (j nl : Nat) : Nat → NA → Nat → NA × Nat
  | 0, N, h => (N, h)
  | f + 1, N, h => if N (22 + 11 * j + 5) = nI 1 then foN j nl f (flN N j nl) (h + 1) else (N, h)
def Q_endsIn (N : NA) (b : Int32) (f : Nat) : QR := if isBN N b then (if N (bk b 5) = nI 1 then .inl (nI (foN b.toNatClampNeg (nlN N) f N 0).2) else .inr 2) else .inr 1
def Q_ends (N : NA) (b x : Int32) (f : Nat) : QR :=
  if isBN N b then
    if nI 0 ≤ x ∧ x ≤ nI 2 then
      if N (bk b 5) = nI 1 then
        if x = 0 then .inl ((foN b.toNatClampNeg (nlN N) f N 0).1 (bk b 6)) else if x = nI 1 then .inl ((foN b.toNatClampNeg (nlN N) f N 0).1 (bk b 7)) else .inl ((foN b.toNatClampNeg (nlN N) f N 0).1 (bk b 5))
      else .inr 3
    else .inr 2
  else .inr 1
-- whole, 22.more2.lean.txt
/-- the first n amounts tried: the best, and how far it lands -/
def bdL (N : NA) (j nl f : Nat) : Nat → Int32 × Int32
  | 0 => ((-1 : Int32), (-1 : Int32))
  | n + 1 => if (foN j nl f (upN N (22 + 11 * j + 2) (N (22 + 11 * j + 2) - nI n)) 0).1 (22 + 11 * j + 5) = nI 2 then
      (if far ((foN j nl f (upN N (22 + 11 * j + 2) (N (22 + 11 * j + 2) - nI n)) 0).1 (22 + 11 * j + 6)) ((foN j nl f (upN N (22 + 11 * j + 2) (N (22 + 11 * j + 2) - nI n)) 0).1 (22 + 11 * j + 7)) ≤ (bdL N j nl f n).2 then bdL N j nl f n
       else (nI n, far ((foN j nl f (upN N (22 + 11 * j + 2) (N (22 + 11 * j + 2) - nI n)) 0).1 (22 + 11 * j + 6)) ((foN j nl f (upN N (22 + 11 * j + 2) (N (22 + 11 * j + 2) - nI n)) 0).1 (22 + 11 * j + 7))))
    else bdL N j nl f n
def Q_bestDrop (N : NA) (b : Int32) (f : Nat) : QR := if isBN N b then (if N (bk b 5) = nI 1 then (if 0 ≤ (bdL N b.toNatClampNeg (nlN N) f ((N (bk b 2)).toNatClampNeg + 1)).1 then .inl (bdL N b.toNatClampNeg (nlN N) f ((N (bk b 2)).toNatClampNeg + 1)).1 else .inr 3) else .inr 2) else .inr 1
-- whole, 23.parse.lean.txt
abbrev isDg (T : NA) (n p : Nat) : Prop := p < n ∧ nI 48 ≤ T p ∧ T p ≤ nI 57
abbrev PR : Type := Nat × Option Int32
def pDig (T : NA) (n p : Nat) : PR := if isDg T n p then (p + 1, some (T p - nI 48)) else (p, none)
def pNum (T : NA) (n p : Nat) : PR := if isDg T n p then (if isDg T n (p + 1) then (p + 2, some (nI 10 * (T p - nI 48) + (T (p + 1) - nI 48))) else (p + 1, some (T p - nI 48))) else (p, none)
def pSgn (T : NA) (n p : Nat) : PR := if p < n ∧ T p = nI 45 then (if isDg T n (p + 1) then (p + 2, some (-(T (p + 1) - nI 48))) else (p + 1, none)) else pDig T n p
/-- the told numbers and the place, as the reference holds them -/
def dS (c : CC) (k p : Nat) (v : Int32) : CC := u2 (u2 c 402 k v) 395 9 (nI p)
theorem dS_at (c : CC) (k p : Nat) (v : Int32) : dS c k p v 395 9 = nI p := u2_eq _ _ _ _
theorem dS_5 (c : CC) (k p : Nat) (v : Int32) {i : Nat} (h : i ≠ 9) : dS c k p v 395 i = c 395 i := by
  unfold dS
  rw [u2_ne _ _ (by omega), u2_ne _ _ (by omega)]
theorem dS_v (c : CC) (k p : Nat) (v : Int32) : dS c k p v 402 k = v := by
  unfold dS
  rw [u2_ne _ _ (by omega), u2_eq]
/-- the text stands as c0 has it, n characters, the place at p; told numbers and the order's kind are free -/
def At (c0 c : CC) (n p : Nat) : Prop := c 395 8 = nI n ∧ c 395 9 = nI p ∧ p ≤ n ∧ ∀ a k, a ≠ 402 → ¬ (a = 395 ∧ (k = 9 ∨ k = 11)) → c a k = c0 a k
theorem At.T {c0 c : CC} {n p : Nat} (h : At c0 c n p) : c 401 = c0 401 := funext fun k => h.2.2.2 401 k (by decide) (by omega)
theorem At.dSt {c0 c : CC} {n p q k : Nat} {v : Int32} (h : At c0 c n p) (hq : q ≤ n) : At c0 (dS c k q v) n q := by
  refine ⟨?_, dS_at _ _ _ _, hq, fun a j h1 h2 => ?_⟩
  · rw [dS_5 _ _ _ _ (by decide)]; exact h.1
  · show u2 (u2 c 402 k v) 395 9 (nI q) a j = c0 a j
    rw [u2_ne _ _ (fun q => h2 ⟨q.1, Or.inl q.2⟩), u2_ne _ _ (fun q => h1 q.1)]
    exact h.2.2.2 a j h1 h2
/-- what the reference's number readers leave: the place, the number told -/
def AtD (c0 c c' : CC) (n k : Nat) (R : PR) : Prop := At c0 c' n R.1 ∧ c' 402 k = R.2.getD (nI 0) ∧ (∀ j, j ≠ k → c' 402 j = c 402 j) ∧ c' 395 11 = c 395 11
def PD (c0 c : CC) (od : Int64 × UInt64) (n k : Nat) (R : PR) : AO → SS → Prop := PI fun r σ => ∃ c', σ = (c', od) ∧ r = b2i (R.2.isSome = true) ∧ AtD c0 c c' n k R
theorem AtD.of {c0 c : CC} {n p k : Nat} {R : PR} (h : At c0 c n p) (hR : R.1 ≤ n) : AtD c0 c (dS c k R.1 (R.2.getD (nI 0))) n k R :=
  ⟨h.dSt hR, dS_v _ _ _ _, fun j hj => by unfold dS; rw [u2_ne _ _ (by omega), u2_ne _ _ (fun q => hj q.2)], by rw [dS_5 _ _ _ _ (by decide)]⟩
-- whole, 24.parse2.lean.txt
theorem PD.out {c0 c : CC} {od : Int64 × UInt64} {n k : Nat} {R R' : PR} {r : Int32} {c' : CC} (e : R' = R) (hr : r = b2i (R.2.isSome = true)) (h : AtD c0 c c' n k R) : PD c0 c od n k R' (.inl (some (.int r))) (c', od) := by
  subst e
  exact ⟨r, rfl, c', rfl, hr, h⟩
theorem pDig_t {T : NA} {n q : Nat} (h : (pDig T n q).2.isSome = true) : isDg T n q := by
  unfold pDig at h
  split at h
  · assumption
  · cases h
theorem pDig_p {T : NA} {n q : Nat} (h : isDg T n q) : pDig T n q = (q + 1, some (T q - nI 48)) := if_pos h
theorem pDig_f {T : NA} {n q : Nat} (h : ¬ (pDig T n q).2.isSome = true) : ¬ isDg T n q ∧ pDig T n q = (q, none) := by
  unfold pDig at h ⊢
  split at h
  · exact absurd rfl h
  · rename_i h2
    exact ⟨h2, if_neg h2⟩
/-- two numbers about a sign: the place, and the numbers -/
def pPair (f g : Nat → PR) (T : NA) (n : Nat) (x : Int32) (p : Nat) : Nat × Option (Int32 × Int32) :=
  if (f p).2.isSome = true then (if (f p).1 < n ∧ T (f p).1 = x then (if (g ((f p).1 + 1)).2.isSome = true then ((g ((f p).1 + 1)).1, some ((f p).2.getD (nI 0), (g ((f p).1 + 1)).2.getD (nI 0))) else ((g ((f p).1 + 1)).1, none)) else ((f p).1, none)) else ((f p).1, none)
abbrev Ord : Type := Int32 × Int32 × Int32 × Int32
def oPair (k : Int32) (R : Nat × Option (Int32 × Int32)) : Nat × Option Ord := (R.1, R.2.map fun ab => (k, ab.1, ab.2, nI 0))
def oOne (k : Int32) (R : PR) : Nat × Option Ord := (R.1, R.2.map fun a => (k, a, nI 0, nI 0))
def pWind (T : NA) (n p : Nat) : Nat × Option Ord :=
  if (pDig T n p).2.isSome = true then (if (pDig T n p).1 < n ∧ T (pDig T n p).1 = nI 58 then
    (if (pPair (pSgn T n) (pSgn T n) T n (nI 44) ((pDig T n p).1 + 1)).2.isSome = true then
      ((pPair (pSgn T n) (pSgn T n) T n (nI 44) ((pDig T n p).1 + 1)).1, some (nI 119, (pDig T n p).2.getD (nI 0), ((pPair (pSgn T n) (pSgn T n) T n (nI 44) ((pDig T n p).1 + 1)).2.getD (nI 0, nI 0)).1, ((pPair (pSgn T n) (pSgn T n) T n (nI 44) ((pDig T n p).1 + 1)).2.getD (nI 0, nI 0)).2))
    else ((pPair (pSgn T n) (pSgn T n) T n (nI 44) ((pDig T n p).1 + 1)).1, none)) else ((pDig T n p).1, none)) else ((pDig T n p).1, none)
/-- an order at p: the place behind, and the order -/
def pOrd (T : NA) (n p : Nat) : Nat × Option Ord :=
  if p < n then
    (if T p = nI 102 then oPair (nI 102) (pPair (pDig T n) (pNum T n) T n (nI 61) (p + 1))
     else if T p = nI 98 then oPair (nI 98) (pPair (pDig T n) (pNum T n) T n (nI 43) (p + 1))
     else if T p = nI 100 then oPair (nI 100) (pPair (pDig T n) (pNum T n) T n (nI 45) (p + 1))
     else if T p = nI 108 then oPair (nI 108) (pPair (pNum T n) (pDig T n) T n (nI 64) (p + 1))
     else if T p = nI 117 then oOne (nI 117) (pDig T n (p + 1))
     else if T p = nI 104 then oOne (nI 104) (pNum T n (p + 1))
     else if T p = nI 119 then pWind T n (p + 1)
     else (p, none))
  else (p, none)
/-- the reference holds the order o -/
def OrdM (c : CC) (o : Ord) : Prop := c 395 11 = o.1 ∧ c 402 0 = o.2.1 ∧ (¬ (o.1 = nI 117 ∨ o.1 = nI 104) → c 402 1 = o.2.2.1) ∧ (o.1 = nI 119 → c 402 2 = o.2.2.2)
def PO (c0 : CC) (od : Int64 × UInt64) (n p : Nat) : AO → SS → Prop := PI fun r σ => ∃ c', σ = (c', od) ∧ r = b2i ((pOrd (c0 401) n p).2.isSome = true) ∧ At c0 c' n (pOrd (c0 401) n p).1 ∧ ∀ o, (pOrd (c0 401) n p).2 = some o → OrdM c' o
theorem PO.no {c0 c' : CC} {od : Int64 × UInt64} {n p q : Nat} (e : pOrd (c0 401) n p = (q, none)) (h : At c0 c' n q) : PO c0 od n p (.inl (some (.int (nI 0)))) (c', od) := by
  refine ⟨_, rfl, c', rfl, ?_, ?_, ?_⟩
  · rw [e]; rfl
  · rw [e]; exact h
  · rw [e]; intro o h; cases h
theorem PO.yes {c0 c' : CC} {od : Int64 × UInt64} {n p q : Nat} {o : Ord} (e : pOrd (c0 401) n p = (q, some o)) (h : At c0 c' n q) (ho : OrdM c' o) : PO c0 od n p (.inl (some (.int (nI 1)))) (c', od) := by
  refine ⟨_, rfl, c', rfl, ?_, ?_, ?_⟩
  · rw [e]; rfl
  · rw [e]; exact h
  · rw [e]; intro o h; cases h; exact ho
theorem PO.one {c0 c c' : CC} {od : Int64 × UInt64} {n p : Nat} {R : PR} {k : Int32} (e : pOrd (c0 401) n p = oOne k R) (hk : k = nI 117 ∨ k = nI 104) (h : AtD c0 c c' n 0 R) (hc : c 395 11 = k) : PO c0 od n p (.inl (some (.int (b2i (R.2.isSome = true))))) (c', od) := by
  refine ⟨_, rfl, c', rfl, ?_, ?_, ?_⟩
  · rw [e]; congr 1; simp [oOne]
  · rw [e]; exact h.1
  · rw [e]
    intro o ho
    obtain ⟨q, v⟩ := R
    cases v with
    | none => cases ho
    | some v =>
      cases ho
      refine ⟨h.2.2.2.trans hc, h.2.1, fun q => absurd hk q, fun q => ?_⟩
      exfalso
      rcases hk with rfl | rfl
      · exact absurd (show nI 117 = nI 119 from q) (by decide)
      · exact absurd (show nI 104 = nI 119 from q) (by decide)
theorem sw_out1 {x : Int32} {a m : Nat} (ha : a < 2 ^ 30) (hm : m < 2 ^ 30) (h : ¬ (nI a ≤ x ∧ x ≤ nI m)) : x.toInt < (a : Int) ∨ (m : Int) < x.toInt := by
  by_cases h1 : x.toInt < (a : Int)
  · exact Or.inl h1
  · refine Or.inr ?_
    by_cases h2 : (m : Int) < x.toInt
    · exact h2
    · exfalso
      apply h
      rw [Int32.le_iff_toInt_le, Int32.le_iff_toInt_le, nI_toInt (show a < 2 ^ 31 by omega), nI_toInt (show m < 2 ^ 31 by omega)]
      omega
-- whole, 25.carries.lean.txt
def S_ord (N : NA) (o : Ord) : OR :=
  if o.1 = nI 102 then S_fills N o.2.1 o.2.2.1
  else if o.1 = nI 98 then S_lays N o.2.1 o.2.2.1
  else if o.1 = nI 100 then S_drops N o.2.1 o.2.2.1
  else if o.1 = nI 108 then S_loads N o.2.1 o.2.2.1
  else if o.1 = nI 117 then S_launches N o.2.1
  else if o.1 = nI 104 then S_passes N o.2.1
  else S_blows N o.2.1 o.2.2.1 o.2.2.2
def okK (k : Int32) : Prop := k = nI 102 ∨ k = nI 98 ∨ k = nI 100 ∨ k = nI 108 ∨ k = nI 117 ∨ k = nI 104 ∨ k = nI 119
theorem pDig_q {T : NA} {n p : Nat} {v : Int32} (h : (pDig T n p).2 = some v) : (pDig T n p).1 = p + 1 ∧ p < n := by
  unfold pDig at h ⊢
  split at h
  · rename_i q
    rw [if_pos q]
    exact ⟨rfl, q.1⟩
  · cases h
theorem pNum_q {T : NA} {n p : Nat} {v : Int32} (h : (pNum T n p).2 = some v) : p + 1 ≤ (pNum T n p).1 ∧ p < n := by
  unfold pNum at h ⊢
  split at h
  · rename_i q
    rw [if_pos q]
    split at h
    · rename_i q2
      rw [if_pos q2]
      exact ⟨by show p + 1 ≤ p + 2; omega, q.1⟩
    · rename_i q2
      rw [if_neg q2]
      exact ⟨Nat.le_refl _, q.1⟩
  · cases h
/-- what reading an order needs and leaves -/
theorem pPair_le {f g : Nat → PR} {T : NA} {n p : Nat} {x : Int32} (hf : ∀ p, p ≤ n → (f p).1 ≤ n ∧ p ≤ (f p).1) (hg : ∀ p, p ≤ n → (g p).1 ≤ n ∧ p ≤ (g p).1) (hp : p ≤ n) : (pPair f g T n x p).1 ≤ n ∧ p ≤ (pPair f g T n x p).1 := by
  have h1 := hf p hp
  unfold pPair
  split
  · split
    · rename_i q
      have h2 := hg ((f p).1 + 1) (by omega)
      split
      · exact ⟨h2.1, by show p ≤ (g ((f p).1 + 1)).1; omega⟩
      · exact ⟨h2.1, by show p ≤ (g ((f p).1 + 1)).1; omega⟩
    · exact h1
  · exact h1
theorem pDig_r (T : NA) (n : Nat) (p : Nat) (hp : p ≤ n) : (pDig T n p).1 ≤ n ∧ p ≤ (pDig T n p).1 := by
  unfold pDig
  split
  · rename_i q
    exact ⟨q.1, Nat.le_succ _⟩
  · exact ⟨hp, Nat.le_refl _⟩
theorem pNum_r (T : NA) (n : Nat) (p : Nat) (hp : p ≤ n) : (pNum T n p).1 ≤ n ∧ p ≤ (pNum T n p).1 := by
  unfold pNum
  split
  · rename_i q
    split
    · rename_i q2
      exact ⟨q2.1, by show p ≤ p + 2; omega⟩
    · exact ⟨q.1, Nat.le_succ _⟩
  · exact ⟨hp, Nat.le_refl _⟩
theorem pSgn_r (T : NA) (n : Nat) (p : Nat) (hp : p ≤ n) : (pSgn T n p).1 ≤ n ∧ p ≤ (pSgn T n p).1 := by
  unfold pSgn
  split
  · rename_i q
    split
    · rename_i q2
      exact ⟨q2.1, by show p ≤ p + 2; omega⟩
    · exact ⟨q.1, Nat.le_succ _⟩
  · exact pDig_r T n p hp
theorem pDig_s {T : NA} {n p : Nat} (h : (pDig T n p).2.isSome = true) : p + 1 ≤ (pDig T n p).1 := by
  cases e : (pDig T n p).2 with
  | none => rw [e] at h; cases h
  | some v => exact Nat.le_of_eq (pDig_q e).1.symm
theorem pNum_s {T : NA} {n p : Nat} (h : (pNum T n p).2.isSome = true) : p + 1 ≤ (pNum T n p).1 := by
  cases e : (pNum T n p).2 with
  | none => rw [e] at h; cases h
  | some v => exact (pNum_q e).1
theorem pPair_s {f g : Nat → PR} {T : NA} {n p : Nat} {x : Int32} (hf : ∀ p, (f p).2.isSome = true → p + 1 ≤ (f p).1) (hg : ∀ p, p ≤ n → (g p).1 ≤ n ∧ p ≤ (g p).1) (h : (pPair f g T n x p).2.isSome = true) : p + 2 ≤ (pPair f g T n x p).1 := by
  unfold pPair at h ⊢
  split at h
  · rename_i q
    rw [if_pos q]
    have h1 := hf p q
    split at h
    · rename_i q2
      rw [if_pos q2]
      have h2 := hg ((f p).1 + 1) (by omega)
      split at h
      · rename_i q3
        rw [if_pos q3]
        show p + 2 ≤ (g ((f p).1 + 1)).1
        omega
      · cases h
    · cases h
  · cases h
def POK (n p : Nat) (R : Nat × Option Ord) : Prop := R.1 ≤ n ∧ p ≤ R.1 ∧ ∀ o, R.2 = some o → okK o.1 ∧ p + 2 ≤ R.1
theorem POK.none {n p q : Nat} (h : q ≤ n) (h2 : p ≤ q) : POK n p (q, none) := ⟨h, h2, fun o h => by cases h⟩
theorem POK.pair {n p : Nat} {k : Int32} {R : Nat × Option (Int32 × Int32)} (hk : okK k) (h1 : R.1 ≤ n) (h2 : p + 1 ≤ R.1) (h3 : R.2.isSome = true → p + 1 + 2 ≤ R.1) : POK n p (oPair k R) := by
  refine ⟨h1, by show p ≤ R.1; omega, fun o h => ?_⟩
  obtain ⟨q, v⟩ := R
  cases v with
  | none => cases h
  | some v =>
    cases h
    exact ⟨hk, by have := h3 rfl; show p + 2 ≤ q; simp only at this; omega⟩
theorem POK.one {n p : Nat} {k : Int32} {R : PR} (hk : okK k) (h1 : R.1 ≤ n) (h2 : p + 1 ≤ R.1) (h3 : R.2.isSome = true → p + 1 + 1 ≤ R.1) : POK n p (oOne k R) := by
  refine ⟨h1, by show p ≤ R.1; omega, fun o h => ?_⟩
  obtain ⟨q, v⟩ := R
  cases v with
  | none => cases h
  | some v =>
    cases h
    exact ⟨hk, by have := h3 rfl; show p + 2 ≤ q; simp only at this; omega⟩
theorem pWind_ok {T : NA} {n p : Nat} (hp : p < n) : POK n p (pWind T n (p + 1)) := by
  have h1 := pDig_r T n (p + 1) (by omega)
  unfold pWind
  split
  · rename_i q
    have q1 := pDig_s q
    split
    · rename_i q2
      have h2 := pPair_le (x := nI 44) (T := T) (pSgn_r T n) (pSgn_r T n) (show (pDig T n (p + 1)).1 + 1 ≤ n by omega)
      split
      · refine ⟨h2.1, ?_, fun o h => ?_⟩
        · show p ≤ (pPair (pSgn T n) (pSgn T n) T n (nI 44) ((pDig T n (p + 1)).1 + 1)).1
          omega
        · cases h
          exact ⟨by unfold okK; exact Or.inr (Or.inr (Or.inr (Or.inr (Or.inr (Or.inr rfl))))), by show p + 2 ≤ (pPair (pSgn T n) (pSgn T n) T n (nI 44) ((pDig T n (p + 1)).1 + 1)).1; omega⟩
      · exact POK.none h2.1 (by omega)
    · exact POK.none h1.1 (by omega)
  · exact POK.none h1.1 (by omega)
theorem pOrd_ok (T : NA) {n p : Nat} (hp : p ≤ n) : POK n p (pOrd T n p) := by
  unfold pOrd
  split
  · rename_i q
    have q1 : p + 1 ≤ n := q
    split
    · exact POK.pair (Or.inl rfl) (pPair_le (pDig_r T n) (pNum_r T n) q1).1 (pPair_le (pDig_r T n) (pNum_r T n) q1).2 (pPair_s (fun _ => pDig_s) (pNum_r T n))
    · split
      · exact POK.pair (Or.inr (Or.inl rfl)) (pPair_le (pDig_r T n) (pNum_r T n) q1).1 (pPair_le (pDig_r T n) (pNum_r T n) q1).2 (pPair_s (fun _ => pDig_s) (pNum_r T n))
      · split
        · exact POK.pair (Or.inr (Or.inr (Or.inl rfl))) (pPair_le (pDig_r T n) (pNum_r T n) q1).1 (pPair_le (pDig_r T n) (pNum_r T n) q1).2 (pPair_s (fun _ => pDig_s) (pNum_r T n))
        · split
          · exact POK.pair (Or.inr (Or.inr (Or.inr (Or.inl rfl)))) (pPair_le (pNum_r T n) (pDig_r T n) q1).1 (pPair_le (pNum_r T n) (pDig_r T n) q1).2 (pPair_s (fun _ => pNum_s) (pDig_r T n))
          · split
            · exact POK.one (Or.inr (Or.inr (Or.inr (Or.inr (Or.inl rfl))))) (pDig_r T n _ q1).1 (pDig_r T n _ q1).2 pDig_s
            · split
              · exact POK.one (Or.inr (Or.inr (Or.inr (Or.inr (Or.inr (Or.inl rfl)))))) (pNum_r T n _ q1).1 (pNum_r T n _ q1).2 pNum_s
              · split
                · exact pWind_ok q
                · exact POK.none hp (Nat.le_refl _)
  · exact POK.none hp (Nat.le_refl _)
/-- all orders: the place behind, or of the error, and the orders -/
def pSeq (T : NA) (n : Nat) : Nat → Nat → Nat × Option (List Ord)
  | 0, p => (p, none)
  | f + 1, p => match (pOrd T n p).2 with
    | none => ((pOrd T n p).1, none)
    | some o => if (pOrd T n p).1 < n then (if T (pOrd T n p).1 = nI 59 then ((pSeq T n f ((pOrd T n p).1 + 1)).1, (pSeq T n f ((pOrd T n p).1 + 1)).2.map (o :: ·)) else ((pOrd T n p).1, none)) else ((pOrd T n p).1, some [o])
def exL : NA → List Ord → NA ⊕ ((Int32 × Int32) ⊕ Nat)
  | N, [] => .inl N
  | N, o :: os => match S_ord N o with
    | .inl q => exL q.2 os
    | .inr x => .inr x
