/-! the law's own methods: some, is, asks -/
theorem WE.cu {M : MT} {pc : Nat} {L : List (Nat × Value)} {st : List Value} {σ : SS} {cu cu' su su' : Nat} {G : GT} (h1 : cu = cu') (h2 : su = su') (k : WE M pc L st σ cu' su' G) : WE M pc L st σ cu su G := by
  subst h1
  subst h2
  exact k
theorem WE.wid {M : MT} {pc : Nat} {L : List (Nat × Value)} {st : List Value} {σ : SS} {cu cu' su su' : Nat} {G : GT} (h1 : cu ≤ cu') (h2 : su ≤ su') (k : WE M pc L st σ cu' su' G) : WE M pc L st σ cu su G := by
  intro l D aC z p e s m args below meth c H locs ls C hP hS hl
  exact W.widen h1 h2 (k l D aC z p e s m args below meth c H locs ls C hP hS hl)
/-- a question's answer, as its helper tells it -/
def hq (q : QR) : Int32 := match q with
  | .inl v => v
  | .inr 0 => nI 0
  | .inr (k + 1) => cdI k
def hqB (q : QR) : Int32 := match q with
  | .inl v => v
  | .inr 0 => nI 0
  | .inr 3 => cdI 1
  | .inr (k + 1) => cdI k
def QP (od : Int64 × UInt64) (A : AS) (v : Int32) (k : Int32) (σ' : SS) : Prop := ∃ c', σ' = (c', od) ∧ CA c' A ∧ k = v
theorem HP.q {od : Int64 × UInt64} {A : AS} {q : QR} {k : Int32} {σ' : SS} (h : HP od (stepQ A q) k σ') : QP od A (hq q) k σ' := by
  obtain ⟨c', rfl, H, rfl⟩ := h
  rcases q with v | k
  · exact ⟨c', rfl, H, rfl⟩
  · cases k with
    | zero => exact ⟨c', rfl, H, rfl⟩
    | succ k => exact ⟨c', rfl, H, rfl⟩
theorem HP.qB {od : Int64 × UInt64} {A : AS} {q : QR} {k : Int32} {σ' : SS} (h : HP od (stepB A q) k σ') : QP od A (hqB q) k σ' := by
  obtain ⟨c', rfl, H, rfl⟩ := h
  rcases q with v | k
  · exact ⟨c', rfl, H, rfl⟩
  · match k with
    | 0 => exact ⟨c', rfl, H, rfl⟩
    | 1 => exact ⟨c', rfl, H, rfl⟩
    | 2 => exact ⟨c', rfl, H, rfl⟩
    | 3 => exact ⟨c', rfl, H, rfl⟩
    | k + 4 => exact ⟨c', rfl, H, rfl⟩
theorem CM.pi {M : MT} {as : List Value} {σ : SS} {p q : Int32 → SS → Prop} (h : CM M as σ (PI p)) (hq : ∀ k s, p k s → q k s) : CM M as σ (PI q) :=
  CM.mono h (fun o s z => by
    obtain ⟨k, h1, h2⟩ := z
    exact ⟨k, h1, hq k s h2⟩)
/-- some(v, n) -/
def smI (v n : Int32) : Int32 := if 0 ≤ v - v / n * n then v - v / n * n else v - v / n * n + n
abbrev mL_some : MT := (yL_some, cL_some, 3, some .int, { frames := 1, cells := 0, slots := 0, locals := 32 }, [])
set_option maxRecDepth 20000 in
set_option maxHeartbeats 2000000 in
theorem c_some (v n : Int32) (hn : ¬ n = 0) (σ : SS) : CM mL_some [.int v, .int n] σ (RI (smI v n) σ) := by
  refine CM.of [(0, .int v), (1, .int n)] rfl (by decide +kernel) rfl (Nat.le_of_ble_eq_true rfl) ?_
  refine WE.iload_n (n := 1) dL_some_0 rfl rfl ?_
  refine WE.iload_n (n := 2) dL_some_1 rfl rfl ?_
  refine WE.irem (n := 3) dL_some_2 rfl hn ?_
  refine WE.istore_n (n := 4) dL_some_3 rfl (by decide) ?_
  refine WE.iload_n (n := 5) dL_some_4 rfl rfl ?_
  refine WE.if_ge (n := 8) (tgt := 14) dL_some_5 rfl (by decide) (fun h5 => ?_) (fun h5 => ?_)
  · skip
    refine WE.iload_n (n := 15) dL_some_14 rfl rfl ?_
    refine WE.iret (ty := .int) dL_some_15 rfl rfl ⟨(by show 0 ≤ 0; omega), (by show 0 ≤ 0; omega)⟩ ?_
    first | exact RI.mk (if_pos (by assumption)).symm rfl | exact RI.mk (if_neg (by assumption)).symm rfl
  · skip
    refine WE.iload_n (n := 9) dL_some_8 rfl rfl ?_
    refine WE.iload_n (n := 10) dL_some_9 rfl rfl ?_
    refine WE.iadd (n := 11) dL_some_10 rfl ?_
    refine WE.goto (tgt := 15) dL_some_11 (by decide) ?_
    refine WE.iret (ty := .int) dL_some_15 rfl rfl ⟨(by show 0 ≤ 0; omega), (by show 0 ≤ 0; omega)⟩ ?_
    first | exact RI.mk (if_pos (by assumption)).symm rfl | exact RI.mk (if_neg (by assumption)).symm rfl
theorem y_balloonOf (c : CC) (od : Int64 × UInt64) (A : AS) (H : CA c A) (x y : Int32) : CM mL_balloonOf [.ref 0, .int x, .int y] (c, od) (PI (QP od A (hq (Q_balloonOf A.1 x y)))) := (x_balloonOf c od A H x y).pi (fun k s h => h.q)
theorem y_letterOf (c : CC) (od : Int64 × UInt64) (A : AS) (H : CA c A) (x y : Int32) : CM mL_letterOf [.ref 0, .int x, .int y] (c, od) (PI (QP od A (hq (Q_letterOf A.1 x y)))) := (x_letterOf c od A H x y).pi (fun k s h => h.q)
theorem y_weightAgain (c : CC) (od : Int64 × UInt64) (A : AS) (H : CA c A) (x : Int32) : CM mL_weightAgain [.ref 0, .int x] (c, od) (PI (QP od A (hq (Q_weight A.1 x)))) := (x_weightAgain c od A H x).pi (fun k s h => h.q)
theorem y_waiting (c : CC) (od : Int64 × UInt64) (A : AS) (H : CA c A) (x : Int32) : CM mL_waiting [.ref 0, .int x] (c, od) (PI (QP od A (hq (Q_waiting A.1 x)))) := (x_waiting c od A H x).pi (fun k s h => h.q)
theorem y_word (c : CC) (od : Int64 × UInt64) (A : AS) (H : CA c A) (x : Int32) : CM mL_word [.ref 0, .int x] (c, od) (PI (QP od A (hq (Q_word A.1 x)))) := (x_word c od A H x).pi (fun k s h => h.q)
theorem y_sign (c : CC) (od : Int64 × UInt64) (A : AS) (H : CA c A) (x : Int32) : CM mL_sign [.ref 0, .int x] (c, od) (PI (QP od A (hq (Q_sign A.1 x)))) := (x_sign c od A H x).pi (fun k s h => h.q)
theorem y_isWithin (c : CC) (od : Int64 × UInt64) (A : AS) (H : CA c A) (x y : Int32) : CM mL_isWithin [.ref 0, .int x, .int y] (c, od) (PI (QP od A (hq (Q_within A.1 x y)))) := (x_isWithin c od A H x y).pi (fun k s h => h.q)
theorem y_endsIn (c : CC) (od : Int64 × UInt64) (A : AS) (H : CA c A) (x : Int32) : CM mL_endsIn [.ref 0, .int x] (c, od) (PI (QP od A (hq (Q_endsIn A.1 x 1000)))) := (x_endsIn c od A H x).pi (fun k s h => h.q)
theorem y_ends (c : CC) (od : Int64 × UInt64) (A : AS) (H : CA c A) (x y : Int32) : CM mL_ends [.ref 0, .int x, .int y] (c, od) (PI (QP od A (hq (Q_ends A.1 x y 1000)))) := (x_ends c od A H x y).pi (fun k s h => h.q)
theorem y_bestDrop (c : CC) (od : Int64 × UInt64) (A : AS) (H : CA c A) (x : Int32) : CM mL_bestDrop [.ref 0, .int x] (c, od) (PI (QP od A (hqB (Q_bestDrop A.1 x 1000)))) := (x_bestDrop c od A H x).pi (fun k s h => h.qB)
theorem y_refusal (c : CC) (od : Int64 × UInt64) (A : AS) (H : CA c A) (x : Int32) : CM mL_refusal [.ref 0, .int x] (c, od) (PI (QP od A (hq (Q_why A.2.2.2.2.2.2 x)))) := (x_refusal c od A H x).pi (fun k s h => h.q)
theorem y_account (c : CC) (od : Int64 × UInt64) (A : AS) (H : CA c A) (x : Int32) : CM mL_account [.ref 0, .int x] (c, od) (PI (QP od A (hq (Q_acc A.1 (nI A.2.2.2.1) (nI A.2.1.length) x)))) := (x_account c od A H x).pi (fun k s h => h.q)
abbrev mL_is : MT := (yL_is, cL_is, 3, some .boolean, { frames := 8, cells := 2, slots := 12, locals := 256 }, [])
theorem ch_L_143 : CHL RL 143 mL_refusal 2 := ⟨g_931, g_932, g_20, g_933, rfl, ⟨by decide +kernel, by decide +kernel, by decide +kernel⟩⟩
set_option maxRecDepth 20000 in
set_option maxHeartbeats 2000000 in
theorem c_is (c : CC) (od : Int64 × UInt64) (A : AS) (H : CA c A) (w m : Int32) (hw : A.2.2.2.2.2.2 = (w, m)) (h0 : ¬ w = 0) : CM mL_is [.ref 0, .int w, .int m] (c, od) (PI (QP od A (nI 1))) := by
  have e0 : hq (Q_why A.2.2.2.2.2.2 (nI 0)) = w := by
    rw [hw]
    unfold Q_why
    rw [if_neg h0, if_pos (by decide)]
    rfl
  have e1 : hq (Q_why A.2.2.2.2.2.2 (nI 1)) = m := by
    rw [hw]
    unfold Q_why
    rw [if_neg h0, if_neg (by decide)]
    rfl
  refine CM.of [(0, .ref 0), (1, .int w), (2, .int m)] rfl (by decide +kernel) rfl (Nat.le_of_ble_eq_true rfl) ?_
  refine WE.aload_n (n := 1) dL_is_0 rfl rfl ?_
  refine WE.iconst (n := 2) (nI 0) dL_is_1 rfl (by decide) ?_
  refine WE.H2PI (M' := mL_refusal) (n := 5) dL_is_2 rfl ch_L_143 ⟨⟨by decide, by decide⟩, (by show 0 + 1 ≤ 2; omega), (by show 0 + 6 ≤ 12; omega)⟩ (Nat.le_of_ble_eq_true rfl) (y_refusal _ od A H (nI 0)) (fun r2 σ2 q2 => ?_)
  obtain ⟨c2, rfl, H2, rfl⟩ := q2
  rw [show hq (Q_why A.2.2.2.2.2.2 (nI 0)) = w from e0]
  refine WE.cu (cu' := 1) (su' := 6) (by show 0 + 1 = _; omega) (by show 0 + 6 = _; omega) ?_
  refine WE.iload_n (n := 6) dL_is_5 rfl rfl ?_
  refine WE.icmp_ne (n := 9) (tgt := 22) dL_is_6 rfl (by decide) (fun h6 => ?_) (fun h6 => ?_)
  · first | exact absurd rfl h6 | exact absurd h6 (by decide)
  refine WE.aload_n (n := 10) dL_is_9 rfl rfl ?_
  refine WE.iconst (n := 11) (nI 1) dL_is_10 rfl (by decide) ?_
  refine WE.H2PI (M' := mL_refusal) (n := 14) dL_is_11 rfl ch_L_143 ⟨⟨by decide, by decide⟩, (by show 1 + 1 ≤ 2; omega), (by show 6 + 6 ≤ 12; omega)⟩ (Nat.le_of_ble_eq_true rfl) (y_refusal _ od A H2 (nI 1)) (fun r11 σ11 q11 => ?_)
  obtain ⟨c11, rfl, H11, rfl⟩ := q11
  rw [show hq (Q_why A.2.2.2.2.2.2 (nI 1)) = m from e1]
  refine WE.cu (cu' := 2) (su' := 12) (by show 1 + 1 = _; omega) (by show 6 + 6 = _; omega) ?_
  refine WE.iload_n (n := 15) dL_is_14 rfl rfl ?_
  refine WE.icmp_ne (n := 18) (tgt := 22) dL_is_15 rfl (by decide) (fun h15 => ?_) (fun h15 => ?_)
  · first | exact absurd rfl h15 | exact absurd h15 (by decide)
  refine WE.iconst (n := 19) (nI 1) dL_is_18 rfl (by decide) ?_
  refine WE.goto (tgt := 23) dL_is_19 (by decide) ?_
  refine WE.iret (ty := .boolean) dL_is_23 rfl (by first | rfl | decide) ⟨(by show 2 ≤ 2; omega), (by show 12 ≤ 12; omega)⟩ ?_
  exact PI.mk ⟨_, rfl, H11, rfl⟩
def hqA (N : NA) (k : Nat) : Int32 := hq (Q_acc N 0 0 (nI k))
theorem hqA_eq (N : NA) (a b : Int32) {k : Nat} (hk : k < 19) : hq (Q_acc N a b (nI k)) = hqA N k := by
  have h1 : ¬ nI k = nI 19 := fun q => by have := (nI_eq (by omega) (by decide)).mp q; omega
  have h2 : ¬ nI k = nI 20 := fun q => by have := (nI_eq (by omega) (by decide)).mp q; omega
  unfold hqA Q_acc
  rw [if_neg h1, if_neg h1, if_neg h2, if_neg h2]
/-- a step of the sum -/
def ak (s : Int64) (v : Int32) : Int64 := 31 * s + v.toInt64
def as1 (N : NA) (s : Int64) : Nat → Int64
  | 0 => s
  | n + 1 => ak (as1 N s n) (hqA N n)
def as2 (N : NA) (j : Nat) (s : Int64) : Nat → Int64
  | 0 => s
  | n + 1 => ak (as2 N j s n) (hq (Q_balloonOf N (nI j) (nI n)))
def as3 (N : NA) (j : Nat) (s : Int64) : Int64 := ak (ak (ak (ak (ak (ak (ak (ak s (hq (Q_weight N (nI j)))) (hq (Q_word N (nI j)))) (hq (Q_sign N (nI j)))) (hq (Q_endsIn N (nI j) 1000))) (hq (Q_ends N (nI j) (nI 0) 1000))) (hq (Q_ends N (nI j) (nI 1) 1000))) (hq (Q_ends N (nI j) (nI 2) 1000))) (hqB (Q_bestDrop N (nI j) 1000))
def as4 (N : NA) (s : Int64) : Nat → Int64
  | 0 => s
  | n + 1 => as3 N n (as2 N n (as4 N s n) 12)
def as5 (N : NA) (l : Nat) (s : Int64) : Nat → Int64
  | 0 => s
  | n + 1 => ak (as5 N l s n) (hq (Q_letterOf N (nI l) (nI n)))
def as6 (N : NA) (s : Int64) : Nat → Int64
  | 0 => s
  | n + 1 => as5 N n (as6 N s n) 4
noncomputable def as0 (N : NA) : Int64 := 31 * bitsD (mdB N) + (bitsF (shB N)).toInt64
/-- what asks answers -/
noncomputable def asksF (N : NA) : Int64 := ak (ak (ak (ak (as6 N (as4 N (as1 N (as0 N) 19) (nbN N)) (nlN N)) (hq (Q_waiting N (nI 0)))) (hq (Q_waiting N (nI 3)))) (hq (Q_within N (nI 26) (nI 20)))) (nI 1)
def LQ (od : Int64 × UInt64) (A : AS) (v : Int64) : AO → SS → Prop := fun o st => ∃ c', o = .inl (some (.long v)) ∧ st = (c', od) ∧ CA c' A
theorem acc3 {A : AS} (hI : IN A.1) (a b : Int32) : hq (Q_acc A.1 a b (nI 3)) = nI (nbN A.1) := by
  rw [hqA_eq _ _ _ (by decide)]
  exact hI.cn.2.1
theorem acc8 {A : AS} (hI : IN A.1) (a b : Int32) : hq (Q_acc A.1 a b (nI 8)) = nI (nlN A.1) := by
  rw [hqA_eq _ _ _ (by decide)]
  exact hI.cn.2.2.2
abbrev mL_asks : MT := (yL_asks, cL_asks, 5, some .long, { frames := 9, cells := 500, slots := 3000, locals := 288 }, [])
theorem cj_D : CSL RL 177 mJ_DB 1 := ⟨g_964, g_965, g_40, g_966, rfl, ⟨by decide +kernel, by decide +kernel, by decide +kernel⟩⟩
theorem cj_F : CSL RL 186 mJ_FB 1 := ⟨g_974, g_975, g_41, g_976, rfl, ⟨by decide +kernel, by decide +kernel, by decide +kernel⟩⟩
theorem ch_L_192 : CHL RL 192 mL_account 2 := ⟨g_835, g_836, g_20, g_837, rfl, ⟨by decide +kernel, by decide +kernel, by decide +kernel⟩⟩
set_option maxRecDepth 20000 in
set_option maxHeartbeats 2000000 in
theorem asks_l1 {G : GT} (od : Int64 × UInt64) (A : AS) (s : Int64) (k : ∀ c, CA c A → WE mL_asks 48 [(0, .ref 0), (1, .long (as1 A.1 s 19))] [] (c, od) 21 126 G) : ∀ (n i : Nat) (c : CC), i ≤ 19 → 19 < i + n → CA c A → WE mL_asks 23 [(0, .ref 0), (1, .long (as1 A.1 s i)), (3, .int (nI i))] [] (c, od) (2 + i) (12 + 6 * i) G := by
  intro n
  induction n with
  | zero =>
    intro i c h1 h2
    exact absurd h2 (by omega)
  | succ n ih =>
    intro i c hi hn H
    refine WE.iload_n (n := 24) dL_asks_23 rfl rfl ?_
    refine WE.bipush (n := 26) (nI 19) dL_asks_24 rfl (by decide) ?_
    refine WE.icmp_ge (n := 29) (tgt := 48) dL_asks_26 rfl (by decide) (fun h26 => ?_) (fun h26 => ?_)
    · skip
      have hx : i = 19 := by have := ge_t (by omega) (by omega) h26; omega
      subst hx
      exact WE.ofA (L' := [(0, .ref 0), (1, .long (as1 A.1 s 19))]) ⟨rfl, rfl, trivial⟩ (k _ H)
    · skip
      have hlt : i < 19 := ge_f (by omega) (by omega) h26
      refine WE.ldc2 (n := 32) (v := 31) dL_asks_29 rfl t_963 ?_
      refine WE.lload_n (n := 33) dL_asks_32 rfl rfl ?_
      refine WE.lmul (n := 34) dL_asks_33 rfl ?_
      refine WE.aload_n (n := 35) dL_asks_34 rfl rfl ?_
      refine WE.iload_n (n := 36) dL_asks_35 rfl rfl ?_
      refine WE.H2PI (M' := mL_account) (n := 39) dL_asks_36 rfl ch_L_192 ⟨⟨by decide, by decide⟩, (by show 2 + i + 1 ≤ 500; omega), (by show 12 + 6 * i + 6 ≤ 3000; omega)⟩ (Nat.le_of_ble_eq_true rfl) (y_account _ od A H _) (fun r36 σ36 q36 => ?_)
      obtain ⟨c9, rfl, H, rfl⟩ := q36
      rw [hqA_eq _ _ _ hlt]
      refine WE.cu (cu' := 2 + i + 1) (su' := 12 + 6 * i + 6) (by show 2 + i + 1 = _; omega) (by show 12 + 6 * i + 6 = _; omega) ?_
      refine WE.i2l (n := 40) dL_asks_39 rfl ?_
      refine WE.ladd (n := 41) dL_asks_40 rfl ?_
      refine WE.lstore_n (n := 42) dL_asks_41 rfl (by decide) ?_
      refine WE.iincV (n := 45) (nI (i + 1)) dL_asks_42 rfl rfl (by decide) (nI_inc i) ?_
      refine WE.goto (tgt := 23) dL_asks_45 (by decide) ?_
      exact WE.ofA (L' := [(0, .ref 0), (1, .long (as1 A.1 s (i + 1))), (3, .int (nI (i + 1)))]) ⟨rfl, rfl, rfl, trivial⟩ (WE.cu (by omega) (by omega) (ih (i + 1) _ (by omega) (by omega) H))
theorem ch_L_194 : CHL RL 194 mL_balloonOf 3 := ⟨g_641, g_642, g_20, g_643, rfl, ⟨by decide +kernel, by decide +kernel, by decide +kernel⟩⟩
set_option maxRecDepth 20000 in
set_option maxHeartbeats 2000000 in
theorem asks_l2 {G : GT} (od : Int64 × UInt64) (A : AS) (j : Nat) (s : Int64) (a b : Nat) (ha : a + 24 ≤ 500) (hb : b + 144 ≤ 3000) (k : ∀ c, CA c A → WE mL_asks 90 [(0, .ref 0), (1, .long (as2 A.1 j s 12)), (3, .int (nI j))] [] (c, od) (a + 24) (b + 144) G) : ∀ (n i : Nat) (c : CC), i ≤ 12 → 12 < i + n → CA c A → WE mL_asks 62 [(0, .ref 0), (1, .long (as2 A.1 j s i)), (3, .int (nI j)), (4, .int (nI i))] [] (c, od) (a + 2 * i) (b + 12 * i) G := by
  intro n
  induction n with
  | zero =>
    intro i c h1 h2
    exact absurd h2 (by omega)
  | succ n ih =>
    intro i c hi hn H
    refine WE.iload (n := 64) dL_asks_62 rfl rfl ?_
    refine WE.bipush (n := 66) (nI 12) dL_asks_64 rfl (by decide) ?_
    refine WE.icmp_ge (n := 69) (tgt := 90) dL_asks_66 rfl (by decide) (fun h66 => ?_) (fun h66 => ?_)
    · skip
      have hx : i = 12 := by have := ge_t (by omega) (by omega) h66; omega
      subst hx
      exact WE.ofA (L' := [(0, .ref 0), (1, .long (as2 A.1 j s 12)), (3, .int (nI j))]) ⟨rfl, rfl, rfl, trivial⟩ (k _ H)
    · skip
      have hlt : i < 12 := ge_f (by omega) (by omega) h66
      refine WE.ldc2 (n := 72) (v := 31) dL_asks_69 rfl t_963 ?_
      refine WE.lload_n (n := 73) dL_asks_72 rfl rfl ?_
      refine WE.lmul (n := 74) dL_asks_73 rfl ?_
      refine WE.aload_n (n := 75) dL_asks_74 rfl rfl ?_
      refine WE.iload_n (n := 76) dL_asks_75 rfl rfl ?_
      refine WE.iload (n := 78) dL_asks_76 rfl rfl ?_
      refine WE.H3PI (M' := mL_balloonOf) (n := 81) dL_asks_78 rfl ch_L_194 ⟨⟨by decide, by decide⟩, (by show a + 2 * i + 2 ≤ 500; omega), (by show b + 12 * i + 12 ≤ 3000; omega)⟩ (Nat.le_of_ble_eq_true rfl) (y_balloonOf _ od A H _ _) (fun r78 σ78 q78 => ?_)
      obtain ⟨c9, rfl, H, rfl⟩ := q78
      refine WE.cu (cu' := a + 2 * i + 2) (su' := b + 12 * i + 12) (by show a + 2 * i + 2 = _; omega) (by show b + 12 * i + 12 = _; omega) ?_
      refine WE.i2l (n := 82) dL_asks_81 rfl ?_
      refine WE.ladd (n := 83) dL_asks_82 rfl ?_
      refine WE.lstore_n (n := 84) dL_asks_83 rfl (by decide) ?_
      refine WE.iincV (n := 87) (nI (i + 1)) dL_asks_84 rfl rfl (by decide) (nI_inc i) ?_
      refine WE.goto (tgt := 62) dL_asks_87 (by decide) ?_
      exact WE.ofA (L' := [(0, .ref 0), (1, .long (as2 A.1 j s (i + 1))), (3, .int (nI j)), (4, .int (nI (i + 1)))]) ⟨rfl, rfl, rfl, rfl, trivial⟩ (WE.cu (by omega) (by omega) (ih (i + 1) _ (by omega) (by omega) H))
theorem ch_L_196 : CHL RL 196 mL_weightAgain 2 := ⟨g_984, g_985, g_20, g_986, rfl, ⟨by decide +kernel, by decide +kernel, by decide +kernel⟩⟩
theorem ch_L_198 : CHL RL 198 mL_word 2 := ⟨g_688, g_689, g_20, g_690, rfl, ⟨by decide +kernel, by decide +kernel, by decide +kernel⟩⟩
theorem ch_L_200 : CHL RL 200 mL_sign 2 := ⟨g_700, g_701, g_20, g_702, rfl, ⟨by decide +kernel, by decide +kernel, by decide +kernel⟩⟩
theorem ch_L_202 : CHL RL 202 mL_endsIn 2 := ⟨g_707, g_708, g_20, g_709, rfl, ⟨by decide +kernel, by decide +kernel, by decide +kernel⟩⟩
theorem ch_L_204 : CHL RL 204 mL_ends 3 := ⟨g_723, g_724, g_20, g_725, rfl, ⟨by decide +kernel, by decide +kernel, by decide +kernel⟩⟩
theorem ch_L_206 : CHL RL 206 mL_bestDrop 2 := ⟨g_731, g_732, g_20, g_733, rfl, ⟨by decide +kernel, by decide +kernel, by decide +kernel⟩⟩
set_option maxRecDepth 20000 in
set_option maxHeartbeats 2000000 in
theorem asks_r3 {G : GT} (od : Int64 × UInt64) (A : AS) (j : Nat) (s : Int64) (a b : Nat) (ha : a + 18 ≤ 500) (hb : b + 108 ≤ 3000) (c : CC) (H : CA c A) (k : ∀ c, CA c A → WE mL_asks 50 [(0, .ref 0), (1, .long (as3 A.1 j s)), (3, .int (nI (j + 1)))] [] (c, od) (a + 18) (b + 108) G) : WE mL_asks 90 [(0, .ref 0), (1, .long s), (3, .int (nI j))] [] (c, od) a b G := by
  refine WE.ldc2 (n := 93) (v := 31) dL_asks_90 rfl t_963 ?_
  refine WE.ldc2 (n := 96) (v := 31) dL_asks_93 rfl t_963 ?_
  refine WE.ldc2 (n := 99) (v := 31) dL_asks_96 rfl t_963 ?_
  refine WE.lload_n (n := 100) dL_asks_99 rfl rfl ?_
  refine WE.lmul (n := 101) dL_asks_100 rfl ?_
  refine WE.aload_n (n := 102) dL_asks_101 rfl rfl ?_
  refine WE.iload_n (n := 103) dL_asks_102 rfl rfl ?_
  refine WE.H2PI (M' := mL_weightAgain) (n := 106) dL_asks_103 rfl ch_L_196 ⟨⟨by decide, by decide⟩, (by show a + 1 ≤ 500; omega), (by show b + 6 ≤ 3000; omega)⟩ (Nat.le_of_ble_eq_true rfl) (y_weightAgain _ od A H _) (fun r103 σ103 q103 => ?_)
  obtain ⟨c9, rfl, H, rfl⟩ := q103
  refine WE.cu (cu' := a + 1) (su' := b + 6) (by show a + 1 = _; omega) (by show b + 6 = _; omega) ?_
  refine WE.i2l (n := 107) dL_asks_106 rfl ?_
  refine WE.ladd (n := 108) dL_asks_107 rfl ?_
  refine WE.lmul (n := 109) dL_asks_108 rfl ?_
  refine WE.aload_n (n := 110) dL_asks_109 rfl rfl ?_
  refine WE.iload_n (n := 111) dL_asks_110 rfl rfl ?_
  refine WE.H2PI (M' := mL_word) (n := 114) dL_asks_111 rfl ch_L_198 ⟨⟨by decide, by decide⟩, (by show a + 1 + 2 ≤ 500; omega), (by show b + 6 + 12 ≤ 3000; omega)⟩ (Nat.le_of_ble_eq_true rfl) (y_word _ od A H _) (fun r111 σ111 q111 => ?_)
  obtain ⟨c9, rfl, H, rfl⟩ := q111
  refine WE.cu (cu' := a + 3) (su' := b + 18) (by show a + 1 + 2 = _; omega) (by show b + 6 + 12 = _; omega) ?_
  refine WE.i2l (n := 115) dL_asks_114 rfl ?_
  refine WE.ladd (n := 116) dL_asks_115 rfl ?_
  refine WE.lmul (n := 117) dL_asks_116 rfl ?_
  refine WE.aload_n (n := 118) dL_asks_117 rfl rfl ?_
  refine WE.iload_n (n := 119) dL_asks_118 rfl rfl ?_
  refine WE.H2PI (M' := mL_sign) (n := 122) dL_asks_119 rfl ch_L_200 ⟨⟨by decide, by decide⟩, (by show a + 3 + 1 ≤ 500; omega), (by show b + 18 + 6 ≤ 3000; omega)⟩ (Nat.le_of_ble_eq_true rfl) (y_sign _ od A H _) (fun r119 σ119 q119 => ?_)
  obtain ⟨c9, rfl, H, rfl⟩ := q119
  refine WE.cu (cu' := a + 4) (su' := b + 24) (by show a + 3 + 1 = _; omega) (by show b + 18 + 6 = _; omega) ?_
  refine WE.i2l (n := 123) dL_asks_122 rfl ?_
  refine WE.ladd (n := 124) dL_asks_123 rfl ?_
  refine WE.lstore_n (n := 125) dL_asks_124 rfl (by decide) ?_
  refine WE.ldc2 (n := 128) (v := 31) dL_asks_125 rfl t_963 ?_
  refine WE.ldc2 (n := 131) (v := 31) dL_asks_128 rfl t_963 ?_
  refine WE.ldc2 (n := 134) (v := 31) dL_asks_131 rfl t_963 ?_
  refine WE.lload_n (n := 135) dL_asks_134 rfl rfl ?_
  refine WE.lmul (n := 136) dL_asks_135 rfl ?_
  refine WE.aload_n (n := 137) dL_asks_136 rfl rfl ?_
  refine WE.iload_n (n := 138) dL_asks_137 rfl rfl ?_
  refine WE.H2PI (M' := mL_endsIn) (n := 141) dL_asks_138 rfl ch_L_202 ⟨⟨by decide, by decide⟩, (by show a + 4 + 2 ≤ 500; omega), (by show b + 24 + 12 ≤ 3000; omega)⟩ (Nat.le_of_ble_eq_true rfl) (y_endsIn _ od A H _) (fun r138 σ138 q138 => ?_)
  obtain ⟨c9, rfl, H, rfl⟩ := q138
  refine WE.cu (cu' := a + 6) (su' := b + 36) (by show a + 4 + 2 = _; omega) (by show b + 24 + 12 = _; omega) ?_
  refine WE.i2l (n := 142) dL_asks_141 rfl ?_
  refine WE.ladd (n := 143) dL_asks_142 rfl ?_
  refine WE.lmul (n := 144) dL_asks_143 rfl ?_
  refine WE.aload_n (n := 145) dL_asks_144 rfl rfl ?_
  refine WE.iload_n (n := 146) dL_asks_145 rfl rfl ?_
  refine WE.iconst (n := 147) (nI 0) dL_asks_146 rfl (by decide) ?_
  refine WE.H3PI (M' := mL_ends) (n := 150) dL_asks_147 rfl ch_L_204 ⟨⟨by decide, by decide⟩, (by show a + 6 + 3 ≤ 500; omega), (by show b + 36 + 18 ≤ 3000; omega)⟩ (Nat.le_of_ble_eq_true rfl) (y_ends _ od A H _ _) (fun r147 σ147 q147 => ?_)
  obtain ⟨c9, rfl, H, rfl⟩ := q147
  refine WE.cu (cu' := a + 9) (su' := b + 54) (by show a + 6 + 3 = _; omega) (by show b + 36 + 18 = _; omega) ?_
  refine WE.i2l (n := 151) dL_asks_150 rfl ?_
  refine WE.ladd (n := 152) dL_asks_151 rfl ?_
  refine WE.lmul (n := 153) dL_asks_152 rfl ?_
  refine WE.aload_n (n := 154) dL_asks_153 rfl rfl ?_
  refine WE.iload_n (n := 155) dL_asks_154 rfl rfl ?_
  refine WE.iconst (n := 156) (nI 1) dL_asks_155 rfl (by decide) ?_
  refine WE.H3PI (M' := mL_ends) (n := 159) dL_asks_156 rfl ch_L_204 ⟨⟨by decide, by decide⟩, (by show a + 9 + 3 ≤ 500; omega), (by show b + 54 + 18 ≤ 3000; omega)⟩ (Nat.le_of_ble_eq_true rfl) (y_ends _ od A H _ _) (fun r156 σ156 q156 => ?_)
  obtain ⟨c9, rfl, H, rfl⟩ := q156
  refine WE.cu (cu' := a + 12) (su' := b + 72) (by show a + 9 + 3 = _; omega) (by show b + 54 + 18 = _; omega) ?_
  refine WE.i2l (n := 160) dL_asks_159 rfl ?_
  refine WE.ladd (n := 161) dL_asks_160 rfl ?_
  refine WE.lstore_n (n := 162) dL_asks_161 rfl (by decide) ?_
  refine WE.ldc2 (n := 165) (v := 31) dL_asks_162 rfl t_963 ?_
  refine WE.ldc2 (n := 168) (v := 31) dL_asks_165 rfl t_963 ?_
  refine WE.lload_n (n := 169) dL_asks_168 rfl rfl ?_
  refine WE.lmul (n := 170) dL_asks_169 rfl ?_
  refine WE.aload_n (n := 171) dL_asks_170 rfl rfl ?_
  refine WE.iload_n (n := 172) dL_asks_171 rfl rfl ?_
  refine WE.iconst (n := 173) (nI 2) dL_asks_172 rfl (by decide) ?_
  refine WE.H3PI (M' := mL_ends) (n := 176) dL_asks_173 rfl ch_L_204 ⟨⟨by decide, by decide⟩, (by show a + 12 + 3 ≤ 500; omega), (by show b + 72 + 18 ≤ 3000; omega)⟩ (Nat.le_of_ble_eq_true rfl) (y_ends _ od A H _ _) (fun r173 σ173 q173 => ?_)
  obtain ⟨c9, rfl, H, rfl⟩ := q173
  refine WE.cu (cu' := a + 15) (su' := b + 90) (by show a + 12 + 3 = _; omega) (by show b + 72 + 18 = _; omega) ?_
  refine WE.i2l (n := 177) dL_asks_176 rfl ?_
  refine WE.ladd (n := 178) dL_asks_177 rfl ?_
  refine WE.lmul (n := 179) dL_asks_178 rfl ?_
  refine WE.aload_n (n := 180) dL_asks_179 rfl rfl ?_
  refine WE.iload_n (n := 181) dL_asks_180 rfl rfl ?_
  refine WE.H2PI (M' := mL_bestDrop) (n := 184) dL_asks_181 rfl ch_L_206 ⟨⟨by decide, by decide⟩, (by show a + 15 + 3 ≤ 500; omega), (by show b + 90 + 18 ≤ 3000; omega)⟩ (Nat.le_of_ble_eq_true rfl) (y_bestDrop _ od A H _) (fun r181 σ181 q181 => ?_)
  obtain ⟨c9, rfl, H, rfl⟩ := q181
  refine WE.cu (cu' := a + 18) (su' := b + 108) (by show a + 15 + 3 = _; omega) (by show b + 90 + 18 = _; omega) ?_
  refine WE.i2l (n := 185) dL_asks_184 rfl ?_
  refine WE.ladd (n := 186) dL_asks_185 rfl ?_
  refine WE.lstore_n (n := 187) dL_asks_186 rfl (by decide) ?_
  refine WE.iincV (n := 190) (nI (j + 1)) dL_asks_187 rfl rfl (by decide) (nI_inc j) ?_
  refine WE.goto (tgt := 50) dL_asks_190 (by decide) ?_
  exact WE.ofA (L' := [(0, .ref 0), (1, .long (as3 A.1 j s)), (3, .int (nI (j + 1)))]) ⟨rfl, rfl, rfl, trivial⟩ (k _ H)
set_option maxRecDepth 20000 in
set_option maxHeartbeats 2000000 in
theorem asks_l4 {G : GT} (od : Int64 × UInt64) (A : AS) (hb6 : nbN A.1 ≤ 6) (s : Int64) (k : ∀ c, CA c A → WE mL_asks 193 [(0, .ref 0), (1, .long (as4 A.1 s (nbN A.1)))] [] (c, od) 300 1800 G) : ∀ (n i : Nat) (c : CC), i ≤ nbN A.1 → nbN A.1 < i + n → CA c A → WE mL_asks 50 [(0, .ref 0), (1, .long (as4 A.1 s i)), (3, .int (nI i))] [] (c, od) (21 + 43 * i) (126 + 258 * i) G := by
  intro n
  induction n with
  | zero =>
    intro i c h1 h2
    exact absurd h2 (by omega)
  | succ n ih =>
    intro i c hi hn H
    refine WE.iload_n (n := 51) dL_asks_50 rfl rfl ?_
    refine WE.aload_n (n := 52) dL_asks_51 rfl rfl ?_
    refine WE.iconst (n := 53) (nI 3) dL_asks_52 rfl (by decide) ?_
    refine WE.H2PI (M' := mL_account) (n := 56) dL_asks_53 rfl ch_L_192 ⟨⟨by decide, by decide⟩, (by show 21 + 43 * i + 1 ≤ 500; omega), (by show 126 + 258 * i + 6 ≤ 3000; omega)⟩ (Nat.le_of_ble_eq_true rfl) (y_account _ od A H _) (fun r53 σ53 q53 => ?_)
    obtain ⟨c9, rfl, H, rfl⟩ := q53
    rw [acc3 H.1]
    refine WE.cu (cu' := 21 + 43 * i + 1) (su' := 126 + 258 * i + 6) (by show 21 + 43 * i + 1 = _; omega) (by show 126 + 258 * i + 6 = _; omega) ?_
    refine WE.icmp_ge (n := 59) (tgt := 193) dL_asks_56 rfl (by decide) (fun h56 => ?_) (fun h56 => ?_)
    · skip
      have hx : i = nbN A.1 := by have := ge_t (by omega) (by omega) h56; omega
      subst hx
      exact WE.ofA (L' := [(0, .ref 0), (1, .long (as4 A.1 s (nbN A.1)))]) ⟨rfl, rfl, trivial⟩ (WE.wid (by omega) (by omega) (k _ H))
    · skip
      have hlt : i < nbN A.1 := ge_f (by omega) (by omega) h56
      refine WE.iconst (n := 60) (nI 0) dL_asks_59 rfl (by decide) ?_
      refine WE.istore (n := 62) dL_asks_60 rfl (by decide) ?_
      refine WE.ofA (L' := [(0, .ref 0), (1, .long (as2 A.1 i (as4 A.1 s i) 0)), (3, .int (nI i)), (4, .int (nI 0))]) ⟨rfl, rfl, rfl, rfl, trivial⟩ ?_
      refine asks_l2 od A i (as4 A.1 s i) (21 + 43 * i + 1) (126 + 258 * i + 6) (by omega) (by omega) (fun c H => ?_) 13 0 _ (by omega) (by omega) H
      exact asks_r3 od A i _ _ _ (by omega) (by omega) c H (fun c H => WE.cu (by omega) (by omega) (ih (i + 1) c (by omega) (by omega) H))
theorem ch_L_208 : CHL RL 208 mL_letterOf 3 := ⟨g_995, g_996, g_20, g_997, rfl, ⟨by decide +kernel, by decide +kernel, by decide +kernel⟩⟩
set_option maxRecDepth 20000 in
set_option maxHeartbeats 2000000 in
theorem asks_l5 {G : GT} (od : Int64 × UInt64) (A : AS) (j : Nat) (s : Int64) (a b : Nat) (ha : a + 4 ≤ 500) (hb : b + 24 ≤ 3000) (k : ∀ c, CA c A → WE mL_asks 235 [(0, .ref 0), (1, .long (as5 A.1 j s 4)), (3, .int (nI j))] [] (c, od) (a + 4) (b + 24) G) : ∀ (n i : Nat) (c : CC), i ≤ 4 → 4 < i + n → CA c A → WE mL_asks 208 [(0, .ref 0), (1, .long (as5 A.1 j s i)), (3, .int (nI j)), (4, .int (nI i))] [] (c, od) (a + i) (b + 6 * i) G := by
  intro n
  induction n with
  | zero =>
    intro i c h1 h2
    exact absurd h2 (by omega)
  | succ n ih =>
    intro i c hi hn H
    refine WE.iload (n := 210) dL_asks_208 rfl rfl ?_
    refine WE.iconst (n := 211) (nI 4) dL_asks_210 rfl (by decide) ?_
    refine WE.icmp_ge (n := 214) (tgt := 235) dL_asks_211 rfl (by decide) (fun h211 => ?_) (fun h211 => ?_)
    · skip
      have hx : i = 4 := by have := ge_t (by omega) (by omega) h211; omega
      subst hx
      exact WE.ofA (L' := [(0, .ref 0), (1, .long (as5 A.1 j s 4)), (3, .int (nI j))]) ⟨rfl, rfl, rfl, trivial⟩ (k _ H)
    · skip
      have hlt : i < 4 := ge_f (by omega) (by omega) h211
      refine WE.ldc2 (n := 217) (v := 31) dL_asks_214 rfl t_963 ?_
      refine WE.lload_n (n := 218) dL_asks_217 rfl rfl ?_
      refine WE.lmul (n := 219) dL_asks_218 rfl ?_
      refine WE.aload_n (n := 220) dL_asks_219 rfl rfl ?_
      refine WE.iload_n (n := 221) dL_asks_220 rfl rfl ?_
      refine WE.iload (n := 223) dL_asks_221 rfl rfl ?_
      refine WE.H3PI (M' := mL_letterOf) (n := 226) dL_asks_223 rfl ch_L_208 ⟨⟨by decide, by decide⟩, (by show a + i + 1 ≤ 500; omega), (by show b + 6 * i + 6 ≤ 3000; omega)⟩ (Nat.le_of_ble_eq_true rfl) (y_letterOf _ od A H _ _) (fun r223 σ223 q223 => ?_)
      obtain ⟨c9, rfl, H, rfl⟩ := q223
      refine WE.cu (cu' := a + i + 1) (su' := b + 6 * i + 6) (by show a + i + 1 = _; omega) (by show b + 6 * i + 6 = _; omega) ?_
      refine WE.i2l (n := 227) dL_asks_226 rfl ?_
      refine WE.ladd (n := 228) dL_asks_227 rfl ?_
      refine WE.lstore_n (n := 229) dL_asks_228 rfl (by decide) ?_
      refine WE.iincV (n := 232) (nI (i + 1)) dL_asks_229 rfl rfl (by decide) (nI_inc i) ?_
      refine WE.goto (tgt := 208) dL_asks_232 (by decide) ?_
      exact WE.ofA (L' := [(0, .ref 0), (1, .long (as5 A.1 j s (i + 1))), (3, .int (nI j)), (4, .int (nI (i + 1)))]) ⟨rfl, rfl, rfl, rfl, trivial⟩ (WE.cu (by omega) (by omega) (ih (i + 1) _ (by omega) (by omega) H))
set_option maxRecDepth 20000 in
set_option maxHeartbeats 2000000 in
theorem asks_l6 {G : GT} (od : Int64 × UInt64) (A : AS) (hl : nlN A.1 ≤ 24) (s : Int64) (k : ∀ c, CA c A → WE mL_asks 241 [(0, .ref 0), (1, .long (as6 A.1 s (nlN A.1)))] [] (c, od) 430 2600 G) : ∀ (n i : Nat) (c : CC), i ≤ nlN A.1 → nlN A.1 < i + n → CA c A → WE mL_asks 195 [(0, .ref 0), (1, .long (as6 A.1 s i)), (3, .int (nI i))] [] (c, od) (300 + 5 * i) (1800 + 30 * i) G := by
  intro n
  induction n with
  | zero =>
    intro i c h1 h2
    exact absurd h2 (by omega)
  | succ n ih =>
    intro i c hi hn H
    refine WE.iload_n (n := 196) dL_asks_195 rfl rfl ?_
    refine WE.aload_n (n := 197) dL_asks_196 rfl rfl ?_
    refine WE.bipush (n := 199) (nI 8) dL_asks_197 rfl (by decide) ?_
    refine WE.H2PI (M' := mL_account) (n := 202) dL_asks_199 rfl ch_L_192 ⟨⟨by decide, by decide⟩, (by show 300 + 5 * i + 1 ≤ 500; omega), (by show 1800 + 30 * i + 6 ≤ 3000; omega)⟩ (Nat.le_of_ble_eq_true rfl) (y_account _ od A H _) (fun r199 σ199 q199 => ?_)
    obtain ⟨c9, rfl, H, rfl⟩ := q199
    rw [acc8 H.1]
    refine WE.cu (cu' := 300 + 5 * i + 1) (su' := 1800 + 30 * i + 6) (by show 300 + 5 * i + 1 = _; omega) (by show 1800 + 30 * i + 6 = _; omega) ?_
    refine WE.icmp_ge (n := 205) (tgt := 241) dL_asks_202 rfl (by decide) (fun h202 => ?_) (fun h202 => ?_)
    · skip
      have hx : i = nlN A.1 := by have := ge_t (by omega) (by omega) h202; omega
      subst hx
      exact WE.ofA (L' := [(0, .ref 0), (1, .long (as6 A.1 s (nlN A.1)))]) ⟨rfl, rfl, trivial⟩ (WE.wid (by omega) (by omega) (k _ H))
    · skip
      have hlt : i < nlN A.1 := ge_f (by omega) (by omega) h202
      refine WE.iconst (n := 206) (nI 0) dL_asks_205 rfl (by decide) ?_
      refine WE.istore (n := 208) dL_asks_206 rfl (by decide) ?_
      refine WE.ofA (L' := [(0, .ref 0), (1, .long (as5 A.1 i (as6 A.1 s i) 0)), (3, .int (nI i)), (4, .int (nI 0))]) ⟨rfl, rfl, rfl, rfl, trivial⟩ ?_
      refine asks_l5 od A i (as6 A.1 s i) (300 + 5 * i + 1) (1800 + 30 * i + 6) (by omega) (by omega) (fun c H => ?_) 5 0 _ (by omega) (by omega) H
      refine WE.iincV (n := 238) (nI (i + 1)) dL_asks_235 rfl rfl (by decide) (nI_inc i) ?_
      refine WE.goto (tgt := 195) dL_asks_238 (by decide) ?_
      exact WE.ofA (L' := [(0, .ref 0), (1, .long (as6 A.1 s (i + 1))), (3, .int (nI (i + 1)))]) ⟨rfl, rfl, rfl, trivial⟩ (WE.cu (by omega) (by omega) (ih (i + 1) c (by omega) (by omega) H))
theorem ch_L_210 : CHL RL 210 mL_waiting 2 := ⟨g_660, g_661, g_20, g_662, rfl, ⟨by decide +kernel, by decide +kernel, by decide +kernel⟩⟩
theorem ch_L_212 : CHL RL 212 mL_isWithin 3 := ⟨g_1009, g_1010, g_20, g_1011, rfl, ⟨by decide +kernel, by decide +kernel, by decide +kernel⟩⟩
theorem cv_L_214 : CVL RL 214 mX5_isWell 5 0 := ⟨g_1018, g_1019, g_1020, g_21, g_1021, rfl, ⟨by decide +kernel, by decide +kernel, by decide +kernel⟩, rfl, by decide⟩
theorem ch_L_174 : CHL RL 174 mL_meanDistance 1 := ⟨g_864, g_865, g_20, g_866, rfl, ⟨by decide +kernel, by decide +kernel, by decide +kernel⟩⟩
theorem ch_L_183 : CHL RL 183 mL_share 1 := ⟨g_894, g_895, g_20, g_896, rfl, ⟨by decide +kernel, by decide +kernel, by decide +kernel⟩⟩
set_option maxRecDepth 20000 in
set_option maxHeartbeats 2000000 in
theorem c_asks (c : CC) (od : Int64 × UInt64) (A : AS) (H : CA c A) : CM mL_asks [.ref 0] (c, od) (LQ od A (asksF A.1)) := by
  refine CM.of [(0, .ref 0)] rfl (by decide +kernel) rfl (Nat.le_of_ble_eq_true rfl) ?_
  have hn := H.1.cn
  refine WE.ldc2 (n := 3) (v := 31) dL_asks_0 rfl t_963 ?_
  refine WE.aload_n (n := 4) dL_asks_3 rfl rfl ?_
  refine WE.H1W (M' := mL_meanDistance) (n := 7) dL_asks_4 rfl ch_L_174 ⟨⟨by decide, by decide⟩, (by show 0 + 1 ≤ 500; omega), (by show 0 + 6 ≤ 3000; omega)⟩ (Nat.le_of_ble_eq_true rfl) (x_meanDistance _ od A H) ?_
  refine WE.cu (cu' := 1) (su' := 6) (by show 0 + 1 = _; omega) (by show 0 + 6 = _; omega) ?_
  refine WE.S1W (M' := mJ_DB) (n := 10) dL_asks_7 rfl cj_D ⟨⟨by decide, by decide⟩, (by show 1 + 0 ≤ 500; omega), (by show 6 + 0 ≤ 3000; omega)⟩ (Nat.le_of_ble_eq_true rfl) (j_DB _ _) ?_
  refine WE.cu (cu' := 1) (su' := 6) (by show 1 + 0 = _; omega) (by show 6 + 0 = _; omega) ?_
  refine WE.lmul (n := 11) dL_asks_10 rfl ?_
  refine WE.aload_n (n := 12) dL_asks_11 rfl rfl ?_
  refine WE.H1W (M' := mL_share) (n := 15) dL_asks_12 rfl ch_L_183 ⟨⟨by decide, by decide⟩, (by show 1 + 1 ≤ 500; omega), (by show 6 + 6 ≤ 3000; omega)⟩ (Nat.le_of_ble_eq_true rfl) (x_share _ od A H) ?_
  refine WE.cu (cu' := 2) (su' := 12) (by show 1 + 1 = _; omega) (by show 6 + 6 = _; omega) ?_
  refine WE.S1W (M' := mJ_FB) (n := 18) dL_asks_15 rfl cj_F ⟨⟨by decide, by decide⟩, (by show 2 + 0 ≤ 500; omega), (by show 12 + 0 ≤ 3000; omega)⟩ (Nat.le_of_ble_eq_true rfl) (j_FB _ _) ?_
  refine WE.cu (cu' := 2) (su' := 12) (by show 2 + 0 = _; omega) (by show 12 + 0 = _; omega) ?_
  refine WE.i2l (n := 19) dL_asks_18 rfl ?_
  refine WE.ladd (n := 20) dL_asks_19 rfl ?_
  refine WE.lstore_n (n := 21) dL_asks_20 rfl (by decide) ?_
  refine WE.iconst (n := 22) (nI 0) dL_asks_21 rfl (by decide) ?_
  refine WE.istore_n (n := 23) dL_asks_22 rfl (by decide) ?_
  refine WE.ofA (L' := [(0, .ref 0), (1, .long (as1 A.1 (as0 A.1) 0)), (3, .int (nI 0))]) ⟨rfl, rfl, rfl, trivial⟩ ?_
  refine asks_l1 od A (as0 A.1) (fun c H => ?_) 20 0 _ (by omega) (by omega) H
  refine WE.iconst (n := 49) (nI 0) dL_asks_48 rfl (by decide) ?_
  refine WE.istore_n (n := 50) dL_asks_49 rfl (by decide) ?_
  refine WE.ofA (L' := [(0, .ref 0), (1, .long (as4 A.1 (as1 A.1 (as0 A.1) 19) 0)), (3, .int (nI 0))]) ⟨rfl, rfl, rfl, trivial⟩ ?_
  refine asks_l4 od A hn.1 _ (fun c H => ?_) (nbN A.1 + 1) 0 _ (by omega) (by omega) H
  refine WE.iconst (n := 194) (nI 0) dL_asks_193 rfl (by decide) ?_
  refine WE.istore_n (n := 195) dL_asks_194 rfl (by decide) ?_
  refine WE.ofA (L' := [(0, .ref 0), (1, .long (as6 A.1 (as4 A.1 (as1 A.1 (as0 A.1) 19) (nbN A.1)) 0)), (3, .int (nI 0))]) ⟨rfl, rfl, rfl, trivial⟩ ?_
  refine asks_l6 od A hn.2.2.1 _ (fun c H => ?_) (nlN A.1 + 1) 0 _ (by omega) (by omega) H
  refine WE.ldc2 (n := 244) (v := 31) dL_asks_241 rfl t_963 ?_
  refine WE.ldc2 (n := 247) (v := 31) dL_asks_244 rfl t_963 ?_
  refine WE.lload_n (n := 248) dL_asks_247 rfl rfl ?_
  refine WE.lmul (n := 249) dL_asks_248 rfl ?_
  refine WE.aload_n (n := 250) dL_asks_249 rfl rfl ?_
  refine WE.iconst (n := 251) (nI 0) dL_asks_250 rfl (by decide) ?_
  refine WE.H2PI (M' := mL_waiting) (n := 254) dL_asks_251 rfl ch_L_210 ⟨⟨by decide, by decide⟩, (by show 430 + 1 ≤ 500; omega), (by show 2600 + 6 ≤ 3000; omega)⟩ (Nat.le_of_ble_eq_true rfl) (y_waiting _ od A H _) (fun r251 σ251 q251 => ?_)
  obtain ⟨c9, rfl, H, rfl⟩ := q251
  refine WE.cu (cu' := 430 + 1) (su' := 2600 + 6) (by show 430 + 1 = _; omega) (by show 2600 + 6 = _; omega) ?_
  refine WE.i2l (n := 255) dL_asks_254 rfl ?_
  refine WE.ladd (n := 256) dL_asks_255 rfl ?_
  refine WE.lmul (n := 257) dL_asks_256 rfl ?_
  refine WE.aload_n (n := 258) dL_asks_257 rfl rfl ?_
  refine WE.iconst (n := 259) (nI 3) dL_asks_258 rfl (by decide) ?_
  refine WE.H2PI (M' := mL_waiting) (n := 262) dL_asks_259 rfl ch_L_210 ⟨⟨by decide, by decide⟩, (by show 430 + 1 + 1 ≤ 500; omega), (by show 2600 + 6 + 6 ≤ 3000; omega)⟩ (Nat.le_of_ble_eq_true rfl) (y_waiting _ od A H _) (fun r259 σ259 q259 => ?_)
  obtain ⟨c9, rfl, H, rfl⟩ := q259
  refine WE.cu (cu' := 430 + 2) (su' := 2600 + 12) (by show 430 + 1 + 1 = _; omega) (by show 2600 + 6 + 6 = _; omega) ?_
  refine WE.i2l (n := 263) dL_asks_262 rfl ?_
  refine WE.ladd (n := 264) dL_asks_263 rfl ?_
  refine WE.lstore_n (n := 265) dL_asks_264 rfl (by decide) ?_
  refine WE.ldc2 (n := 268) (v := 31) dL_asks_265 rfl t_963 ?_
  refine WE.ldc2 (n := 271) (v := 31) dL_asks_268 rfl t_963 ?_
  refine WE.lload_n (n := 272) dL_asks_271 rfl rfl ?_
  refine WE.lmul (n := 273) dL_asks_272 rfl ?_
  refine WE.aload_n (n := 274) dL_asks_273 rfl rfl ?_
  refine WE.bipush (n := 276) (nI 26) dL_asks_274 rfl (by decide) ?_
  refine WE.bipush (n := 278) (nI 20) dL_asks_276 rfl (by decide) ?_
  refine WE.H3PI (M' := mL_isWithin) (n := 281) dL_asks_278 rfl ch_L_212 ⟨⟨by decide, by decide⟩, (by show 430 + 2 + 1 ≤ 500; omega), (by show 2600 + 12 + 6 ≤ 3000; omega)⟩ (Nat.le_of_ble_eq_true rfl) (y_isWithin _ od A H _ _) (fun r278 σ278 q278 => ?_)
  obtain ⟨c9, rfl, H, rfl⟩ := q278
  refine WE.cu (cu' := 430 + 3) (su' := 2600 + 18) (by show 430 + 2 + 1 = _; omega) (by show 2600 + 12 + 6 = _; omega) ?_
  refine WE.i2l (n := 282) dL_asks_281 rfl ?_
  refine WE.ladd (n := 283) dL_asks_282 rfl ?_
  refine WE.lmul (n := 284) dL_asks_283 rfl ?_
  refine WE.aload_n (n := 285) dL_asks_284 rfl rfl ?_
  refine WE.V0I (M' := mX5_isWell) (n := 288) dL_asks_285 rfl cv_L_214 (by decide) ⟨⟨by decide, by decide⟩, (by show 430 + 3 + 0 ≤ 500; omega), (by show 2600 + 18 + 0 ≤ 3000; omega)⟩ (Nat.le_of_ble_eq_true rfl) (x_isWell _ od A H) ?_
  refine WE.cu (cu' := 430 + 3) (su' := 2600 + 18) (by show 430 + 3 + 0 = _; omega) (by show 2600 + 18 + 0 = _; omega) ?_
  refine WE.if_eq (n := 291) (tgt := 295) dL_asks_288 rfl (by decide) (fun h288 => ?_) (fun h288 => ?_)
  · first | exact absurd rfl h288 | exact absurd h288 (by decide)
  refine WE.iconst (n := 292) (nI 1) dL_asks_291 rfl (by decide) ?_
  refine WE.goto (tgt := 296) dL_asks_292 (by decide) ?_
  refine WE.i2l (n := 297) dL_asks_296 rfl ?_
  refine WE.ladd (n := 298) dL_asks_297 rfl ?_
  refine WE.lret dL_asks_298 rfl ⟨(by show 430 + 3 ≤ 500; omega), (by show 2600 + 18 ≤ 3000; omega)⟩ ?_
  exact ⟨_, rfl, rfl, H⟩
