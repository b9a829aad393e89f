abbrev mX0_init : MT := (yX0_init, cX0_init, 1, none, { frames := 1, cells := 0, slots := 0, locals := 64 }, [])
abbrev mX1_init : MT := (yX1_init, cX1_init, 2, none, { frames := 3, cells := 316, slots := 1881, locals := 192 }, [])
abbrev mX2_init : MT := (yX2_init, cX2_init, 1, none, { frames := 1, cells := 0, slots := 0, locals := 64 }, [])
abbrev mX3_init : MT := (yX3_init, cX3_init, 1, none, { frames := 1, cells := 5, slots := 140, locals := 64 }, [])
abbrev mX4_init : MT := (yX4_init, cX4_init, 2, none, { frames := 2, cells := 34, slots := 192, locals := 128 }, [])
abbrev mX5_init : MT := (yX5_init, cX5_init, 1, none, { frames := 4, cells := 394, slots := 2462, locals := 256 }, [])
/-- what stands at a place of a new town -/
def balE : RE := .inl (0, ((dfl 0).set 9 (.int (nI 20))).set 10 (.int (nI 20)))
def letE : RE := .inl (2, (dfl 2).set 2 (.int (-1 : Int32)))
def twE (a : Nat) : RE := .inl (4, ((((((dfl 4).set 0 (.ref (a + 1))).set 1 (.ref (a + 2))).set 2 (.ref (a + 3))).set 3 (.ref (a + 4))).set 7 (.int (nI 5))).set 8 (.int (nI 100)))
def winE : RE := .inr (.inl (0, 6, fun _ => 0))
def brE (a i : Nat) : RE := .inr (.inr (.inl (2, 6, fun k => if k < i then some (a + 5 + k) else none)))
def lrE (a i : Nat) : RE := .inr (.inr (.inl (3, 24, fun k => if k < i then some (a + 11 + k) else none)))
def hrE (i : Nat) : RE := .inr (.inr (.inl (4, 9, fun k => if k < i then some (38 + 35 * k) else none)))
def tE (a o : Nat) : RE := if o = 0 then twE a else if o < 3 then winE else if o = 3 then brE a 6 else if o = 4 then lrE a 24 else if o < 11 then balE else letE
theorem up_row (m i : Nat) (v : Nat → Nat) : va_up (fun k => if k < i then some (v k) else none) i (some (v i)) = fun k => if k < i + 1 then some (v k) else none := by
  funext k
  unfold va_up
  by_cases h : k = i
  · subst h
    rw [if_pos rfl, if_pos (by omega)]
  · rw [if_neg h]
    show (if k < i then some (v k) else none) = _
    by_cases h2 : k < i
    · rw [if_pos h2, if_pos (by omega)]
    · rw [if_neg h2, if_neg (by omega)]
theorem none_row (v : Nat → Nat) : (fun _ : Nat => (none : Option Nat)) = fun k => if k < 0 then some (v k) else none := by
  funext k
  rw [if_neg (by omega)]
set_option maxRecDepth 20000 in
set_option maxHeartbeats 1000000 in
theorem i_bal (a n : Nat) (hn : a < n) (f : Nat → RE) (hf : f a = .inl (0, dfl 0)) : CI mX0_init [.ref a] n f n (fun g => g = up f a balE) := by
  refine CI.of [(0, .ref a)] rfl (by decide +kernel) rfl rfl (Nat.le_of_ble_eq_true rfl) (by omega) ?_
  refine NE.aload_n (n1 := 1) dX0_init_0 rfl rfl ?_
  refine NE.obj (n1 := 4) dX0_init_1 rfl g_73 g_57 g_58 ⟨by decide, Nat.le_of_ble_eq_true rfl⟩ ?_
  refine NE.aload_n (n1 := 5) dX0_init_4 rfl rfl ?_
  refine NE.bipush (n1 := 7) (nI 20) dX0_init_5 rfl (by decide) ?_
  refine NE.put (n1 := 10) dX0_init_7 rfl fl_X0_9 ⟨by decide, by decide⟩ (fun z => ⟨rfl, rfl⟩) rfl (by omega) hf (Nat.le_of_ble_eq_true rfl) ?_
  refine NE.aload_n (n1 := 11) dX0_init_10 rfl rfl ?_
  refine NE.bipush (n1 := 13) (nI 20) dX0_init_11 rfl (by decide) ?_
  refine NE.put (n1 := 16) dX0_init_13 rfl fl_X0_15 ⟨by decide, by decide⟩ (fun z => ⟨rfl, rfl⟩) rfl (by omega) (up_eq _ _ _) (Nat.le_of_ble_eq_true rfl) ?_
  exact NE.vret dX0_init_16 rfl ⟨by decide, by decide⟩ (by
    funext j
    by_cases h : j = a
    · subst h
      rw [up_eq, up_eq]
      rfl
    · rw [up_ne _ _ h, up_ne _ _ h, up_ne _ _ h])
set_option maxRecDepth 20000 in
set_option maxHeartbeats 1000000 in
theorem i_let (a n : Nat) (hn : a < n) (f : Nat → RE) (hf : f a = .inl (2, dfl 2)) : CI mX2_init [.ref a] n f n (fun g => g = up f a letE) := by
  refine CI.of [(0, .ref a)] rfl (by decide +kernel) rfl rfl (Nat.le_of_ble_eq_true rfl) (by omega) ?_
  refine NE.aload_n (n1 := 1) dX2_init_0 rfl rfl ?_
  refine NE.obj (n1 := 4) dX2_init_1 rfl g_134 g_57 g_58 ⟨by decide, Nat.le_of_ble_eq_true rfl⟩ ?_
  refine NE.aload_n (n1 := 5) dX2_init_4 rfl rfl ?_
  refine NE.iconst (n1 := 6) ((-1 : Int32)) dX2_init_5 rfl (by decide) ?_
  refine NE.put (n1 := 9) dX2_init_6 rfl fl_X2_9 ⟨by decide, by decide⟩ (fun z => ⟨rfl, rfl⟩) rfl (by omega) hf (Nat.le_of_ble_eq_true rfl) ?_
  exact NE.vret dX2_init_9 rfl ⟨by decide, by decide⟩ rfl
def TV1 (f : Nat → RE) (a i : Nat) (g : Nat → RE) : Prop := (∀ j, j < a → g j = f j) ∧ g a = twE a ∧ g (a + 1) = winE ∧ g (a + 2) = winE ∧ g (a + 3) = brE a i ∧ g (a + 4) = lrE a 0 ∧ ∀ k, k < i → g (a + 5 + k) = balE
def TV2 (f : Nat → RE) (a i : Nat) (g : Nat → RE) : Prop := (∀ j, j < a → g j = f j) ∧ g a = twE a ∧ g (a + 1) = winE ∧ g (a + 2) = winE ∧ g (a + 3) = brE a 6 ∧ g (a + 4) = lrE a i ∧ (∀ k, k < 6 → g (a + 5 + k) = balE) ∧ ∀ k, k < i → g (a + 11 + k) = letE
theorem NE.cst {M : MT} {pc n n' : Nat} {L : List (Nat × Value)} {st : List Value} {f : Nat → RE} {cu cu' su su' : Nat} {G : GT} (h1 : n = n') (h2 : cu = cu') (h3 : su = su') (k : NE M pc L st n' f cu' su' G) : NE M pc L st n f cu su G := by
  subst h1
  subst h2
  subst h3
  exact k
set_option maxRecDepth 20000 in
set_option maxHeartbeats 1000000 in
theorem i_town1 {G : GT} (f : Nat → RE) (a : Nat) (k : ∀ g, TV1 f a 6 g → NE mX4_init 76 [(0, .ref a)] [] (a + 11) g 10 120 G) : ∀ (m i : Nat) (g : Nat → RE), i ≤ 6 → 6 < i + m → TV1 f a i g → NE mX4_init 51 [(0, .ref a), (1, .int (nI i))] [] (a + 5 + i) g (4 + i) (42 + 13 * i) G := by
  intro m
  induction m with
  | zero =>
    intro i g h1 h2
    exact absurd h2 (by omega)
  | succ m ih =>
    intro i g hi hm hv
    refine NE.iload_n (n1 := 52) dX4_init_51 rfl rfl ?_
    refine NE.bipush (n1 := 54) (nI 6) dX4_init_52 rfl (by decide) ?_
    refine NE.icmp_ge (n1 := 57) (tgt := 76) dX4_init_54 rfl (by decide) (fun h => ?_) (fun h => ?_)
    · have hx : i = 6 := by
        have := ge_t (by omega) (by omega) h
        omega
      subst hx
      exact NE.ofA (L' := [(0, .ref a)]) ⟨rfl, trivial⟩ (k g hv)
    · have hlt : i < 6 := ge_f (by omega) (by omega) h
      obtain ⟨v0, v1, v2, v3, v4, v5, v6⟩ := id hv
      refine NE.aload_n (n1 := 58) dX4_init_57 rfl rfl ?_
      refine NE.getR (n1 := 61) dX4_init_58 rfl fl_X4_20 ⟨by decide, by decide⟩ (by omega) v1 rfl ?_
      refine NE.iload_n (n1 := 62) dX4_init_61 rfl rfl ?_
      refine NE.new (n1 := 65) (d := 0) dX4_init_62 rfl ⟨g_65, g_69, g_23⟩ (by decide) (ms := 13) rfl ⟨by show _ ≤ 34; omega, by show _ ≤ 192; omega⟩ ?_
      refine NE.dup (n1 := 66) dX4_init_65 rfl rfl ?_
      refine NE.init (M' := mX0_init) (n1 := 69) (mc := 0) (ms := 0) dX4_init_66 rfl ⟨Or.inr t_70, g_71, g_23, g_72, rfl, ⟨by decide +kernel, by decide +kernel, by decide +kernel⟩, rfl, rfl⟩ ⟨rfl, rfl⟩ ⟨by decide, by decide⟩ ⟨by show _ ≤ 34; omega, by show _ ≤ 192; omega⟩ (Nat.le_of_ble_eq_true rfl) (i_bal (a + 5 + i) (a + 5 + i + 1) (by omega) _ (up_eq _ _ _)) (fun g hg => ?_)
      subst hg
      refine NE.aast (n1 := 70) (d := 0) (t := 2) i dX4_init_69 rfl (by omega) (by rw [up_ne _ _ (by omega), up_ne _ _ (by omega)]; exact v4) (by omega) (up_eq _ _ _) (Or.inl ⟨rfl, rfl⟩) rfl ⟨by omega, by decide⟩ ?_
      refine NE.iincV (n1 := 73) (nI (i + 1)) dX4_init_70 rfl rfl (by decide) (nI_inc i) ?_
      refine NE.goto (tgt := 51) dX4_init_73 (by decide) ?_
      refine NE.ofA (L' := [(0, .ref a), (1, .int (nI (i + 1)))]) ⟨rfl, rfl, trivial⟩ (NE.cst (by omega) (by omega) (by omega) (ih (i + 1) _ (by omega) (by omega) ?_))
      refine ⟨fun j hj => ?_, ?_, ?_, ?_, ?_, ?_, fun j hj => ?_⟩
      · rw [up_ne _ _ (by omega), up_ne _ _ (by omega), up_ne _ _ (by omega)]
        exact v0 j hj
      · rw [up_ne _ _ (by omega), up_ne _ _ (by omega), up_ne _ _ (by omega)]
        exact v1
      · rw [up_ne _ _ (by omega), up_ne _ _ (by omega), up_ne _ _ (by omega)]
        exact v2
      · rw [up_ne _ _ (by omega), up_ne _ _ (by omega), up_ne _ _ (by omega)]
        exact v3
      · rw [up_eq]
        exact congrArg (fun q => (Sum.inr (Sum.inr (Sum.inl (2, 6, q))) : RE)) (up_row 0 i (fun k => a + 5 + k))
      · rw [up_ne _ _ (by omega), up_ne _ _ (by omega), up_ne _ _ (by omega)]
        exact v5
      · by_cases hji : j = i
        · subst hji
          rw [up_ne _ _ (by omega), up_eq]
        · rw [up_ne _ _ (by omega), up_ne _ _ (by omega), up_ne _ _ (by omega)]
          exact v6 j (by omega)
set_option maxRecDepth 20000 in
set_option maxHeartbeats 1000000 in
theorem i_town2 {G : GT} (f : Nat → RE) (a : Nat) (k : ∀ g, TV2 f a 24 g → NE mX4_init 103 [(0, .ref a)] [] (a + 35) g 34 192 G) : ∀ (m i : Nat) (g : Nat → RE), i ≤ 24 → 24 < i + m → TV2 f a i g → NE mX4_init 78 [(0, .ref a), (1, .int (nI i))] [] (a + 11 + i) g (10 + i) (120 + 3 * i) G := by
  intro m
  induction m with
  | zero =>
    intro i g h1 h2
    exact absurd h2 (by omega)
  | succ m ih =>
    intro i g hi hm hv
    refine NE.iload_n (n1 := 79) dX4_init_78 rfl rfl ?_
    refine NE.bipush (n1 := 81) (nI 24) dX4_init_79 rfl (by decide) ?_
    refine NE.icmp_ge (n1 := 84) (tgt := 103) dX4_init_81 rfl (by decide) (fun h => ?_) (fun h => ?_)
    · have hx : i = 24 := by
        have := ge_t (by omega) (by omega) h
        omega
      subst hx
      exact NE.ofA (L' := [(0, .ref a)]) ⟨rfl, trivial⟩ (k g hv)
    · have hlt : i < 24 := ge_f (by omega) (by omega) h
      obtain ⟨v0, v1, v2, v3, v4, v5, v6, v7⟩ := id hv
      refine NE.aload_n (n1 := 85) dX4_init_84 rfl rfl ?_
      refine NE.getR (n1 := 88) dX4_init_85 rfl fl_X4_26 ⟨by decide, by decide⟩ (by omega) v1 rfl ?_
      refine NE.iload_n (n1 := 89) dX4_init_88 rfl rfl ?_
      refine NE.new (n1 := 92) (d := 2) dX4_init_89 rfl ⟨g_67, g_130, g_24⟩ (by decide) (ms := 3) rfl ⟨by show _ ≤ 34; omega, by show _ ≤ 192; omega⟩ ?_
      refine NE.dup (n1 := 93) dX4_init_92 rfl rfl ?_
      refine NE.init (M' := mX2_init) (n1 := 96) (mc := 0) (ms := 0) dX4_init_93 rfl ⟨Or.inr t_131, g_132, g_24, g_133, rfl, ⟨by decide +kernel, by decide +kernel, by decide +kernel⟩, rfl, rfl⟩ ⟨rfl, rfl⟩ ⟨by decide, by decide⟩ ⟨by show _ ≤ 34; omega, by show _ ≤ 192; omega⟩ (Nat.le_of_ble_eq_true rfl) (i_let (a + 11 + i) (a + 11 + i + 1) (by omega) _ (up_eq _ _ _)) (fun g hg => ?_)
      subst hg
      refine NE.aast (n1 := 97) (d := 2) (t := 3) i dX4_init_96 rfl (by omega) (by rw [up_ne _ _ (by omega), up_ne _ _ (by omega)]; exact v5) (by omega) (up_eq _ _ _) (Or.inr (Or.inl ⟨rfl, rfl⟩)) rfl ⟨by omega, by decide⟩ ?_
      refine NE.iincV (n1 := 100) (nI (i + 1)) dX4_init_97 rfl rfl (by decide) (nI_inc i) ?_
      refine NE.goto (tgt := 78) dX4_init_100 (by decide) ?_
      refine NE.ofA (L' := [(0, .ref a), (1, .int (nI (i + 1)))]) ⟨rfl, rfl, trivial⟩ (NE.cst (by omega) (by omega) (by omega) (ih (i + 1) _ (by omega) (by omega) ?_))
      refine ⟨fun j hj => ?_, ?_, ?_, ?_, ?_, ?_, fun j hj => ?_, fun j hj => ?_⟩
      · rw [up_ne _ _ (by omega), up_ne _ _ (by omega), up_ne _ _ (by omega)]
        exact v0 j hj
      · rw [up_ne _ _ (by omega), up_ne _ _ (by omega), up_ne _ _ (by omega)]
        exact v1
      · rw [up_ne _ _ (by omega), up_ne _ _ (by omega), up_ne _ _ (by omega)]
        exact v2
      · rw [up_ne _ _ (by omega), up_ne _ _ (by omega), up_ne _ _ (by omega)]
        exact v3
      · rw [up_ne _ _ (by omega), up_ne _ _ (by omega), up_ne _ _ (by omega)]
        exact v4
      · rw [up_eq]
        exact congrArg (fun q => (Sum.inr (Sum.inr (Sum.inl (3, 24, q))) : RE)) (up_row 0 i (fun k => a + 11 + k))
      · rw [up_ne _ _ (by omega), up_ne _ _ (by omega), up_ne _ _ (by omega)]
        exact v6 j hj
      · by_cases hji : j = i
        · subst hji
          rw [up_ne _ _ (by omega), up_eq]
        · rw [up_ne _ _ (by omega), up_ne _ _ (by omega), up_ne _ _ (by omega)]
          exact v7 j (by omega)
set_option maxRecDepth 20000 in
set_option maxHeartbeats 1000000 in
theorem i_town (a : Nat) (f : Nat → RE) (hf : f a = .inl (4, dfl 4)) : CI mX4_init [.ref a] (a + 1) f (a + 35) (fun g => (∀ j, j < a → g j = f j) ∧ ∀ o, o < 35 → g (a + o) = tE a o) := by
  refine CI.of [(0, .ref a)] rfl (by decide +kernel) rfl rfl (Nat.le_of_ble_eq_true rfl) (by omega) ?_
  refine NE.aload_n (n1 := 1) dX4_init_0 rfl rfl ?_
  refine NE.obj (n1 := 4) dX4_init_1 rfl g_64 g_57 g_58 ⟨by decide, Nat.le_of_ble_eq_true rfl⟩ ?_
  refine NE.aload_n (n1 := 5) dX4_init_4 rfl rfl ?_
  refine NE.bipush (n1 := 7) (nI 6) dX4_init_5 rfl (by decide) ?_
  refine NE.newa (n1 := 9) (ty := .int) 0 6 dX4_init_7 rfl ⟨rfl, Or.inl ⟨rfl, rfl⟩⟩ g_129 rfl (by decide) ⟨by show _ ≤ 34; omega, by show _ ≤ 192; omega⟩ ?_
  refine NE.put (n1 := 12) dX4_init_9 rfl fl_X4_9 ⟨by decide, by decide⟩ (fun z => ⟨rfl, rfl⟩) rfl (by omega) (by rw [up_ne _ _ (by omega)]; exact hf) (Nat.le_of_ble_eq_true rfl) ?_
  refine NE.aload_n (n1 := 13) dX4_init_12 rfl rfl ?_
  refine NE.bipush (n1 := 15) (nI 6) dX4_init_13 rfl (by decide) ?_
  refine NE.newa (n1 := 17) (ty := .int) 0 6 dX4_init_15 rfl ⟨rfl, Or.inl ⟨rfl, rfl⟩⟩ g_129 rfl (by decide) ⟨by show _ ≤ 34; omega, by show _ ≤ 192; omega⟩ ?_
  refine NE.put (n1 := 20) dX4_init_17 rfl fl_X4_15 ⟨by decide, by decide⟩ (fun z => ⟨rfl, rfl⟩) rfl (by omega) (by rw [up_ne _ _ (by omega), up_eq]) (Nat.le_of_ble_eq_true rfl) ?_
  refine NE.aload_n (n1 := 21) dX4_init_20 rfl rfl ?_
  refine NE.bipush (n1 := 23) (nI 6) dX4_init_21 rfl (by decide) ?_
  refine NE.anew (n1 := 26) 2 6 0 dX4_init_23 rfl g_65 (Or.inl ⟨rfl, rfl⟩) rfl (by decide) ⟨by show _ ≤ 34; omega, by show _ ≤ 192; omega⟩ ?_
  refine NE.put (n1 := 29) dX4_init_26 rfl fl_X4_20 ⟨by decide, by decide⟩ (fun z => ⟨rfl, rfl⟩) rfl (by omega) (by rw [up_ne _ _ (by omega), up_eq]) (Nat.le_of_ble_eq_true rfl) ?_
  refine NE.aload_n (n1 := 30) dX4_init_29 rfl rfl ?_
  refine NE.bipush (n1 := 32) (nI 24) dX4_init_30 rfl (by decide) ?_
  refine NE.anew (n1 := 35) 3 24 2 dX4_init_32 rfl g_67 (Or.inr (Or.inl ⟨rfl, rfl⟩)) rfl (by decide) ⟨by show _ ≤ 34; omega, by show _ ≤ 192; omega⟩ ?_
  refine NE.put (n1 := 38) dX4_init_35 rfl fl_X4_26 ⟨by decide, by decide⟩ (fun z => ⟨rfl, rfl⟩) rfl (by omega) (by rw [up_ne _ _ (by omega), up_eq]) (Nat.le_of_ble_eq_true rfl) ?_
  refine NE.aload_n (n1 := 39) dX4_init_38 rfl rfl ?_
  refine NE.iconst (n1 := 40) (nI 5) dX4_init_39 rfl (by decide) ?_
  refine NE.put (n1 := 43) dX4_init_40 rfl fl_X4_30 ⟨by decide, by decide⟩ (fun z => ⟨rfl, rfl⟩) rfl (by omega) (up_eq _ _ _) (Nat.le_of_ble_eq_true rfl) ?_
  refine NE.aload_n (n1 := 44) dX4_init_43 rfl rfl ?_
  refine NE.bipush (n1 := 46) (nI 100) dX4_init_44 rfl (by decide) ?_
  refine NE.put (n1 := 49) dX4_init_46 rfl fl_X4_34 ⟨by decide, by decide⟩ (fun z => ⟨rfl, rfl⟩) rfl (by omega) (up_eq _ _ _) (Nat.le_of_ble_eq_true rfl) ?_
  refine NE.iconst (n1 := 50) (nI 0) dX4_init_49 rfl (by decide) ?_
  refine NE.istore_n (n1 := 51) dX4_init_50 rfl (by decide) ?_
  refine NE.ofA (L' := [(0, .ref a), (1, .int (nI 0))]) ⟨rfl, rfl, trivial⟩ (NE.cst (n' := a + 5 + 0) (cu' := 4 + 0) (su' := 42 + 13 * 0) (by omega) (by omega) (by omega) (i_town1 f a (fun g hv => ?_) 7 0 _ (by omega) (by omega) ⟨fun j hj => ?_, ?_, ?_, ?_, ?_, ?_, fun k hk => absurd hk (by omega)⟩))
  · obtain ⟨v0, v1, v2, v3, v4, v5, v6⟩ := hv
    refine NE.iconst (n1 := 77) (nI 0) dX4_init_76 rfl (by decide) ?_
    refine NE.istore_n (n1 := 78) dX4_init_77 rfl (by decide) ?_
    refine NE.ofA (L' := [(0, .ref a), (1, .int (nI 0))]) ⟨rfl, rfl, trivial⟩ (NE.cst (n' := a + 11 + 0) (cu' := 10 + 0) (su' := 120 + 3 * 0) (by omega) (by omega) (by omega) (i_town2 f a (fun g hv => ?_) 25 0 _ (by omega) (by omega) ⟨v0, v1, v2, v3, v4, v5, v6, fun k hk => absurd hk (by omega)⟩))
    obtain ⟨v0, v1, v2, v3, v4, v5, v6, v7⟩ := hv
    refine NE.vret dX4_init_103 rfl ⟨by decide, by decide⟩ ⟨v0, fun o ho => ?_⟩
    unfold tE
    by_cases h0 : o = 0
    · subst h0
      rw [if_pos rfl]
      exact v1
    · rw [if_neg h0]
      by_cases h3 : o < 3
      · rw [if_pos h3]
        rcases (show o = 1 ∨ o = 2 by omega) with rfl | rfl
        · exact v2
        · exact v3
      · rw [if_neg h3]
        by_cases h4 : o = 3
        · subst h4
          rw [if_pos rfl]
          exact v4
        · rw [if_neg h4]
          by_cases h5 : o = 4
          · subst h5
            rw [if_pos rfl]
            exact v5
          · rw [if_neg h5]
            by_cases h6 : o < 11
            · rw [if_pos h6]
              have := v6 (o - 5) (by omega)
              rwa [show a + 5 + (o - 5) = a + o by omega] at this
            · rw [if_neg h6]
              have := v7 (o - 11) (by omega)
              rwa [show a + 11 + (o - 11) = a + o by omega] at this
  · rw [up_ne _ _ (by omega), up_ne _ _ (by omega), up_ne _ _ (by omega), up_ne _ _ (by omega), up_ne _ _ (by omega), up_ne _ _ (by omega), up_ne _ _ (by omega), up_ne _ _ (by omega), up_ne _ _ (by omega), up_ne _ _ (by omega)]
  · rw [up_eq]
    rfl
  · rw [up_ne _ _ (by omega), up_ne _ _ (by omega), up_ne _ _ (by omega), up_ne _ _ (by omega), up_ne _ _ (by omega), up_ne _ _ (by omega), up_ne _ _ (by omega), up_ne _ _ (by omega), up_ne _ _ (by omega)]
    exact up_eq _ _ _
  · rw [up_ne _ _ (by omega), up_ne _ _ (by omega), up_ne _ _ (by omega), up_ne _ _ (by omega), up_ne _ _ (by omega), up_ne _ _ (by omega), up_ne _ _ (by omega)]
    exact up_eq _ _ _
  · rw [up_ne _ _ (by omega), up_ne _ _ (by omega), up_ne _ _ (by omega), up_ne _ _ (by omega), up_ne _ _ (by omega)]
    refine (up_eq _ _ _).trans ?_
    exact congrArg (fun q => (Sum.inr (Sum.inr (Sum.inl (2, 6, q))) : RE)) (none_row _)
  · rw [up_ne _ _ (by omega), up_ne _ _ (by omega), up_ne _ _ (by omega)]
    refine (up_eq _ _ _).trans ?_
    exact congrArg (fun q => (Sum.inr (Sum.inr (Sum.inl (3, 24, q))) : RE)) (none_row _)
def HV (f : Nat → RE) (i : Nat) (g : Nat → RE) : Prop := (∀ j, j < 36 → g j = f j) ∧ g 36 = .inl (1, (dfl 1).set 0 (.ref 37)) ∧ g 37 = hrE i ∧ ∀ r, r < i → ∀ o, o < 35 → g (38 + 35 * r + o) = tE (38 + 35 * r) o
set_option maxRecDepth 20000 in
set_option maxHeartbeats 1000000 in
theorem i_hist1 {G : GT} (f : Nat → RE) (k : ∀ g, HV f 9 g → NE mX1_init 40 [(0, .ref 36)] [] 353 g 316 1881 G) : ∀ (m i : Nat) (g : Nat → RE), i ≤ 9 → 9 < i + m → HV f i g → NE mX1_init 15 [(0, .ref 36), (1, .int (nI i))] [] (38 + 35 * i) g (1 + 35 * i) (9 + 208 * i) G := by
  intro m
  induction m with
  | zero =>
    intro i g h1 h2
    exact absurd h2 (by omega)
  | succ m ih =>
    intro i g hi hm hv
    refine NE.iload_n (n1 := 16) dX1_init_15 rfl rfl ?_
    refine NE.bipush (n1 := 18) (nI 8) dX1_init_16 rfl (by decide) ?_
    refine NE.icmp_gt (n1 := 21) (tgt := 40) dX1_init_18 rfl (by decide) (fun h => ?_) (fun h => ?_)
    · have hx : i = 9 := by
        have := (nI_ltI (a := 8) (b := i) (by omega) (by omega)).mp h
        omega
      subst hx
      exact NE.ofA (L' := [(0, .ref 36)]) ⟨rfl, trivial⟩ (k g hv)
    · have hlt : i < 9 := by
        rcases Nat.lt_or_ge i 9 with q | q
        · exact q
        · exact absurd ((nI_ltI (a := 8) (b := i) (by omega) (by omega)).mpr (by omega)) h
      obtain ⟨v0, v1, v2, v3⟩ := id hv
      refine NE.aload_n (n1 := 22) dX1_init_21 rfl rfl ?_
      refine NE.getR (n1 := 25) dX1_init_22 rfl fl_X1_11 ⟨by decide, by decide⟩ (by omega) v1 rfl ?_
      refine NE.iload_n (n1 := 26) dX1_init_25 rfl rfl ?_
      refine NE.new (n1 := 29) (d := 4) dX1_init_26 rfl ⟨g_213, g_60, g_22⟩ (by decide) (ms := 16) rfl ⟨by show _ ≤ 316; omega, by show _ ≤ 1881; omega⟩ ?_
      refine NE.dup (n1 := 30) dX1_init_29 rfl rfl ?_
      refine NE.init (M' := mX4_init) (n1 := 33) (mc := 34) (ms := 192) dX1_init_30 rfl ⟨Or.inl g_215, g_62, g_22, g_63, rfl, ⟨by decide +kernel, by decide +kernel, by decide +kernel⟩, rfl, rfl⟩ ⟨rfl, rfl⟩ ⟨by decide, by decide⟩ ⟨by show _ ≤ 316; omega, by show _ ≤ 1881; omega⟩ (Nat.le_of_ble_eq_true rfl) (i_town (38 + 35 * i) _ (up_eq _ _ _)) (fun g2 hg => ?_)
      obtain ⟨w0, w1⟩ := hg
      refine NE.aast (n1 := 34) (d := 4) (t := 4) (v := 38 + 35 * i) i dX1_init_33 rfl (by omega) (by rw [w0 37 (by omega), up_ne _ _ (by omega)]; exact v2) (by omega) (w1 0 (by decide)) (Or.inr (Or.inr ⟨rfl, rfl⟩)) rfl ⟨by omega, by decide⟩ ?_
      refine NE.iincV (n1 := 37) (nI (i + 1)) dX1_init_34 rfl rfl (by decide) (nI_inc i) ?_
      refine NE.goto (tgt := 15) dX1_init_37 (by decide) ?_
      refine NE.ofA (L' := [(0, .ref 36), (1, .int (nI (i + 1)))]) ⟨rfl, rfl, trivial⟩ (NE.cst (by omega) (by omega) (by show _ + 16 + 192 = _; omega) (ih (i + 1) _ (by omega) (by omega) ?_))
      refine ⟨fun j hj => ?_, ?_, ?_, fun r hr o ho => ?_⟩
      · rw [up_ne _ _ (by omega), w0 j (by omega), up_ne _ _ (by omega)]
        exact v0 j hj
      · rw [up_ne _ _ (by omega), w0 36 (by omega), up_ne _ _ (by omega)]
        exact v1
      · rw [up_eq]
        exact congrArg (fun q => (Sum.inr (Sum.inr (Sum.inl (4, 9, q))) : RE)) (up_row 0 i (fun k => 38 + 35 * k))
      · by_cases hri : r = i
        · subst hri
          rw [up_ne _ _ (by omega)]
          exact w1 o ho
        · rw [up_ne _ _ (by omega), w0 _ (by omega), up_ne _ _ (by omega)]
          exact v3 r (by omega) o ho
set_option maxRecDepth 20000 in
set_option maxHeartbeats 1000000 in
theorem i_hist (f : Nat → RE) (hf : f 36 = .inl (1, dfl 1)) : CI mX1_init [.ref 36] 37 f 353 (HV f 9) := by
  refine CI.of [(0, .ref 36)] rfl (by decide +kernel) rfl rfl (Nat.le_of_ble_eq_true rfl) (by omega) ?_
  refine NE.aload_n (n1 := 1) dX1_init_0 rfl rfl ?_
  refine NE.obj (n1 := 4) dX1_init_1 rfl g_212 g_57 g_58 ⟨by decide, Nat.le_of_ble_eq_true rfl⟩ ?_
  refine NE.aload_n (n1 := 5) dX1_init_4 rfl rfl ?_
  refine NE.bipush (n1 := 7) (nI 9) dX1_init_5 rfl (by decide) ?_
  refine NE.anew (n1 := 10) 4 9 4 dX1_init_7 rfl g_213 (Or.inr (Or.inr ⟨rfl, rfl⟩)) rfl (by decide) ⟨by show _ ≤ 316; omega, by show _ ≤ 1881; omega⟩ ?_
  refine NE.put (n1 := 13) dX1_init_10 rfl fl_X1_11 ⟨by decide, by decide⟩ (fun z => ⟨rfl, rfl⟩) rfl (by omega) (by rw [up_ne _ _ (by omega)]; exact hf) (Nat.le_of_ble_eq_true rfl) ?_
  refine NE.iconst (n1 := 14) (nI 0) dX1_init_13 rfl (by decide) ?_
  refine NE.istore_n (n1 := 15) dX1_init_14 rfl (by decide) ?_
  refine NE.ofA (L' := [(0, .ref 36), (1, .int (nI 0))]) ⟨rfl, rfl, trivial⟩ (NE.cst (n' := 38 + 35 * 0) (cu' := 1 + 35 * 0) (su' := 9 + 208 * 0) (by omega) (by omega) (by omega) (i_hist1 f (fun g hv => ?_) 10 0 _ (by omega) (by omega) ⟨fun j hj => ?_, ?_, ?_, fun k hk => absurd hk (by omega)⟩))
  · exact NE.vret dX1_init_40 rfl ⟨by decide, by decide⟩ hv
  · rw [up_ne _ _ (by omega), up_ne _ _ (by omega)]
  · rw [up_eq]
  · rw [up_ne _ _ (by omega)]
    refine (up_eq _ _ _).trans ?_
    exact congrArg (fun q => (Sum.inr (Sum.inr (Sum.inl (4, 9, q))) : RE)) (none_row _)
def ordE : RE := .inl (3, (((((((dfl 3).set 0 (.ref 390)).set 1 (.ref 391)).set 2 (.ref 392)).set 3 (.ref 393)).set 4 (.ref 394)).set 7 (.int (-1 : Int32))))
def rowE (t N : Nat) : RE := .inr (.inl (t, N, fun _ => 0))
def OV (f g : Nat → RE) : Prop := (∀ j, j < 389 → g j = f j) ∧ g 389 = ordE ∧ g 390 = rowE 1 60 ∧ g 391 = rowE 0 20 ∧ g 392 = rowE 0 20 ∧ g 393 = rowE 0 20 ∧ g 394 = rowE 0 20
set_option maxRecDepth 20000 in
set_option maxHeartbeats 1000000 in
theorem i_ord (f : Nat → RE) (hf : f 389 = .inl (3, dfl 3)) : CI mX3_init [.ref 389] 390 f 395 (OV f) := by
  refine CI.of [(0, .ref 389)] rfl (by decide +kernel) rfl rfl (Nat.le_of_ble_eq_true rfl) (by omega) ?_
  refine NE.aload_n (n1 := 1) dX3_init_0 rfl rfl ?_
  refine NE.obj (n1 := 4) dX3_init_1 rfl g_234 g_57 g_58 ⟨by decide, Nat.le_of_ble_eq_true rfl⟩ ?_
  refine NE.aload_n (n1 := 5) dX3_init_4 rfl rfl ?_
  refine NE.bipush (n1 := 7) (nI 60) dX3_init_5 rfl (by decide) ?_
  refine NE.newa (n1 := 9) (ty := .char) 1 60 dX3_init_7 rfl ⟨rfl, Or.inr ⟨rfl, rfl⟩⟩ g_270 rfl (by decide) ⟨by show _ ≤ 5; omega, by show _ ≤ 140; omega⟩ ?_
  refine NE.put (n1 := 12) dX3_init_9 rfl fl_X3_9 ⟨by decide, by decide⟩ (fun z => ⟨rfl, rfl⟩) rfl (by omega) (by rw [up_ne _ _ (by omega)]; exact hf) (Nat.le_of_ble_eq_true rfl) ?_
  refine NE.aload_n (n1 := 13) dX3_init_12 rfl rfl ?_
  refine NE.bipush (n1 := 15) (nI 20) dX3_init_13 rfl (by decide) ?_
  refine NE.newa (n1 := 17) (ty := .int) 0 20 dX3_init_15 rfl ⟨rfl, Or.inl ⟨rfl, rfl⟩⟩ g_129 rfl (by decide) ⟨by show _ ≤ 5; omega, by show _ ≤ 140; omega⟩ ?_
  refine NE.put (n1 := 20) dX3_init_17 rfl fl_X3_15 ⟨by decide, by decide⟩ (fun z => ⟨rfl, rfl⟩) rfl (by omega) (by rw [up_ne _ _ (by omega), up_eq]) (Nat.le_of_ble_eq_true rfl) ?_
  refine NE.aload_n (n1 := 21) dX3_init_20 rfl rfl ?_
  refine NE.bipush (n1 := 23) (nI 20) dX3_init_21 rfl (by decide) ?_
  refine NE.newa (n1 := 25) (ty := .int) 0 20 dX3_init_23 rfl ⟨rfl, Or.inl ⟨rfl, rfl⟩⟩ g_129 rfl (by decide) ⟨by show _ ≤ 5; omega, by show _ ≤ 140; omega⟩ ?_
  refine NE.put (n1 := 28) dX3_init_25 rfl fl_X3_19 ⟨by decide, by decide⟩ (fun z => ⟨rfl, rfl⟩) rfl (by omega) (by rw [up_ne _ _ (by omega), up_eq]) (Nat.le_of_ble_eq_true rfl) ?_
  refine NE.aload_n (n1 := 29) dX3_init_28 rfl rfl ?_
  refine NE.bipush (n1 := 31) (nI 20) dX3_init_29 rfl (by decide) ?_
  refine NE.newa (n1 := 33) (ty := .int) 0 20 dX3_init_31 rfl ⟨rfl, Or.inl ⟨rfl, rfl⟩⟩ g_129 rfl (by decide) ⟨by show _ ≤ 5; omega, by show _ ≤ 140; omega⟩ ?_
  refine NE.put (n1 := 36) dX3_init_33 rfl fl_X3_22 ⟨by decide, by decide⟩ (fun z => ⟨rfl, rfl⟩) rfl (by omega) (by rw [up_ne _ _ (by omega), up_eq]) (Nat.le_of_ble_eq_true rfl) ?_
  refine NE.aload_n (n1 := 37) dX3_init_36 rfl rfl ?_
  refine NE.bipush (n1 := 39) (nI 20) dX3_init_37 rfl (by decide) ?_
  refine NE.newa (n1 := 41) (ty := .int) 0 20 dX3_init_39 rfl ⟨rfl, Or.inl ⟨rfl, rfl⟩⟩ g_129 rfl (by decide) ⟨by show _ ≤ 5; omega, by show _ ≤ 140; omega⟩ ?_
  refine NE.put (n1 := 44) dX3_init_41 rfl fl_X3_25 ⟨by decide, by decide⟩ (fun z => ⟨rfl, rfl⟩) rfl (by omega) (by rw [up_ne _ _ (by omega), up_eq]) (Nat.le_of_ble_eq_true rfl) ?_
  refine NE.aload_n (n1 := 45) dX3_init_44 rfl rfl ?_
  refine NE.iconst (n1 := 46) ((-1 : Int32)) dX3_init_45 rfl (by decide) ?_
  refine NE.put (n1 := 49) dX3_init_46 rfl fl_X3_28 ⟨by decide, by decide⟩ (fun z => ⟨rfl, rfl⟩) rfl (by omega) (up_eq _ _ _) (Nat.le_of_ble_eq_true rfl) ?_
  refine NE.vret dX3_init_49 rfl ⟨by decide, by decide⟩ ⟨fun j hj => ?_, ?_, ?_, ?_, ?_, ?_, ?_⟩
  · rw [up_ne _ _ (by omega), up_ne _ _ (by omega), up_ne _ _ (by omega), up_ne _ _ (by omega), up_ne _ _ (by omega), up_ne _ _ (by omega), up_ne _ _ (by omega), up_ne _ _ (by omega), up_ne _ _ (by omega), up_ne _ _ (by omega), up_ne _ _ (by omega)]
  · rw [up_eq]
    rfl
  · rw [up_ne _ _ (by omega), up_ne _ _ (by omega), up_ne _ _ (by omega), up_ne _ _ (by omega), up_ne _ _ (by omega), up_ne _ _ (by omega), up_ne _ _ (by omega), up_ne _ _ (by omega), up_ne _ _ (by omega), up_ne _ _ (by omega)]
    exact up_eq _ _ _
  · rw [up_ne _ _ (by omega), up_ne _ _ (by omega), up_ne _ _ (by omega), up_ne _ _ (by omega), up_ne _ _ (by omega), up_ne _ _ (by omega), up_ne _ _ (by omega), up_ne _ _ (by omega)]
    exact up_eq _ _ _
  · rw [up_ne _ _ (by omega), up_ne _ _ (by omega), up_ne _ _ (by omega), up_ne _ _ (by omega), up_ne _ _ (by omega), up_ne _ _ (by omega)]
    exact up_eq _ _ _
  · rw [up_ne _ _ (by omega), up_ne _ _ (by omega), up_ne _ _ (by omega), up_ne _ _ (by omega)]
    exact up_eq _ _ _
  · rw [up_ne _ _ (by omega), up_ne _ _ (by omega)]
    exact up_eq _ _ _
def postE : RE := .inl (5, ((((((dfl 5).set 0 (.ref 1)).set 1 (.ref 36)).set 2 (.ref 353)).set 3 (.ref 388)).set 4 (.ref 389)))
def PV0 (g : Nat → RE) : Prop := g 0 = postE ∧ (∀ o, o < 35 → g (1 + o) = tE 1 o) ∧ g 36 = .inl (1, (dfl 1).set 0 (.ref 37)) ∧ g 37 = hrE 9 ∧ (∀ r, r < 9 → ∀ o, o < 35 → g (38 + 35 * r + o) = tE (38 + 35 * r) o) ∧ (∀ o, o < 35 → g (353 + o) = tE 353 o) ∧ g 388 = balE ∧ g 389 = ordE ∧ g 390 = rowE 1 60 ∧ g 391 = rowE 0 20 ∧ g 392 = rowE 0 20 ∧ g 393 = rowE 0 20 ∧ g 394 = rowE 0 20
set_option maxRecDepth 20000 in
set_option maxHeartbeats 1000000 in
theorem i_post (f : Nat → RE) (hf : f 0 = .inl (5, dfl 5)) : CI mX5_init [.ref 0] 1 f 395 PV0 := by
  refine CI.of [(0, .ref 0)] rfl (by decide +kernel) rfl rfl (Nat.le_of_ble_eq_true rfl) (by omega) ?_
  refine NE.aload_n (n1 := 1) dX5_init_0 rfl rfl ?_
  refine NE.obj (n1 := 4) dX5_init_1 rfl g_56 g_57 g_58 ⟨by decide, Nat.le_of_ble_eq_true rfl⟩ ?_
  refine NE.aload_n (n1 := 5) dX5_init_4 rfl rfl ?_
  refine NE.new (n1 := 8) (d := 4) dX5_init_5 rfl ⟨g_59, g_60, g_22⟩ (by decide) (ms := 16) rfl ⟨by show _ ≤ 394; omega, by show _ ≤ 2462; omega⟩ ?_
  refine NE.dup (n1 := 9) dX5_init_8 rfl rfl ?_
  refine NE.init (M' := mX4_init) (n1 := 12) (mc := 34) (ms := 192) dX5_init_9 rfl ⟨Or.inl g_61, g_62, g_22, g_63, rfl, ⟨by decide +kernel, by decide +kernel, by decide +kernel⟩, rfl, rfl⟩ ⟨rfl, rfl⟩ ⟨by decide, by decide⟩ ⟨by show _ ≤ 394; omega, by show _ ≤ 2462; omega⟩ (Nat.le_of_ble_eq_true rfl) (i_town 1 _ (up_eq _ _ _)) (fun g1 h1 => ?_)
  refine NE.put (n1 := 15) dX5_init_12 rfl fl_X5_10 ⟨by decide, by decide⟩ (fun z => ⟨rfl, rfl⟩) rfl (by omega) (by rw [h1.1 0 (by omega), up_ne _ _ (by omega)]; exact hf) (Nat.le_of_ble_eq_true rfl) ?_
  refine NE.aload_n (n1 := 16) dX5_init_15 rfl rfl ?_
  refine NE.new (n1 := 19) (d := 1) dX5_init_16 rfl ⟨g_207, g_208, g_25⟩ (by decide) (ms := 3) rfl ⟨by show _ ≤ 394; omega, by show _ ≤ 2462; omega⟩ ?_
  refine NE.dup (n1 := 20) dX5_init_19 rfl rfl ?_
  refine NE.init (M' := mX1_init) (n1 := 23) (mc := 316) (ms := 1881) dX5_init_20 rfl ⟨Or.inl g_209, g_210, g_25, g_211, rfl, ⟨by decide +kernel, by decide +kernel, by decide +kernel⟩, rfl, rfl⟩ ⟨rfl, rfl⟩ ⟨by decide, by decide⟩ ⟨by show _ ≤ 394; omega, by show _ ≤ 2462; omega⟩ (Nat.le_of_ble_eq_true rfl) (i_hist _ (up_eq _ _ _)) (fun g2 h2 => ?_)
  have e2 : g2 0 = .inl (5, (dfl 5).set 0 (.ref 1)) := by rw [h2.1 0 (by omega), up_ne _ _ (by omega), up_eq]
  refine NE.put (n1 := 26) dX5_init_23 rfl fl_X5_19 ⟨by decide, by decide⟩ (fun z => ⟨rfl, rfl⟩) rfl (by omega) e2 (Nat.le_of_ble_eq_true rfl) ?_
  refine NE.aload_n (n1 := 27) dX5_init_26 rfl rfl ?_
  refine NE.new (n1 := 30) (d := 4) dX5_init_27 rfl ⟨g_59, g_60, g_22⟩ (by decide) (ms := 16) rfl ⟨by show _ ≤ 394; omega, by show _ ≤ 2462; omega⟩ ?_
  refine NE.dup (n1 := 31) dX5_init_30 rfl rfl ?_
  refine NE.init (M' := mX4_init) (n1 := 34) (mc := 34) (ms := 192) dX5_init_31 rfl ⟨Or.inl g_61, g_62, g_22, g_63, rfl, ⟨by decide +kernel, by decide +kernel, by decide +kernel⟩, rfl, rfl⟩ ⟨rfl, rfl⟩ ⟨by decide, by decide⟩ ⟨by show _ ≤ 394; omega, by show _ ≤ 2462; omega⟩ (Nat.le_of_ble_eq_true rfl) (i_town 353 _ (up_eq _ _ _)) (fun g3 h3 => ?_)
  have e3 : g3 0 = .inl (5, ((dfl 5).set 0 (.ref 1)).set 1 (.ref 36)) := by rw [h3.1 0 (by omega), up_ne _ _ (by omega), up_eq]
  refine NE.put (n1 := 37) dX5_init_34 rfl fl_X5_23 ⟨by decide, by decide⟩ (fun z => ⟨rfl, rfl⟩) rfl (by omega) e3 (Nat.le_of_ble_eq_true rfl) ?_
  refine NE.aload_n (n1 := 38) dX5_init_37 rfl rfl ?_
  refine NE.new (n1 := 41) (d := 0) dX5_init_38 rfl ⟨g_227, g_69, g_23⟩ (by decide) (ms := 13) rfl ⟨by show _ ≤ 394; omega, by show _ ≤ 2462; omega⟩ ?_
  refine NE.dup (n1 := 42) dX5_init_41 rfl rfl ?_
  refine NE.init (M' := mX0_init) (n1 := 45) (mc := 0) (ms := 0) dX5_init_42 rfl ⟨Or.inr t_228, g_71, g_23, g_72, rfl, ⟨by decide +kernel, by decide +kernel, by decide +kernel⟩, rfl, rfl⟩ ⟨rfl, rfl⟩ ⟨by decide, by decide⟩ ⟨by show _ ≤ 394; omega, by show _ ≤ 2462; omega⟩ (Nat.le_of_ble_eq_true rfl) (i_bal 388 389 (by omega) _ (up_eq _ _ _)) (fun g4 h4 => ?_)
  subst h4
  refine NE.put (n1 := 48) dX5_init_45 rfl fl_X5_29 ⟨by decide, by decide⟩ (fun z => ⟨rfl, rfl⟩) rfl (by omega) (by rw [up_ne _ _ (by omega), up_ne _ _ (by omega), up_eq]) (Nat.le_of_ble_eq_true rfl) ?_
  refine NE.aload_n (n1 := 49) dX5_init_48 rfl rfl ?_
  refine NE.new (n1 := 52) (d := 3) dX5_init_49 rfl ⟨g_229, g_230, g_26⟩ (by decide) (ms := 9) rfl ⟨by show _ ≤ 394; omega, by show _ ≤ 2462; omega⟩ ?_
  refine NE.dup (n1 := 53) dX5_init_52 rfl rfl ?_
  refine NE.init (M' := mX3_init) (n1 := 56) (mc := 5) (ms := 140) dX5_init_53 rfl ⟨Or.inr t_231, g_232, g_26, g_233, rfl, ⟨by decide +kernel, by decide +kernel, by decide +kernel⟩, rfl, rfl⟩ ⟨rfl, rfl⟩ ⟨by decide, by decide⟩ ⟨by show _ ≤ 394; omega, by show _ ≤ 2462; omega⟩ (Nat.le_of_ble_eq_true rfl) (i_ord _ (up_eq _ _ _)) (fun g5 h5 => ?_)
  have e5 : g5 0 = .inl (5, ((((dfl 5).set 0 (.ref 1)).set 1 (.ref 36)).set 2 (.ref 353)).set 3 (.ref 388)) := by rw [h5.1 0 (by omega), up_ne _ _ (by omega), up_eq]
  refine NE.put (n1 := 59) dX5_init_56 rfl fl_X5_36 ⟨by decide, by decide⟩ (fun z => ⟨rfl, rfl⟩) rfl (by omega) e5 (Nat.le_of_ble_eq_true rfl) ?_
  obtain ⟨q0, q1, q2, q3, q4, q5, q6⟩ := h5
  have lo : ∀ j, 1 ≤ j → j < 388 → g5 j = g3 j := fun j h1 h2 => by
    rw [q0 j (by omega), up_ne _ _ (by omega), up_ne _ _ (by omega), up_ne _ _ (by omega), up_ne _ _ (by omega), up_ne _ _ (by omega)]
  have lo2 : ∀ j, 1 ≤ j → j < 353 → g5 j = g2 j := fun j h1 h2 => by
    rw [lo j h1 (by omega), h3.1 j (by omega), up_ne _ _ (by omega), up_ne _ _ (by omega)]
  have lo1 : ∀ j, 1 ≤ j → j < 36 → g5 j = g1 j := fun j g9 g8 => by
    rw [lo2 j g9 (by omega), h2.1 j (by omega), up_ne _ _ (by omega), up_ne _ _ (by omega)]
  refine NE.vret dX5_init_59 rfl ⟨by decide, by decide⟩ ⟨?_, fun o ho => ?_, ?_, ?_, fun r hr o ho => ?_, fun o ho => ?_, ?_, ?_, ?_, ?_, ?_, ?_, ?_⟩
  · rw [up_eq]
    rfl
  · rw [up_ne _ _ (by omega), lo1 _ (by omega) (by omega)]
    exact h1.2 o ho
  · rw [up_ne _ _ (by omega), lo2 _ (by omega) (by omega)]
    exact h2.2.1
  · rw [up_ne _ _ (by omega), lo2 _ (by omega) (by omega)]
    exact h2.2.2.1
  · rw [up_ne _ _ (by omega), lo2 _ (by omega) (by omega)]
    exact h2.2.2.2 r hr o ho
  · rw [up_ne _ _ (by omega), lo _ (by omega) (by omega)]
    exact h3.2 o ho
  · rw [up_ne _ _ (by omega), q0 _ (by omega), up_ne _ _ (by omega), up_ne _ _ (by omega), up_eq]
  · rw [up_ne _ _ (by omega)]
    exact q1
  · rw [up_ne _ _ (by omega)]
    exact q2
  · rw [up_ne _ _ (by omega)]
    exact q3
  · rw [up_ne _ _ (by omega)]
    exact q4
  · rw [up_ne _ _ (by omega)]
    exact q5
  · rw [up_ne _ _ (by omega)]
    exact q6
