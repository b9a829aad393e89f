def setR (c : CC) (a : Nat) (N : NA) : CC := fun i j => if i = a then N j else c i j
/-- the first n of f, then g -/
def cpN (n : Nat) (f g : NA) : NA := fun k => if k < n then f k else g k
theorem setR_at (c : CC) (a : Nat) (N : NA) : setR c a N a = N := by
  funext j
  simp [setR]
theorem setR_o (c : CC) {a i : Nat} (N : NA) (h : i ≠ a) : setR c a N i = c i := by
  funext j
  simp [setR, h]
theorem u2_setR (c : CC) (a k : Nat) (N : NA) (x : Int32) : u2 (setR c a N) a k x = setR c a (upN N k x) := by
  funext i j
  by_cases h : i = a
  · subst h
    by_cases h2 : j = k
    · simp [u2, setR, upN, h2]
    · simp [u2, setR, upN, h2]
  · simp [u2, setR, h]
theorem upN_cp (f g : NA) (i : Nat) : upN (cpN i f g) i (f i) = cpN (i + 1) f g := by
  funext k
  unfold upN cpN
  by_cases h : k = i
  · subst h
    simp
  · by_cases h2 : k < i
    · simp [h, h2, Nat.lt_succ_of_lt h2]
    · simp [h, h2, show ¬ k < i + 1 by omega]
theorem setR_cp0 (c : CC) (a : Nat) (f : NA) : setR c a (cpN 0 f (c a)) = c := by
  funext i j
  unfold setR cpN
  split
  · rename_i h
    rw [h]
    simp
  · rfl
theorem cpN_lt {n k : Nat} (f g : NA) (h : k < n) : cpN n f g k = f k := if_pos h
theorem cpN_ge {n k : Nat} (f g : NA) (h : n ≤ k) : cpN n f g k = g k := if_neg (by omega)
theorem setR_396 (c : CC) (N : NA) : setR c 396 N = setN c N := rfl
set_option maxRecDepth 20000 in
set_option maxHeartbeats 1000000 in
theorem m_tries_loop {G : GT} (c : CC) (od : Int64 × UInt64) (k : WE mX6_tries 32 [(0, .ref 395)] [] (setR c 397 (cpN 184 (c 396) (c 397)), od) 0 0 G) : WE mX6_tries 7 [(0, .ref 395), (1, .int (nI 0))] [] (c, od) 0 0 G := by
  suffices H : ∀ n i : Nat, i ≤ 184 → 184 < i + n → WE mX6_tries 7 [(0, .ref 395), (1, .int (nI i))] [] (setR c 397 (cpN i (c 396) (c 397)), od) 0 0 G from WE.ofS (σ' := (setR c 397 (cpN 0 (c 396) (c 397)), od)) (by rw [setR_cp0]) (WE.ofA (L' := [(0, .ref 395), (1, .int (nI 0))]) ⟨rfl, rfl, trivial⟩ (H (184 + 1) 0 (Nat.zero_le _) (by omega)))
  intro n
  induction n with
  | zero =>
    intro i h1 h2
    exact absurd h2 (by omega)
  | succ n ih =>
    intro i hi hn
    refine WE.iload_n (n := 8) dX6_tries_7 rfl rfl ?_
    refine WE.sipush (n := 11) (nI 184) dX6_tries_8 rfl (by decide) ?_
    refine WE.icmp_ge (n := 14) (tgt := 32) dX6_tries_11 rfl (by decide) (fun h11 => ?_) (fun h11 => ?_)
    · skip
      have hx : i = 184 := by have := ge_t (by omega) (by omega) h11; omega
      subst hx
      exact WE.ofL (fun q h => List.mem_singleton.mp h ▸ (by simp)) k
    · skip
      have hlt : i < 184 := ge_f (by omega) (by omega) h11
      refine WE.aload_n (n := 15) dX6_tries_14 rfl rfl ?_
      refine WE.getR (n := 18) dX6_tries_15 rfl fl_X6_13 ⟨by decide, by decide⟩ rfl (by first | decide | exact kd_bal (by assumption) | exact kd_let (by assumption) | assumption) ?_
      refine WE.iload_n (n := 19) dX6_tries_18 rfl rfl ?_
      refine WE.aload_n (n := 20) dX6_tries_19 rfl rfl ?_
      refine WE.getR (n := 23) dX6_tries_20 rfl fl_X6_9 ⟨by decide, by decide⟩ rfl (by first | decide | exact kd_bal (by assumption) | exact kd_let (by assumption) | assumption) ?_
      refine WE.iload_n (n := 24) dX6_tries_23 rfl rfl ?_
      refine WE.iald (n := 25) (i) dX6_tries_24 rfl (by first | decide | assumption) (by first | rfl | simp only [pk_mul, nI_add]) (by show _ < 184; omega) ?_
      refine WE.iast (n := 26) (i) dX6_tries_25 rfl (by first | decide | assumption) (by first | rfl | simp only [pk_mul, nI_add]) (by show _ < 184; omega) ?_
      refine WE.iincV (n := 29) (nI (i + 1)) dX6_tries_26 rfl rfl (by decide) (nI_inc i) ?_
      refine WE.goto (tgt := 7) dX6_tries_29 (by decide) ?_
      refine WE.ofS (σ' := (setR c 397 (cpN (i + 1) (c 396) (c 397)), od)) ?_ (WE.ofA (L' := [(0, .ref 395), (1, .int (nI (i + 1)))]) ⟨rfl, rfl, trivial⟩ (ih (i + 1) (by omega) (by omega)))
      rw [setR_o _ _ (by decide), u2_setR, upN_cp]
set_option maxRecDepth 20000 in
set_option maxHeartbeats 1000000 in
theorem m_tries (c : CC) (od : Int64 × UInt64) : CM mX6_tries [.ref 395] (c, od) (RV (setR (u2 c 395 16 (nI 0)) 397 (cpN 184 (c 396) (c 397)), od)) := by
  refine CM.of [(0, .ref 395)] rfl (by decide +kernel) rfl (Nat.le_of_ble_eq_true rfl) ?_
  refine WE.aload_n (n := 1) dX6_tries_0 rfl rfl ?_
  refine WE.iconst (n := 2) (nI 0) dX6_tries_1 rfl (by decide) ?_
  refine WE.putI (n := 5) dX6_tries_2 rfl fl_X6_36 ⟨by decide, by decide, rfl, rfl⟩ ⟨by first | rfl | decide, by first | rfl | decide⟩ (by first | decide | exact kd_bal (by assumption) | exact kd_let (by assumption) | assumption) ?_
  refine WE.iconst (n := 6) (nI 0) dX6_tries_5 rfl (by decide) ?_
  refine WE.istore_n (n := 7) dX6_tries_6 rfl (by decide) ?_
  refine WE.ofA (L' := [(0, .ref 395), (1, .int (nI 0))]) ⟨rfl, rfl, trivial⟩ (m_tries_loop _ od ?_)
  exact WE.vret dX6_tries_32 rfl ⟨by decide, by decide⟩ (RV.mk (by first | rfl | (rw [u2_o _ _ _ (by decide), u2_o _ _ _ (by decide)])))
set_option maxRecDepth 20000 in
set_option maxHeartbeats 1000000 in
theorem m_comesBack_loop {G : GT} (c : CC) (od : Int64 × UInt64) (k : WE mX6_comesBack 27 [(0, .ref 395)] [] (setR c 396 (cpN 184 (c 397) (c 396)), od) 0 0 G) : WE mX6_comesBack 2 [(0, .ref 395), (1, .int (nI 0))] [] (c, od) 0 0 G := by
  suffices H : ∀ n i : Nat, i ≤ 184 → 184 < i + n → WE mX6_comesBack 2 [(0, .ref 395), (1, .int (nI i))] [] (setR c 396 (cpN i (c 397) (c 396)), od) 0 0 G from WE.ofS (σ' := (setR c 396 (cpN 0 (c 397) (c 396)), od)) (by rw [setR_cp0]) (WE.ofA (L' := [(0, .ref 395), (1, .int (nI 0))]) ⟨rfl, rfl, trivial⟩ (H (184 + 1) 0 (Nat.zero_le _) (by omega)))
  intro n
  induction n with
  | zero =>
    intro i h1 h2
    exact absurd h2 (by omega)
  | succ n ih =>
    intro i hi hn
    refine WE.iload_n (n := 3) dX6_comesBack_2 rfl rfl ?_
    refine WE.sipush (n := 6) (nI 184) dX6_comesBack_3 rfl (by decide) ?_
    refine WE.icmp_ge (n := 9) (tgt := 27) dX6_comesBack_6 rfl (by decide) (fun h6 => ?_) (fun h6 => ?_)
    · skip
      have hx : i = 184 := by have := ge_t (by omega) (by omega) h6; omega
      subst hx
      exact WE.ofL (fun q h => List.mem_singleton.mp h ▸ (by simp)) k
    · skip
      have hlt : i < 184 := ge_f (by omega) (by omega) h6
      refine WE.aload_n (n := 10) dX6_comesBack_9 rfl rfl ?_
      refine WE.getR (n := 13) dX6_comesBack_10 rfl fl_X6_9 ⟨by decide, by decide⟩ rfl (by first | decide | exact kd_bal (by assumption) | exact kd_let (by assumption) | assumption) ?_
      refine WE.iload_n (n := 14) dX6_comesBack_13 rfl rfl ?_
      refine WE.aload_n (n := 15) dX6_comesBack_14 rfl rfl ?_
      refine WE.getR (n := 18) dX6_comesBack_15 rfl fl_X6_13 ⟨by decide, by decide⟩ rfl (by first | decide | exact kd_bal (by assumption) | exact kd_let (by assumption) | assumption) ?_
      refine WE.iload_n (n := 19) dX6_comesBack_18 rfl rfl ?_
      refine WE.iald (n := 20) (i) dX6_comesBack_19 rfl (by first | decide | assumption) (by first | rfl | simp only [pk_mul, nI_add]) (by show _ < 184; omega) ?_
      refine WE.iast (n := 21) (i) dX6_comesBack_20 rfl (by first | decide | assumption) (by first | rfl | simp only [pk_mul, nI_add]) (by show _ < 184; omega) ?_
      refine WE.iincV (n := 24) (nI (i + 1)) dX6_comesBack_21 rfl rfl (by decide) (nI_inc i) ?_
      refine WE.goto (tgt := 2) dX6_comesBack_24 (by decide) ?_
      refine WE.ofS (σ' := (setR c 396 (cpN (i + 1) (c 397) (c 396)), od)) ?_ (WE.ofA (L' := [(0, .ref 395), (1, .int (nI (i + 1)))]) ⟨rfl, rfl, trivial⟩ (ih (i + 1) (by omega) (by omega)))
      rw [setR_o _ _ (by decide), u2_setR, upN_cp]
set_option maxRecDepth 20000 in
set_option maxHeartbeats 1000000 in
theorem m_comesBack (c : CC) (od : Int64 × UInt64) : CM mX6_comesBack [.ref 395] (c, od) (RV (setR c 396 (cpN 184 (c 397) (c 396)), od)) := by
  refine CM.of [(0, .ref 395)] rfl (by decide +kernel) rfl (Nat.le_of_ble_eq_true rfl) ?_
  refine WE.iconst (n := 1) (nI 0) dX6_comesBack_0 rfl (by decide) ?_
  refine WE.istore_n (n := 2) dX6_comesBack_1 rfl (by decide) ?_
  refine WE.ofA (L' := [(0, .ref 395), (1, .int (nI 0))]) ⟨rfl, rfl, trivial⟩ (m_comesBack_loop _ od ?_)
  exact WE.vret dX6_comesBack_27 rfl ⟨by decide, by decide⟩ (RV.mk (by first | rfl | (rw [u2_o _ _ _ (by decide), u2_o _ _ _ (by decide)])))
set_option maxRecDepth 20000 in
set_option maxHeartbeats 1000000 in
theorem m_thinks_loop {G : GT} (c : CC) (od : Int64 × UInt64) (k : WE mX6_thinks 27 [(0, .ref 395)] [] (setR c 398 (cpN 184 (c 396) (c 398)), od) 0 0 G) : WE mX6_thinks 2 [(0, .ref 395), (1, .int (nI 0))] [] (c, od) 0 0 G := by
  suffices H : ∀ n i : Nat, i ≤ 184 → 184 < i + n → WE mX6_thinks 2 [(0, .ref 395), (1, .int (nI i))] [] (setR c 398 (cpN i (c 396) (c 398)), od) 0 0 G from WE.ofS (σ' := (setR c 398 (cpN 0 (c 396) (c 398)), od)) (by rw [setR_cp0]) (WE.ofA (L' := [(0, .ref 395), (1, .int (nI 0))]) ⟨rfl, rfl, trivial⟩ (H (184 + 1) 0 (Nat.zero_le _) (by omega)))
  intro n
  induction n with
  | zero =>
    intro i h1 h2
    exact absurd h2 (by omega)
  | succ n ih =>
    intro i hi hn
    refine WE.iload_n (n := 3) dX6_thinks_2 rfl rfl ?_
    refine WE.sipush (n := 6) (nI 184) dX6_thinks_3 rfl (by decide) ?_
    refine WE.icmp_ge (n := 9) (tgt := 27) dX6_thinks_6 rfl (by decide) (fun h6 => ?_) (fun h6 => ?_)
    · skip
      have hx : i = 184 := by have := ge_t (by omega) (by omega) h6; omega
      subst hx
      exact WE.ofL (fun q h => List.mem_singleton.mp h ▸ (by simp)) k
    · skip
      have hlt : i < 184 := ge_f (by omega) (by omega) h6
      refine WE.aload_n (n := 10) dX6_thinks_9 rfl rfl ?_
      refine WE.getR (n := 13) dX6_thinks_10 rfl fl_X6_16 ⟨by decide, by decide⟩ rfl (by first | decide | exact kd_bal (by assumption) | exact kd_let (by assumption) | assumption) ?_
      refine WE.iload_n (n := 14) dX6_thinks_13 rfl rfl ?_
      refine WE.aload_n (n := 15) dX6_thinks_14 rfl rfl ?_
      refine WE.getR (n := 18) dX6_thinks_15 rfl fl_X6_9 ⟨by decide, by decide⟩ rfl (by first | decide | exact kd_bal (by assumption) | exact kd_let (by assumption) | assumption) ?_
      refine WE.iload_n (n := 19) dX6_thinks_18 rfl rfl ?_
      refine WE.iald (n := 20) (i) dX6_thinks_19 rfl (by first | decide | assumption) (by first | rfl | simp only [pk_mul, nI_add]) (by show _ < 184; omega) ?_
      refine WE.iast (n := 21) (i) dX6_thinks_20 rfl (by first | decide | assumption) (by first | rfl | simp only [pk_mul, nI_add]) (by show _ < 184; omega) ?_
      refine WE.iincV (n := 24) (nI (i + 1)) dX6_thinks_21 rfl rfl (by decide) (nI_inc i) ?_
      refine WE.goto (tgt := 2) dX6_thinks_24 (by decide) ?_
      refine WE.ofS (σ' := (setR c 398 (cpN (i + 1) (c 396) (c 398)), od)) ?_ (WE.ofA (L' := [(0, .ref 395), (1, .int (nI (i + 1)))]) ⟨rfl, rfl, trivial⟩ (ih (i + 1) (by omega) (by omega)))
      rw [setR_o _ _ (by decide), u2_setR, upN_cp]
set_option maxRecDepth 20000 in
set_option maxHeartbeats 1000000 in
theorem m_thinks (c : CC) (od : Int64 × UInt64) : CM mX6_thinks [.ref 395] (c, od) (RV (setR c 398 (cpN 184 (c 396) (c 398)), od)) := by
  refine CM.of [(0, .ref 395)] rfl (by decide +kernel) rfl (Nat.le_of_ble_eq_true rfl) ?_
  refine WE.iconst (n := 1) (nI 0) dX6_thinks_0 rfl (by decide) ?_
  refine WE.istore_n (n := 2) dX6_thinks_1 rfl (by decide) ?_
  refine WE.ofA (L' := [(0, .ref 395), (1, .int (nI 0))]) ⟨rfl, rfl, trivial⟩ (m_thinks_loop _ od ?_)
  exact WE.vret dX6_thinks_27 rfl ⟨by decide, by decide⟩ (RV.mk (by first | rfl | (rw [u2_o _ _ _ (by decide), u2_o _ _ _ (by decide)])))
set_option maxRecDepth 20000 in
set_option maxHeartbeats 1000000 in
theorem m_thinksNoMore_loop {G : GT} (c : CC) (od : Int64 × UInt64) (k : WE mX6_thinksNoMore 27 [(0, .ref 395)] [] (setR c 396 (cpN 184 (c 398) (c 396)), od) 0 0 G) : WE mX6_thinksNoMore 2 [(0, .ref 395), (1, .int (nI 0))] [] (c, od) 0 0 G := by
  suffices H : ∀ n i : Nat, i ≤ 184 → 184 < i + n → WE mX6_thinksNoMore 2 [(0, .ref 395), (1, .int (nI i))] [] (setR c 396 (cpN i (c 398) (c 396)), od) 0 0 G from WE.ofS (σ' := (setR c 396 (cpN 0 (c 398) (c 396)), od)) (by rw [setR_cp0]) (WE.ofA (L' := [(0, .ref 395), (1, .int (nI 0))]) ⟨rfl, rfl, trivial⟩ (H (184 + 1) 0 (Nat.zero_le _) (by omega)))
  intro n
  induction n with
  | zero =>
    intro i h1 h2
    exact absurd h2 (by omega)
  | succ n ih =>
    intro i hi hn
    refine WE.iload_n (n := 3) dX6_thinksNoMore_2 rfl rfl ?_
    refine WE.sipush (n := 6) (nI 184) dX6_thinksNoMore_3 rfl (by decide) ?_
    refine WE.icmp_ge (n := 9) (tgt := 27) dX6_thinksNoMore_6 rfl (by decide) (fun h6 => ?_) (fun h6 => ?_)
    · skip
      have hx : i = 184 := by have := ge_t (by omega) (by omega) h6; omega
      subst hx
      exact WE.ofL (fun q h => List.mem_singleton.mp h ▸ (by simp)) k
    · skip
      have hlt : i < 184 := ge_f (by omega) (by omega) h6
      refine WE.aload_n (n := 10) dX6_thinksNoMore_9 rfl rfl ?_
      refine WE.getR (n := 13) dX6_thinksNoMore_10 rfl fl_X6_9 ⟨by decide, by decide⟩ rfl (by first | decide | exact kd_bal (by assumption) | exact kd_let (by assumption) | assumption) ?_
      refine WE.iload_n (n := 14) dX6_thinksNoMore_13 rfl rfl ?_
      refine WE.aload_n (n := 15) dX6_thinksNoMore_14 rfl rfl ?_
      refine WE.getR (n := 18) dX6_thinksNoMore_15 rfl fl_X6_16 ⟨by decide, by decide⟩ rfl (by first | decide | exact kd_bal (by assumption) | exact kd_let (by assumption) | assumption) ?_
      refine WE.iload_n (n := 19) dX6_thinksNoMore_18 rfl rfl ?_
      refine WE.iald (n := 20) (i) dX6_thinksNoMore_19 rfl (by first | decide | assumption) (by first | rfl | simp only [pk_mul, nI_add]) (by show _ < 184; omega) ?_
      refine WE.iast (n := 21) (i) dX6_thinksNoMore_20 rfl (by first | decide | assumption) (by first | rfl | simp only [pk_mul, nI_add]) (by show _ < 184; omega) ?_
      refine WE.iincV (n := 24) (nI (i + 1)) dX6_thinksNoMore_21 rfl rfl (by decide) (nI_inc i) ?_
      refine WE.goto (tgt := 2) dX6_thinksNoMore_24 (by decide) ?_
      refine WE.ofS (σ' := (setR c 396 (cpN (i + 1) (c 398) (c 396)), od)) ?_ (WE.ofA (L' := [(0, .ref 395), (1, .int (nI (i + 1)))]) ⟨rfl, rfl, trivial⟩ (ih (i + 1) (by omega) (by omega)))
      rw [setR_o _ _ (by decide), u2_setR, upN_cp]
set_option maxRecDepth 20000 in
set_option maxHeartbeats 1000000 in
theorem m_thinksNoMore (c : CC) (od : Int64 × UInt64) : CM mX6_thinksNoMore [.ref 395] (c, od) (RV (setR c 396 (cpN 184 (c 398) (c 396)), od)) := by
  refine CM.of [(0, .ref 395)] rfl (by decide +kernel) rfl (Nat.le_of_ble_eq_true rfl) ?_
  refine WE.iconst (n := 1) (nI 0) dX6_thinksNoMore_0 rfl (by decide) ?_
  refine WE.istore_n (n := 2) dX6_thinksNoMore_1 rfl (by decide) ?_
  refine WE.ofA (L' := [(0, .ref 395), (1, .int (nI 0))]) ⟨rfl, rfl, trivial⟩ (m_thinksNoMore_loop _ od ?_)
  exact WE.vret dX6_thinksNoMore_27 rfl ⟨by decide, by decide⟩ (RV.mk (by first | rfl | (rw [u2_o _ _ _ (by decide), u2_o _ _ _ (by decide)])))
set_option maxRecDepth 20000 in
set_option maxHeartbeats 1000000 in
theorem m_save_loop {G : GT} (c : CC) (od : Int64 × UInt64) (k : WE mX6_save 37 [(0, .ref 395)] [] (setR c 400 (cpN 184 (c 396) (c 400)), od) 0 0 G) : WE mX6_save 12 [(0, .ref 395), (1, .int (nI 0))] [] (c, od) 0 0 G := by
  suffices H : ∀ n i : Nat, i ≤ 184 → 184 < i + n → WE mX6_save 12 [(0, .ref 395), (1, .int (nI i))] [] (setR c 400 (cpN i (c 396) (c 400)), od) 0 0 G from WE.ofS (σ' := (setR c 400 (cpN 0 (c 396) (c 400)), od)) (by rw [setR_cp0]) (WE.ofA (L' := [(0, .ref 395), (1, .int (nI 0))]) ⟨rfl, rfl, trivial⟩ (H (184 + 1) 0 (Nat.zero_le _) (by omega)))
  intro n
  induction n with
  | zero =>
    intro i h1 h2
    exact absurd h2 (by omega)
  | succ n ih =>
    intro i hi hn
    refine WE.iload_n (n := 13) dX6_save_12 rfl rfl ?_
    refine WE.sipush (n := 16) (nI 184) dX6_save_13 rfl (by decide) ?_
    refine WE.icmp_ge (n := 19) (tgt := 37) dX6_save_16 rfl (by decide) (fun h16 => ?_) (fun h16 => ?_)
    · skip
      have hx : i = 184 := by have := ge_t (by omega) (by omega) h16; omega
      subst hx
      exact WE.ofL (fun q h => List.mem_singleton.mp h ▸ (by simp)) k
    · skip
      have hlt : i < 184 := ge_f (by omega) (by omega) h16
      refine WE.aload_n (n := 20) dX6_save_19 rfl rfl ?_
      refine WE.getR (n := 23) dX6_save_20 rfl fl_X6_22 ⟨by decide, by decide⟩ rfl (by first | decide | exact kd_bal (by assumption) | exact kd_let (by assumption) | assumption) ?_
      refine WE.iload_n (n := 24) dX6_save_23 rfl rfl ?_
      refine WE.aload_n (n := 25) dX6_save_24 rfl rfl ?_
      refine WE.getR (n := 28) dX6_save_25 rfl fl_X6_9 ⟨by decide, by decide⟩ rfl (by first | decide | exact kd_bal (by assumption) | exact kd_let (by assumption) | assumption) ?_
      refine WE.iload_n (n := 29) dX6_save_28 rfl rfl ?_
      refine WE.iald (n := 30) (i) dX6_save_29 rfl (by first | decide | assumption) (by first | rfl | simp only [pk_mul, nI_add]) (by show _ < 184; omega) ?_
      refine WE.iast (n := 31) (i) dX6_save_30 rfl (by first | decide | assumption) (by first | rfl | simp only [pk_mul, nI_add]) (by show _ < 184; omega) ?_
      refine WE.iincV (n := 34) (nI (i + 1)) dX6_save_31 rfl rfl (by decide) (nI_inc i) ?_
      refine WE.goto (tgt := 12) dX6_save_34 (by decide) ?_
      refine WE.ofS (σ' := (setR c 400 (cpN (i + 1) (c 396) (c 400)), od)) ?_ (WE.ofA (L' := [(0, .ref 395), (1, .int (nI (i + 1)))]) ⟨rfl, rfl, trivial⟩ (ih (i + 1) (by omega) (by omega)))
      rw [setR_o _ _ (by decide), u2_setR, upN_cp]
set_option maxRecDepth 20000 in
set_option maxHeartbeats 1000000 in
theorem m_save (c : CC) (od : Int64 × UInt64) : CM mX6_save [.ref 395] (c, od) (RI (c 396 3) (setR (u2 (u2 c 395 16 (nI 0)) 395 6 (nI 1)) 400 (cpN 184 (c 396) (c 400)), od)) := by
  refine CM.of [(0, .ref 395)] rfl (by decide +kernel) rfl (Nat.le_of_ble_eq_true rfl) ?_
  refine WE.aload_n (n := 1) dX6_save_0 rfl rfl ?_
  refine WE.iconst (n := 2) (nI 0) dX6_save_1 rfl (by decide) ?_
  refine WE.putI (n := 5) dX6_save_2 rfl fl_X6_36 ⟨by decide, by decide, rfl, rfl⟩ ⟨by first | rfl | decide, by first | rfl | decide⟩ (by first | decide | exact kd_bal (by assumption) | exact kd_let (by assumption) | assumption) ?_
  refine WE.aload_n (n := 6) dX6_save_5 rfl rfl ?_
  refine WE.iconst (n := 7) (nI 1) dX6_save_6 rfl (by decide) ?_
  refine WE.putI (n := 10) dX6_save_7 rfl fl_X6_217 ⟨by decide, by decide, rfl, rfl⟩ ⟨by first | rfl | decide, by first | rfl | decide⟩ (by first | decide | exact kd_bal (by assumption) | exact kd_let (by assumption) | assumption) ?_
  refine WE.iconst (n := 11) (nI 0) dX6_save_10 rfl (by decide) ?_
  refine WE.istore_n (n := 12) dX6_save_11 rfl (by decide) ?_
  refine WE.ofA (L' := [(0, .ref 395), (1, .int (nI 0))]) ⟨rfl, rfl, trivial⟩ (m_save_loop _ od ?_)
  refine WE.aload_n (n := 38) dX6_save_37 rfl rfl ?_
  refine WE.getR (n := 41) dX6_save_38 rfl fl_X6_9 ⟨by decide, by decide⟩ rfl (by first | decide | exact kd_bal (by assumption) | exact kd_let (by assumption) | assumption) ?_
  refine WE.iconst (n := 42) (nI 3) dX6_save_41 rfl (by decide) ?_
  refine WE.iald (n := 43) 3 dX6_save_42 rfl (by first | decide | assumption) rfl (by show _ < 184; omega) ?_
  refine WE.iret (ty := .int) dX6_save_43 rfl rfl ⟨by decide, by decide⟩ ?_
  exact RI.mk (by rw [setR_o _ _ (by decide), u2_o _ _ _ (by decide), u2_o _ _ _ (by decide)]) (by simp only [u2_o _ _ _ (show (396 : Nat) ≠ 395 by decide), u2_o _ _ _ (show (400 : Nat) ≠ 395 by decide)])
set_option maxRecDepth 20000 in
set_option maxHeartbeats 1000000 in
theorem m_restore_loop {G : GT} (c : CC) (od : Int64 × UInt64) (k : WE mX6_restore 45 [(0, .ref 395)] [] (setR c 396 (cpN 184 (c 400) (c 396)), od) 0 0 G) : WE mX6_restore 20 [(0, .ref 395), (1, .int (nI 0))] [] (c, od) 0 0 G := by
  suffices H : ∀ n i : Nat, i ≤ 184 → 184 < i + n → WE mX6_restore 20 [(0, .ref 395), (1, .int (nI i))] [] (setR c 396 (cpN i (c 400) (c 396)), od) 0 0 G from WE.ofS (σ' := (setR c 396 (cpN 0 (c 400) (c 396)), od)) (by rw [setR_cp0]) (WE.ofA (L' := [(0, .ref 395), (1, .int (nI 0))]) ⟨rfl, rfl, trivial⟩ (H (184 + 1) 0 (Nat.zero_le _) (by omega)))
  intro n
  induction n with
  | zero =>
    intro i h1 h2
    exact absurd h2 (by omega)
  | succ n ih =>
    intro i hi hn
    refine WE.iload_n (n := 21) dX6_restore_20 rfl rfl ?_
    refine WE.sipush (n := 24) (nI 184) dX6_restore_21 rfl (by decide) ?_
    refine WE.icmp_ge (n := 27) (tgt := 45) dX6_restore_24 rfl (by decide) (fun h24 => ?_) (fun h24 => ?_)
    · skip
      have hx : i = 184 := by have := ge_t (by omega) (by omega) h24; omega
      subst hx
      exact WE.ofL (fun q h => List.mem_singleton.mp h ▸ (by simp)) k
    · skip
      have hlt : i < 184 := ge_f (by omega) (by omega) h24
      refine WE.aload_n (n := 28) dX6_restore_27 rfl rfl ?_
      refine WE.getR (n := 31) dX6_restore_28 rfl fl_X6_9 ⟨by decide, by decide⟩ rfl (by first | decide | exact kd_bal (by assumption) | exact kd_let (by assumption) | assumption) ?_
      refine WE.iload_n (n := 32) dX6_restore_31 rfl rfl ?_
      refine WE.aload_n (n := 33) dX6_restore_32 rfl rfl ?_
      refine WE.getR (n := 36) dX6_restore_33 rfl fl_X6_22 ⟨by decide, by decide⟩ rfl (by first | decide | exact kd_bal (by assumption) | exact kd_let (by assumption) | assumption) ?_
      refine WE.iload_n (n := 37) dX6_restore_36 rfl rfl ?_
      refine WE.iald (n := 38) (i) dX6_restore_37 rfl (by first | decide | assumption) (by first | rfl | simp only [pk_mul, nI_add]) (by show _ < 184; omega) ?_
      refine WE.iast (n := 39) (i) dX6_restore_38 rfl (by first | decide | assumption) (by first | rfl | simp only [pk_mul, nI_add]) (by show _ < 184; omega) ?_
      refine WE.iincV (n := 42) (nI (i + 1)) dX6_restore_39 rfl rfl (by decide) (nI_inc i) ?_
      refine WE.goto (tgt := 20) dX6_restore_42 (by decide) ?_
      refine WE.ofS (σ' := (setR c 396 (cpN (i + 1) (c 400) (c 396)), od)) ?_ (WE.ofA (L' := [(0, .ref 395), (1, .int (nI (i + 1)))]) ⟨rfl, rfl, trivial⟩ (ih (i + 1) (by omega) (by omega)))
      rw [setR_o _ _ (by decide), u2_setR, upN_cp]
def S_restore (c : CC) : Int32 × CC := if c 395 6 = 0 then (nI 0, u2 (u2 c 395 16 (nI 0)) 395 16 (nI 1)) else (c 400 3, u2 (setN (u2 c 395 16 (nI 0)) (cpN 184 (c 400) (c 396))) 395 4 (nI 0))
set_option maxRecDepth 20000 in
set_option maxHeartbeats 1000000 in
theorem m_restore (c : CC) (od : Int64 × UInt64) : CM mX6_restore [.ref 395] (c, od) (RI (S_restore c).1 ((S_restore c).2, od)) := by
  refine CM.of [(0, .ref 395)] rfl (by decide +kernel) rfl (Nat.le_of_ble_eq_true rfl) ?_
  refine WE.aload_n (n := 1) dX6_restore_0 rfl rfl ?_
  refine WE.iconst (n := 2) (nI 0) dX6_restore_1 rfl (by decide) ?_
  refine WE.putI (n := 5) dX6_restore_2 rfl fl_X6_36 ⟨by decide, by decide, rfl, rfl⟩ ⟨by first | rfl | decide, by first | rfl | decide⟩ (by first | decide | exact kd_bal (by assumption) | exact kd_let (by assumption) | assumption) ?_
  refine WE.aload_n (n := 6) dX6_restore_5 rfl rfl ?_
  refine WE.getI (n := 9) dX6_restore_6 rfl fl_X6_217 ⟨by decide, by decide, rfl⟩ (by first | decide | exact kd_bal (by assumption) | exact kd_let (by assumption) | assumption) ?_
  refine WE.if_ne (n := 12) (tgt := 18) dX6_restore_9 rfl (by decide) (fun h9 => ?_) (fun h9 => ?_)
  · skip
    have h9 : ¬ c 395 6 = 0 := by simpa [u2] using h9
    refine WE.iconst (n := 19) (nI 0) dX6_restore_18 rfl (by decide) ?_
    refine WE.istore_n (n := 20) dX6_restore_19 rfl (by decide) ?_
    refine WE.ofA (L' := [(0, .ref 395), (1, .int (nI 0))]) ⟨rfl, rfl, trivial⟩ (m_restore_loop _ od ?_)
    refine WE.aload_n (n := 46) dX6_restore_45 rfl rfl ?_
    refine WE.iconst (n := 47) (nI 0) dX6_restore_46 rfl (by decide) ?_
    refine WE.putI (n := 50) dX6_restore_47 rfl fl_X6_39 ⟨by decide, by decide, rfl, rfl⟩ ⟨by first | rfl | decide, by first | rfl | decide⟩ (by first | decide | exact kd_bal (by assumption) | exact kd_let (by assumption) | assumption) ?_
    refine WE.aload_n (n := 51) dX6_restore_50 rfl rfl ?_
    refine WE.getR (n := 54) dX6_restore_51 rfl fl_X6_9 ⟨by decide, by decide⟩ rfl (by first | decide | exact kd_bal (by assumption) | exact kd_let (by assumption) | assumption) ?_
    refine WE.iconst (n := 55) (nI 3) dX6_restore_54 rfl (by decide) ?_
    refine WE.iald (n := 56) 3 dX6_restore_55 rfl (by first | decide | assumption) rfl (by show _ < 184; omega) ?_
    refine WE.iret (ty := .int) dX6_restore_56 rfl rfl ⟨by decide, by decide⟩ ?_
    refine RI.mk ?_ ?_
    · simp only [S_restore, h9, ↓reduceIte]
      rw [u2_o _ _ _ (by decide), setR_at, cpN_lt _ _ (by decide), u2_o _ _ _ (by decide)]
    · simp only [S_restore, h9, ↓reduceIte]
      rw [setR_396, u2_o _ _ _ (by decide), u2_o _ _ _ (by decide)]
  · skip
    have h9 : c 395 6 = 0 := by simpa [u2] using h9
    refine WE.aload_n (n := 13) dX6_restore_12 rfl rfl ?_
    refine WE.iconst (n := 14) (nI 1) dX6_restore_13 rfl (by decide) ?_
    refine WE.V1I (M' := mX6_raises) (n := 17) dX6_restore_14 rfl cv_X6_55 (by first | decide | exact kd_bal (by assumption) | exact kd_let (by assumption) | assumption) ⟨⟨by decide, by decide⟩, by decide, by decide⟩ (Nat.le_of_ble_eq_true rfl) (m_raises _ _ _) ?_
    refine WE.iret (ty := .int) dX6_restore_17 rfl rfl ⟨by decide, by decide⟩ ?_
    exact RI.mk (by simp only [S_restore, h9, ↓reduceIte]) (by simp only [S_restore, h9, ↓reduceIte])
def ctL (p : Nat → Prop) [DecidablePred p] : Nat → Int32
  | 0 => nI 0
  | n + 1 => if p n then ctL p n + nI 1 else ctL p n
theorem nI_inc1 (x : Int32) : x + Int32.ofInt 1 = x + nI 1 := rfl
theorem le_of0 {x : Int32} (h : x ≤ 0) : ¬ 0 < x := by
  rw [Int32.le_iff_toInt_le] at h
  rw [Int32.lt_iff_toInt_lt]
  omega
theorem lt_of0 {x : Int32} (h : ¬ x ≤ 0) : 0 < x := by
  rw [Int32.le_iff_toInt_le] at h
  rw [Int32.lt_iff_toInt_lt]
  omega
set_option maxRecDepth 20000 in
set_option maxHeartbeats 1000000 in
theorem m_balloonsIn (c : CC) (od : Int64 × UInt64) (nb : Nat) (hnb : nb ≤ 6) (hc3 : c 396 3 = nI nb) (st : Int32) : CM mX6_balloonsIn [.ref 395, .int st] (c, od) (RI (ctL (fun n => c 396 (22 + 11 * n + 5) = st) nb) (c, od)) := by
  refine CM.of [(0, .ref 395), (1, .int st)] rfl (by decide +kernel) rfl (Nat.le_of_ble_eq_true rfl) ?_
  refine WE.iconst (n := 1) (nI 0) dX6_balloonsIn_0 rfl (by decide) ?_
  refine WE.istore_n (n := 2) dX6_balloonsIn_1 rfl (by decide) ?_
  refine WE.iconst (n := 3) (nI 0) dX6_balloonsIn_2 rfl (by decide) ?_
  refine WE.istore_n (n := 4) dX6_balloonsIn_3 rfl (by decide) ?_
  suffices H : ∀ n i : Nat, i ≤ nb → nb < i + n → WE mX6_balloonsIn 4 [(0, .ref 395), (1, .int st), (2, .int (ctL (fun n => c 396 (22 + 11 * n + 5) = st) i)), (3, .int (nI i))] [] (c, od) 0 0 (GQ mX6_balloonsIn (RI (ctL (fun n => c 396 (22 + 11 * n + 5) = st) nb) (c, od))) from WE.ofA (L' := [(0, .ref 395), (1, .int st), (2, .int (ctL (fun n => c 396 (22 + 11 * n + 5) = st) 0)), (3, .int (nI 0))]) ⟨rfl, rfl, rfl, rfl, trivial⟩ (H (nb + 1) 0 (Nat.zero_le _) (by omega))
  intro n
  induction n with
  | zero =>
    intro i h1 h2
    exact absurd h2 (by omega)
  | succ n ih =>
    intro i hi hn
    refine WE.iload_n (n := 5) dX6_balloonsIn_4 rfl rfl ?_
    refine WE.aload_n (n := 6) dX6_balloonsIn_5 rfl rfl ?_
    refine WE.getR (n := 9) dX6_balloonsIn_6 rfl fl_X6_9 ⟨by decide, by decide⟩ rfl (by first | decide | exact kd_bal (by assumption) | exact kd_let (by assumption) | assumption) ?_
    refine WE.iconst (n := 10) (nI 3) dX6_balloonsIn_9 rfl (by decide) ?_
    refine WE.iald (n := 11) 3 dX6_balloonsIn_10 rfl (by first | decide | assumption) rfl (by show _ < 184; omega) ?_
    refine WE.icmp_ge (n := 14) (tgt := 33) dX6_balloonsIn_11 rfl (by decide) (fun h11 => ?_) (fun h11 => ?_)
    · skip
      rw [hc3] at h11
      have hx : i = nb := by have := ge_t (by omega) (by omega) h11; omega
      subst hx
      refine WE.iload_n (n := 34) dX6_balloonsIn_33 rfl rfl ?_
      refine WE.iret (ty := .int) dX6_balloonsIn_34 rfl rfl ⟨by decide, by decide⟩ ?_
      exact RI.mk rfl rfl
    · skip
      rw [hc3] at h11
      have hlt : i < nb := ge_f (by omega) (by omega) h11
      refine WE.aload_n (n := 15) dX6_balloonsIn_14 rfl rfl ?_
      refine WE.iload_n (n := 16) dX6_balloonsIn_15 rfl rfl ?_
      refine WE.iconst (n := 17) (nI 5) dX6_balloonsIn_16 rfl (by decide) ?_
      refine WE.V2I (M' := mX6_of) (n := 20) dX6_balloonsIn_17 rfl cv_X6_71 (by first | decide | exact kd_bal (by assumption) | exact kd_let (by assumption) | assumption) ⟨⟨by decide, by decide⟩, by decide, by decide⟩ (Nat.le_of_ble_eq_true rfl) (m_of _ _ i 5 (by omega)) ?_
      refine WE.iload_n (n := 21) dX6_balloonsIn_20 rfl rfl ?_
      refine WE.icmp_ne (n := 24) (tgt := 27) dX6_balloonsIn_21 rfl (by decide) (fun h21 => ?_) (fun h21 => ?_)
      · skip
        refine WE.iincV (n := 30) (nI (i + 1)) dX6_balloonsIn_27 rfl rfl (by decide) (nI_inc i) ?_
        refine WE.goto (tgt := 4) dX6_balloonsIn_30 (by decide) ?_
        refine WE.ofA (L' := [(0, .ref 395), (1, .int st), (2, .int (ctL (fun n => c 396 (22 + 11 * n + 5) = st) (i + 1))), (3, .int (nI (i + 1)))]) ⟨rfl, rfl, ?_, rfl, trivial⟩ (ih (i + 1) (by omega) (by omega))
        show some (Value.int _) = some (Value.int (ctL (fun n => c 396 (22 + 11 * n + 5) = st) (i + 1)))
        simp only [ctL, nI_inc1, h21, ↓reduceIte, and_self, and_true, true_and, and_false, false_and, not_true_eq_false, not_false_eq_true]
      · skip
        refine WE.iinc (n := 27) dX6_balloonsIn_24 rfl rfl (by decide) ?_
        refine WE.iincV (n := 30) (nI (i + 1)) dX6_balloonsIn_27 rfl rfl (by decide) (nI_inc i) ?_
        refine WE.goto (tgt := 4) dX6_balloonsIn_30 (by decide) ?_
        refine WE.ofA (L' := [(0, .ref 395), (1, .int st), (2, .int (ctL (fun n => c 396 (22 + 11 * n + 5) = st) (i + 1))), (3, .int (nI (i + 1)))]) ⟨rfl, rfl, ?_, rfl, trivial⟩ (ih (i + 1) (by omega) (by omega))
        show some (Value.int _) = some (Value.int (ctL (fun n => c 396 (22 + 11 * n + 5) = st) (i + 1)))
        simp only [ctL, nI_inc1, h21, ↓reduceIte, and_self, and_true, true_and, and_false, false_and, not_true_eq_false, not_false_eq_true]
set_option maxRecDepth 20000 in
set_option maxHeartbeats 1000000 in
theorem m_lettersIn (c : CC) (od : Int64 × UInt64) (nl : Nat) (hnl : nl ≤ 24) (hc4 : c 396 4 = nI nl) (st : Int32) : CM mX6_lettersIn [.ref 395, .int st] (c, od) (RI (ctL (fun n => c 396 (88 + 4 * n + 2) = st) nl) (c, od)) := by
  refine CM.of [(0, .ref 395), (1, .int st)] rfl (by decide +kernel) rfl (Nat.le_of_ble_eq_true rfl) ?_
  refine WE.iconst (n := 1) (nI 0) dX6_lettersIn_0 rfl (by decide) ?_
  refine WE.istore_n (n := 2) dX6_lettersIn_1 rfl (by decide) ?_
  refine WE.iconst (n := 3) (nI 0) dX6_lettersIn_2 rfl (by decide) ?_
  refine WE.istore_n (n := 4) dX6_lettersIn_3 rfl (by decide) ?_
  suffices H : ∀ n i : Nat, i ≤ nl → nl < i + n → WE mX6_lettersIn 4 [(0, .ref 395), (1, .int st), (2, .int (ctL (fun n => c 396 (88 + 4 * n + 2) = st) i)), (3, .int (nI i))] [] (c, od) 0 0 (GQ mX6_lettersIn (RI (ctL (fun n => c 396 (88 + 4 * n + 2) = st) nl) (c, od))) from WE.ofA (L' := [(0, .ref 395), (1, .int st), (2, .int (ctL (fun n => c 396 (88 + 4 * n + 2) = st) 0)), (3, .int (nI 0))]) ⟨rfl, rfl, rfl, rfl, trivial⟩ (H (nl + 1) 0 (Nat.zero_le _) (by omega))
  intro n
  induction n with
  | zero =>
    intro i h1 h2
    exact absurd h2 (by omega)
  | succ n ih =>
    intro i hi hn
    refine WE.iload_n (n := 5) dX6_lettersIn_4 rfl rfl ?_
    refine WE.aload_n (n := 6) dX6_lettersIn_5 rfl rfl ?_
    refine WE.getR (n := 9) dX6_lettersIn_6 rfl fl_X6_9 ⟨by decide, by decide⟩ rfl (by first | decide | exact kd_bal (by assumption) | exact kd_let (by assumption) | assumption) ?_
    refine WE.iconst (n := 10) (nI 4) dX6_lettersIn_9 rfl (by decide) ?_
    refine WE.iald (n := 11) 4 dX6_lettersIn_10 rfl (by first | decide | assumption) rfl (by show _ < 184; omega) ?_
    refine WE.icmp_ge (n := 14) (tgt := 40) dX6_lettersIn_11 rfl (by decide) (fun h11 => ?_) (fun h11 => ?_)
    · skip
      rw [hc4] at h11
      have hx : i = nl := by have := ge_t (by omega) (by omega) h11; omega
      subst hx
      refine WE.iload_n (n := 41) dX6_lettersIn_40 rfl rfl ?_
      refine WE.iret (ty := .int) dX6_lettersIn_41 rfl rfl ⟨by decide, by decide⟩ ?_
      exact RI.mk rfl rfl
    · skip
      rw [hc4] at h11
      have hlt : i < nl := ge_f (by omega) (by omega) h11
      refine WE.aload_n (n := 15) dX6_lettersIn_14 rfl rfl ?_
      refine WE.getR (n := 18) dX6_lettersIn_15 rfl fl_X6_9 ⟨by decide, by decide⟩ rfl (by first | decide | exact kd_bal (by assumption) | exact kd_let (by assumption) | assumption) ?_
      refine WE.bipush (n := 20) (nI 88) dX6_lettersIn_18 rfl (by decide) ?_
      refine WE.iconst (n := 21) (nI 4) dX6_lettersIn_20 rfl (by decide) ?_
      refine WE.iload_n (n := 22) dX6_lettersIn_21 rfl rfl ?_
      refine WE.imul (n := 23) dX6_lettersIn_22 rfl ?_
      refine WE.iadd (n := 24) dX6_lettersIn_23 rfl ?_
      refine WE.iconst (n := 25) (nI 2) dX6_lettersIn_24 rfl (by decide) ?_
      refine WE.iadd (n := 26) dX6_lettersIn_25 rfl ?_
      refine WE.iald (n := 27) (88 + 4 * i + 2) dX6_lettersIn_26 rfl (by first | decide | assumption) (by first | rfl | simp only [pk_mul, nI_add]) (by show _ < 184; omega) ?_
      refine WE.iload_n (n := 28) dX6_lettersIn_27 rfl rfl ?_
      refine WE.icmp_ne (n := 31) (tgt := 34) dX6_lettersIn_28 rfl (by decide) (fun h28 => ?_) (fun h28 => ?_)
      · skip
        refine WE.iincV (n := 37) (nI (i + 1)) dX6_lettersIn_34 rfl rfl (by decide) (nI_inc i) ?_
        refine WE.goto (tgt := 4) dX6_lettersIn_37 (by decide) ?_
        refine WE.ofA (L' := [(0, .ref 395), (1, .int st), (2, .int (ctL (fun n => c 396 (88 + 4 * n + 2) = st) (i + 1))), (3, .int (nI (i + 1)))]) ⟨rfl, rfl, ?_, rfl, trivial⟩ (ih (i + 1) (by omega) (by omega))
        show some (Value.int _) = some (Value.int (ctL (fun n => c 396 (88 + 4 * n + 2) = st) (i + 1)))
        simp only [ctL, nI_inc1, h28, ↓reduceIte, and_self, and_true, true_and, and_false, false_and, not_true_eq_false, not_false_eq_true]
      · skip
        refine WE.iinc (n := 34) dX6_lettersIn_31 rfl rfl (by decide) ?_
        refine WE.iincV (n := 37) (nI (i + 1)) dX6_lettersIn_34 rfl rfl (by decide) (nI_inc i) ?_
        refine WE.goto (tgt := 4) dX6_lettersIn_37 (by decide) ?_
        refine WE.ofA (L' := [(0, .ref 395), (1, .int st), (2, .int (ctL (fun n => c 396 (88 + 4 * n + 2) = st) (i + 1))), (3, .int (nI (i + 1)))]) ⟨rfl, rfl, ?_, rfl, trivial⟩ (ih (i + 1) (by omega) (by omega))
        show some (Value.int _) = some (Value.int (ctL (fun n => c 396 (88 + 4 * n + 2) = st) (i + 1)))
        simp only [ctL, nI_inc1, h28, ↓reduceIte, and_self, and_true, true_and, and_false, false_and, not_true_eq_false, not_false_eq_true]
set_option maxRecDepth 20000 in
set_option maxHeartbeats 1000000 in
theorem m_lettersOf (c : CC) (od : Int64 × UInt64) (nl : Nat) (hnl : nl ≤ 24) (hc4 : c 396 4 = nI nl) (b : Int32) : CM mX6_lettersOf [.ref 395, .int b] (c, od) (RI (ctL (fun n => 0 < c 396 (88 + 4 * n + 2) ∧ c 396 (88 + 4 * n + 3) = b) nl) (c, od)) := by
  refine CM.of [(0, .ref 395), (1, .int b)] rfl (by decide +kernel) rfl (Nat.le_of_ble_eq_true rfl) ?_
  refine WE.iconst (n := 1) (nI 0) dX6_lettersOf_0 rfl (by decide) ?_
  refine WE.istore_n (n := 2) dX6_lettersOf_1 rfl (by decide) ?_
  refine WE.iconst (n := 3) (nI 0) dX6_lettersOf_2 rfl (by decide) ?_
  refine WE.istore_n (n := 4) dX6_lettersOf_3 rfl (by decide) ?_
  suffices H : ∀ n i : Nat, i ≤ nl → nl < i + n → WE mX6_lettersOf 4 [(0, .ref 395), (1, .int b), (2, .int (ctL (fun n => 0 < c 396 (88 + 4 * n + 2) ∧ c 396 (88 + 4 * n + 3) = b) i)), (3, .int (nI i))] [] (c, od) 0 0 (GQ mX6_lettersOf (RI (ctL (fun n => 0 < c 396 (88 + 4 * n + 2) ∧ c 396 (88 + 4 * n + 3) = b) nl) (c, od))) from WE.ofA (L' := [(0, .ref 395), (1, .int b), (2, .int (ctL (fun n => 0 < c 396 (88 + 4 * n + 2) ∧ c 396 (88 + 4 * n + 3) = b) 0)), (3, .int (nI 0))]) ⟨rfl, rfl, rfl, rfl, trivial⟩ (H (nl + 1) 0 (Nat.zero_le _) (by omega))
  intro n
  induction n with
  | zero =>
    intro i h1 h2
    exact absurd h2 (by omega)
  | succ n ih =>
    intro i hi hn
    refine WE.iload_n (n := 5) dX6_lettersOf_4 rfl rfl ?_
    refine WE.aload_n (n := 6) dX6_lettersOf_5 rfl rfl ?_
    refine WE.getR (n := 9) dX6_lettersOf_6 rfl fl_X6_9 ⟨by decide, by decide⟩ rfl (by first | decide | exact kd_bal (by assumption) | exact kd_let (by assumption) | assumption) ?_
    refine WE.iconst (n := 10) (nI 4) dX6_lettersOf_9 rfl (by decide) ?_
    refine WE.iald (n := 11) 4 dX6_lettersOf_10 rfl (by first | decide | assumption) rfl (by show _ < 184; omega) ?_
    refine WE.icmp_ge (n := 14) (tgt := 56) dX6_lettersOf_11 rfl (by decide) (fun h11 => ?_) (fun h11 => ?_)
    · skip
      rw [hc4] at h11
      have hx : i = nl := by have := ge_t (by omega) (by omega) h11; omega
      subst hx
      refine WE.iload_n (n := 57) dX6_lettersOf_56 rfl rfl ?_
      refine WE.iret (ty := .int) dX6_lettersOf_57 rfl rfl ⟨by decide, by decide⟩ ?_
      exact RI.mk rfl rfl
    · skip
      rw [hc4] at h11
      have hlt : i < nl := ge_f (by omega) (by omega) h11
      refine WE.aload_n (n := 15) dX6_lettersOf_14 rfl rfl ?_
      refine WE.getR (n := 18) dX6_lettersOf_15 rfl fl_X6_9 ⟨by decide, by decide⟩ rfl (by first | decide | exact kd_bal (by assumption) | exact kd_let (by assumption) | assumption) ?_
      refine WE.bipush (n := 20) (nI 88) dX6_lettersOf_18 rfl (by decide) ?_
      refine WE.iconst (n := 21) (nI 4) dX6_lettersOf_20 rfl (by decide) ?_
      refine WE.iload_n (n := 22) dX6_lettersOf_21 rfl rfl ?_
      refine WE.imul (n := 23) dX6_lettersOf_22 rfl ?_
      refine WE.iadd (n := 24) dX6_lettersOf_23 rfl ?_
      refine WE.iconst (n := 25) (nI 2) dX6_lettersOf_24 rfl (by decide) ?_
      refine WE.iadd (n := 26) dX6_lettersOf_25 rfl ?_
      refine WE.iald (n := 27) (88 + 4 * i + 2) dX6_lettersOf_26 rfl (by first | decide | assumption) (by first | rfl | simp only [pk_mul, nI_add]) (by show _ < 184; omega) ?_
      refine WE.if_le (n := 30) (tgt := 50) dX6_lettersOf_27 rfl (by decide) (fun h27 => ?_) (fun h27 => ?_)
      · skip
        have h27 := le_of0 h27
        refine WE.iincV (n := 53) (nI (i + 1)) dX6_lettersOf_50 rfl rfl (by decide) (nI_inc i) ?_
        refine WE.goto (tgt := 4) dX6_lettersOf_53 (by decide) ?_
        refine WE.ofA (L' := [(0, .ref 395), (1, .int b), (2, .int (ctL (fun n => 0 < c 396 (88 + 4 * n + 2) ∧ c 396 (88 + 4 * n + 3) = b) (i + 1))), (3, .int (nI (i + 1)))]) ⟨rfl, rfl, ?_, rfl, trivial⟩ (ih (i + 1) (by omega) (by omega))
        show some (Value.int _) = some (Value.int (ctL (fun n => 0 < c 396 (88 + 4 * n + 2) ∧ c 396 (88 + 4 * n + 3) = b) (i + 1)))
        simp only [ctL, nI_inc1, h27, ↓reduceIte, and_self, and_true, true_and, and_false, false_and, not_true_eq_false, not_false_eq_true]
      · skip
        have h27 := lt_of0 h27
        refine WE.aload_n (n := 31) dX6_lettersOf_30 rfl rfl ?_
        refine WE.getR (n := 34) dX6_lettersOf_31 rfl fl_X6_9 ⟨by decide, by decide⟩ rfl (by first | decide | exact kd_bal (by assumption) | exact kd_let (by assumption) | assumption) ?_
        refine WE.bipush (n := 36) (nI 88) dX6_lettersOf_34 rfl (by decide) ?_
        refine WE.iconst (n := 37) (nI 4) dX6_lettersOf_36 rfl (by decide) ?_
        refine WE.iload_n (n := 38) dX6_lettersOf_37 rfl rfl ?_
        refine WE.imul (n := 39) dX6_lettersOf_38 rfl ?_
        refine WE.iadd (n := 40) dX6_lettersOf_39 rfl ?_
        refine WE.iconst (n := 41) (nI 3) dX6_lettersOf_40 rfl (by decide) ?_
        refine WE.iadd (n := 42) dX6_lettersOf_41 rfl ?_
        refine WE.iald (n := 43) (88 + 4 * i + 3) dX6_lettersOf_42 rfl (by first | decide | assumption) (by first | rfl | simp only [pk_mul, nI_add]) (by show _ < 184; omega) ?_
        refine WE.iload_n (n := 44) dX6_lettersOf_43 rfl rfl ?_
        refine WE.icmp_ne (n := 47) (tgt := 50) dX6_lettersOf_44 rfl (by decide) (fun h44 => ?_) (fun h44 => ?_)
        · skip
          refine WE.iincV (n := 53) (nI (i + 1)) dX6_lettersOf_50 rfl rfl (by decide) (nI_inc i) ?_
          refine WE.goto (tgt := 4) dX6_lettersOf_53 (by decide) ?_
          refine WE.ofA (L' := [(0, .ref 395), (1, .int b), (2, .int (ctL (fun n => 0 < c 396 (88 + 4 * n + 2) ∧ c 396 (88 + 4 * n + 3) = b) (i + 1))), (3, .int (nI (i + 1)))]) ⟨rfl, rfl, ?_, rfl, trivial⟩ (ih (i + 1) (by omega) (by omega))
          show some (Value.int _) = some (Value.int (ctL (fun n => 0 < c 396 (88 + 4 * n + 2) ∧ c 396 (88 + 4 * n + 3) = b) (i + 1)))
          simp only [ctL, nI_inc1, h27, h44, ↓reduceIte, and_self, and_true, true_and, and_false, false_and, not_true_eq_false, not_false_eq_true]
        · skip
          refine WE.iinc (n := 50) dX6_lettersOf_47 rfl rfl (by decide) ?_
          refine WE.iincV (n := 53) (nI (i + 1)) dX6_lettersOf_50 rfl rfl (by decide) (nI_inc i) ?_
          refine WE.goto (tgt := 4) dX6_lettersOf_53 (by decide) ?_
          refine WE.ofA (L' := [(0, .ref 395), (1, .int b), (2, .int (ctL (fun n => 0 < c 396 (88 + 4 * n + 2) ∧ c 396 (88 + 4 * n + 3) = b) (i + 1))), (3, .int (nI (i + 1)))]) ⟨rfl, rfl, ?_, rfl, trivial⟩ (ih (i + 1) (by omega) (by omega))
          show some (Value.int _) = some (Value.int (ctL (fun n => 0 < c 396 (88 + 4 * n + 2) ∧ c 396 (88 + 4 * n + 3) = b) (i + 1)))
          simp only [ctL, nI_inc1, h27, h44, ↓reduceIte, and_self, and_true, true_and, and_false, false_and, not_true_eq_false, not_false_eq_true]
abbrev hwP (N : NA) (j : Nat) : Prop := N (22 + 11 * j + 5) = nI 2 ∧ 0 < N (22 + 11 * j + 3)
def woN (N : NA) (j : Nat) : Int32 := N (22 + 11 * j + 9) + (far (N (22 + 11 * j + 6)) (N (22 + 11 * j + 7)) + nI 4) / nI 5
set_option maxRecDepth 20000 in
set_option maxHeartbeats 1000000 in
theorem m_hasWord (c : CC) (od : Int64 × UInt64) (b : Nat) (h : b < 6) : CM mX6_hasWord [.ref 395, .int (nI b)] (c, od) (RI (b2i (hwP (c 396) b)) (c, od)) := by
  refine CM.of [(0, .ref 395), (1, .int (nI b))] rfl (by decide +kernel) rfl (Nat.le_of_ble_eq_true rfl) ?_
  refine WE.aload_n (n := 1) dX6_hasWord_0 rfl rfl ?_
  refine WE.iload_n (n := 2) dX6_hasWord_1 rfl rfl ?_
  refine WE.iconst (n := 3) (nI 5) dX6_hasWord_2 rfl (by decide) ?_
  refine WE.V2I (M' := mX6_of) (n := 6) dX6_hasWord_3 rfl cv_X6_71 (by first | decide | exact kd_bal (by assumption) | exact kd_let (by assumption) | assumption) ⟨⟨by decide, by decide⟩, by decide, by decide⟩ (Nat.le_of_ble_eq_true rfl) (m_of _ _ b 5 (by omega)) ?_
  refine WE.iconst (n := 7) (nI 2) dX6_hasWord_6 rfl (by decide) ?_
  refine WE.icmp_ne (n := 10) (tgt := 23) dX6_hasWord_7 rfl (by decide) (fun h7 => ?_) (fun h7 => ?_)
  · skip
    refine WE.iconst (n := 24) (nI 0) dX6_hasWord_23 rfl (by decide) ?_
    refine WE.iret (ty := .boolean) dX6_hasWord_24 rfl (by first | rfl | exact b2i_nar _ | decide) ⟨by decide, by decide⟩ ?_
    first | exact RI.mk (b2i_t ⟨h7, h16⟩).symm rfl | exact RI.mk (b2i_f (fun q => h16 q.2)).symm rfl | exact RI.mk (b2i_f (fun q => h7 q.1)).symm rfl
  · skip
    refine WE.aload_n (n := 11) dX6_hasWord_10 rfl rfl ?_
    refine WE.iload_n (n := 12) dX6_hasWord_11 rfl rfl ?_
    refine WE.iconst (n := 13) (nI 3) dX6_hasWord_12 rfl (by decide) ?_
    refine WE.V2I (M' := mX6_of) (n := 16) dX6_hasWord_13 rfl cv_X6_71 (by first | decide | exact kd_bal (by assumption) | exact kd_let (by assumption) | assumption) ⟨⟨by decide, by decide⟩, by decide, by decide⟩ (Nat.le_of_ble_eq_true rfl) (m_of _ _ b 3 (by omega)) ?_
    refine WE.if_le (n := 19) (tgt := 23) dX6_hasWord_16 rfl (by decide) (fun h16 => ?_) (fun h16 => ?_)
    · skip
      have h16 := le_of0 h16
      refine WE.iconst (n := 24) (nI 0) dX6_hasWord_23 rfl (by decide) ?_
      refine WE.iret (ty := .boolean) dX6_hasWord_24 rfl (by first | rfl | exact b2i_nar _ | decide) ⟨by decide, by decide⟩ ?_
      first | exact RI.mk (b2i_t ⟨h7, h16⟩).symm rfl | exact RI.mk (b2i_f (fun q => h16 q.2)).symm rfl | exact RI.mk (b2i_f (fun q => h7 q.1)).symm rfl
    · skip
      have h16 := lt_of0 h16
      refine WE.iconst (n := 20) (nI 1) dX6_hasWord_19 rfl (by decide) ?_
      refine WE.goto (tgt := 24) dX6_hasWord_20 (by decide) ?_
      refine WE.iret (ty := .boolean) dX6_hasWord_24 rfl (by first | rfl | exact b2i_nar _ | decide) ⟨by decide, by decide⟩ ?_
      first | exact RI.mk (b2i_t ⟨h7, h16⟩).symm rfl | exact RI.mk (b2i_f (fun q => h16 q.2)).symm rfl | exact RI.mk (b2i_f (fun q => h7 q.1)).symm rfl
set_option maxRecDepth 20000 in
set_option maxHeartbeats 1000000 in
theorem m_wordOf (c : CC) (od : Int64 × UInt64) (b : Nat) (h : b < 6) : CM mX6_wordOf [.ref 395, .int (nI b)] (c, od) (RI (woN (c 396) b) (c, od)) := by
  refine CM.of [(0, .ref 395), (1, .int (nI b))] rfl (by decide +kernel) rfl (Nat.le_of_ble_eq_true rfl) ?_
  refine WE.aload_n (n := 1) dX6_wordOf_0 rfl rfl ?_
  refine WE.iload_n (n := 2) dX6_wordOf_1 rfl rfl ?_
  refine WE.bipush (n := 4) (nI 9) dX6_wordOf_2 rfl (by decide) ?_
  refine WE.V2I (M' := mX6_of) (n := 7) dX6_wordOf_4 rfl cv_X6_71 (by first | decide | exact kd_bal (by assumption) | exact kd_let (by assumption) | assumption) ⟨⟨by decide, by decide⟩, by decide, by decide⟩ (Nat.le_of_ble_eq_true rfl) (m_of _ _ b 9 (by omega)) ?_
  refine WE.aload_n (n := 8) dX6_wordOf_7 rfl rfl ?_
  refine WE.iload_n (n := 9) dX6_wordOf_8 rfl rfl ?_
  refine WE.V1I (M' := mX6_farOf) (n := 12) dX6_wordOf_9 rfl cv_X6_134 (by first | decide | exact kd_bal (by assumption) | exact kd_let (by assumption) | assumption) ⟨⟨by decide, by decide⟩, by decide, by decide⟩ (Nat.le_of_ble_eq_true rfl) (m_farOf _ _ b h) ?_
  refine WE.iconst (n := 13) (nI 4) dX6_wordOf_12 rfl (by decide) ?_
  refine WE.iadd (n := 14) dX6_wordOf_13 rfl ?_
  refine WE.iconst (n := 15) (nI 5) dX6_wordOf_14 rfl (by decide) ?_
  refine WE.idiv (n := 16) dX6_wordOf_15 rfl (by decide) ?_
  refine WE.iadd (n := 17) dX6_wordOf_16 rfl ?_
  refine WE.iret (ty := .int) dX6_wordOf_17 rfl rfl ⟨by decide, by decide⟩ ?_
  exact RI.mk rfl rfl
set_option maxRecDepth 20000 in
set_option maxHeartbeats 1000000 in
theorem m_words (c : CC) (od : Int64 × UInt64) (nb : Nat) (hnb : nb ≤ 6) (hc3 : c 396 3 = nI nb)  : CM mX6_words [.ref 395] (c, od) (RI (ctL (fun n => hwP (c 396) n ∧ woN (c 396) n < c 396 0) nb) (c, od)) := by
  refine CM.of [(0, .ref 395)] rfl (by decide +kernel) rfl (Nat.le_of_ble_eq_true rfl) ?_
  refine WE.iconst (n := 1) (nI 0) dX6_words_0 rfl (by decide) ?_
  refine WE.istore_n (n := 2) dX6_words_1 rfl (by decide) ?_
  refine WE.iconst (n := 3) (nI 0) dX6_words_2 rfl (by decide) ?_
  refine WE.istore_n (n := 4) dX6_words_3 rfl (by decide) ?_
  suffices H : ∀ n i : Nat, i ≤ nb → nb < i + n → WE mX6_words 4 [(0, .ref 395), (1, .int (ctL (fun n => hwP (c 396) n ∧ woN (c 396) n < c 396 0) i)), (2, .int (nI i))] [] (c, od) 0 0 (GQ mX6_words (RI (ctL (fun n => hwP (c 396) n ∧ woN (c 396) n < c 396 0) nb) (c, od))) from WE.ofA (L' := [(0, .ref 395), (1, .int (ctL (fun n => hwP (c 396) n ∧ woN (c 396) n < c 396 0) 0)), (2, .int (nI 0))]) ⟨rfl, rfl, rfl, trivial⟩ (H (nb + 1) 0 (Nat.zero_le _) (by omega))
  intro n
  induction n with
  | zero =>
    intro i h1 h2
    exact absurd h2 (by omega)
  | succ n ih =>
    intro i hi hn
    refine WE.iload_n (n := 5) dX6_words_4 rfl rfl ?_
    refine WE.aload_n (n := 6) dX6_words_5 rfl rfl ?_
    refine WE.getR (n := 9) dX6_words_6 rfl fl_X6_9 ⟨by decide, by decide⟩ rfl (by first | decide | exact kd_bal (by assumption) | exact kd_let (by assumption) | assumption) ?_
    refine WE.iconst (n := 10) (nI 3) dX6_words_9 rfl (by decide) ?_
    refine WE.iald (n := 11) 3 dX6_words_10 rfl (by first | decide | assumption) rfl (by show _ < 184; omega) ?_
    refine WE.icmp_ge (n := 14) (tgt := 45) dX6_words_11 rfl (by decide) (fun h11 => ?_) (fun h11 => ?_)
    · skip
      rw [hc3] at h11
      have hx : i = nb := by have := ge_t (by omega) (by omega) h11; omega
      subst hx
      refine WE.iload_n (n := 46) dX6_words_45 rfl rfl ?_
      refine WE.iret (ty := .int) dX6_words_46 rfl rfl ⟨by decide, by decide⟩ ?_
      exact RI.mk rfl rfl
    · skip
      rw [hc3] at h11
      have hlt : i < nb := ge_f (by omega) (by omega) h11
      refine WE.aload_n (n := 15) dX6_words_14 rfl rfl ?_
      refine WE.iload_n (n := 16) dX6_words_15 rfl rfl ?_
      refine WE.V1I (M' := mX6_hasWord) (n := 19) dX6_words_16 rfl cv_X6_155 (by first | decide | exact kd_bal (by assumption) | exact kd_let (by assumption) | assumption) ⟨⟨by decide, by decide⟩, by decide, by decide⟩ (Nat.le_of_ble_eq_true rfl) (m_hasWord _ _ i (by omega)) ?_
      refine WE.if_eqB (n := 22) (tgt := 39) dX6_words_19 rfl (by decide) (fun h19 => ?_) (fun h19 => ?_)
      · skip
        refine WE.iincV (n := 42) (nI (i + 1)) dX6_words_39 rfl rfl (by decide) (nI_inc i) ?_
        refine WE.goto (tgt := 4) dX6_words_42 (by decide) ?_
        refine WE.ofA (L' := [(0, .ref 395), (1, .int (ctL (fun n => hwP (c 396) n ∧ woN (c 396) n < c 396 0) (i + 1))), (2, .int (nI (i + 1)))]) ⟨rfl, ?_, rfl, trivial⟩ (ih (i + 1) (by omega) (by omega))
        show some (Value.int _) = some (Value.int (ctL (fun n => hwP (c 396) n ∧ woN (c 396) n < c 396 0) (i + 1)))
        simp only [ctL, nI_inc1, h19, hwP, ↓reduceIte, and_self, and_true, true_and, and_false, false_and, not_true_eq_false, not_false_eq_true]
      · skip
        refine WE.aload_n (n := 23) dX6_words_22 rfl rfl ?_
        refine WE.iload_n (n := 24) dX6_words_23 rfl rfl ?_
        refine WE.V1I (M' := mX6_wordOf) (n := 27) dX6_words_24 rfl cv_X6_158 (by first | decide | exact kd_bal (by assumption) | exact kd_let (by assumption) | assumption) ⟨⟨by decide, by decide⟩, by decide, by decide⟩ (Nat.le_of_ble_eq_true rfl) (m_wordOf _ _ i (by omega)) ?_
        refine WE.aload_n (n := 28) dX6_words_27 rfl rfl ?_
        refine WE.getR (n := 31) dX6_words_28 rfl fl_X6_9 ⟨by decide, by decide⟩ rfl (by first | decide | exact kd_bal (by assumption) | exact kd_let (by assumption) | assumption) ?_
        refine WE.iconst (n := 32) (nI 0) dX6_words_31 rfl (by decide) ?_
        refine WE.iald (n := 33) 0 dX6_words_32 rfl (by first | decide | assumption) rfl (by show _ < 184; omega) ?_
        refine WE.icmp_ge (n := 36) (tgt := 39) dX6_words_33 rfl (by decide) (fun h33 => ?_) (fun h33 => ?_)
        · skip
          have h33 : ¬ woN (c 396) i < c 396 0 := by rw [Int32.le_iff_toInt_le] at h33; rw [Int32.lt_iff_toInt_lt]; omega
          refine WE.iincV (n := 42) (nI (i + 1)) dX6_words_39 rfl rfl (by decide) (nI_inc i) ?_
          refine WE.goto (tgt := 4) dX6_words_42 (by decide) ?_
          refine WE.ofA (L' := [(0, .ref 395), (1, .int (ctL (fun n => hwP (c 396) n ∧ woN (c 396) n < c 396 0) (i + 1))), (2, .int (nI (i + 1)))]) ⟨rfl, ?_, rfl, trivial⟩ (ih (i + 1) (by omega) (by omega))
          show some (Value.int _) = some (Value.int (ctL (fun n => hwP (c 396) n ∧ woN (c 396) n < c 396 0) (i + 1)))
          simp only [ctL, nI_inc1, h19, h33, hwP, ↓reduceIte, and_self, and_true, true_and, and_false, false_and, not_true_eq_false, not_false_eq_true]
        · skip
          have h33 : woN (c 396) i < c 396 0 := by rw [Int32.le_iff_toInt_le] at h33; rw [Int32.lt_iff_toInt_lt]; omega
          refine WE.iinc (n := 39) dX6_words_36 rfl rfl (by decide) ?_
          refine WE.iincV (n := 42) (nI (i + 1)) dX6_words_39 rfl rfl (by decide) (nI_inc i) ?_
          refine WE.goto (tgt := 4) dX6_words_42 (by decide) ?_
          refine WE.ofA (L' := [(0, .ref 395), (1, .int (ctL (fun n => hwP (c 396) n ∧ woN (c 396) n < c 396 0) (i + 1))), (2, .int (nI (i + 1)))]) ⟨rfl, ?_, rfl, trivial⟩ (ih (i + 1) (by omega) (by omega))
          show some (Value.int _) = some (Value.int (ctL (fun n => hwP (c 396) n ∧ woN (c 396) n < c 396 0) (i + 1)))
          simp only [ctL, nI_inc1, h19, h33, hwP, ↓reduceIte, and_self, and_true, true_and, and_false, false_and, not_true_eq_false, not_false_eq_true]
