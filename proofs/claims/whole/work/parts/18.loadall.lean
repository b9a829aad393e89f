theorem FL_mem {N : NA} {r l : Nat} : ∀ {n : Nat}, l ∈ FL N r n ↔ l < n ∧ N (88 + 4 * l + 2) = 0 ∧ N (88 + 4 * l + 1) = nI r := by
  intro n
  simp [FL]
theorem FL_nodup (N : NA) (r n : Nat) : (FL N r n).Nodup := List.Pairwise.filter _ List.nodup_range
theorem WL_mem {N : NA} {nl l : Nat} (h : l ∈ WL N nl) : l < nl ∧ N (88 + 4 * l + 2) = 0 := by
  rcases List.mem_append.mp h with h | h
  · exact ⟨(FL_mem.mp h).1, (FL_mem.mp h).2.1⟩
  · rcases List.mem_append.mp h with h | h
    · exact ⟨(FL_mem.mp h).1, (FL_mem.mp h).2.1⟩
    · exact ⟨(FL_mem.mp h).1, (FL_mem.mp h).2.1⟩
theorem nI_ne {a b : Nat} (ha : a < 2 ^ 31) (hb : b < 2 ^ 31) (h : a ≠ b) : nI a ≠ nI b := fun q => h ((nI_eq ha hb).mp q)
theorem WL_nodup (N : NA) (nl : Nat) : (WL N nl).Nodup := by
  have hd : ∀ {r s : Nat}, r < 3 → s < 3 → r ≠ s → ∀ l, l ∈ FL N r nl → l ∉ FL N s nl := by
    intro r s hr hs hrs l h1 h2
    exact nI_ne (by omega) (by omega) hrs ((FL_mem.mp h1).2.2.symm.trans (FL_mem.mp h2).2.2)
  unfold WL
  rw [List.nodup_append, List.nodup_append]
  refine ⟨FL_nodup _ _ _, ⟨FL_nodup _ _ _, FL_nodup _ _ _, fun a ha b hb e => ?_⟩, fun a ha b hb e => ?_⟩
  · subst e
    exact hd (by decide) (by decide) (by decide) a ha hb
  · subst e
    rcases List.mem_append.mp hb with hb | hb
    · exact hd (by decide) (by decide) (by decide) a ha hb
    · exact hd (by decide) (by decide) (by decide) a ha hb
theorem ldN_at (N : NA) (l : Nat) (b : Int32) {k : Nat} (h2 : k ≠ 88 + 4 * l + 2) (h3 : k ≠ 88 + 4 * l + 3) : ldN N l b k = N k := by
  unfold ldN
  rw [upN_ne _ _ _ h3, upN_ne _ _ _ h2]
theorem ldN_2 (N : NA) (l : Nat) (b : Int32) : ldN N l b (88 + 4 * l + 2) = nI 1 := by
  unfold ldN
  rw [upN_ne _ _ _ (by omega), upN_eq]
theorem FL_ld (N : NA) (l r : Nat) (b : Int32) : ∀ n, FL (ldN N l b) r n = (FL N r n).filter (fun x => decide (x ≠ l))
  | 0 => rfl
  | n + 1 => by
    by_cases e : n = l
    · subst e
      have hf : ¬ (ldN N n b (88 + 4 * n + 2) = 0 ∧ ldN N n b (88 + 4 * n + 1) = nI r) := by
        rw [ldN_2]
        exact fun z => absurd z.1 (by decide)
      rw [FL_f hf, FL_ld N n r b n]
      by_cases hp : N (88 + 4 * n + 2) = 0 ∧ N (88 + 4 * n + 1) = nI r
      · rw [FL_t hp, List.filter_append]
        simp
      · rw [FL_f hp]
    · have e2 : ldN N l b (88 + 4 * n + 2) = N (88 + 4 * n + 2) := ldN_at _ _ _ (by omega) (by omega)
      have e1 : ldN N l b (88 + 4 * n + 1) = N (88 + 4 * n + 1) := ldN_at _ _ _ (by omega) (by omega)
      by_cases hp : N (88 + 4 * n + 2) = 0 ∧ N (88 + 4 * n + 1) = nI r
      · rw [FL_t hp, FL_t (by rw [e1, e2]; exact hp), FL_ld N l r b n, List.filter_append]
        simp [e]
      · rw [FL_f hp, FL_f (by rw [e1, e2]; exact hp), FL_ld N l r b n]
theorem WL_ld (N : NA) (l nl : Nat) (b : Int32) : WL (ldN N l b) nl = (WL N nl).filter (fun x => decide (x ≠ l)) := by
  unfold WL
  rw [FL_ld, FL_ld, FL_ld, List.filter_append, List.filter_append]
theorem filter_one {l : Nat} {a t : List Nat} (h : (a ++ l :: t).Nodup) : (a ++ l :: t).filter (fun x => decide (x ≠ l)) = a ++ t := by
  rw [List.nodup_append] at h
  obtain ⟨-, h2, h3⟩ := h
  have h4 := (List.nodup_cons.mp h2).1
  have e1 : a.filter (fun x => decide (x ≠ l)) = a := List.filter_eq_self.mpr fun x hx => decide_eq_true (fun e => h3 x hx l List.mem_cons_self e)
  have e2 : t.filter (fun x => decide (x ≠ l)) = t := List.filter_eq_self.mpr fun x hx => decide_eq_true (fun e => h4 (e ▸ hx))
  rw [List.filter_append, e1, List.filter_cons, if_neg (by simp), e2]
/-- the letters of a list gone through: each is loaded into balloon j if it is borne -/
def laF (j nl : Nat) : NA → List Nat → NA × Nat
  | N, [] => (N, 0)
  | N, l :: ls => if 0 ≤ beN (ldN N l (nI j)) j nl then ((laF j nl (ldN N l (nI j)) ls).1, (laF j nl (ldN N l (nI j)) ls).2 + 1) else laF j nl N ls
def S_loadAll (N : NA) (b : Int32) : OR :=
  if isBN N b then
    if N (bk b 5) = 0 then .inl (nI (laF b.toNatClampNeg (nlN N) N (WL N (nlN N))).2, (laF b.toNatClampNeg (nlN N) N (WL N (nlN N))).1)
    else .inr (.inl (nI 2, b))
  else .inr (.inr 1)
theorem ld_back {N : NA} {l : Nat} {b : Int32} (h2 : N (88 + 4 * l + 2) = 0) (h3 : N (88 + 4 * l + 3) = (-1 : Int32)) : upN (upN (ldN N l b) (88 + 4 * l + 2) (nI 0)) (88 + 4 * l + 3) (-1 : Int32) = N := by
  funext k
  unfold ldN upN
  by_cases e3 : k = 88 + 4 * l + 3
  · subst e3
    simp [h3]
  · by_cases e2 : k = 88 + 4 * l + 2
    · subst e2
      simp [h2]
      rfl
    · simp [e2, e3]
set_option maxRecDepth 20000 in
set_option maxHeartbeats 1000000 in
theorem m_loadAll_loop {G : GT} (c : CC) (od : Int64 × UInt64) (j : Nat) (hj : j < 6) (nl : Nat) (hnl : nl ≤ 24) : ∀ (rest : List Nat) (M : NA) (n p : Nat) (rej : List Nat), WL M nl = rej ++ rest → rej.length = p → p + rest.length ≤ 1000 → M 4 = nI nl → (∀ x, x < nl → M (88 + 4 * x + 2) = 0 → M (88 + 4 * x + 3) = (-1 : Int32)) →
    WE mX6_loadAll 131 [(0, .ref 395), (2, .int (nI (n + (laF j nl M rest).2)))] [] (setN c (laF j nl M rest).1, od) 0 0 G →
    WE mX6_loadAll 50 [(0, .ref 395), (1, .int (nI j)), (2, .int (nI n)), (3, .int (nI p)), (4, .int (wres rest.head?))] [] (setN c M, od) 0 0 G := by
  intro rest
  induction rest with
  | nil =>
    intro M n p rej hW hp hlen hM4 hM3 k
    refine WE.iload (n := 52) dX6_loadAll_50 rfl rfl ?_
    refine WE.if_lt (n := 55) (tgt := 131) dX6_loadAll_52 rfl (by decide) (fun _ => ?_) (fun h => absurd (by decide) h)
    exact WE.ofA (L' := [(0, .ref 395), (2, .int (nI (n + 0)))]) ⟨rfl, rfl, trivial⟩ k
  | cons l ls ih =>
    intro M n p rej hW hp hlen hM4 hM3 k
    have hl12 := WL_mem (N := M) (nl := nl) (l := l) (by rw [hW]; simp)
    have hl1 := hl12.1
    have hl2 := hl12.2
    change WE mX6_loadAll 50 [(0, .ref 395), (1, .int (nI j)), (2, .int (nI n)), (3, .int (nI p)), (4, .int (nI l))] [] (setN c M, od) 0 0 G
    refine WE.iload (n := 52) dX6_loadAll_50 rfl rfl ?_
    refine WE.if_lt (n := 55) (tgt := 131) dX6_loadAll_52 rfl (by decide) (fun h52 => ?_) (fun h52 => ?_)
    · skip
      exact absurd h52 (nI_pos (by omega))
    · skip
      refine WE.bipush (n := 57) (nI 88) dX6_loadAll_55 rfl (by decide) ?_
      refine WE.iconst (n := 58) (nI 4) dX6_loadAll_57 rfl (by decide) ?_
      refine WE.iload (n := 60) dX6_loadAll_58 rfl rfl ?_
      refine WE.imul (n := 61) dX6_loadAll_60 rfl ?_
      refine WE.iadd (n := 62) dX6_loadAll_61 rfl ?_
      refine WE.istore (n := 64) dX6_loadAll_62 rfl (by decide) ?_
      refine WE.aload_n (n := 65) dX6_loadAll_64 rfl rfl ?_
      refine WE.getR (n := 68) dX6_loadAll_65 rfl fl_X6_9 ⟨by decide, by decide⟩ rfl (by first | decide | exact kd_bal (by assumption) | exact kd_let (by assumption) | assumption) ?_
      refine WE.iload (n := 70) dX6_loadAll_68 rfl rfl ?_
      refine WE.iconst (n := 71) (nI 2) dX6_loadAll_70 rfl (by decide) ?_
      refine WE.iadd (n := 72) dX6_loadAll_71 rfl ?_
      refine WE.iconst (n := 73) (nI 1) dX6_loadAll_72 rfl (by decide) ?_
      refine WE.iast (n := 74) (88 + 4 * l + 2) dX6_loadAll_73 rfl (by first | decide | assumption) (by first | rfl | simp only [pk_mul, nI_add]) (by show _ < 184; omega) ?_
      refine WE.aload_n (n := 75) dX6_loadAll_74 rfl rfl ?_
      refine WE.getR (n := 78) dX6_loadAll_75 rfl fl_X6_9 ⟨by decide, by decide⟩ rfl (by first | decide | exact kd_bal (by assumption) | exact kd_let (by assumption) | assumption) ?_
      refine WE.iload (n := 80) dX6_loadAll_78 rfl rfl ?_
      refine WE.iconst (n := 81) (nI 3) dX6_loadAll_80 rfl (by decide) ?_
      refine WE.iadd (n := 82) dX6_loadAll_81 rfl ?_
      refine WE.iload_n (n := 83) dX6_loadAll_82 rfl rfl ?_
      refine WE.iast (n := 84) (88 + 4 * l + 3) dX6_loadAll_83 rfl (by first | decide | assumption) (by first | rfl | simp only [pk_mul, nI_add]) (by show _ < 184; omega) ?_
      refine WE.ofS (σ' := (setN c (ldN M l (nI j)), od)) (by simp (disch := omega) only [ldN, u2_now, setN_setN, setN_at, u2_setN5, setN_5, u2_56, upN_eq, upN_ne, ne_eq, not_false_eq_true]) ?_
      refine WE.aload_n (n := 85) dX6_loadAll_84 rfl rfl ?_
      refine WE.iload_n (n := 86) dX6_loadAll_85 rfl rfl ?_
      refine WE.V1I (M' := mX6_bears) (n := 89) dX6_loadAll_86 rfl cv_X6_125 (by first | decide | exact kd_bal (by assumption) | exact kd_let (by assumption) | assumption) ⟨⟨by decide, by decide⟩, by decide, by decide⟩ (Nat.le_of_ble_eq_true rfl) (m_bears _ _ j hj nl hnl (by rw [setN_at, ldN_at _ _ _ (by omega) (by omega)]; exact hM4)) ?_
      refine WE.if_lt (n := 92) (tgt := 98) dX6_loadAll_89 rfl (by decide) (fun h89 => ?_) (fun h89 => ?_)
      · skip
        rw [setN_at] at h89
        have h89 : ¬ 0 ≤ beN (ldN M l (nI j)) j nl := by rw [Int32.lt_iff_toInt_lt] at h89; rw [Int32.le_iff_toInt_le]; omega
        refine WE.aload_n (n := 99) dX6_loadAll_98 rfl rfl ?_
        refine WE.getR (n := 102) dX6_loadAll_99 rfl fl_X6_9 ⟨by decide, by decide⟩ rfl (by first | decide | exact kd_bal (by assumption) | exact kd_let (by assumption) | assumption) ?_
        refine WE.iload (n := 104) dX6_loadAll_102 rfl rfl ?_
        refine WE.iconst (n := 105) (nI 2) dX6_loadAll_104 rfl (by decide) ?_
        refine WE.iadd (n := 106) dX6_loadAll_105 rfl ?_
        refine WE.iconst (n := 107) (nI 0) dX6_loadAll_106 rfl (by decide) ?_
        refine WE.iast (n := 108) (88 + 4 * l + 2) dX6_loadAll_107 rfl (by first | decide | assumption) (by first | rfl | simp only [pk_mul, nI_add]) (by show _ < 184; omega) ?_
        refine WE.aload_n (n := 109) dX6_loadAll_108 rfl rfl ?_
        refine WE.getR (n := 112) dX6_loadAll_109 rfl fl_X6_9 ⟨by decide, by decide⟩ rfl (by first | decide | exact kd_bal (by assumption) | exact kd_let (by assumption) | assumption) ?_
        refine WE.iload (n := 114) dX6_loadAll_112 rfl rfl ?_
        refine WE.iconst (n := 115) (nI 3) dX6_loadAll_114 rfl (by decide) ?_
        refine WE.iadd (n := 116) dX6_loadAll_115 rfl ?_
        refine WE.iconst (n := 117) ((-1 : Int32)) dX6_loadAll_116 rfl (by decide) ?_
        refine WE.iast (n := 118) (88 + 4 * l + 3) dX6_loadAll_117 rfl (by first | decide | assumption) (by first | rfl | simp only [pk_mul, nI_add]) (by show _ < 184; omega) ?_
        refine WE.iincV (n := 121) (nI (p + 1)) dX6_loadAll_118 rfl rfl (by decide) (nI_inc p) ?_
        refine WE.ofS (σ' := (setN c M, od)) (by rw [u2_setN, u2_setN, ld_back hl2 (hM3 l hl1 hl2)]) ?_
        refine WE.aload_n (n := 122) dX6_loadAll_121 rfl rfl ?_
        refine WE.iload_n (n := 123) dX6_loadAll_122 rfl rfl ?_
        refine WE.V1I (M' := mX6_waits) (n := 126) dX6_loadAll_123 rfl cv_X6_122 (by first | decide | exact kd_bal (by assumption) | exact kd_let (by assumption) | assumption) ⟨⟨by decide, by decide⟩, by decide, by decide⟩ (Nat.le_of_ble_eq_true rfl) (m_waits _ _ nl hnl (by rw [setN_at]; exact hM4) (p + 1) (by omega)) ?_
        refine WE.istore (n := 128) dX6_loadAll_126 rfl (by decide) ?_
        refine WE.goto (tgt := 50) dX6_loadAll_128 (by decide) ?_
        refine WE.ofA (L' := [(0, .ref 395), (1, .int (nI j)), (2, .int (nI n)), (3, .int (nI (p + 1))), (4, .int (wres ls.head?))]) ⟨rfl, rfl, rfl, rfl, (by
            show some (Value.int _) = some (Value.int _)
            rw [setN_at, hW, List.append_cons, List.getElem?_append_right (by simp [hp])]
            simp [hp, List.head?_eq_getElem?]), trivial⟩ (ih M n (p + 1) (rej ++ [l]) (by rw [hW]; simp) (by simp [hp]) (by simp at hlen; omega) hM4 hM3 ?_)
        simp only [laF, h89, ↓reduceIte] at k
        exact k
      · skip
        rw [setN_at] at h89
        have h89 : 0 ≤ beN (ldN M l (nI j)) j nl := by rw [Int32.lt_iff_toInt_lt] at h89; rw [Int32.le_iff_toInt_le]; omega
        have eW : WL (ldN M l (nI j)) nl = rej ++ ls := by rw [WL_ld, hW, filter_one (hW ▸ WL_nodup M nl)]
        refine WE.iincV (n := 95) (nI (n + 1)) dX6_loadAll_92 rfl rfl (by decide) (nI_inc n) ?_
        refine WE.goto (tgt := 121) dX6_loadAll_95 (by decide) ?_
        refine WE.aload_n (n := 122) dX6_loadAll_121 rfl rfl ?_
        refine WE.iload_n (n := 123) dX6_loadAll_122 rfl rfl ?_
        refine WE.V1I (M' := mX6_waits) (n := 126) dX6_loadAll_123 rfl cv_X6_122 (by first | decide | exact kd_bal (by assumption) | exact kd_let (by assumption) | assumption) ⟨⟨by decide, by decide⟩, by decide, by decide⟩ (Nat.le_of_ble_eq_true rfl) (m_waits _ _ nl hnl (by rw [setN_at, ldN_at _ _ _ (by omega) (by omega)]; exact hM4) p (by omega)) ?_
        refine WE.istore (n := 128) dX6_loadAll_126 rfl (by decide) ?_
        refine WE.goto (tgt := 50) dX6_loadAll_128 (by decide) ?_
        refine WE.ofA (L' := [(0, .ref 395), (1, .int (nI j)), (2, .int (nI (n + 1))), (3, .int (nI p)), (4, .int (wres ls.head?))]) ⟨rfl, rfl, rfl, rfl, (by
            show some (Value.int _) = some (Value.int _)
            rw [setN_at, eW, List.getElem?_append_right (by omega)]
            simp [hp, List.head?_eq_getElem?]), trivial⟩ (ih (ldN M l (nI j)) (n + 1) p rej eW hp (by simp at hlen; omega) (by rw [ldN_at _ _ _ (by omega) (by omega)]; exact hM4) (fun x hx h0 => ?_) ?_)
        · by_cases e : x = l
          · subst e
            rw [ldN_2] at h0
            exact absurd h0 (by decide)
          · rw [ldN_at _ _ _ (by omega) (by omega)] at h0 ⊢
            exact hM3 x hx h0
        · simp only [laF, h89, ↓reduceIte] at k
          rw [show n + 1 + (laF j nl (ldN M l (nI j)) ls).2 = n + ((laF j nl (ldN M l (nI j)) ls).2 + 1) by omega]
          exact k
