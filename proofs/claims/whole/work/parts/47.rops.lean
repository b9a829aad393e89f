def Pre (c : CC) (A : AS) : Prop := MA c A ∧ c 396 = A.1 ∧ IN A.1 ∧ A.2.1.length ≤ 8 ∧ A.2.2.2.1 ≤ 60
section RC
variable {c : CC} {A : AS}
theorem Pre.c3 (H : Pre c A) : c 396 3 = nI (nbN A.1) := by rw [H.2.1]; exact H.2.2.1.cn.2.1
theorem Pre.c4 (H : Pre c A) : c 396 4 = nI (nlN A.1) := by rw [H.2.1]; exact H.2.2.1.cn.2.2.2
theorem Pre.cu (H : Pre c A) : c 395 4 = nI A.2.1.length := H.1.2.1.1
theorem Pre.nb (H : Pre c A) : nbN A.1 ≤ 6 := H.2.2.1.cn.1
theorem Pre.nl (H : Pre c A) : nlN A.1 ≤ 24 := H.2.2.1.cn.2.2.1
theorem Pre.l8 (H : Pre c A) : A.2.1.length ≤ 8 := H.2.2.2.1
end RC
theorem r_ring (c : CC) (od : Int64 × UInt64) (A : AS) (H : Pre c A) (x : Int32) : CM mX6_ring [.ref 395, .int x] (c, od) (RCP c od (stepC A (S_ring A.1 x) 1)) := by
  have h := m_ring c od x A.2.1.length H.l8 H.cu
  rw [H.2.1] at h
  exact RCP.of h (mG_ok H.1 H.l8 (o2_ring A.1 x) (by decide))
theorem r_wind (c : CC) (od : Int64 × UInt64) (A : AS) (H : Pre c A) (x y z : Int32) : CM mX6_wind [.ref 395, .int x, .int y, .int z] (c, od) (RCP c od (stepC A (S_blows A.1 x y z) 3)) := by
  have h := m_wind c od x y z A.2.1.length H.l8 H.cu
  rw [H.2.1] at h
  exact RCP.of h (mF_ok H.1 H.l8 (o2_blows A.1 x y z) (by decide))
theorem r_gas (c : CC) (od : Int64 × UInt64) (A : AS) (H : Pre c A) (x : Int32) : CM mX6_gas [.ref 395, .int x] (c, od) (RCP c od (stepC A (S_gas A.1 x) 1)) := by
  have h := m_gas c od x A.2.1.length H.l8 H.cu
  rw [H.2.1] at h
  exact RCP.of h (mG_ok H.1 H.l8 (o2_gas A.1 x) (by decide))
theorem r_balloon (c : CC) (od : Int64 × UInt64) (A : AS) (H : Pre c A) (x : Int32) : CM mX6_balloon [.ref 395, .int x] (c, od) (RCP c od (stepC A (S_balloon A.1 x) 2)) := by
  have h := m_balloon c od x (nbN A.1) H.nb H.c3 A.2.1.length H.l8 H.cu
  rw [H.2.1] at h
  exact RCP.of h (mG_ok H.1 H.l8 (o2_balloon A.1 x) (by decide))
theorem r_fill (c : CC) (od : Int64 × UInt64) (A : AS) (H : Pre c A) (x y : Int32) : CM mX6_fill [.ref 395, .int x, .int y] (c, od) (RCP c od (stepC A (S_fills A.1 x y) 3)) := by
  have h := m_fill c od x y (nbN A.1) H.nb H.c3 A.2.1.length H.l8 H.cu
  rw [H.2.1] at h
  exact RCP.of h (mF_ok H.1 H.l8 (o2_fills A.1 x y) (by decide))
theorem r_ballast (c : CC) (od : Int64 × UInt64) (A : AS) (H : Pre c A) (x y : Int32) : CM mX6_ballast [.ref 395, .int x, .int y] (c, od) (RCP c od (stepC A (S_lays A.1 x y) 3)) := by
  have h := m_ballast c od x y (nbN A.1) H.nb H.c3 A.2.1.length H.l8 H.cu
  rw [H.2.1] at h
  exact RCP.of h (mF_ok H.1 H.l8 (o2_lays A.1 x y) (by decide))
theorem r_courier (c : CC) (od : Int64 × UInt64) (A : AS) (H : Pre c A) (x y : Int32) : CM mX6_courier [.ref 395, .int x, .int y] (c, od) (RCP c od (stepC A (S_courier A.1 x y) 3)) := by
  have h := m_courier c od x y (nbN A.1) H.nb H.c3 A.2.1.length H.l8 H.cu
  rw [H.2.1] at h
  exact RCP.of h (mG_ok H.1 H.l8 (o2_courier A.1 x y) (by decide))
theorem r_letter (c : CC) (od : Int64 × UInt64) (A : AS) (H : Pre c A) (x y : Int32) : CM mX6_letter [.ref 395, .int x, .int y] (c, od) (RCP c od (stepC A (S_letter A.1 x y) 2)) := by
  have h := m_letter c od x y (nlN A.1) H.nl H.c4 A.2.1.length H.l8 H.cu
  rw [H.2.1] at h
  exact RCP.of h (mG_ok H.1 H.l8 (o2_letter A.1 x y) (by decide))
theorem r_load (c : CC) (od : Int64 × UInt64) (A : AS) (H : Pre c A) (x y : Int32) : CM mX6_load [.ref 395, .int x, .int y] (c, od) (RCP c od (stepC A (S_loads A.1 x y) 2)) := by
  have h := m_load c od x y (nbN A.1) H.nb H.c3 (nlN A.1) H.nl H.c4 A.2.1.length H.l8 H.cu
  rw [H.2.1] at h
  exact RCP.of h (mF_ok H.1 H.l8 (o2_loads A.1 x y) (by decide))
theorem r_loadAll (c : CC) (od : Int64 × UInt64) (A : AS) (H : Pre c A) (x : Int32) : CM mX6_loadAll [.ref 395, .int x] (c, od) (RCP c od (stepC A (S_loadAll A.1 x) 2)) := by
  have h := m_loadAll c od x (nbN A.1) H.nb H.c3 (nlN A.1) H.nl H.c4 (fun l hl h2 => by rw [H.2.1] at h2 ⊢; exact ((H.2.2.1.l hl).2.2.f H.2.2.1.cn).mp h2) A.2.1.length H.l8 H.cu
  rw [H.2.1] at h
  exact RCP.of h (mG_ok H.1 H.l8 (o2_loadAll A.1 x) (by decide))
theorem r_launch (c : CC) (od : Int64 × UInt64) (A : AS) (H : Pre c A) (x : Int32) : CM mX6_launch [.ref 395, .int x] (c, od) (RCP c od (stepC A (S_launches A.1 x) 2)) := by
  have h := m_launch c od x (nbN A.1) H.nb H.c3 (nlN A.1) H.nl H.c4 A.2.1.length H.l8 H.cu
  rw [H.2.1] at h
  exact RCP.of h (mF_ok H.1 H.l8 (o2_launches A.1 x) (by decide))
theorem r_drop (c : CC) (od : Int64 × UInt64) (A : AS) (H : Pre c A) (x y : Int32) : CM mX6_drop [.ref 395, .int x, .int y] (c, od) (RCP c od (stepC A (S_drops A.1 x y) 3)) := by
  have h := m_drop c od x y (nbN A.1) H.nb H.c3 A.2.1.length H.l8 H.cu
  rw [H.2.1] at h
  exact RCP.of h (mF_ok H.1 H.l8 (o2_drops A.1 x y) (by decide))
theorem r_pass (c : CC) (od : Int64 × UInt64) (A : AS) (H : Pre c A) (x : Int32) : CM mX6_pass [.ref 395, .int x] (c, od) (RCP c od (stepC A (S_passes A.1 x) 1)) := by
  have h := m_pass c od x (nbN A.1) H.nb H.c3 (nlN A.1) H.nl H.c4 A.2.1.length H.l8 H.cu
  rw [H.2.1] at h
  exact RCP.of h (mF_ok H.1 H.l8 (o2_passes A.1 x) (by decide))
theorem r_balloonOf (c : CC) (od : Int64 × UInt64) (A : AS) (H : Pre c A) (x y : Int32) : CM mX6_balloonOf [.ref 395, .int x, .int y] (c, od) (RCP c od (stepQ A (Q_balloonOf A.1 x y))) := by
  have h := m_balloonOf c od x y (nbN A.1) H.nb H.c3 (nlN A.1) H.nl H.c4
  rw [H.2.1] at h
  refine RCP.of h (mQ_ok H.1 (fun k => by
    unfold Q_balloonOf
    repeat' split
    all_goals first | (intro e; cases e; decide) | (intro e; cases e)))
theorem r_letterOf (c : CC) (od : Int64 × UInt64) (A : AS) (H : Pre c A) (x y : Int32) : CM mX6_letterOf [.ref 395, .int x, .int y] (c, od) (RCP c od (stepQ A (Q_letterOf A.1 x y))) := by
  have h := m_letterOf c od x y (nlN A.1) H.nl H.c4
  rw [H.2.1] at h
  refine RCP.of h (mQ_ok H.1 (fun k => by
    unfold Q_letterOf
    repeat' split
    all_goals first | (intro e; cases e; decide) | (intro e; cases e)))
theorem r_weightAgain (c : CC) (od : Int64 × UInt64) (A : AS) (H : Pre c A) (x : Int32) : CM mX6_weightAgain [.ref 395, .int x] (c, od) (RCP c od (stepQ A (Q_weight A.1 x))) := by
  have h := m_weightAgain c od x (nbN A.1) H.nb H.c3 (nlN A.1) H.nl H.c4
  rw [H.2.1] at h
  refine RCP.of h (mQ_ok H.1 (fun k => by
    unfold Q_weight
    repeat' split
    all_goals first | (intro e; cases e; decide) | (intro e; cases e)))
theorem r_waiting (c : CC) (od : Int64 × UInt64) (A : AS) (H : Pre c A) (x : Int32) : CM mX6_waiting [.ref 395, .int x] (c, od) (RCP c od (stepQ A (Q_waiting A.1 x))) := by
  have h := m_waiting c od x (nlN A.1) H.nl H.c4
  rw [H.2.1] at h
  refine RCP.of h (mQ_ok H.1 (fun k => by
    unfold Q_waiting
    repeat' split
    all_goals first | (intro e; cases e; decide) | (intro e; cases e)))
theorem r_word (c : CC) (od : Int64 × UInt64) (A : AS) (H : Pre c A) (x : Int32) : CM mX6_word [.ref 395, .int x] (c, od) (RCP c od (stepQ A (Q_word A.1 x))) := by
  have h := m_word c od x (nbN A.1) H.nb H.c3
  rw [H.2.1] at h
  refine RCP.of h (mQ_ok H.1 (fun k => by
    unfold Q_word
    repeat' split
    all_goals first | (intro e; cases e; decide) | (intro e; cases e)))
theorem r_isWithin (c : CC) (od : Int64 × UInt64) (A : AS) (H : Pre c A) (x y : Int32) : CM mX6_isWithin [.ref 395, .int x, .int y] (c, od) (RCP c od (stepQ A (Q_within A.1 x y))) := by
  have h := m_isWithin c od x y 
  rw [H.2.1] at h
  refine RCP.of h (mQ_ok H.1 (fun k => by
    unfold Q_within
    repeat' split
    all_goals first | (intro e; cases e; decide) | (intro e; cases e)))
theorem r_endsIn (c : CC) (od : Int64 × UInt64) (A : AS) (H : Pre c A) (x : Int32) : CM mX6_endsIn [.ref 395, .int x] (c, od) (RCP c od (stepQ A (Q_endsIn A.1 x 1000))) := by
  have h := m_endsIn c od x (nbN A.1) H.nb H.c3 (nlN A.1) H.nl H.c4 1000 (fun j hj => by rw [H.2.1]; exact H.2.2.1.ends0 hj 0)
  rw [H.2.1] at h
  refine RCP.of h (mA_ok H.1 (fun k => by
    unfold Q_endsIn
    repeat' split
    all_goals first | (intro e; cases e; decide) | (intro e; cases e)) _)
theorem r_ends (c : CC) (od : Int64 × UInt64) (A : AS) (H : Pre c A) (x y : Int32) : CM mX6_ends [.ref 395, .int x, .int y] (c, od) (RCP c od (stepQ A (Q_ends A.1 x y 1000))) := by
  have h := m_ends c od x y (nbN A.1) H.nb H.c3 (nlN A.1) H.nl H.c4 1000 (fun j hj => by rw [H.2.1]; exact H.2.2.1.ends0 hj 0)
  rw [H.2.1] at h
  refine RCP.of h (mA_ok H.1 (fun k => by
    unfold Q_ends
    repeat' split
    all_goals first | (intro e; cases e; decide) | (intro e; cases e)) _)
theorem sand_of {N : NA} (h : IN N) {j : Nat} (hj : j < nbN N) : N (22 + 11 * j + 2) = nI (N (22 + 11 * j + 2)).toNatClampNeg ∧ (N (22 + 11 * j + 2)).toNatClampNeg ≤ 50 := by
  obtain ⟨a, ha, ea⟩ := (h.b hj).2.1
  rw [ea, nI_clamp (by omega)]
  exact ⟨rfl, ha⟩
theorem r_bestDrop (c : CC) (od : Int64 × UInt64) (A : AS) (H : Pre c A) (x : Int32) : CM mX6_bestDrop [.ref 395, .int x] (c, od) (RCP c od (stepB A (Q_bestDrop A.1 x 1000))) := by
  have h := m_bestDrop c od x (nbN A.1) H.nb H.c3 (nlN A.1) H.nl H.c4 1000 (fun j => (A.1 (22 + 11 * j + 2)).toNatClampNeg) (fun j hj => by rw [H.2.1]; exact sand_of H.2.2.1 hj) (fun j i hj hi _ => by rw [H.2.1]; exact H.2.2.1.ends hj ⟨_, hi, (sand_of H.2.2.1 hj).1, (sand_of H.2.2.1 hj).2⟩ 0)
  rw [H.2.1] at h
  refine RCP.of h (mB_ok H.1 (fun k => by
    unfold Q_bestDrop
    repeat' split
    all_goals first | (intro e; cases e; decide) | (intro e; cases e)))
theorem r_refusal (c : CC) (od : Int64 × UInt64) (A : AS) (H : Pre c A) (x : Int32) : CM mX6_refusal [.ref 395, .int x] (c, od) (RCP c od (stepQ A (Q_why A.2.2.2.2.2.2 x))) := by
  have h := m_refusal c od x
  have e : Q_refusal c x = Q_why A.2.2.2.2.2.2 x := by
    unfold Q_refusal Q_why
    rw [H.1.2.2.2.2.2.2.1, H.1.2.2.2.2.2.2.2]
  rw [e] at h
  refine RCP.of h (mQ_ok H.1 (fun k => by
    unfold Q_why
    repeat' split
    all_goals first | (intro e; cases e; decide) | (intro e; cases e)))
theorem acc_eq {c : CC} {A : AS} (H : Pre c A) (x : Int32) : Q_account c (nbN A.1) (nlN A.1) x = Q_acc A.1 (nI A.2.2.2.1) (nI A.2.1.length) x := by
  unfold Q_account Q_acc
  split
  · rename_i hx
    obtain ⟨k, hk, rfl⟩ := in_of (m := 20) (by decide) hx
    rw [nI_clamp (show k < 2 ^ 31 by omega)]
    have e6 := H.2.1
    have e8 := H.1.2.2.2.1
    have e4 := H.cu
    rcases (show k = 0 ∨ k = 1 ∨ k = 2 ∨ k = 3 ∨ k = 4 ∨ k = 5 ∨ k = 6 ∨ k = 7 ∨ k = 8 ∨ k = 9 ∨ k = 10 ∨ k = 11 ∨ k = 12 ∨ k = 13 ∨ k = 14 ∨ k = 15 ∨ k = 16 ∨ k = 17 ∨ k = 18 ∨ k = 19 ∨ k = 20 by omega) with rfl | rfl | rfl | rfl | rfl | rfl | rfl | rfl | rfl | rfl | rfl | rfl | rfl | rfl | rfl | rfl | rfl | rfl | rfl | rfl | rfl
    all_goals first
      | (rw [if_neg (by decide), if_neg (by decide)]; unfold Q_accN; rw [e6]; rfl)
      | (rw [if_pos rfl]; exact congrArg Sum.inl e8)
      | (rw [if_neg (by decide), if_pos rfl]; exact congrArg Sum.inl e4)
  · rfl
theorem r_account (c : CC) (od : Int64 × UInt64) (A : AS) (H : Pre c A) (x : Int32) : CM mX6_account [.ref 395, .int x] (c, od) (RCP c od (stepQ A (Q_acc A.1 (nI A.2.2.2.1) (nI A.2.1.length) x))) := by
  have h := m_account c od x (nbN A.1) H.nb H.c3 (nlN A.1) H.nl H.c4
  rw [acc_eq H] at h
  refine RCP.of h (mQ_ok H.1 (fun k => by
    unfold Q_acc
    repeat' split
    all_goals first | (intro e; cases e; decide) | (intro e; cases e)))
theorem r_errorPosition (c : CC) (od : Int64 × UInt64) (A : AS) (H : Pre c A) : CM mX6_errorPosition [.ref 395] (c, od) (RCP c od (0, A.2.2.2.2.2.1, A)) := RCP.of (m_errorPosition c od) (q_u2 H.1 0 (fun _ => H.1.2.2.2.2.2.1))
theorem r_isWell (c : CC) (od : Int64 × UInt64) (A : AS) (H : Pre c A) : CM mX6_isWell [.ref 395] (c, od) (RCP c od (0, nI 1, A)) := RCP.of (m_isWell c od) (q_u2 H.1 0 (fun _ => rfl))
def stepU (A : AS) : Nat × Int32 × AS := match A.2.1 with
  | [] => (1, nI 0, A)
  | S :: r => (0, nI r.length, (S, r, A.2.2))
theorem r_undo (c : CC) (od : Int64 × UInt64) (A : AS) (H : Pre c A) : CM mX6_undo [.ref 395] (c, od) (RCP c od (stepU A)) := by
  refine RCP.of (m_undo c od A.2.1.length H.l8 H.cu) ?_
  obtain ⟨N, h, s, n, t, e, w⟩ := A
  obtain ⟨g1, g2, g3, g4, g5, g6, g7, g8⟩ := H.1
  cases h with
  | nil =>
    unfold S_undo
    rw [if_pos (show c 395 4 = 0 from g2.1)]
    exact q_u2 H.1 1 (fun q => absurd q (by decide))
  | cons S r =>
    have hl : r.length + 1 ≤ 8 := H.l8
    have e4 : c 395 4 = nI (r.length + 1) := g2.1
    have e4' : c 395 4 - nI 1 = nI r.length := by rw [e4, pk_sub (by omega)]; rfl
    unfold S_undo
    rw [if_neg (by rw [e4]; exact nI_ne0 (by omega) (by omega)), e4', nI_clamp (show r.length < 2 ^ 31 by omega)]
    show MPst c (0, nI r.length, (S, r, s, n, t, e, w)) (nI r.length) (setN (u2 (u2 c 395 16 (nI 0)) 395 4 (nI r.length)) (cpN 184 (fun k => c 399 (184 * r.length + k)) (c 396)))
    refine ⟨fun a k ha => ?_, ?_, fun _ => rfl, fun k hk => ?_, ⟨?_, fun t S' hS k hk => ?_⟩, g3.same ?_ ?_, ?_, ?_, ?_, ?_, ?_⟩
    · rw [setN_o _ _ (by omega), u2_ne _ _ (by omega), u2_ne _ _ (by omega)]
    · rw [setN_o _ _ (by decide), u2_ne _ _ (by decide), u2_eq]
    · rw [setN_at, cpN_lt _ _ hk]
      exact g2.2 0 S rfl k hk
    · rw [setN_o _ _ (by decide), u2_eq]
    · rw [setN_o _ _ (by decide), u2_o _ _ _ (by decide), u2_o _ _ _ (by decide)]
      have ht : t < r.length := (List.getElem?_eq_some_iff.mp hS).1
      have := g2.2 (t + 1) S' hS k hk
      rwa [show (S :: r).length - 1 - (t + 1) = r.length - 1 - t by simp only [List.length_cons]; omega] at this
    · rw [setN_o _ _ (by decide), u2_ne _ _ (by decide), u2_ne _ _ (by decide)]
    · rw [setN_o _ _ (by decide), u2_o _ _ _ (by decide), u2_o _ _ _ (by decide)]
    · rw [setN_o _ _ (by decide), u2_ne _ _ (by decide), u2_ne _ _ (by decide)]
      exact g4
    · rw [setN_o _ _ (by decide), u2_o _ _ _ (by decide), u2_o _ _ _ (by decide)]
      exact g5
    · rw [setN_o _ _ (by decide), u2_ne _ _ (by decide), u2_ne _ _ (by decide)]
      exact g6
    · rw [setN_o _ _ (by decide), u2_ne _ _ (by decide), u2_ne _ _ (by decide)]
      exact g7
    · rw [setN_o _ _ (by decide), u2_ne _ _ (by decide), u2_ne _ _ (by decide)]
      exact g8
def stepR (A : AS) : Nat × Int32 × AS := match A.2.2.1 with
  | none => (1, nI 0, A)
  | some S => (0, S 3, (S, [], A.2.2))
theorem r_restore (c : CC) (od : Int64 × UInt64) (A : AS) (H : Pre c A) : CM mX6_restore [.ref 395] (c, od) (RCP c od (stepR A)) := by
  refine RCP.of (m_restore c od) ?_
  obtain ⟨N, h, s, n, t, e, w⟩ := A
  obtain ⟨g1, g2, g3, g4, g5, g6, g7, g8⟩ := H.1
  cases s with
  | none =>
    unfold S_restore
    rw [if_pos (show c 395 6 = 0 from g3)]
    show MPst c (1, nI 0, (N, h, none, n, t, e, w)) (nI 0) (u2 (u2 c 395 16 (nI 0)) 395 16 (nI 1))
    refine q_out H.1 1 (fun q => absurd q (by decide)) (u2_eq _ _ _ _) (fun k q => ?_) (fun k _ => ?_) ?_ ?_ ?_ (fun a k ha => ?_)
    · rw [u2_ne _ _ (by omega), u2_ne _ _ (by omega)]
    · rw [u2_ne _ _ (by omega), u2_ne _ _ (by omega)]
    · rw [u2_o _ _ _ (by decide), u2_o _ _ _ (by decide)]
    · rw [u2_o _ _ _ (by decide), u2_o _ _ _ (by decide)]
    · rw [u2_o _ _ _ (by decide), u2_o _ _ _ (by decide)]
    · rw [u2_ne _ _ (by omega), u2_ne _ _ (by omega)]
  | some S =>
    obtain ⟨g31, g32⟩ := g3
    unfold S_restore
    rw [if_neg (show ¬ c 395 6 = 0 by rw [g31]; decide)]
    show MPst c (0, S 3, (S, [], some S, n, t, e, w)) (c 400 3) (u2 (setN (u2 c 395 16 (nI 0)) (cpN 184 (c 400) (c 396))) 395 4 (nI 0))
    refine ⟨fun a k ha => ?_, ?_, fun _ => g32 3 (by decide), fun k hk => ?_, ⟨u2_eq _ _ _ _, fun t S' hS k hk => (by cases hS)⟩, ⟨?_, fun k hk => ?_⟩, ?_, ?_, ?_, ?_, ?_⟩
    · rw [u2_ne _ _ (by omega), setN_o _ _ (by omega), u2_ne _ _ (by omega)]
    · rw [u2_ne _ _ (by decide), setN_o _ _ (by decide), u2_eq]
    · rw [u2_ne _ _ (by omega), setN_at, cpN_lt _ _ hk]
      exact g32 k hk
    · rw [u2_ne _ _ (by decide), setN_o _ _ (by decide), u2_ne _ _ (by decide)]
      exact g31
    · rw [u2_ne _ _ (by omega), setN_o _ _ (by decide), u2_ne _ _ (by omega)]
      exact g32 k hk
    · rw [u2_ne _ _ (by decide), setN_o _ _ (by decide), u2_ne _ _ (by decide)]
      exact g4
    · rw [u2_o _ _ _ (by decide), setN_o _ _ (by decide), u2_o _ _ _ (by decide)]
      exact g5
    · rw [u2_ne _ _ (by decide), setN_o _ _ (by decide), u2_ne _ _ (by decide)]
      exact g6
    · rw [u2_ne _ _ (by decide), setN_o _ _ (by decide), u2_ne _ _ (by decide)]
      exact g7
    · rw [u2_ne _ _ (by decide), setN_o _ _ (by decide), u2_ne _ _ (by decide)]
      exact g8
def stepS (A : AS) : Nat × Int32 × AS := (0, A.1 3, (A.1, A.2.1, some A.1, A.2.2.2))
theorem r_save (c : CC) (od : Int64 × UInt64) (A : AS) (H : Pre c A) : CM mX6_save [.ref 395] (c, od) (RCP c od (stepS A)) := by
  refine RCP.of (m_save c od) ?_
  obtain ⟨g1, g2, g3, g4, g5, g6, g7, g8⟩ := H.1
  have f : ∀ a k, a ≠ 400 → a ≠ 395 → setR (u2 (u2 c 395 16 (nI 0)) 395 6 (nI 1)) 400 (cpN 184 (c 396) (c 400)) a k = c a k := fun a k q1 q2 => by rw [setR_o _ _ q1, u2_ne _ _ (by omega), u2_ne _ _ (by omega)]
  have f5 : ∀ k, k ≠ 6 → k ≠ 16 → setR (u2 (u2 c 395 16 (nI 0)) 395 6 (nI 1)) 400 (cpN 184 (c 396) (c 400)) 395 k = c 395 k := fun k q1 q2 => by rw [setR_o _ _ (by decide), u2_ne _ _ (by omega), u2_ne _ _ (by omega)]
  refine ⟨fun a k ha => f a k (by omega) (by omega), ?_, fun _ => g1 3 (by decide), fun k hk => (f _ _ (by decide) (by decide)).trans (g1 k hk), g2.same (f5 _ (by decide) (by decide)) (funext fun k => f _ _ (by decide) (by decide)), ⟨?_, fun k hk => ?_⟩, (f5 _ (by decide) (by decide)).trans g4, (funext fun k => f _ _ (by decide) (by decide)).trans g5, (f5 _ (by decide) (by decide)).trans g6, (f5 _ (by decide) (by decide)).trans g7, (f5 _ (by decide) (by decide)).trans g8⟩
  · rw [setR_o _ _ (by decide), u2_ne _ _ (by decide), u2_eq]
    rfl
  · rw [setR_o _ _ (by decide), u2_eq]
  · rw [setR_at, cpN_lt _ _ hk]
    exact g1 k hk
def stepA (A : AS) (x : Int32) : Nat × Int32 × AS := if A.2.2.2.1 = 60 then (1, nI 0, A) else (0, nI (A.2.2.2.1 + 1), (A.1, A.2.1, A.2.2.1, A.2.2.2.1 + 1, upN A.2.2.2.2.1 A.2.2.2.1 x, A.2.2.2.2.2))
theorem r_append (c : CC) (od : Int64 × UInt64) (A : AS) (H : Pre c A) (x : Int32) (hx : vp_nar .char x = x) : CM mX6_append [.ref 395, .int x] (c, od) (RCP c od (stepA A x)) := by
  refine RCP.of (m_append c od x hx A.2.2.2.1 H.2.2.2.2 H.1.2.2.2.1) ?_
  obtain ⟨g1, g2, g3, g4, g5, g6, g7, g8⟩ := H.1
  have h60 := H.2.2.2.2
  unfold Q_append stepA
  rw [g4]
  by_cases h : A.2.2.2.1 = 60
  · rw [if_pos (show nI A.2.2.2.1 = nI 60 by rw [h]), if_pos h]
    exact q_u2 H.1 1 (fun q => absurd q (by decide))
  · rw [if_neg (nI_ne (by omega) (by decide) h), if_neg h, nI_s1, nI_clamp (show A.2.2.2.1 < 2 ^ 31 by omega)]
    have f : ∀ a k, a ≠ 401 → a ≠ 395 → u2 (u2 (u2 c 395 16 (nI 0)) 395 8 (nI (A.2.2.2.1 + 1))) 401 A.2.2.2.1 x a k = c a k := fun a k q1 q2 => by rw [u2_ne _ _ (by omega), u2_ne _ _ (by omega), u2_ne _ _ (by omega)]
    have f5 : ∀ k, k ≠ 8 → k ≠ 16 → u2 (u2 (u2 c 395 16 (nI 0)) 395 8 (nI (A.2.2.2.1 + 1))) 401 A.2.2.2.1 x 395 k = c 395 k := fun k q1 q2 => by rw [u2_ne _ _ (by omega), u2_ne _ _ (by omega), u2_ne _ _ (by omega)]
    show MPst c (0, nI (A.2.2.2.1 + 1), (A.1, A.2.1, A.2.2.1, A.2.2.2.1 + 1, upN A.2.2.2.2.1 A.2.2.2.1 x, A.2.2.2.2.2)) (nI (A.2.2.2.1 + 1)) (u2 (u2 (u2 c 395 16 (nI 0)) 395 8 (nI (A.2.2.2.1 + 1))) 401 A.2.2.2.1 x)
    refine ⟨fun a k ha => f a k (by omega) (by omega), ?_, fun _ => rfl, fun k hk => (f _ _ (by decide) (by decide)).trans (g1 k hk), g2.same (f5 _ (by decide) (by decide)) (funext fun k => f _ _ (by decide) (by decide)), g3.same (f5 _ (by decide) (by decide)) (funext fun k => f _ _ (by decide) (by decide)), ?_, ?_, (f5 _ (by decide) (by decide)).trans g6, (f5 _ (by decide) (by decide)).trans g7, (f5 _ (by decide) (by decide)).trans g8⟩
    · rw [u2_ne _ _ (by omega), u2_ne _ _ (by decide), u2_eq]
    · rw [u2_ne _ _ (by omega), u2_eq]
    · rw [upN_u2, u2_o _ _ _ (by decide), u2_o _ _ _ (by decide), g5]
def stepD (A : AS) : Nat × Int32 × AS := match (pSeq A.2.2.2.2.1 A.2.2.2.1 20 0).2 with
  | none => (1, nI 0, (A.1, A.2.1, A.2.2.1, 0, A.2.2.2.2.1, nI (pSeq A.2.2.2.2.1 A.2.2.2.1 20 0).1, A.2.2.2.2.2.2))
  | some os => match exL A.1 os with
    | .inl M => (0, nI os.length, (M, (A.1 :: A.2.1).take 8, A.2.2.1, 0, A.2.2.2.2.1, (-1 : Int32), A.2.2.2.2.2.2))
    | .inr (.inl q) => (2, nI 0, (A.1, A.2.1, A.2.2.1, 0, A.2.2.2.2.1, (-1 : Int32), q))
    | .inr (.inr _) => (1, nI 0, (A.1, A.2.1, A.2.2.1, 0, A.2.2.2.2.1, (-1 : Int32), A.2.2.2.2.2.2))
theorem r_read (c : CC) (od : Int64 × UInt64) (A : AS) (H : Pre c A) : CM mX6_read [.ref 395] (c, od) (RCP c od (stepD A)) := by
  refine CM.mono (m_read c od A.2.2.2.1 H.2.2.2.2 H.1.2.2.2.1 (nbN A.1) H.nb H.c3 (nlN A.1) H.nl H.c4 A.2.1.length H.l8 H.cu) (fun o s q => ?_)
  obtain ⟨b, h1, c', h2, f, h6, h8, hm⟩ := q
  refine ⟨b, h1, c', h2, fun a k ha => f a k (by omega) (by omega) (by omega) (by omega) (by omega), ?_⟩
  obtain ⟨g1, g2, g3, g4, g5, g6, g7, g8⟩ := H.1
  have f0 : c' 400 = c 400 := funext fun k => f _ _ (by decide) (by decide) (by decide) (by decide) (by decide)
  have f1 : c' 401 = A.2.2.2.2.1 := (funext fun k => f _ _ (by decide) (by decide) (by decide) (by decide) (by decide)).trans g5
  rw [g5] at hm
  rcases hs : (pSeq A.2.2.2.2.1 A.2.2.2.1 20 0).2 with _ | os
  · rw [hs] at hm
    obtain ⟨m1, ⟨m2, m3, m4⟩, ⟨m5, m6⟩, m7⟩ := hm
    simp only [stepD, hs]
    exact ⟨m7, fun q => absurd q (by decide), fun k hk => (m2 k hk).trans (g1 k hk), g2.same m4 m3, g3.same h6 f0, h8, f1, m1, m5.trans g7, m6.trans g8⟩
  · rw [hs] at hm
    obtain ⟨m1, hm⟩ := hm
    rw [H.2.1] at hm
    rcases hR : exL A.1 os with M | q | k
    · rw [hR] at hm
      obtain ⟨m2, m3, ⟨m4, m5⟩, m6, c1, n1, n2, n3, n4, n5⟩ := hm
      have hk := MH.keep (c1 := c1) (h := A.2.1) (N := A.1) H.l8 (g2.same n2 n1) (fun k hk => (n3 k hk).trans (g1 k hk))
      simp only [stepD, hs, hR]
      refine ⟨m3, fun _ => m2, fun k hk => by rw [m6], hk.same n5 n4, g3.same h6 f0, h8, f1, m1, m4.trans g7, m5.trans g8⟩
    · rw [hR] at hm
      obtain ⟨⟨m2, m3, m4⟩, m5, m6, m7⟩ := hm
      simp only [stepD, hs, hR]
      exact ⟨m7, fun q => absurd q (by decide), fun k hk => (m2 k hk).trans (g1 k hk), g2.same m4 m3, g3.same h6 f0, h8, f1, m1, m5, m6⟩
    · rw [hR] at hm
      obtain ⟨⟨m2, m3, m4⟩, ⟨m5, m6⟩, m7⟩ := hm
      simp only [stepD, hs, hR]
      exact ⟨m7, fun q => absurd q (by decide), fun k hk => (m2 k hk).trans (g1 k hk), g2.same m4 m3, g3.same h6 f0, h8, f1, m1, m5.trans g7, m6.trans g8⟩
