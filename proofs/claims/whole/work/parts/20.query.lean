theorem u2_u2 (c : CC) (a k : Nat) (x y : Int32) : u2 (u2 c a k x) a k y = u2 c a k y := by
  funext i j
  unfold u2
  by_cases h : i = a ∧ j = k
  · simp [h]
  · simp [h]
/-- what a question comes to: its answer, or an exception by its place -/
abbrev QR : Type := Int32 ⊕ Nat
def mQ (c : CC) (q : QR) : Int32 × CC := match q with
  | .inl v => (v, u2 c 395 16 (nI 0))
  | .inr k => (nI 0, u2 c 395 16 (nI k))
def Q_balN (N : NA) (j nl k : Nat) : Int32 := match k with
  | 0 => N (22 + 11 * j + 0)
  | 1 => N (22 + 11 * j + 1)
  | 2 => N (22 + 11 * j + 2)
  | 3 => N (22 + 11 * j + 3)
  | 4 => ctL (fun n => 0 < N (88 + 4 * n + 2) ∧ N (88 + 4 * n + 3) = nI j) nl
  | 5 => wgN N j nl
  | 6 => beN N j nl
  | 7 => N (22 + 11 * j + 5)
  | 8 => N (22 + 11 * j + 10)
  | 9 => N (22 + 11 * j + 6)
  | 10 => N (22 + 11 * j + 7)
  | _ => N (22 + 11 * j + 8)
def Q_balloonOf (N : NA) (b x : Int32) : QR := if isBN N b then (if nI 0 ≤ x ∧ x ≤ nI 11 then .inl (Q_balN N b.toNatClampNeg (nlN N) x.toNatClampNeg) else .inr 2) else .inr 1
def Q_letterOf (N : NA) (l x : Int32) : QR := if isLN N l then (if nI 0 ≤ x ∧ x ≤ nI 3 then .inl (N (88 + 4 * l.toNatClampNeg + x.toNatClampNeg)) else .inr 2) else .inr 1
def Q_weight (N : NA) (b : Int32) : QR := if isBN N b then .inl (wgN N b.toNatClampNeg (nlN N)) else .inr 1
def Q_waiting (N : NA) (x : Int32) : QR := if 0 ≤ x then (match (WL N (nlN N))[x.toNatClampNeg]? with
  | some l => .inl (nI l)
  | none => .inr 1) else .inr 1
def Q_word (N : NA) (b : Int32) : QR := if isBN N b then (if hwP N b.toNatClampNeg then .inl (woN N b.toNatClampNeg) else .inr 2) else .inr 1
def Q_within (N : NA) (x y : Int32) : QR := if nI 0 ≤ x ∧ x ≤ nI 39 then (if nI 0 ≤ y ∧ y ≤ nI 39 then .inl (b2i (¬ N 1 < far x y)) else .inr 1) else .inr 1
def Q_refusal (c : CC) (d : Int32) : QR := if c 395 13 = 0 then .inr 1 else (if d = 0 then .inl (c 395 13) else .inl (c 395 14))
def Q_accN (c : CC) (nb nl k : Nat) : Int32 := match k with
  | 0 => c 396 0
  | 1 => c 396 1
  | 2 => c 396 2
  | 3 => c 396 3
  | 4 => ctL (fun n => c 396 (22 + 11 * n + 5) = nI 0) nb
  | 5 => ctL (fun n => c 396 (22 + 11 * n + 5) = nI 1) nb
  | 6 => ctL (fun n => c 396 (22 + 11 * n + 5) = nI 2) nb
  | 7 => ctL (fun n => c 396 (22 + 11 * n + 5) = nI 3) nb
  | 8 => c 396 4
  | 9 => ctL (fun n => c 396 (88 + 4 * n + 2) = nI 0) nl
  | 10 => ctL (fun n => c 396 (88 + 4 * n + 2) = nI 1) nl
  | 11 => ctL (fun n => c 396 (88 + 4 * n + 2) = nI 2) nl
  | 12 => ctL (fun n => c 396 (88 + 4 * n + 2) = nI 3) nl
  | 13 => ctL (fun n => hwP (c 396) n ∧ woN (c 396) n < c 396 0) nb
  | 14 => c 396 5
  | 15 => c 396 6
  | 16 => c 396 7
  | 17 => c 396 8
  | 18 => c 396 9
  | 19 => c 395 8
  | _ => c 395 4
def Q_account (c : CC) (nb nl : Nat) (x : Int32) : QR := if nI 0 ≤ x ∧ x ≤ nI 20 then .inl (Q_accN c nb nl x.toNatClampNeg) else .inr 1
theorem sw_out {x : Int32} {m : Nat} (hm : m < 2 ^ 30) (h : ¬ (nI 0 ≤ x ∧ x ≤ nI m)) : x.toInt < 0 ∨ (m : Int) < x.toInt := by
  by_cases h1 : x.toInt < 0
  · exact Or.inl h1
  · refine Or.inr ?_
    by_cases h2 : (m : Int) < x.toInt
    · exact h2
    · exfalso
      apply h
      rw [Int32.le_iff_toInt_le, Int32.le_iff_toInt_le, nI_toInt (show 0 < 2 ^ 31 by decide), nI_toInt (show m < 2 ^ 31 by omega)]
      omega
set_option maxRecDepth 20000 in
set_option maxHeartbeats 1000000 in
theorem m_balloonOf (c : CC) (od : Int64 × UInt64) (b x : Int32) (nb : Nat) (hnb : nb ≤ 6) (hc3 : c 396 3 = nI nb) (nl : Nat) (hnl : nl ≤ 24) (hc4 : c 396 4 = nI nl) : CM mX6_balloonOf [.ref 395, .int b, .int x] (c, od) (RI (mQ c (Q_balloonOf (c 396) b x)).1 ((mQ c (Q_balloonOf (c 396) b x)).2, od)) := by
  refine CM.of [(0, .ref 395), (1, .int b), (2, .int x)] rfl (by decide +kernel) rfl (Nat.le_of_ble_eq_true rfl) ?_
  have hnlN : nlN (c 396) = nl := by unfold nlN; rw [hc4]; exact nI_clamp (by omega)
  refine WE.aload_n (n := 1) dX6_balloonOf_0 rfl rfl ?_
  refine WE.iconst (n := 2) (nI 0) dX6_balloonOf_1 rfl (by decide) ?_
  refine WE.putI (n := 5) dX6_balloonOf_2 rfl fl_X6_36 ⟨by decide, by decide, rfl, rfl⟩ ⟨by first | rfl | decide, by first | rfl | decide⟩ (by first | decide | exact kd_bal (by assumption) | exact kd_let (by assumption) | assumption) ?_
  refine WE.aload_n (n := 6) dX6_balloonOf_5 rfl rfl ?_
  refine WE.iload_n (n := 7) dX6_balloonOf_6 rfl rfl ?_
  refine WE.V1I (M' := mX6_isBalloon) (n := 10) dX6_balloonOf_7 rfl cv_X6_106 (by first | decide | exact kd_bal (by assumption) | exact kd_let (by assumption) | assumption) ⟨⟨by decide, by decide⟩, by decide, by decide⟩ (Nat.le_of_ble_eq_true rfl) (by have q := m_isBalloon (u2 c 395 16 (nI 0)) od b; rw [u2_56] at q; exact q) ?_
  refine WE.if_neB (n := 13) (tgt := 19) dX6_balloonOf_10 rfl (by decide) (fun h10 => ?_) (fun h10 => ?_)
  · skip
    obtain ⟨j, hj, rfl⟩ := isB_of hnb hc3 h10
    have hcl : (nI j).toNatClampNeg = j := nI_clamp (by omega)
    refine WE.iload_n (n := 20) dX6_balloonOf_19 rfl rfl ?_
    by_cases hx : nI 0 ≤ x ∧ x ≤ nI 11
    · obtain ⟨k, hk, rfl⟩ := in_of (by decide) hx
      rcases (show k = 0 ∨ k = 1 ∨ k = 2 ∨ k = 3 ∨ k = 4 ∨ k = 5 ∨ k = 6 ∨ k = 7 ∨ k = 8 ∨ k = 9 ∨ k = 10 ∨ k = 11 by omega) with rfl | rfl | rfl | rfl | rfl | rfl | rfl | rfl | rfl | rfl | rfl | rfl
      · refine WE.tsw (tgt := 84) dX6_balloonOf_20 0 (by decide) (by decide) (by decide) rfl (by decide) ?_
        refine WE.aload_n (n := 85) dX6_balloonOf_84 rfl rfl ?_
        refine WE.iload_n (n := 86) dX6_balloonOf_85 rfl rfl ?_
        refine WE.iconst (n := 87) (nI 0) dX6_balloonOf_86 rfl (by decide) ?_
        refine WE.V2I (M' := mX6_of) (n := 90) dX6_balloonOf_87 rfl cv_X6_71 (by first | decide | exact kd_bal (by assumption) | exact kd_let (by assumption) | assumption) ⟨⟨by decide, by decide⟩, by decide, by decide⟩ (Nat.le_of_ble_eq_true rfl) (by have q := m_of (u2 c 395 16 (nI 0)) od j 0 (by omega); rw [u2_56] at q; exact q) ?_
        refine WE.iret (ty := .int) dX6_balloonOf_90 rfl rfl ⟨by decide, by decide⟩ ?_
        simp only [Q_balloonOf, h10, hx, nI_clamp (show 0 < 2 ^ 31 by decide), Q_balN, isBN, isLN, mQ, u2_u2, u2_56, hcl, hnlN, ↓reduceIte, and_self, and_true, true_and, not_true_eq_false, not_false_eq_true]
        exact RI.mk rfl rfl
      · refine WE.tsw (tgt := 91) dX6_balloonOf_20 1 (by decide) (by decide) (by decide) rfl (by decide) ?_
        refine WE.aload_n (n := 92) dX6_balloonOf_91 rfl rfl ?_
        refine WE.iload_n (n := 93) dX6_balloonOf_92 rfl rfl ?_
        refine WE.iconst (n := 94) (nI 1) dX6_balloonOf_93 rfl (by decide) ?_
        refine WE.V2I (M' := mX6_of) (n := 97) dX6_balloonOf_94 rfl cv_X6_71 (by first | decide | exact kd_bal (by assumption) | exact kd_let (by assumption) | assumption) ⟨⟨by decide, by decide⟩, by decide, by decide⟩ (Nat.le_of_ble_eq_true rfl) (by have q := m_of (u2 c 395 16 (nI 0)) od j 1 (by omega); rw [u2_56] at q; exact q) ?_
        refine WE.iret (ty := .int) dX6_balloonOf_97 rfl rfl ⟨by decide, by decide⟩ ?_
        simp only [Q_balloonOf, h10, hx, nI_clamp (show 1 < 2 ^ 31 by decide), Q_balN, isBN, isLN, mQ, u2_u2, u2_56, hcl, hnlN, ↓reduceIte, and_self, and_true, true_and, not_true_eq_false, not_false_eq_true]
        exact RI.mk rfl rfl
      · refine WE.tsw (tgt := 98) dX6_balloonOf_20 2 (by decide) (by decide) (by decide) rfl (by decide) ?_
        refine WE.aload_n (n := 99) dX6_balloonOf_98 rfl rfl ?_
        refine WE.iload_n (n := 100) dX6_balloonOf_99 rfl rfl ?_
        refine WE.iconst (n := 101) (nI 2) dX6_balloonOf_100 rfl (by decide) ?_
        refine WE.V2I (M' := mX6_of) (n := 104) dX6_balloonOf_101 rfl cv_X6_71 (by first | decide | exact kd_bal (by assumption) | exact kd_let (by assumption) | assumption) ⟨⟨by decide, by decide⟩, by decide, by decide⟩ (Nat.le_of_ble_eq_true rfl) (by have q := m_of (u2 c 395 16 (nI 0)) od j 2 (by omega); rw [u2_56] at q; exact q) ?_
        refine WE.iret (ty := .int) dX6_balloonOf_104 rfl rfl ⟨by decide, by decide⟩ ?_
        simp only [Q_balloonOf, h10, hx, nI_clamp (show 2 < 2 ^ 31 by decide), Q_balN, isBN, isLN, mQ, u2_u2, u2_56, hcl, hnlN, ↓reduceIte, and_self, and_true, true_and, not_true_eq_false, not_false_eq_true]
        exact RI.mk rfl rfl
      · refine WE.tsw (tgt := 105) dX6_balloonOf_20 3 (by decide) (by decide) (by decide) rfl (by decide) ?_
        refine WE.aload_n (n := 106) dX6_balloonOf_105 rfl rfl ?_
        refine WE.iload_n (n := 107) dX6_balloonOf_106 rfl rfl ?_
        refine WE.iconst (n := 108) (nI 3) dX6_balloonOf_107 rfl (by decide) ?_
        refine WE.V2I (M' := mX6_of) (n := 111) dX6_balloonOf_108 rfl cv_X6_71 (by first | decide | exact kd_bal (by assumption) | exact kd_let (by assumption) | assumption) ⟨⟨by decide, by decide⟩, by decide, by decide⟩ (Nat.le_of_ble_eq_true rfl) (by have q := m_of (u2 c 395 16 (nI 0)) od j 3 (by omega); rw [u2_56] at q; exact q) ?_
        refine WE.iret (ty := .int) dX6_balloonOf_111 rfl rfl ⟨by decide, by decide⟩ ?_
        simp only [Q_balloonOf, h10, hx, nI_clamp (show 3 < 2 ^ 31 by decide), Q_balN, isBN, isLN, mQ, u2_u2, u2_56, hcl, hnlN, ↓reduceIte, and_self, and_true, true_and, not_true_eq_false, not_false_eq_true]
        exact RI.mk rfl rfl
      · refine WE.tsw (tgt := 112) dX6_balloonOf_20 4 (by decide) (by decide) (by decide) rfl (by decide) ?_
        refine WE.aload_n (n := 113) dX6_balloonOf_112 rfl rfl ?_
        refine WE.iload_n (n := 114) dX6_balloonOf_113 rfl rfl ?_
        refine WE.V1I (M' := mX6_lettersOf) (n := 117) dX6_balloonOf_114 rfl cv_X6_152 (by first | decide | exact kd_bal (by assumption) | exact kd_let (by assumption) | assumption) ⟨⟨by decide, by decide⟩, by decide, by decide⟩ (Nat.le_of_ble_eq_true rfl) (by have q := m_lettersOf (u2 c 395 16 (nI 0)) od nl hnl (by rw [u2_56]; exact hc4) (nI j); rw [u2_56] at q; exact q) ?_
        refine WE.iret (ty := .int) dX6_balloonOf_117 rfl rfl ⟨by decide, by decide⟩ ?_
        simp only [Q_balloonOf, h10, hx, nI_clamp (show 4 < 2 ^ 31 by decide), Q_balN, isBN, isLN, mQ, u2_u2, u2_56, hcl, hnlN, ↓reduceIte, and_self, and_true, true_and, not_true_eq_false, not_false_eq_true]
        exact RI.mk rfl rfl
      · refine WE.tsw (tgt := 118) dX6_balloonOf_20 5 (by decide) (by decide) (by decide) rfl (by decide) ?_
        refine WE.aload_n (n := 119) dX6_balloonOf_118 rfl rfl ?_
        refine WE.iload_n (n := 120) dX6_balloonOf_119 rfl rfl ?_
        refine WE.V1I (M' := mX6_weight) (n := 123) dX6_balloonOf_120 rfl cv_X6_80 (by first | decide | exact kd_bal (by assumption) | exact kd_let (by assumption) | assumption) ⟨⟨by decide, by decide⟩, by decide, by decide⟩ (Nat.le_of_ble_eq_true rfl) (by have q := m_weight (u2 c 395 16 (nI 0)) od j (by omega) nl hnl (by rw [u2_56]; exact hc4); rw [u2_56] at q; exact q) ?_
        refine WE.iret (ty := .int) dX6_balloonOf_123 rfl rfl ⟨by decide, by decide⟩ ?_
        simp only [Q_balloonOf, h10, hx, nI_clamp (show 5 < 2 ^ 31 by decide), Q_balN, isBN, isLN, mQ, u2_u2, u2_56, hcl, hnlN, ↓reduceIte, and_self, and_true, true_and, not_true_eq_false, not_false_eq_true]
        exact RI.mk rfl rfl
      · refine WE.tsw (tgt := 124) dX6_balloonOf_20 6 (by decide) (by decide) (by decide) rfl (by decide) ?_
        refine WE.aload_n (n := 125) dX6_balloonOf_124 rfl rfl ?_
        refine WE.iload_n (n := 126) dX6_balloonOf_125 rfl rfl ?_
        refine WE.V1I (M' := mX6_bears) (n := 129) dX6_balloonOf_126 rfl cv_X6_125 (by first | decide | exact kd_bal (by assumption) | exact kd_let (by assumption) | assumption) ⟨⟨by decide, by decide⟩, by decide, by decide⟩ (Nat.le_of_ble_eq_true rfl) (by have q := m_bears (u2 c 395 16 (nI 0)) od j (by omega) nl hnl (by rw [u2_56]; exact hc4); rw [u2_56] at q; exact q) ?_
        refine WE.iret (ty := .int) dX6_balloonOf_129 rfl rfl ⟨by decide, by decide⟩ ?_
        simp only [Q_balloonOf, h10, hx, nI_clamp (show 6 < 2 ^ 31 by decide), Q_balN, isBN, isLN, mQ, u2_u2, u2_56, hcl, hnlN, ↓reduceIte, and_self, and_true, true_and, not_true_eq_false, not_false_eq_true]
        exact RI.mk rfl rfl
      · refine WE.tsw (tgt := 130) dX6_balloonOf_20 7 (by decide) (by decide) (by decide) rfl (by decide) ?_
        refine WE.aload_n (n := 131) dX6_balloonOf_130 rfl rfl ?_
        refine WE.iload_n (n := 132) dX6_balloonOf_131 rfl rfl ?_
        refine WE.iconst (n := 133) (nI 5) dX6_balloonOf_132 rfl (by decide) ?_
        refine WE.V2I (M' := mX6_of) (n := 136) dX6_balloonOf_133 rfl cv_X6_71 (by first | decide | exact kd_bal (by assumption) | exact kd_let (by assumption) | assumption) ⟨⟨by decide, by decide⟩, by decide, by decide⟩ (Nat.le_of_ble_eq_true rfl) (by have q := m_of (u2 c 395 16 (nI 0)) od j 5 (by omega); rw [u2_56] at q; exact q) ?_
        refine WE.iret (ty := .int) dX6_balloonOf_136 rfl rfl ⟨by decide, by decide⟩ ?_
        simp only [Q_balloonOf, h10, hx, nI_clamp (show 7 < 2 ^ 31 by decide), Q_balN, isBN, isLN, mQ, u2_u2, u2_56, hcl, hnlN, ↓reduceIte, and_self, and_true, true_and, not_true_eq_false, not_false_eq_true]
        exact RI.mk rfl rfl
      · refine WE.tsw (tgt := 137) dX6_balloonOf_20 8 (by decide) (by decide) (by decide) rfl (by decide) ?_
        refine WE.aload_n (n := 138) dX6_balloonOf_137 rfl rfl ?_
        refine WE.iload_n (n := 139) dX6_balloonOf_138 rfl rfl ?_
        refine WE.bipush (n := 141) (nI 10) dX6_balloonOf_139 rfl (by decide) ?_
        refine WE.V2I (M' := mX6_of) (n := 144) dX6_balloonOf_141 rfl cv_X6_71 (by first | decide | exact kd_bal (by assumption) | exact kd_let (by assumption) | assumption) ⟨⟨by decide, by decide⟩, by decide, by decide⟩ (Nat.le_of_ble_eq_true rfl) (by have q := m_of (u2 c 395 16 (nI 0)) od j 10 (by omega); rw [u2_56] at q; exact q) ?_
        refine WE.iret (ty := .int) dX6_balloonOf_144 rfl rfl ⟨by decide, by decide⟩ ?_
        simp only [Q_balloonOf, h10, hx, nI_clamp (show 8 < 2 ^ 31 by decide), Q_balN, isBN, isLN, mQ, u2_u2, u2_56, hcl, hnlN, ↓reduceIte, and_self, and_true, true_and, not_true_eq_false, not_false_eq_true]
        exact RI.mk rfl rfl
      · refine WE.tsw (tgt := 145) dX6_balloonOf_20 9 (by decide) (by decide) (by decide) rfl (by decide) ?_
        refine WE.aload_n (n := 146) dX6_balloonOf_145 rfl rfl ?_
        refine WE.iload_n (n := 147) dX6_balloonOf_146 rfl rfl ?_
        refine WE.bipush (n := 149) (nI 6) dX6_balloonOf_147 rfl (by decide) ?_
        refine WE.V2I (M' := mX6_of) (n := 152) dX6_balloonOf_149 rfl cv_X6_71 (by first | decide | exact kd_bal (by assumption) | exact kd_let (by assumption) | assumption) ⟨⟨by decide, by decide⟩, by decide, by decide⟩ (Nat.le_of_ble_eq_true rfl) (by have q := m_of (u2 c 395 16 (nI 0)) od j 6 (by omega); rw [u2_56] at q; exact q) ?_
        refine WE.iret (ty := .int) dX6_balloonOf_152 rfl rfl ⟨by decide, by decide⟩ ?_
        simp only [Q_balloonOf, h10, hx, nI_clamp (show 9 < 2 ^ 31 by decide), Q_balN, isBN, isLN, mQ, u2_u2, u2_56, hcl, hnlN, ↓reduceIte, and_self, and_true, true_and, not_true_eq_false, not_false_eq_true]
        exact RI.mk rfl rfl
      · refine WE.tsw (tgt := 153) dX6_balloonOf_20 10 (by decide) (by decide) (by decide) rfl (by decide) ?_
        refine WE.aload_n (n := 154) dX6_balloonOf_153 rfl rfl ?_
        refine WE.iload_n (n := 155) dX6_balloonOf_154 rfl rfl ?_
        refine WE.bipush (n := 157) (nI 7) dX6_balloonOf_155 rfl (by decide) ?_
        refine WE.V2I (M' := mX6_of) (n := 160) dX6_balloonOf_157 rfl cv_X6_71 (by first | decide | exact kd_bal (by assumption) | exact kd_let (by assumption) | assumption) ⟨⟨by decide, by decide⟩, by decide, by decide⟩ (Nat.le_of_ble_eq_true rfl) (by have q := m_of (u2 c 395 16 (nI 0)) od j 7 (by omega); rw [u2_56] at q; exact q) ?_
        refine WE.iret (ty := .int) dX6_balloonOf_160 rfl rfl ⟨by decide, by decide⟩ ?_
        simp only [Q_balloonOf, h10, hx, nI_clamp (show 10 < 2 ^ 31 by decide), Q_balN, isBN, isLN, mQ, u2_u2, u2_56, hcl, hnlN, ↓reduceIte, and_self, and_true, true_and, not_true_eq_false, not_false_eq_true]
        exact RI.mk rfl rfl
      · refine WE.tsw (tgt := 161) dX6_balloonOf_20 11 (by decide) (by decide) (by decide) rfl (by decide) ?_
        refine WE.aload_n (n := 162) dX6_balloonOf_161 rfl rfl ?_
        refine WE.iload_n (n := 163) dX6_balloonOf_162 rfl rfl ?_
        refine WE.bipush (n := 165) (nI 8) dX6_balloonOf_163 rfl (by decide) ?_
        refine WE.V2I (M' := mX6_of) (n := 168) dX6_balloonOf_165 rfl cv_X6_71 (by first | decide | exact kd_bal (by assumption) | exact kd_let (by assumption) | assumption) ⟨⟨by decide, by decide⟩, by decide, by decide⟩ (Nat.le_of_ble_eq_true rfl) (by have q := m_of (u2 c 395 16 (nI 0)) od j 8 (by omega); rw [u2_56] at q; exact q) ?_
        refine WE.iret (ty := .int) dX6_balloonOf_168 rfl rfl ⟨by decide, by decide⟩ ?_
        simp only [Q_balloonOf, h10, hx, nI_clamp (show 11 < 2 ^ 31 by decide), Q_balN, isBN, isLN, mQ, u2_u2, u2_56, hcl, hnlN, ↓reduceIte, and_self, and_true, true_and, not_true_eq_false, not_false_eq_true]
        exact RI.mk rfl rfl
    · refine WE.tswO (tgt := 169) dX6_balloonOf_20 (sw_out (by decide) hx) (by decide) ?_
      refine WE.aload_n (n := 170) dX6_balloonOf_169 rfl rfl ?_
      refine WE.iconst (n := 171) (nI 2) dX6_balloonOf_170 rfl (by decide) ?_
      refine WE.V1I (M' := mX6_raises) (n := 174) dX6_balloonOf_171 rfl cv_X6_55 (by first | decide | exact kd_bal (by assumption) | exact kd_let (by assumption) | assumption) ⟨⟨by decide, by decide⟩, by decide, by decide⟩ (Nat.le_of_ble_eq_true rfl) (m_raises _ _ _) ?_
      refine WE.iret (ty := .int) dX6_balloonOf_174 rfl rfl ⟨by decide, by decide⟩ ?_
      simp only [Q_balloonOf, h10, hx, isBN, isLN, mQ, u2_u2, u2_56, hcl, hnlN, ↓reduceIte, and_self, and_true, true_and, not_true_eq_false, not_false_eq_true]
      exact RI.mk rfl rfl
  · skip
    refine WE.aload_n (n := 14) dX6_balloonOf_13 rfl rfl ?_
    refine WE.iconst (n := 15) (nI 1) dX6_balloonOf_14 rfl (by decide) ?_
    refine WE.V1I (M' := mX6_raises) (n := 18) dX6_balloonOf_15 rfl cv_X6_55 (by first | decide | exact kd_bal (by assumption) | exact kd_let (by assumption) | assumption) ⟨⟨by decide, by decide⟩, by decide, by decide⟩ (Nat.le_of_ble_eq_true rfl) (m_raises _ _ _) ?_
    refine WE.iret (ty := .int) dX6_balloonOf_18 rfl rfl ⟨by decide, by decide⟩ ?_
    (try simp only [u2_56] at *)
    simp only [Q_balloonOf, h10, isBN, isLN, mQ, u2_u2, u2_56, ↓reduceIte, and_self, and_true, true_and, not_true_eq_false, not_false_eq_true]
    exact RI.mk rfl rfl
set_option maxRecDepth 20000 in
set_option maxHeartbeats 1000000 in
theorem m_letterOf (c : CC) (od : Int64 × UInt64) (l x : Int32) (nl : Nat) (hnl : nl ≤ 24) (hc4 : c 396 4 = nI nl) : CM mX6_letterOf [.ref 395, .int l, .int x] (c, od) (RI (mQ c (Q_letterOf (c 396) l x)).1 ((mQ c (Q_letterOf (c 396) l x)).2, od)) := by
  refine CM.of [(0, .ref 395), (1, .int l), (2, .int x)] rfl (by decide +kernel) rfl (Nat.le_of_ble_eq_true rfl) ?_
  refine WE.aload_n (n := 1) dX6_letterOf_0 rfl rfl ?_
  refine WE.iconst (n := 2) (nI 0) dX6_letterOf_1 rfl (by decide) ?_
  refine WE.putI (n := 5) dX6_letterOf_2 rfl fl_X6_36 ⟨by decide, by decide, rfl, rfl⟩ ⟨by first | rfl | decide, by first | rfl | decide⟩ (by first | decide | exact kd_bal (by assumption) | exact kd_let (by assumption) | assumption) ?_
  refine WE.aload_n (n := 6) dX6_letterOf_5 rfl rfl ?_
  refine WE.iload_n (n := 7) dX6_letterOf_6 rfl rfl ?_
  refine WE.V1I (M' := mX6_isLetter) (n := 10) dX6_letterOf_7 rfl cv_X6_116 (by first | decide | exact kd_bal (by assumption) | exact kd_let (by assumption) | assumption) ⟨⟨by decide, by decide⟩, by decide, by decide⟩ (Nat.le_of_ble_eq_true rfl) (by have q := m_isLetter (u2 c 395 16 (nI 0)) od l; rw [u2_56] at q; exact q) ?_
  refine WE.if_neB (n := 13) (tgt := 19) dX6_letterOf_10 rfl (by decide) (fun h10 => ?_) (fun h10 => ?_)
  · skip
    obtain ⟨i, hi, rfl⟩ := isL_of hnl hc4 h10
    have hcl : (nI i).toNatClampNeg = i := nI_clamp (by omega)
    refine WE.iload_n (n := 20) dX6_letterOf_19 rfl rfl ?_
    refine WE.iconst (n := 21) (nI 0) dX6_letterOf_20 rfl (by decide) ?_
    refine WE.iconst (n := 22) (nI 3) dX6_letterOf_21 rfl (by decide) ?_
    refine WE.S3I (M' := mX6_in) (n := 25) dX6_letterOf_22 rfl cv_X6_58  ⟨⟨by decide, by decide⟩, by decide, by decide⟩ (Nat.le_of_ble_eq_true rfl) (m_in _ _ _ _) ?_
    refine WE.if_eqB (n := 28) (tgt := 44) dX6_letterOf_25 rfl (by decide) (fun h25 => ?_) (fun h25 => ?_)
    · skip
      refine WE.aload_n (n := 45) dX6_letterOf_44 rfl rfl ?_
      refine WE.iconst (n := 46) (nI 2) dX6_letterOf_45 rfl (by decide) ?_
      refine WE.V1I (M' := mX6_raises) (n := 49) dX6_letterOf_46 rfl cv_X6_55 (by first | decide | exact kd_bal (by assumption) | exact kd_let (by assumption) | assumption) ⟨⟨by decide, by decide⟩, by decide, by decide⟩ (Nat.le_of_ble_eq_true rfl) (m_raises _ _ _) ?_
      refine WE.iret (ty := .int) dX6_letterOf_49 rfl rfl ⟨by decide, by decide⟩ ?_
      (try simp only [u2_56] at *)
      first | (simp only [Q_letterOf, h10, h25, hck, isLN, mQ, u2_u2, u2_56, hcl, ↓reduceIte, and_self]; exact RI.mk rfl rfl) | (simp only [Q_letterOf, h10, h25, isBN, isLN, mQ, u2_u2, u2_56, ↓reduceIte]; exact RI.mk rfl rfl)
    · skip
      obtain ⟨k, hk, rfl⟩ := in_of (by decide) h25
      have hck : (nI k).toNatClampNeg = k := nI_clamp (by omega)
      refine WE.aload_n (n := 29) dX6_letterOf_28 rfl rfl ?_
      refine WE.getR (n := 32) dX6_letterOf_29 rfl fl_X6_9 ⟨by decide, by decide⟩ rfl (by first | decide | exact kd_bal (by assumption) | exact kd_let (by assumption) | assumption) ?_
      refine WE.bipush (n := 34) (nI 88) dX6_letterOf_32 rfl (by decide) ?_
      refine WE.iconst (n := 35) (nI 4) dX6_letterOf_34 rfl (by decide) ?_
      refine WE.iload_n (n := 36) dX6_letterOf_35 rfl rfl ?_
      refine WE.imul (n := 37) dX6_letterOf_36 rfl ?_
      refine WE.iadd (n := 38) dX6_letterOf_37 rfl ?_
      refine WE.iload_n (n := 39) dX6_letterOf_38 rfl rfl ?_
      refine WE.iadd (n := 40) dX6_letterOf_39 rfl ?_
      refine WE.iald (n := 41) (88 + 4 * i + k) dX6_letterOf_40 rfl (by first | decide | assumption) (by first | rfl | simp only [pk_mul, nI_add]) (by show _ < 184; omega) ?_
      refine WE.goto (tgt := 49) dX6_letterOf_41 (by decide) ?_
      refine WE.iret (ty := .int) dX6_letterOf_49 rfl rfl ⟨by decide, by decide⟩ ?_
      (try simp only [u2_56] at *)
      first | (simp only [Q_letterOf, h10, h25, hck, isLN, mQ, u2_u2, u2_56, hcl, ↓reduceIte, and_self]; exact RI.mk rfl rfl) | (simp only [Q_letterOf, h10, h25, isBN, isLN, mQ, u2_u2, u2_56, ↓reduceIte]; exact RI.mk rfl rfl)
  · skip
    refine WE.aload_n (n := 14) dX6_letterOf_13 rfl rfl ?_
    refine WE.iconst (n := 15) (nI 1) dX6_letterOf_14 rfl (by decide) ?_
    refine WE.V1I (M' := mX6_raises) (n := 18) dX6_letterOf_15 rfl cv_X6_55 (by first | decide | exact kd_bal (by assumption) | exact kd_let (by assumption) | assumption) ⟨⟨by decide, by decide⟩, by decide, by decide⟩ (Nat.le_of_ble_eq_true rfl) (m_raises _ _ _) ?_
    refine WE.iret (ty := .int) dX6_letterOf_18 rfl rfl ⟨by decide, by decide⟩ ?_
    (try simp only [u2_56] at *)
    first | (simp only [Q_letterOf, h10, hck, isLN, mQ, u2_u2, u2_56, hcl, ↓reduceIte, and_self]; exact RI.mk rfl rfl) | (simp only [Q_letterOf, h10, isBN, isLN, mQ, u2_u2, u2_56, ↓reduceIte]; exact RI.mk rfl rfl)
set_option maxRecDepth 20000 in
set_option maxHeartbeats 1000000 in
theorem m_weightAgain (c : CC) (od : Int64 × UInt64) (b : Int32) (nb : Nat) (hnb : nb ≤ 6) (hc3 : c 396 3 = nI nb) (nl : Nat) (hnl : nl ≤ 24) (hc4 : c 396 4 = nI nl) : CM mX6_weightAgain [.ref 395, .int b] (c, od) (RI (mQ c (Q_weight (c 396) b)).1 ((mQ c (Q_weight (c 396) b)).2, od)) := by
  refine CM.of [(0, .ref 395), (1, .int b)] rfl (by decide +kernel) rfl (Nat.le_of_ble_eq_true rfl) ?_
  have hnlN : nlN (c 396) = nl := by unfold nlN; rw [hc4]; exact nI_clamp (by omega)
  refine WE.aload_n (n := 1) dX6_weightAgain_0 rfl rfl ?_
  refine WE.iconst (n := 2) (nI 0) dX6_weightAgain_1 rfl (by decide) ?_
  refine WE.putI (n := 5) dX6_weightAgain_2 rfl fl_X6_36 ⟨by decide, by decide, rfl, rfl⟩ ⟨by first | rfl | decide, by first | rfl | decide⟩ (by first | decide | exact kd_bal (by assumption) | exact kd_let (by assumption) | assumption) ?_
  refine WE.aload_n (n := 6) dX6_weightAgain_5 rfl rfl ?_
  refine WE.iload_n (n := 7) dX6_weightAgain_6 rfl rfl ?_
  refine WE.V1I (M' := mX6_isBalloon) (n := 10) dX6_weightAgain_7 rfl cv_X6_106 (by first | decide | exact kd_bal (by assumption) | exact kd_let (by assumption) | assumption) ⟨⟨by decide, by decide⟩, by decide, by decide⟩ (Nat.le_of_ble_eq_true rfl) (by have q := m_isBalloon (u2 c 395 16 (nI 0)) od b; rw [u2_56] at q; exact q) ?_
  refine WE.if_eqB (n := 13) (tgt := 21) dX6_weightAgain_10 rfl (by decide) (fun h10 => ?_) (fun h10 => ?_)
  · skip
    refine WE.aload_n (n := 22) dX6_weightAgain_21 rfl rfl ?_
    refine WE.iconst (n := 23) (nI 1) dX6_weightAgain_22 rfl (by decide) ?_
    refine WE.V1I (M' := mX6_raises) (n := 26) dX6_weightAgain_23 rfl cv_X6_55 (by first | decide | exact kd_bal (by assumption) | exact kd_let (by assumption) | assumption) ⟨⟨by decide, by decide⟩, by decide, by decide⟩ (Nat.le_of_ble_eq_true rfl) (m_raises _ _ _) ?_
    refine WE.iret (ty := .int) dX6_weightAgain_26 rfl rfl ⟨by decide, by decide⟩ ?_
    first | (simp only [Q_weight, h10, isBN, isLN, mQ, u2_u2, hcl, hnlN, ↓reduceIte, and_self]; exact RI.mk rfl rfl) | (simp only [Q_weight, h10, isBN, isLN, mQ, u2_u2, ↓reduceIte]; exact RI.mk rfl rfl)
  · skip
    obtain ⟨j, hj, rfl⟩ := isB_of hnb hc3 h10
    have hcl : (nI j).toNatClampNeg = j := nI_clamp (by omega)
    refine WE.aload_n (n := 14) dX6_weightAgain_13 rfl rfl ?_
    refine WE.iload_n (n := 15) dX6_weightAgain_14 rfl rfl ?_
    refine WE.V1I (M' := mX6_weight) (n := 18) dX6_weightAgain_15 rfl cv_X6_80 (by first | decide | exact kd_bal (by assumption) | exact kd_let (by assumption) | assumption) ⟨⟨by decide, by decide⟩, by decide, by decide⟩ (Nat.le_of_ble_eq_true rfl) (by have q := m_weight (u2 c 395 16 (nI 0)) od j (by omega) nl hnl (by rw [u2_56]; exact hc4); rw [u2_56] at q; exact q) ?_
    refine WE.goto (tgt := 26) dX6_weightAgain_18 (by decide) ?_
    refine WE.iret (ty := .int) dX6_weightAgain_26 rfl rfl ⟨by decide, by decide⟩ ?_
    first | (simp only [Q_weight, h10, isBN, isLN, mQ, u2_u2, hcl, hnlN, ↓reduceIte, and_self]; exact RI.mk rfl rfl) | (simp only [Q_weight, h10, isBN, isLN, mQ, u2_u2, ↓reduceIte]; exact RI.mk rfl rfl)
set_option maxRecDepth 20000 in
set_option maxHeartbeats 1000000 in
theorem m_word (c : CC) (od : Int64 × UInt64) (b : Int32) (nb : Nat) (hnb : nb ≤ 6) (hc3 : c 396 3 = nI nb) : CM mX6_word [.ref 395, .int b] (c, od) (RI (mQ c (Q_word (c 396) b)).1 ((mQ c (Q_word (c 396) b)).2, od)) := by
  refine CM.of [(0, .ref 395), (1, .int b)] rfl (by decide +kernel) rfl (Nat.le_of_ble_eq_true rfl) ?_
  refine WE.aload_n (n := 1) dX6_word_0 rfl rfl ?_
  refine WE.iconst (n := 2) (nI 0) dX6_word_1 rfl (by decide) ?_
  refine WE.putI (n := 5) dX6_word_2 rfl fl_X6_36 ⟨by decide, by decide, rfl, rfl⟩ ⟨by first | rfl | decide, by first | rfl | decide⟩ (by first | decide | exact kd_bal (by assumption) | exact kd_let (by assumption) | assumption) ?_
  refine WE.aload_n (n := 6) dX6_word_5 rfl rfl ?_
  refine WE.iload_n (n := 7) dX6_word_6 rfl rfl ?_
  refine WE.V1I (M' := mX6_isBalloon) (n := 10) dX6_word_7 rfl cv_X6_106 (by first | decide | exact kd_bal (by assumption) | exact kd_let (by assumption) | assumption) ⟨⟨by decide, by decide⟩, by decide, by decide⟩ (Nat.le_of_ble_eq_true rfl) (by have q := m_isBalloon (u2 c 395 16 (nI 0)) od b; rw [u2_56] at q; exact q) ?_
  refine WE.if_neB (n := 13) (tgt := 19) dX6_word_10 rfl (by decide) (fun h10 => ?_) (fun h10 => ?_)
  · skip
    obtain ⟨j, hj, rfl⟩ := isB_of hnb hc3 h10
    have hcl : (nI j).toNatClampNeg = j := nI_clamp (by omega)
    refine WE.aload_n (n := 20) dX6_word_19 rfl rfl ?_
    refine WE.iload_n (n := 21) dX6_word_20 rfl rfl ?_
    refine WE.V1I (M' := mX6_hasWord) (n := 24) dX6_word_21 rfl cv_X6_155 (by first | decide | exact kd_bal (by assumption) | exact kd_let (by assumption) | assumption) ⟨⟨by decide, by decide⟩, by decide, by decide⟩ (Nat.le_of_ble_eq_true rfl) (by have q := m_hasWord (u2 c 395 16 (nI 0)) od j (by omega); rw [u2_56] at q; exact q) ?_
    refine WE.if_eqB (n := 27) (tgt := 35) dX6_word_24 rfl (by decide) (fun h24 => ?_) (fun h24 => ?_)
    · skip
      refine WE.aload_n (n := 36) dX6_word_35 rfl rfl ?_
      refine WE.iconst (n := 37) (nI 2) dX6_word_36 rfl (by decide) ?_
      refine WE.V1I (M' := mX6_raises) (n := 40) dX6_word_37 rfl cv_X6_55 (by first | decide | exact kd_bal (by assumption) | exact kd_let (by assumption) | assumption) ⟨⟨by decide, by decide⟩, by decide, by decide⟩ (Nat.le_of_ble_eq_true rfl) (m_raises _ _ _) ?_
      refine WE.iret (ty := .int) dX6_word_40 rfl rfl ⟨by decide, by decide⟩ ?_
      first | (simp only [Q_word, h10, h24, hwP, isBN, isLN, mQ, u2_u2, hcl, ↓reduceIte, and_self]; exact RI.mk rfl rfl) | (simp only [Q_word, h10, h24, hwP, isBN, isLN, mQ, u2_u2, ↓reduceIte]; exact RI.mk rfl rfl)
    · skip
      refine WE.aload_n (n := 28) dX6_word_27 rfl rfl ?_
      refine WE.iload_n (n := 29) dX6_word_28 rfl rfl ?_
      refine WE.V1I (M' := mX6_wordOf) (n := 32) dX6_word_29 rfl cv_X6_158 (by first | decide | exact kd_bal (by assumption) | exact kd_let (by assumption) | assumption) ⟨⟨by decide, by decide⟩, by decide, by decide⟩ (Nat.le_of_ble_eq_true rfl) (by have q := m_wordOf (u2 c 395 16 (nI 0)) od j (by omega); rw [u2_56] at q; exact q) ?_
      refine WE.goto (tgt := 40) dX6_word_32 (by decide) ?_
      refine WE.iret (ty := .int) dX6_word_40 rfl rfl ⟨by decide, by decide⟩ ?_
      first | (simp only [Q_word, h10, h24, hwP, isBN, isLN, mQ, u2_u2, hcl, ↓reduceIte, and_self]; exact RI.mk rfl rfl) | (simp only [Q_word, h10, h24, hwP, isBN, isLN, mQ, u2_u2, ↓reduceIte]; exact RI.mk rfl rfl)
  · skip
    refine WE.aload_n (n := 14) dX6_word_13 rfl rfl ?_
    refine WE.iconst (n := 15) (nI 1) dX6_word_14 rfl (by decide) ?_
    refine WE.V1I (M' := mX6_raises) (n := 18) dX6_word_15 rfl cv_X6_55 (by first | decide | exact kd_bal (by assumption) | exact kd_let (by assumption) | assumption) ⟨⟨by decide, by decide⟩, by decide, by decide⟩ (Nat.le_of_ble_eq_true rfl) (m_raises _ _ _) ?_
    refine WE.iret (ty := .int) dX6_word_18 rfl rfl ⟨by decide, by decide⟩ ?_
    first | (simp only [Q_word, h10, hwP, isBN, isLN, mQ, u2_u2, hcl, ↓reduceIte, and_self]; exact RI.mk rfl rfl) | (simp only [Q_word, h10, hwP, isBN, isLN, mQ, u2_u2, ↓reduceIte]; exact RI.mk rfl rfl)
set_option maxRecDepth 20000 in
set_option maxHeartbeats 1000000 in
theorem m_errorPosition (c : CC) (od : Int64 × UInt64) : CM mX6_errorPosition [.ref 395] (c, od) (RI (c 395 12) (u2 c 395 16 (nI 0), od)) := by
  refine CM.of [(0, .ref 395)] rfl (by decide +kernel) rfl (Nat.le_of_ble_eq_true rfl) ?_
  refine WE.aload_n (n := 1) dX6_errorPosition_0 rfl rfl ?_
  refine WE.iconst (n := 2) (nI 0) dX6_errorPosition_1 rfl (by decide) ?_
  refine WE.putI (n := 5) dX6_errorPosition_2 rfl fl_X6_36 ⟨by decide, by decide, rfl, rfl⟩ ⟨by first | rfl | decide, by first | rfl | decide⟩ (by first | decide | exact kd_bal (by assumption) | exact kd_let (by assumption) | assumption) ?_
  refine WE.aload_n (n := 6) dX6_errorPosition_5 rfl rfl ?_
  refine WE.getI (n := 9) dX6_errorPosition_6 rfl fl_X6_32 ⟨by decide, by decide, rfl⟩ (by first | decide | exact kd_bal (by assumption) | exact kd_let (by assumption) | assumption) ?_
  refine WE.iret (ty := .int) dX6_errorPosition_9 rfl rfl ⟨by decide, by decide⟩ ?_
  exact RI.mk (u2_ne _ _ (by decide)) rfl
set_option maxRecDepth 20000 in
set_option maxHeartbeats 1000000 in
theorem m_isWell (c : CC) (od : Int64 × UInt64) : CM mX6_isWell [.ref 395] (c, od) (RI (nI 1) (u2 c 395 16 (nI 0), od)) := by
  refine CM.of [(0, .ref 395)] rfl (by decide +kernel) rfl (Nat.le_of_ble_eq_true rfl) ?_
  refine WE.aload_n (n := 1) dX6_isWell_0 rfl rfl ?_
  refine WE.iconst (n := 2) (nI 0) dX6_isWell_1 rfl (by decide) ?_
  refine WE.putI (n := 5) dX6_isWell_2 rfl fl_X6_36 ⟨by decide, by decide, rfl, rfl⟩ ⟨by first | rfl | decide, by first | rfl | decide⟩ (by first | decide | exact kd_bal (by assumption) | exact kd_let (by assumption) | assumption) ?_
  refine WE.iconst (n := 6) (nI 1) dX6_isWell_5 rfl (by decide) ?_
  refine WE.iret (ty := .boolean) dX6_isWell_6 rfl (by first | rfl | exact b2i_nar _ | decide) ⟨by decide, by decide⟩ ?_
  exact RI.mk rfl rfl
set_option maxRecDepth 20000 in
set_option maxHeartbeats 1000000 in
theorem m_refusal (c : CC) (od : Int64 × UInt64) (d : Int32) : CM mX6_refusal [.ref 395, .int d] (c, od) (RI (mQ c (Q_refusal c d)).1 ((mQ c (Q_refusal c d)).2, od)) := by
  refine CM.of [(0, .ref 395), (1, .int d)] rfl (by decide +kernel) rfl (Nat.le_of_ble_eq_true rfl) ?_
  refine WE.aload_n (n := 1) dX6_refusal_0 rfl rfl ?_
  refine WE.iconst (n := 2) (nI 0) dX6_refusal_1 rfl (by decide) ?_
  refine WE.putI (n := 5) dX6_refusal_2 rfl fl_X6_36 ⟨by decide, by decide, rfl, rfl⟩ ⟨by first | rfl | decide, by first | rfl | decide⟩ (by first | decide | exact kd_bal (by assumption) | exact kd_let (by assumption) | assumption) ?_
  refine WE.aload_n (n := 6) dX6_refusal_5 rfl rfl ?_
  refine WE.getI (n := 9) dX6_refusal_6 rfl fl_X6_45 ⟨by decide, by decide, rfl⟩ (by first | decide | exact kd_bal (by assumption) | exact kd_let (by assumption) | assumption) ?_
  refine WE.if_ne (n := 12) (tgt := 18) dX6_refusal_9 rfl (by decide) (fun h9 => ?_) (fun h9 => ?_)
  · skip
    rw [u2_ne _ _ (by decide)] at h9
    refine WE.iload_n (n := 19) dX6_refusal_18 rfl rfl ?_
    refine WE.if_eq (n := 22) (tgt := 29) dX6_refusal_19 rfl (by decide) (fun h19 => ?_) (fun h19 => ?_)
    · skip
      refine WE.aload_n (n := 30) dX6_refusal_29 rfl rfl ?_
      refine WE.getI (n := 33) dX6_refusal_30 rfl fl_X6_45 ⟨by decide, by decide, rfl⟩ (by first | decide | exact kd_bal (by assumption) | exact kd_let (by assumption) | assumption) ?_
      refine WE.iret (ty := .int) dX6_refusal_33 rfl rfl ⟨by decide, by decide⟩ ?_
      simp only [Q_refusal, h9, h19, isBN, isLN, mQ, u2_u2, ↓reduceIte]
      exact RI.mk (by first | rfl | exact u2_ne _ _ (by decide)) rfl
    · skip
      refine WE.aload_n (n := 23) dX6_refusal_22 rfl rfl ?_
      refine WE.getI (n := 26) dX6_refusal_23 rfl fl_X6_48 ⟨by decide, by decide, rfl⟩ (by first | decide | exact kd_bal (by assumption) | exact kd_let (by assumption) | assumption) ?_
      refine WE.goto (tgt := 33) dX6_refusal_26 (by decide) ?_
      refine WE.iret (ty := .int) dX6_refusal_33 rfl rfl ⟨by decide, by decide⟩ ?_
      simp only [Q_refusal, h9, h19, isBN, isLN, mQ, u2_u2, ↓reduceIte]
      exact RI.mk (by first | rfl | exact u2_ne _ _ (by decide)) rfl
  · skip
    rw [u2_ne _ _ (by decide)] at h9
    refine WE.aload_n (n := 13) dX6_refusal_12 rfl rfl ?_
    refine WE.iconst (n := 14) (nI 1) dX6_refusal_13 rfl (by decide) ?_
    refine WE.V1I (M' := mX6_raises) (n := 17) dX6_refusal_14 rfl cv_X6_55 (by first | decide | exact kd_bal (by assumption) | exact kd_let (by assumption) | assumption) ⟨⟨by decide, by decide⟩, by decide, by decide⟩ (Nat.le_of_ble_eq_true rfl) (m_raises _ _ _) ?_
    refine WE.iret (ty := .int) dX6_refusal_17 rfl rfl ⟨by decide, by decide⟩ ?_
    simp only [Q_refusal, h9, isBN, isLN, mQ, u2_u2, ↓reduceIte]
    exact RI.mk (by first | rfl | exact u2_ne _ _ (by decide)) rfl
set_option maxRecDepth 20000 in
set_option maxHeartbeats 1000000 in
theorem m_account (c : CC) (od : Int64 × UInt64) (x : Int32) (nb : Nat) (hnb : nb ≤ 6) (hc3 : c 396 3 = nI nb) (nl : Nat) (hnl : nl ≤ 24) (hc4 : c 396 4 = nI nl) : CM mX6_account [.ref 395, .int x] (c, od) (RI (mQ c (Q_account c nb nl x)).1 ((mQ c (Q_account c nb nl x)).2, od)) := by
  refine CM.of [(0, .ref 395), (1, .int x)] rfl (by decide +kernel) rfl (Nat.le_of_ble_eq_true rfl) ?_
  refine WE.aload_n (n := 1) dX6_account_0 rfl rfl ?_
  refine WE.iconst (n := 2) (nI 0) dX6_account_1 rfl (by decide) ?_
  refine WE.putI (n := 5) dX6_account_2 rfl fl_X6_36 ⟨by decide, by decide, rfl, rfl⟩ ⟨by first | rfl | decide, by first | rfl | decide⟩ (by first | decide | exact kd_bal (by assumption) | exact kd_let (by assumption) | assumption) ?_
  refine WE.iload_n (n := 6) dX6_account_5 rfl rfl ?_
  by_cases hx : nI 0 ≤ x ∧ x ≤ nI 20
  · obtain ⟨k, hk, rfl⟩ := in_of (by decide) hx
    rcases (show k = 0 ∨ k = 1 ∨ k = 2 ∨ k = 3 ∨ k = 4 ∨ k = 5 ∨ k = 6 ∨ k = 7 ∨ k = 8 ∨ k = 9 ∨ k = 10 ∨ k = 11 ∨ k = 12 ∨ k = 13 ∨ k = 14 ∨ k = 15 ∨ k = 16 ∨ k = 17 ∨ k = 18 ∨ k = 19 ∨ k = 20 by omega) with rfl | rfl | rfl | rfl | rfl | rfl | rfl | rfl | rfl | rfl | rfl | rfl | rfl | rfl | rfl | rfl | rfl | rfl | rfl | rfl | rfl
    · refine WE.tsw (tgt := 104) dX6_account_6 0 (by decide) (by decide) (by decide) rfl (by decide) ?_
      refine WE.aload_n (n := 105) dX6_account_104 rfl rfl ?_
      refine WE.getR (n := 108) dX6_account_105 rfl fl_X6_9 ⟨by decide, by decide⟩ rfl (by first | decide | exact kd_bal (by assumption) | exact kd_let (by assumption) | assumption) ?_
      refine WE.iconst (n := 109) (nI 0) dX6_account_108 rfl (by decide) ?_
      refine WE.iald (n := 110) 0 dX6_account_109 rfl (by first | decide | assumption) rfl (by show _ < 184; omega) ?_
      refine WE.iret (ty := .int) dX6_account_110 rfl rfl ⟨by decide, by decide⟩ ?_
      simp only [Q_account, hx, nI_clamp (show 0 < 2 ^ 31 by decide), Q_accN, mQ, u2_u2, and_self, ↓reduceIte]
      exact RI.mk (by first | rfl | exact u2_ne _ _ (by decide)) rfl
    · refine WE.tsw (tgt := 111) dX6_account_6 1 (by decide) (by decide) (by decide) rfl (by decide) ?_
      refine WE.aload_n (n := 112) dX6_account_111 rfl rfl ?_
      refine WE.getR (n := 115) dX6_account_112 rfl fl_X6_9 ⟨by decide, by decide⟩ rfl (by first | decide | exact kd_bal (by assumption) | exact kd_let (by assumption) | assumption) ?_
      refine WE.iconst (n := 116) (nI 1) dX6_account_115 rfl (by decide) ?_
      refine WE.iald (n := 117) 1 dX6_account_116 rfl (by first | decide | assumption) rfl (by show _ < 184; omega) ?_
      refine WE.iret (ty := .int) dX6_account_117 rfl rfl ⟨by decide, by decide⟩ ?_
      simp only [Q_account, hx, nI_clamp (show 1 < 2 ^ 31 by decide), Q_accN, mQ, u2_u2, and_self, ↓reduceIte]
      exact RI.mk (by first | rfl | exact u2_ne _ _ (by decide)) rfl
    · refine WE.tsw (tgt := 118) dX6_account_6 2 (by decide) (by decide) (by decide) rfl (by decide) ?_
      refine WE.aload_n (n := 119) dX6_account_118 rfl rfl ?_
      refine WE.getR (n := 122) dX6_account_119 rfl fl_X6_9 ⟨by decide, by decide⟩ rfl (by first | decide | exact kd_bal (by assumption) | exact kd_let (by assumption) | assumption) ?_
      refine WE.iconst (n := 123) (nI 2) dX6_account_122 rfl (by decide) ?_
      refine WE.iald (n := 124) 2 dX6_account_123 rfl (by first | decide | assumption) rfl (by show _ < 184; omega) ?_
      refine WE.iret (ty := .int) dX6_account_124 rfl rfl ⟨by decide, by decide⟩ ?_
      simp only [Q_account, hx, nI_clamp (show 2 < 2 ^ 31 by decide), Q_accN, mQ, u2_u2, and_self, ↓reduceIte]
      exact RI.mk (by first | rfl | exact u2_ne _ _ (by decide)) rfl
    · refine WE.tsw (tgt := 125) dX6_account_6 3 (by decide) (by decide) (by decide) rfl (by decide) ?_
      refine WE.aload_n (n := 126) dX6_account_125 rfl rfl ?_
      refine WE.getR (n := 129) dX6_account_126 rfl fl_X6_9 ⟨by decide, by decide⟩ rfl (by first | decide | exact kd_bal (by assumption) | exact kd_let (by assumption) | assumption) ?_
      refine WE.iconst (n := 130) (nI 3) dX6_account_129 rfl (by decide) ?_
      refine WE.iald (n := 131) 3 dX6_account_130 rfl (by first | decide | assumption) rfl (by show _ < 184; omega) ?_
      refine WE.iret (ty := .int) dX6_account_131 rfl rfl ⟨by decide, by decide⟩ ?_
      simp only [Q_account, hx, nI_clamp (show 3 < 2 ^ 31 by decide), Q_accN, mQ, u2_u2, and_self, ↓reduceIte]
      exact RI.mk (by first | rfl | exact u2_ne _ _ (by decide)) rfl
    · refine WE.tsw (tgt := 132) dX6_account_6 4 (by decide) (by decide) (by decide) rfl (by decide) ?_
      refine WE.aload_n (n := 133) dX6_account_132 rfl rfl ?_
      refine WE.iload_n (n := 134) dX6_account_133 rfl rfl ?_
      refine WE.iconst (n := 135) (nI 4) dX6_account_134 rfl (by decide) ?_
      refine WE.isub (n := 136) dX6_account_135 rfl ?_
      rw [show nI 4 - nI 4 = nI 0 by decide]
      refine WE.V1I (M' := mX6_balloonsIn) (n := 139) dX6_account_136 rfl cv_X6_208 (by first | decide | exact kd_bal (by assumption) | exact kd_let (by assumption) | assumption) ⟨⟨by decide, by decide⟩, by decide, by decide⟩ (Nat.le_of_ble_eq_true rfl) (by have q := m_balloonsIn (u2 c 395 16 (nI 0)) od nb hnb (by rw [u2_56]; exact hc3) (nI 0); rw [u2_56] at q; exact q) ?_
      refine WE.iret (ty := .int) dX6_account_139 rfl rfl ⟨by decide, by decide⟩ ?_
      simp only [Q_account, hx, nI_clamp (show 4 < 2 ^ 31 by decide), Q_accN, mQ, u2_u2, and_self, ↓reduceIte]
      exact RI.mk (by first | rfl | exact u2_ne _ _ (by decide)) rfl
    · refine WE.tsw (tgt := 132) dX6_account_6 5 (by decide) (by decide) (by decide) rfl (by decide) ?_
      refine WE.aload_n (n := 133) dX6_account_132 rfl rfl ?_
      refine WE.iload_n (n := 134) dX6_account_133 rfl rfl ?_
      refine WE.iconst (n := 135) (nI 4) dX6_account_134 rfl (by decide) ?_
      refine WE.isub (n := 136) dX6_account_135 rfl ?_
      rw [show nI 5 - nI 4 = nI 1 by decide]
      refine WE.V1I (M' := mX6_balloonsIn) (n := 139) dX6_account_136 rfl cv_X6_208 (by first | decide | exact kd_bal (by assumption) | exact kd_let (by assumption) | assumption) ⟨⟨by decide, by decide⟩, by decide, by decide⟩ (Nat.le_of_ble_eq_true rfl) (by have q := m_balloonsIn (u2 c 395 16 (nI 0)) od nb hnb (by rw [u2_56]; exact hc3) (nI 1); rw [u2_56] at q; exact q) ?_
      refine WE.iret (ty := .int) dX6_account_139 rfl rfl ⟨by decide, by decide⟩ ?_
      simp only [Q_account, hx, nI_clamp (show 5 < 2 ^ 31 by decide), Q_accN, mQ, u2_u2, and_self, ↓reduceIte]
      exact RI.mk (by first | rfl | exact u2_ne _ _ (by decide)) rfl
    · refine WE.tsw (tgt := 132) dX6_account_6 6 (by decide) (by decide) (by decide) rfl (by decide) ?_
      refine WE.aload_n (n := 133) dX6_account_132 rfl rfl ?_
      refine WE.iload_n (n := 134) dX6_account_133 rfl rfl ?_
      refine WE.iconst (n := 135) (nI 4) dX6_account_134 rfl (by decide) ?_
      refine WE.isub (n := 136) dX6_account_135 rfl ?_
      rw [show nI 6 - nI 4 = nI 2 by decide]
      refine WE.V1I (M' := mX6_balloonsIn) (n := 139) dX6_account_136 rfl cv_X6_208 (by first | decide | exact kd_bal (by assumption) | exact kd_let (by assumption) | assumption) ⟨⟨by decide, by decide⟩, by decide, by decide⟩ (Nat.le_of_ble_eq_true rfl) (by have q := m_balloonsIn (u2 c 395 16 (nI 0)) od nb hnb (by rw [u2_56]; exact hc3) (nI 2); rw [u2_56] at q; exact q) ?_
      refine WE.iret (ty := .int) dX6_account_139 rfl rfl ⟨by decide, by decide⟩ ?_
      simp only [Q_account, hx, nI_clamp (show 6 < 2 ^ 31 by decide), Q_accN, mQ, u2_u2, and_self, ↓reduceIte]
      exact RI.mk (by first | rfl | exact u2_ne _ _ (by decide)) rfl
    · refine WE.tsw (tgt := 132) dX6_account_6 7 (by decide) (by decide) (by decide) rfl (by decide) ?_
      refine WE.aload_n (n := 133) dX6_account_132 rfl rfl ?_
      refine WE.iload_n (n := 134) dX6_account_133 rfl rfl ?_
      refine WE.iconst (n := 135) (nI 4) dX6_account_134 rfl (by decide) ?_
      refine WE.isub (n := 136) dX6_account_135 rfl ?_
      rw [show nI 7 - nI 4 = nI 3 by decide]
      refine WE.V1I (M' := mX6_balloonsIn) (n := 139) dX6_account_136 rfl cv_X6_208 (by first | decide | exact kd_bal (by assumption) | exact kd_let (by assumption) | assumption) ⟨⟨by decide, by decide⟩, by decide, by decide⟩ (Nat.le_of_ble_eq_true rfl) (by have q := m_balloonsIn (u2 c 395 16 (nI 0)) od nb hnb (by rw [u2_56]; exact hc3) (nI 3); rw [u2_56] at q; exact q) ?_
      refine WE.iret (ty := .int) dX6_account_139 rfl rfl ⟨by decide, by decide⟩ ?_
      simp only [Q_account, hx, nI_clamp (show 7 < 2 ^ 31 by decide), Q_accN, mQ, u2_u2, and_self, ↓reduceIte]
      exact RI.mk (by first | rfl | exact u2_ne _ _ (by decide)) rfl
    · refine WE.tsw (tgt := 140) dX6_account_6 8 (by decide) (by decide) (by decide) rfl (by decide) ?_
      refine WE.aload_n (n := 141) dX6_account_140 rfl rfl ?_
      refine WE.getR (n := 144) dX6_account_141 rfl fl_X6_9 ⟨by decide, by decide⟩ rfl (by first | decide | exact kd_bal (by assumption) | exact kd_let (by assumption) | assumption) ?_
      refine WE.iconst (n := 145) (nI 4) dX6_account_144 rfl (by decide) ?_
      refine WE.iald (n := 146) 4 dX6_account_145 rfl (by first | decide | assumption) rfl (by show _ < 184; omega) ?_
      refine WE.iret (ty := .int) dX6_account_146 rfl rfl ⟨by decide, by decide⟩ ?_
      simp only [Q_account, hx, nI_clamp (show 8 < 2 ^ 31 by decide), Q_accN, mQ, u2_u2, and_self, ↓reduceIte]
      exact RI.mk (by first | rfl | exact u2_ne _ _ (by decide)) rfl
    · refine WE.tsw (tgt := 147) dX6_account_6 9 (by decide) (by decide) (by decide) rfl (by decide) ?_
      refine WE.aload_n (n := 148) dX6_account_147 rfl rfl ?_
      refine WE.iload_n (n := 149) dX6_account_148 rfl rfl ?_
      refine WE.bipush (n := 151) (nI 9) dX6_account_149 rfl (by decide) ?_
      refine WE.isub (n := 152) dX6_account_151 rfl ?_
      rw [show nI 9 - nI 9 = nI 0 by decide]
      refine WE.V1I (M' := mX6_lettersIn) (n := 155) dX6_account_152 rfl cv_X6_211 (by first | decide | exact kd_bal (by assumption) | exact kd_let (by assumption) | assumption) ⟨⟨by decide, by decide⟩, by decide, by decide⟩ (Nat.le_of_ble_eq_true rfl) (by have q := m_lettersIn (u2 c 395 16 (nI 0)) od nl hnl (by rw [u2_56]; exact hc4) (nI 0); rw [u2_56] at q; exact q) ?_
      refine WE.iret (ty := .int) dX6_account_155 rfl rfl ⟨by decide, by decide⟩ ?_
      simp only [Q_account, hx, nI_clamp (show 9 < 2 ^ 31 by decide), Q_accN, mQ, u2_u2, and_self, ↓reduceIte]
      exact RI.mk (by first | rfl | exact u2_ne _ _ (by decide)) rfl
    · refine WE.tsw (tgt := 147) dX6_account_6 10 (by decide) (by decide) (by decide) rfl (by decide) ?_
      refine WE.aload_n (n := 148) dX6_account_147 rfl rfl ?_
      refine WE.iload_n (n := 149) dX6_account_148 rfl rfl ?_
      refine WE.bipush (n := 151) (nI 9) dX6_account_149 rfl (by decide) ?_
      refine WE.isub (n := 152) dX6_account_151 rfl ?_
      rw [show nI 10 - nI 9 = nI 1 by decide]
      refine WE.V1I (M' := mX6_lettersIn) (n := 155) dX6_account_152 rfl cv_X6_211 (by first | decide | exact kd_bal (by assumption) | exact kd_let (by assumption) | assumption) ⟨⟨by decide, by decide⟩, by decide, by decide⟩ (Nat.le_of_ble_eq_true rfl) (by have q := m_lettersIn (u2 c 395 16 (nI 0)) od nl hnl (by rw [u2_56]; exact hc4) (nI 1); rw [u2_56] at q; exact q) ?_
      refine WE.iret (ty := .int) dX6_account_155 rfl rfl ⟨by decide, by decide⟩ ?_
      simp only [Q_account, hx, nI_clamp (show 10 < 2 ^ 31 by decide), Q_accN, mQ, u2_u2, and_self, ↓reduceIte]
      exact RI.mk (by first | rfl | exact u2_ne _ _ (by decide)) rfl
    · refine WE.tsw (tgt := 147) dX6_account_6 11 (by decide) (by decide) (by decide) rfl (by decide) ?_
      refine WE.aload_n (n := 148) dX6_account_147 rfl rfl ?_
      refine WE.iload_n (n := 149) dX6_account_148 rfl rfl ?_
      refine WE.bipush (n := 151) (nI 9) dX6_account_149 rfl (by decide) ?_
      refine WE.isub (n := 152) dX6_account_151 rfl ?_
      rw [show nI 11 - nI 9 = nI 2 by decide]
      refine WE.V1I (M' := mX6_lettersIn) (n := 155) dX6_account_152 rfl cv_X6_211 (by first | decide | exact kd_bal (by assumption) | exact kd_let (by assumption) | assumption) ⟨⟨by decide, by decide⟩, by decide, by decide⟩ (Nat.le_of_ble_eq_true rfl) (by have q := m_lettersIn (u2 c 395 16 (nI 0)) od nl hnl (by rw [u2_56]; exact hc4) (nI 2); rw [u2_56] at q; exact q) ?_
      refine WE.iret (ty := .int) dX6_account_155 rfl rfl ⟨by decide, by decide⟩ ?_
      simp only [Q_account, hx, nI_clamp (show 11 < 2 ^ 31 by decide), Q_accN, mQ, u2_u2, and_self, ↓reduceIte]
      exact RI.mk (by first | rfl | exact u2_ne _ _ (by decide)) rfl
    · refine WE.tsw (tgt := 147) dX6_account_6 12 (by decide) (by decide) (by decide) rfl (by decide) ?_
      refine WE.aload_n (n := 148) dX6_account_147 rfl rfl ?_
      refine WE.iload_n (n := 149) dX6_account_148 rfl rfl ?_
      refine WE.bipush (n := 151) (nI 9) dX6_account_149 rfl (by decide) ?_
      refine WE.isub (n := 152) dX6_account_151 rfl ?_
      rw [show nI 12 - nI 9 = nI 3 by decide]
      refine WE.V1I (M' := mX6_lettersIn) (n := 155) dX6_account_152 rfl cv_X6_211 (by first | decide | exact kd_bal (by assumption) | exact kd_let (by assumption) | assumption) ⟨⟨by decide, by decide⟩, by decide, by decide⟩ (Nat.le_of_ble_eq_true rfl) (by have q := m_lettersIn (u2 c 395 16 (nI 0)) od nl hnl (by rw [u2_56]; exact hc4) (nI 3); rw [u2_56] at q; exact q) ?_
      refine WE.iret (ty := .int) dX6_account_155 rfl rfl ⟨by decide, by decide⟩ ?_
      simp only [Q_account, hx, nI_clamp (show 12 < 2 ^ 31 by decide), Q_accN, mQ, u2_u2, and_self, ↓reduceIte]
      exact RI.mk (by first | rfl | exact u2_ne _ _ (by decide)) rfl
    · refine WE.tsw (tgt := 156) dX6_account_6 13 (by decide) (by decide) (by decide) rfl (by decide) ?_
      refine WE.aload_n (n := 157) dX6_account_156 rfl rfl ?_
      refine WE.V0I (M' := mX6_words) (n := 160) dX6_account_157 rfl cv_X6_214 (by first | decide | exact kd_bal (by assumption) | exact kd_let (by assumption) | assumption) ⟨⟨by decide, by decide⟩, by decide, by decide⟩ (Nat.le_of_ble_eq_true rfl) (by have q := m_words (u2 c 395 16 (nI 0)) od nb hnb (by rw [u2_56]; exact hc3); rw [u2_56] at q; exact q) ?_
      refine WE.iret (ty := .int) dX6_account_160 rfl rfl ⟨by decide, by decide⟩ ?_
      simp only [Q_account, hx, nI_clamp (show 13 < 2 ^ 31 by decide), Q_accN, mQ, u2_u2, and_self, ↓reduceIte]
      exact RI.mk (by first | rfl | exact u2_ne _ _ (by decide)) rfl
    · refine WE.tsw (tgt := 161) dX6_account_6 14 (by decide) (by decide) (by decide) rfl (by decide) ?_
      refine WE.aload_n (n := 162) dX6_account_161 rfl rfl ?_
      refine WE.getR (n := 165) dX6_account_162 rfl fl_X6_9 ⟨by decide, by decide⟩ rfl (by first | decide | exact kd_bal (by assumption) | exact kd_let (by assumption) | assumption) ?_
      refine WE.iconst (n := 166) (nI 5) dX6_account_165 rfl (by decide) ?_
      refine WE.iald (n := 167) 5 dX6_account_166 rfl (by first | decide | assumption) rfl (by show _ < 184; omega) ?_
      refine WE.iret (ty := .int) dX6_account_167 rfl rfl ⟨by decide, by decide⟩ ?_
      simp only [Q_account, hx, nI_clamp (show 14 < 2 ^ 31 by decide), Q_accN, mQ, u2_u2, and_self, ↓reduceIte]
      exact RI.mk (by first | rfl | exact u2_ne _ _ (by decide)) rfl
    · refine WE.tsw (tgt := 168) dX6_account_6 15 (by decide) (by decide) (by decide) rfl (by decide) ?_
      refine WE.aload_n (n := 169) dX6_account_168 rfl rfl ?_
      refine WE.getR (n := 172) dX6_account_169 rfl fl_X6_9 ⟨by decide, by decide⟩ rfl (by first | decide | exact kd_bal (by assumption) | exact kd_let (by assumption) | assumption) ?_
      refine WE.bipush (n := 174) (nI 6) dX6_account_172 rfl (by decide) ?_
      refine WE.iald (n := 175) 6 dX6_account_174 rfl (by first | decide | assumption) rfl (by show _ < 184; omega) ?_
      refine WE.iret (ty := .int) dX6_account_175 rfl rfl ⟨by decide, by decide⟩ ?_
      simp only [Q_account, hx, nI_clamp (show 15 < 2 ^ 31 by decide), Q_accN, mQ, u2_u2, and_self, ↓reduceIte]
      exact RI.mk (by first | rfl | exact u2_ne _ _ (by decide)) rfl
    · refine WE.tsw (tgt := 176) dX6_account_6 16 (by decide) (by decide) (by decide) rfl (by decide) ?_
      refine WE.aload_n (n := 177) dX6_account_176 rfl rfl ?_
      refine WE.getR (n := 180) dX6_account_177 rfl fl_X6_9 ⟨by decide, by decide⟩ rfl (by first | decide | exact kd_bal (by assumption) | exact kd_let (by assumption) | assumption) ?_
      refine WE.bipush (n := 182) (nI 7) dX6_account_180 rfl (by decide) ?_
      refine WE.iald (n := 183) 7 dX6_account_182 rfl (by first | decide | assumption) rfl (by show _ < 184; omega) ?_
      refine WE.iret (ty := .int) dX6_account_183 rfl rfl ⟨by decide, by decide⟩ ?_
      simp only [Q_account, hx, nI_clamp (show 16 < 2 ^ 31 by decide), Q_accN, mQ, u2_u2, and_self, ↓reduceIte]
      exact RI.mk (by first | rfl | exact u2_ne _ _ (by decide)) rfl
    · refine WE.tsw (tgt := 184) dX6_account_6 17 (by decide) (by decide) (by decide) rfl (by decide) ?_
      refine WE.aload_n (n := 185) dX6_account_184 rfl rfl ?_
      refine WE.getR (n := 188) dX6_account_185 rfl fl_X6_9 ⟨by decide, by decide⟩ rfl (by first | decide | exact kd_bal (by assumption) | exact kd_let (by assumption) | assumption) ?_
      refine WE.bipush (n := 190) (nI 8) dX6_account_188 rfl (by decide) ?_
      refine WE.iald (n := 191) 8 dX6_account_190 rfl (by first | decide | assumption) rfl (by show _ < 184; omega) ?_
      refine WE.iret (ty := .int) dX6_account_191 rfl rfl ⟨by decide, by decide⟩ ?_
      simp only [Q_account, hx, nI_clamp (show 17 < 2 ^ 31 by decide), Q_accN, mQ, u2_u2, and_self, ↓reduceIte]
      exact RI.mk (by first | rfl | exact u2_ne _ _ (by decide)) rfl
    · refine WE.tsw (tgt := 192) dX6_account_6 18 (by decide) (by decide) (by decide) rfl (by decide) ?_
      refine WE.aload_n (n := 193) dX6_account_192 rfl rfl ?_
      refine WE.getR (n := 196) dX6_account_193 rfl fl_X6_9 ⟨by decide, by decide⟩ rfl (by first | decide | exact kd_bal (by assumption) | exact kd_let (by assumption) | assumption) ?_
      refine WE.bipush (n := 198) (nI 9) dX6_account_196 rfl (by decide) ?_
      refine WE.iald (n := 199) 9 dX6_account_198 rfl (by first | decide | assumption) rfl (by show _ < 184; omega) ?_
      refine WE.iret (ty := .int) dX6_account_199 rfl rfl ⟨by decide, by decide⟩ ?_
      simp only [Q_account, hx, nI_clamp (show 18 < 2 ^ 31 by decide), Q_accN, mQ, u2_u2, and_self, ↓reduceIte]
      exact RI.mk (by first | rfl | exact u2_ne _ _ (by decide)) rfl
    · refine WE.tsw (tgt := 200) dX6_account_6 19 (by decide) (by decide) (by decide) rfl (by decide) ?_
      refine WE.aload_n (n := 201) dX6_account_200 rfl rfl ?_
      refine WE.getI (n := 204) dX6_account_201 rfl fl_X6_178 ⟨by decide, by decide, rfl⟩ (by first | decide | exact kd_bal (by assumption) | exact kd_let (by assumption) | assumption) ?_
      refine WE.iret (ty := .int) dX6_account_204 rfl rfl ⟨by decide, by decide⟩ ?_
      simp only [Q_account, hx, nI_clamp (show 19 < 2 ^ 31 by decide), Q_accN, mQ, u2_u2, and_self, ↓reduceIte]
      exact RI.mk (by first | rfl | exact u2_ne _ _ (by decide)) rfl
    · refine WE.tsw (tgt := 205) dX6_account_6 20 (by decide) (by decide) (by decide) rfl (by decide) ?_
      refine WE.aload_n (n := 206) dX6_account_205 rfl rfl ?_
      refine WE.getI (n := 209) dX6_account_206 rfl fl_X6_39 ⟨by decide, by decide, rfl⟩ (by first | decide | exact kd_bal (by assumption) | exact kd_let (by assumption) | assumption) ?_
      refine WE.iret (ty := .int) dX6_account_209 rfl rfl ⟨by decide, by decide⟩ ?_
      simp only [Q_account, hx, nI_clamp (show 20 < 2 ^ 31 by decide), Q_accN, mQ, u2_u2, and_self, ↓reduceIte]
      exact RI.mk (by first | rfl | exact u2_ne _ _ (by decide)) rfl
  · refine WE.tswO (tgt := 210) dX6_account_6 (sw_out (by decide) hx) (by decide) ?_
    refine WE.aload_n (n := 211) dX6_account_210 rfl rfl ?_
    refine WE.iconst (n := 212) (nI 1) dX6_account_211 rfl (by decide) ?_
    refine WE.V1I (M' := mX6_raises) (n := 215) dX6_account_212 rfl cv_X6_55 (by first | decide | exact kd_bal (by assumption) | exact kd_let (by assumption) | assumption) ⟨⟨by decide, by decide⟩, by decide, by decide⟩ (Nat.le_of_ble_eq_true rfl) (m_raises _ _ _) ?_
    refine WE.iret (ty := .int) dX6_account_215 rfl rfl ⟨by decide, by decide⟩ ?_
    simp only [Q_account, hx, mQ, u2_u2, ↓reduceIte]
    exact RI.mk rfl rfl
