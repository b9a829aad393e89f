/-! what the tables and the premises give of the start -/
section STF
variable {s : State} {args : Array Value}
def PRE : Cond := Jvm.Cond.and given_1 narrow_1
theorem st_str {own : String} {k : Nat} {tx : String} (hts : ∀ w ∈ lw_tbl, w.before args s = true) (hgv : ∀ w ∈ flatC PRE, w.before args s = true) (h1 : Cond.stringRef own k tx ∈ lw_tbl) (h2 : Cond.exactly (.string own k) "java/lang/String" ∈ flatC PRE) : ∃ sa, vk_R own k tx sa s := by
  obtain ⟨a, c, cA, kA, q1, -⟩ := Cond.exactly_spec (args := args) (first := s) (o := none) (s := s) (idx := []) (t := .string own k) (cls := "java/lang/String") (hgv _ h2)
  exact ⟨a, vk_R.of (A := args) (hts _ h1) q1⟩
theorem st_KF (hts : ∀ w ∈ lw_tbl, w.before args s = true) (hgv : ∀ w ∈ flatC PRE, w.before args s = true) : KF s := by
  refine ⟨fun w hw hk => ?_, fun q hq => ?_, fun q hq => ?_⟩
  · by_cases hm : (w.onTables && w.keepsFace) = true
    · rw [Bool.and_eq_true] at hm
      exact va_tabs hm.1 rfl (hts w hw)
    · cases w <;> first
        | exact va_tabs rfl rfl (hts _ hw)
        | (exfalso; simp only [kfw, Bool.or_false] at hk; exact hm hk)
  · simp only [KStr, List.mem_cons, List.not_mem_nil, or_false] at hq
    rcases hq with rfl | rfl | rfl | rfl | rfl | rfl | rfl | rfl | rfl | rfl | rfl | rfl | rfl | rfl | rfl | rfl | rfl | rfl | rfl | rfl
    · exact st_str hts hgv t_419 (by decide +kernel)
    · exact st_str hts hgv t_455 (by decide +kernel)
    · exact st_str hts hgv t_471 (by decide +kernel)
    · exact st_str hts hgv t_720 (by decide +kernel)
    · exact st_str hts hgv t_721 (by decide +kernel)
    · exact st_str hts hgv t_735 (by decide +kernel)
    · exact st_str hts hgv t_736 (by decide +kernel)
    · exact st_str hts hgv t_777 (by decide +kernel)
    · exact st_str hts hgv t_795 (by decide +kernel)
    · exact st_str hts hgv t_823 (by decide +kernel)
    · exact st_str hts hgv t_835 (by decide +kernel)
    · exact st_str hts hgv t_844 (by decide +kernel)
    · exact st_str hts hgv t_866 (by decide +kernel)
    · exact st_str hts hgv t_920 (by decide +kernel)
    · exact st_str hts hgv t_939 (by decide +kernel)
    · exact st_str hts hgv t_947 (by decide +kernel)
    · exact st_str hts hgv t_988 (by decide +kernel)
    · exact st_str hts hgv t_1002 (by decide +kernel)
    · exact st_str hts hgv t_1014 (by decide +kernel)
    · exact st_str hts hgv t_1022 (by decide +kernel)
  · have h : ∀ q ∈ NcL, Cond.not (.castable q.1 q.2) ∈ flatC PRE := by decide +kernel
    exact va_Nc.of (hgv _ (h q hq))
theorem st_ZQ (hts : ∀ w ∈ lw_tbl, w.before args s = true) (hgv : ∀ w ∈ flatC PRE, w.before args s = true) {A : Nat → Prop} (hA : ∀ a : Nat, a < s.heap.size → ¬ A a) : ZQ A s s.heap := by
  refine ⟨vx_Zqof (args := args) (hts _ t_401) (hts _ (WG_tbl g_68)) (hgv _ (by decide +kernel)) hA, vx_Zqof (args := args) (hts _ t_403) (hts _ (WG_tbl g_68)) (hgv _ (by decide +kernel)) hA, va_Zof (args := args) (hts _ t_1296) (hts _ (WG_tbl g_75)) (va_eqi (hgv _ (by decide +kernel))) hA, va_Zqof (args := args) (hts _ t_1304) (hts _ (WG_tbl g_79)) (hgv _ (by decide +kernel)) hA, ?_⟩
  have e1 : ∀ i : Nat, i < 1 → i = 0 := fun i h => by omega
  obtain ⟨adK, adV, h1, h2⟩ := vk_Sof (args := args) (s := s) (N := 1) (tm := fun _ => .string "SiegePostModel" 161) (len := [4]) (byt := [[116, 97, 108, 120]]) (A := A)
    (fun i hi => by
      obtain rfl := e1 i hi
      decide)
    (fun i hi => hgv _ (by decide +kernel)) (fun i hi => hgv _ (by decide +kernel)) (fun i hi => hgv _ (by decide +kernel))
    (fun i hi => by
      obtain rfl := e1 i hi
      exact hgv _ (by decide +kernel))
    (fun i hi j hj => by
      obtain rfl := e1 i hi
      have hj : j < 4 := hj
      rcases (show j = 0 ∨ j = 1 ∨ j = 2 ∨ j = 3 by omega) with rfl | rfl | rfl | rfl
      · exact hgv _ (by decide +kernel)
      · exact hgv _ (by decide +kernel)
      · exact hgv _ (by decide +kernel)
      · exact hgv _ (by decide +kernel))
    (fun i j hi hj hij => absurd ((e1 i hi).trans (e1 j hj).symm) hij) hA
  refine ⟨adK 0, adV 0, vk_R.of (A := args) (hts _ t_1286) (h2 0 (by decide)), fun i hi => ?_, fun i j hi hj _ => (e1 i hi).trans (e1 j hj).symm⟩
  obtain rfl := e1 i hi
  exact h1.1 0 hi
theorem st_K (hts : ∀ w ∈ lw_tbl, w.before args s = true) : ∃ (D : va_G) (aC : Nat → ClassId), va_K D vwc (tysOf aC) s := by
  have hw : ∀ w ∈ WG, w.before args s = true := fun w h => hts w (WG_tbl h)
  have h0 : ∀ k, ∃ q : ClassId × (Nat → Nat), k < 7 → u_Kn s (cR k) (cT k) (cN k) q.1 q.2 := by
    intro k
    by_cases hk : k < 7
    · have hi : ∃ n, Cond.instantiable (cR k) n ∈ WG := by
        rcases (show k = 0 ∨ k = 1 ∨ k = 2 ∨ k = 3 ∨ k = 4 ∨ k = 5 ∨ k = 6 by omega) with rfl | rfl | rfl | rfl | rfl | rfl | rfl
        · exact ⟨_, g_101⟩
        · exact ⟨_, g_240⟩
        · exact ⟨_, g_162⟩
        · exact ⟨_, g_262⟩
        · exact ⟨_, g_92⟩
        · exact ⟨_, g_84⟩
        · exact ⟨_, g_1028⟩
      obtain ⟨n, hn⟩ := hi
      obtain ⟨cC, iS, h⟩ := u_known (C := cR k) (T := cT k) (N := cN k) (n := n) hw (inWd hk) (hw _ hn)
      exact ⟨(cC, iS), fun _ => h⟩
    · exact ⟨(0, fun _ => 0), fun h => absurd h hk⟩
  have arr : ∀ ty : FieldType, (∀ C, ty ≠ .object C) → Cond.arrayClass ty ∈ WG → ∃ cA, ArrOfT s cA ty ∧ va_RA s cA ty := by
    intro ty hty h
    obtain ⟨c, k, comp, h1, h2, h3⟩ := Cond.arrayClass_spec (args := args) (first := s) (o := none) (s := s) (idx := []) (hw _ h)
    refine ⟨c, fun n z => ⟨(fun k h => by cases h), k, h2, comp, h3⟩, ?_⟩
    cases ty with
    | object C => exact absurd rfl (hty C)
    | _ => exact h1
  have obj : ∀ C : String, Cond.arrayOver (.object C) ∈ lw_tbl → ∃ cA, ArrOfT s cA (.object C) ∧ va_RA s cA (.object C) := by
    intro C h
    obtain ⟨comp, c, k, h1, h2, h3, h4, h5⟩ := Cond.arrayOver_spec (hts _ h)
    exact ⟨c, fun n z => ⟨(fun k h => by cases h), k, h3, comp, h4⟩, k, comp, h3, h4, h1, h5⟩
  obtain ⟨F, hF⟩ := Classical.axiomOfChoice h0
  obtain ⟨a0, ha0⟩ := arr .int (fun C h => by cases h) g_161
  obtain ⟨a1, ha1⟩ := arr .char (fun C h => by cases h) g_302
  obtain ⟨a2, ha2⟩ := obj RX0 t_98
  obtain ⟨a3, ha3⟩ := obj RX2 t_100
  obtain ⟨a4, ha4⟩ := obj RX4 t_246
  obtain ⟨a5, ha5⟩ := arr .long (fun C h => by cases h) g_1435
  obtain ⟨a6, ha6⟩ := arr .double (fun C h => by cases h) g_1436
  refine ⟨(fun k => (F k).1, fun k => (F k).2), fun k => [a0, a1, a2, a3, a4, a5, a6].getD k 0, fun k q hq => ?_, fun k q hq => ?_⟩
  · have hk : k < 7 := (List.getElem?_eq_some_iff.mp hq).1
    rw [vwc_at hk] at hq
    cases hq
    exact hF k hk
  · have hk : k < 7 := (List.getElem?_eq_some_iff.mp hq).1
    rcases (show k = 0 ∨ k = 1 ∨ k = 2 ∨ k = 3 ∨ k = 4 ∨ k = 5 ∨ k = 6 by omega) with rfl | rfl | rfl | rfl | rfl | rfl | rfl
    all_goals cases hq
    · exact ha0
    · exact ha1
    · exact ha2
    · exact ha3
    · exact ha4
    · exact ha5
    · exact ha6
theorem st_NF (hts : ∀ w ∈ lw_tbl, w.before args s = true) (hgv : ∀ w ∈ flatC PRE, w.before args s = true) : NFo s :=
  ⟨st_KF hts hgv, va_AO.of (hts _ t_98), va_AO.of (hts _ t_100), va_AO.of (hts _ t_246)⟩
end STF
