/-! what the tables and the premises give of the start -/
section STF
variable {s : State} {args : Array Value}
def PRE : Cond := Jvm.Cond.and given_1 narrow_1
theorem st_str {own : String} {k : Nat} {tx : String} (hts : ∀ w ∈ lw_tbl, w.before args s = true) (hgv : ∀ w ∈ flatC PRE, w.before args s = true) (h1 : Cond.stringRef own k tx ∈ lw_tbl) (h2 : Cond.exactly (.string own k) "java/lang/String" ∈ flatC PRE) : ∃ sa, vk_R own k tx sa s := by
  obtain ⟨a, c, cA, kA, q1, -⟩ := Cond.exactly_spec (args := args) (first := s) (o := none) (s := s) (idx := []) (t := .string own k) (cls := "java/lang/String") (hgv _ h2)
  exact ⟨a, vk_R.of (A := args) (hts _ h1) q1⟩
theorem st_KF (hts : ∀ w ∈ lw_tbl, w.before args s = true) (hgv : ∀ w ∈ flatC PRE, w.before args s = true) : KF s := by
  refine ⟨fun w hw hk => ?_, fun q hq => ?_, fun q hq => ?_⟩
  · by_cases hm : (w.onTables && w.keepsFace) = true
    · rw [Bool.and_eq_true] at hm
      exact va_tabs hm.1 rfl (hts w hw)
    · cases w <;> first
        | exact va_tabs rfl rfl (hts _ hw)
        | (exfalso; simp only [kfw, Bool.or_false] at hk; exact hm hk)
  · simp only [KStr, List.mem_cons, List.not_mem_nil, or_false] at hq
    rcases hq with rfl | rfl | rfl | rfl | rfl | rfl | rfl | rfl | rfl | rfl | rfl | rfl | rfl | rfl | rfl | rfl | rfl | rfl | rfl | rfl
    · exact st_str hts hgv t_388 (List.mem_of_getElem? (i := 345) (by decide +kernel))
    · exact st_str hts hgv t_424 (List.mem_of_getElem? (i := 391) (by decide +kernel))
    · exact st_str hts hgv t_440 (List.mem_of_getElem? (i := 419) (by decide +kernel))
    · exact st_str hts hgv t_653 (List.mem_of_getElem? (i := 456) (by decide +kernel))
    · exact st_str hts hgv t_654 (List.mem_of_getElem? (i := 484) (by decide +kernel))
    · exact st_str hts hgv t_1003 (List.mem_of_getElem? (i := 880) (by decide +kernel))
    · exact st_str hts hgv t_1004 (List.mem_of_getElem? (i := 907) (by decide +kernel))
    · exact st_str hts hgv t_681 (List.mem_of_getElem? (i := 512) (by decide +kernel))
    · exact st_str hts hgv t_699 (List.mem_of_getElem? (i := 538) (by decide +kernel))
    · exact st_str hts hgv t_718 (List.mem_of_getElem? (i := 577) (by decide +kernel))
    · exact st_str hts hgv t_730 (List.mem_of_getElem? (i := 605) (by decide +kernel))
    · exact st_str hts hgv t_739 (List.mem_of_getElem? (i := 632) (by decide +kernel))
    · exact st_str hts hgv t_761 (List.mem_of_getElem? (i := 676) (by decide +kernel))
    · exact st_str hts hgv t_815 (List.mem_of_getElem? (i := 697) (by decide +kernel))
    · exact st_str hts hgv t_938 (List.mem_of_getElem? (i := 857) (by decide +kernel))
    · exact st_str hts hgv t_842 (List.mem_of_getElem? (i := 722) (by decide +kernel))
    · exact st_str hts hgv t_887 (List.mem_of_getElem? (i := 750) (by decide +kernel))
    · exact st_str hts hgv t_902 (List.mem_of_getElem? (i := 771) (by decide +kernel))
    · exact st_str hts hgv t_915 (List.mem_of_getElem? (i := 806) (by decide +kernel))
    · exact st_str hts hgv t_923 (List.mem_of_getElem? (i := 833) (by decide +kernel))
  · simp only [NcL, List.mem_cons, List.not_mem_nil, or_false] at hq
    rcases hq with rfl | rfl | rfl | rfl | rfl
    · exact va_Nc.of (hgv _ (List.mem_of_getElem? (i := 252) (by decide +kernel)))
    · exact va_Nc.of (hgv _ (List.mem_of_getElem? (i := 253) (by decide +kernel)))
    · exact va_Nc.of (hgv _ (List.mem_of_getElem? (i := 225) (by decide +kernel)))
    · exact va_Nc.of (hgv _ (List.mem_of_getElem? (i := 254) (by decide +kernel)))
    · exact va_Nc.of (hgv _ (List.mem_of_getElem? (i := 227) (by decide +kernel)))
abbrev lit (k : Nat) : Term := .string "SiegePostLaw" k
abbrev litv (k : Nat) : Term := .field (lit k) "java/lang/String" "value" "[B"
theorem st_lit {k : Nat} {tx : String} {bs : List Int32} {A : Nat → Prop} (hts : ∀ w ∈ lw_tbl, w.before args s = true) (hgv : ∀ w ∈ flatC PRE, w.before args s = true) (h1 : Cond.stringRef "SiegePostLaw" k tx ∈ lw_tbl) (h2 : Cond.exactly (lit k) "java/lang/String" ∈ flatC PRE) (h3 : Cond.eq (.field (lit k) "java/lang/String" "coder" "B") (.int 0) ∈ flatC PRE) (h4 : Cond.arrayOf (litv k) .byte ∈ flatC PRE) (h5 : Cond.eq (.length (litv k)) (.int (Int32.ofNat bs.length)) ∈ flatC PRE) (h6 : ∀ j, j < bs.length → Cond.eq (.elem (litv k) (.int (Int32.ofNat j))) (.int (bs.getD j 0)) ∈ flatC PRE) (hl : bs.length < 2 ^ 31) (hA : ∀ a : Nat, a < s.heap.size → ¬ A a) : ∃ sa va : Nat, vk_R "SiegePostLaw" k tx sa s ∧ vk_S 1 [bs.length] [bs] (fun _ => sa) (fun _ => va) A s s.heap := by
  have e1 : ∀ i : Nat, i < 1 → i = 0 := fun i h => by omega
  obtain ⟨adK, adV, g1, g2⟩ := vk_Sof (args := args) (s := s) (N := 1) (tm := fun _ => lit k) (len := [bs.length]) (byt := [bs]) (A := A)
    (fun i hi => by
      obtain rfl := e1 i hi
      exact hl)
    (fun i hi => hgv _ h2) (fun i hi => hgv _ h3) (fun i hi => hgv _ h4)
    (fun i hi => by
      obtain rfl := e1 i hi
      exact hgv _ h5)
    (fun i hi j hj => by
      obtain rfl := e1 i hi
      exact hgv _ (h6 j hj))
    (fun i j hi hj hij => absurd ((e1 i hi).trans (e1 j hj).symm) hij) hA
  refine ⟨adK 0, adV 0, vk_R.of (A := args) (hts _ h1) (g2 0 (by decide)), fun i hi => ?_, fun i j hi hj _ => (e1 i hi).trans (e1 j hj).symm⟩
  obtain rfl := e1 i hi
  exact g1.1 0 hi
abbrev dgt : Term := .static "java/lang/Integer" "DigitOnes" "[B"
theorem dgt_all : ((flatC PRE).drop 14).take 100 = (List.range 100).map (fun j => Cond.eq (.elem dgt (.int (Int32.ofNat j))) (.int (nI (48 + j % 10)))) := by decide +kernel
theorem dgt_in (j : Nat) (hj : j < 100) : Cond.eq (.elem dgt (.int (Int32.ofNat j))) (.int (nI (48 + j % 10))) ∈ flatC PRE := by
  have h : Cond.eq (.elem dgt (.int (Int32.ofNat j))) (.int (nI (48 + j % 10))) ∈ ((flatC PRE).drop 14).take 100 := by
    rw [dgt_all]
    exact List.mem_map.mpr ⟨j, List.mem_range.mpr hj, rfl⟩
  exact List.mem_of_mem_drop (List.mem_of_mem_take h)
theorem st_dgt {A : Nat → Prop} (hts : ∀ w ∈ lw_tbl, w.before args s = true) (hgv : ∀ w ∈ flatC PRE, w.before args s = true) (hA : ∀ a : Nat, a < s.heap.size → ¬ A a) : ∃ t : Nat, va_Z "java/lang/Integer" "DigitOnes" "[B" (.ref t) A s s.heap ∧ va_T .byte t 100 (fun j => .int (nI (48 + j % 10))) A s s.heap := by
  obtain ⟨t, h1, h2⟩ := va_Tof (args := args) (s := s) (tm := dgt) (ty := .byte) (N := 100) (f := fun j => .int (nI (48 + j % 10))) (A := A) (by decide) (hgv _ (List.mem_of_getElem? (i := 12) (by decide +kernel))) (va_eqt (hgv _ (List.mem_of_getElem? (i := 13) (by decide +kernel)))) (fun j hj => va_eqt (hgv _ (dgt_in j hj))) hA
  exact ⟨t, va_Zref (args := args) (hts _ t_1198) (hts _ (WG_tbl g_50)) h1 hA, h2⟩
theorem st_ZQ (hts : ∀ w ∈ lw_tbl, w.before args s = true) (hgv : ∀ w ∈ flatC PRE, w.before args s = true) {A : Nat → Prop} (hA : ∀ a : Nat, a < s.heap.size → ¬ A a) : ZQ A s s.heap := by
  refine ⟨vx_Zqof (args := args) (hts _ t_370) (hts _ (WG_tbl g_27)) (hgv _ (List.mem_of_getElem? (i := 4) (by decide +kernel))) hA, vx_Zqof (args := args) (hts _ t_372) (hts _ (WG_tbl g_27)) (hgv _ (List.mem_of_getElem? (i := 5) (by decide +kernel))) hA, va_Zof (args := args) (hts _ t_1046) (hts _ (WG_tbl g_36)) (va_eqi (hgv _ (List.mem_of_getElem? (i := 6) (by decide +kernel)))) hA, va_Zqof (args := args) (hts _ t_1128) (hts _ (WG_tbl g_43)) (hgv _ (List.mem_of_getElem? (i := 7) (by decide +kernel))) hA, st_dgt hts hgv hA, fun q hq => ?_⟩
  simp only [LitL, List.mem_cons, List.not_mem_nil, or_false] at hq
  rcases hq with rfl | rfl | rfl | rfl | rfl | rfl | rfl | rfl
  · exact st_lit hts hgv t_1067 (List.mem_of_getElem? (i := 934) (by decide +kernel)) (List.mem_of_getElem? (i := 935) (by decide +kernel)) (List.mem_of_getElem? (i := 936) (by decide +kernel)) (List.mem_of_getElem? (i := 937) (by decide +kernel)) (fun j hj => by
    have hj : j < 1 := hj
    obtain rfl : j = 0 := by omega
    exact (List.mem_of_getElem? (i := 938) (by decide +kernel))) (by decide) hA
  · exact st_lit hts hgv t_1209 (List.mem_of_getElem? (i := 939) (by decide +kernel)) (List.mem_of_getElem? (i := 940) (by decide +kernel)) (List.mem_of_getElem? (i := 941) (by decide +kernel)) (List.mem_of_getElem? (i := 942) (by decide +kernel)) (fun j hj => by
    have hj : j < 2 := hj
    rcases (show j = 0 ∨ j = 1 by omega) with rfl | rfl
    · exact (List.mem_of_getElem? (i := 943) (by decide +kernel))
    · exact (List.mem_of_getElem? (i := 944) (by decide +kernel))) (by decide) hA
  · exact st_lit hts hgv t_1210 (List.mem_of_getElem? (i := 945) (by decide +kernel)) (List.mem_of_getElem? (i := 946) (by decide +kernel)) (List.mem_of_getElem? (i := 947) (by decide +kernel)) (List.mem_of_getElem? (i := 948) (by decide +kernel)) (fun j hj => by
    have hj : j < 2 := hj
    rcases (show j = 0 ∨ j = 1 by omega) with rfl | rfl
    · exact (List.mem_of_getElem? (i := 949) (by decide +kernel))
    · exact (List.mem_of_getElem? (i := 950) (by decide +kernel))) (by decide) hA
  · exact st_lit hts hgv t_1274 (List.mem_of_getElem? (i := 958) (by decide +kernel)) (List.mem_of_getElem? (i := 959) (by decide +kernel)) (List.mem_of_getElem? (i := 960) (by decide +kernel)) (List.mem_of_getElem? (i := 961) (by decide +kernel)) (fun j hj => by
    have hj : j < 1 := hj
    obtain rfl : j = 0 := by omega
    exact (List.mem_of_getElem? (i := 962) (by decide +kernel))) (by decide) hA
  · exact st_lit hts hgv t_1275 (List.mem_of_getElem? (i := 963) (by decide +kernel)) (List.mem_of_getElem? (i := 964) (by decide +kernel)) (List.mem_of_getElem? (i := 965) (by decide +kernel)) (List.mem_of_getElem? (i := 966) (by decide +kernel)) (fun j hj => by
    have hj : j < 5 := hj
    rcases (show j = 0 ∨ j = 1 ∨ j = 2 ∨ j = 3 ∨ j = 4 by omega) with rfl | rfl | rfl | rfl | rfl
    · exact (List.mem_of_getElem? (i := 967) (by decide +kernel))
    · exact (List.mem_of_getElem? (i := 968) (by decide +kernel))
    · exact (List.mem_of_getElem? (i := 969) (by decide +kernel))
    · exact (List.mem_of_getElem? (i := 970) (by decide +kernel))
    · exact (List.mem_of_getElem? (i := 971) (by decide +kernel))) (by decide) hA
  · exact st_lit hts hgv t_1276 (List.mem_of_getElem? (i := 972) (by decide +kernel)) (List.mem_of_getElem? (i := 973) (by decide +kernel)) (List.mem_of_getElem? (i := 974) (by decide +kernel)) (List.mem_of_getElem? (i := 975) (by decide +kernel)) (fun j hj => by
    have hj : j < 2 := hj
    rcases (show j = 0 ∨ j = 1 by omega) with rfl | rfl
    · exact (List.mem_of_getElem? (i := 976) (by decide +kernel))
    · exact (List.mem_of_getElem? (i := 977) (by decide +kernel))) (by decide) hA
  · exact st_lit hts hgv t_1308 (List.mem_of_getElem? (i := 978) (by decide +kernel)) (List.mem_of_getElem? (i := 979) (by decide +kernel)) (List.mem_of_getElem? (i := 980) (by decide +kernel)) (List.mem_of_getElem? (i := 981) (by decide +kernel)) (fun j hj => by
    have hj : j < 1 := hj
    obtain rfl : j = 0 := by omega
    exact (List.mem_of_getElem? (i := 982) (by decide +kernel))) (by decide) hA
  · exact st_lit hts hgv t_1309 (List.mem_of_getElem? (i := 983) (by decide +kernel)) (List.mem_of_getElem? (i := 984) (by decide +kernel)) (List.mem_of_getElem? (i := 985) (by decide +kernel)) (List.mem_of_getElem? (i := 986) (by decide +kernel)) (fun j hj => by
    have hj : j < 5 := hj
    rcases (show j = 0 ∨ j = 1 ∨ j = 2 ∨ j = 3 ∨ j = 4 by omega) with rfl | rfl | rfl | rfl | rfl
    · exact (List.mem_of_getElem? (i := 987) (by decide +kernel))
    · exact (List.mem_of_getElem? (i := 988) (by decide +kernel))
    · exact (List.mem_of_getElem? (i := 989) (by decide +kernel))
    · exact (List.mem_of_getElem? (i := 990) (by decide +kernel))
    · exact (List.mem_of_getElem? (i := 991) (by decide +kernel))) (by decide) hA
theorem st_K (hts : ∀ w ∈ lw_tbl, w.before args s = true) : ∃ (D : va_G) (aC : Nat → ClassId), va_K D vwc (tysOf aC) s := by
  have hw : ∀ w ∈ WG, w.before args s = true := fun w h => hts w (WG_tbl h)
  have h0 : ∀ k, ∃ q : ClassId × (Nat → Nat), k < 8 → u_Kn s (cR k) (cT k) (cN k) q.1 q.2 := by
    intro k
    by_cases hk : k < 8
    · have hi : ∃ n, Cond.instantiable (cR k) n ∈ WG := by
        rcases (show k = 0 ∨ k = 1 ∨ k = 2 ∨ k = 3 ∨ k = 4 ∨ k = 5 ∨ k = 6 ∨ k = 7 by omega) with rfl | rfl | rfl | rfl | rfl | rfl | rfl | rfl
        · exact ⟨_, g_69⟩
        · exact ⟨_, g_208⟩
        · exact ⟨_, g_130⟩
        · exact ⟨_, g_230⟩
        · exact ⟨_, g_60⟩
        · exact ⟨_, g_52⟩
        · exact ⟨_, g_486⟩
        · exact ⟨_, g_1037⟩
      obtain ⟨n, hn⟩ := hi
      obtain ⟨cC, iS, h⟩ := u_known (C := cR k) (T := cT k) (N := cN k) (n := n) hw (inWd8 hk) (hw _ hn)
      exact ⟨(cC, iS), fun _ => h⟩
    · exact ⟨(0, fun _ => 0), fun h => absurd h hk⟩
  have arr : ∀ ty : FieldType, (∀ C, ty ≠ .object C) → Cond.arrayClass ty ∈ WG → ∃ cA, ArrOfT s cA ty ∧ va_RA s cA ty := by
    intro ty hty h
    obtain ⟨c, k, comp, h1, h2, h3⟩ := Cond.arrayClass_spec (args := args) (first := s) (o := none) (s := s) (idx := []) (hw _ h)
    refine ⟨c, fun n z => ⟨(fun k h => by cases h), k, h2, comp, h3⟩, ?_⟩
    cases ty with
    | object C => exact absurd rfl (hty C)
    | _ => exact h1
  have obj : ∀ C : String, Cond.arrayOver (.object C) ∈ lw_tbl → ∃ cA, ArrOfT s cA (.object C) ∧ va_RA s cA (.object C) := by
    intro C h
    obtain ⟨comp, c, k, h1, h2, h3, h4, h5⟩ := Cond.arrayOver_spec (hts _ h)
    exact ⟨c, fun n z => ⟨(fun k h => by cases h), k, h3, comp, h4⟩, k, comp, h3, h4, h1, h5⟩
  obtain ⟨F, hF⟩ := Classical.axiomOfChoice h0
  obtain ⟨a0, ha0⟩ := arr .int (fun C h => by cases h) g_129
  obtain ⟨a1, ha1⟩ := arr .char (fun C h => by cases h) g_270
  obtain ⟨a2, ha2⟩ := obj RX0 t_66
  obtain ⟨a3, ha3⟩ := obj RX2 t_68
  obtain ⟨a4, ha4⟩ := obj RX4 t_214
  obtain ⟨a5, ha5⟩ := arr .long (fun C h => by cases h) g_1311
  obtain ⟨a6, ha6⟩ := arr .byte (fun C h => by cases h) g_414
  refine ⟨(fun k => (F k).1, fun k => (F k).2), fun k => [a0, a1, a2, a3, a4, a5, a6].getD k 0, fun k q hq => ?_, fun k q hq => ?_⟩
  · have hk : k < 8 := (List.getElem?_eq_some_iff.mp hq).1
    rw [vwc_at8 hk] at hq
    cases hq
    exact hF k hk
  · have hk : k < 7 := (List.getElem?_eq_some_iff.mp hq).1
    rcases (show k = 0 ∨ k = 1 ∨ k = 2 ∨ k = 3 ∨ k = 4 ∨ k = 5 ∨ k = 6 by omega) with rfl | rfl | rfl | rfl | rfl | rfl | rfl
    all_goals cases hq
    · exact ha0
    · exact ha1
    · exact ha2
    · exact ha3
    · exact ha4
    · exact ha5
    · exact ha6
theorem st_NF (hts : ∀ w ∈ lw_tbl, w.before args s = true) (hgv : ∀ w ∈ flatC PRE, w.before args s = true) : NFo s :=
  ⟨st_KF hts hgv, va_AO.of (hts _ t_66), va_AO.of (hts _ t_68), va_AO.of (hts _ t_214)⟩
end STF
