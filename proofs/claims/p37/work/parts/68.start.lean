/-! THE START: what the constructors leave, as the world of ints -/
def cZ : CC := fun i k => match KD i with
  | 0 => if k = 9 ∨ k = 10 then nI 20 else 0
  | 2 => if k = 2 then (-1 : Int32) else 0
  | 3 => if k = 7 then (-1 : Int32) else 0
  | 4 => if k = 7 then nI 5 else if k = 8 then nI 100 else 0
  | _ => 0
theorem cZ_0 {i : Nat} (h : KD i = 0) (k : Nat) : cZ i k = if k = 9 ∨ k = 10 then nI 20 else 0 := by
  unfold cZ
  rw [h]
  rfl
theorem cZ_2 {i : Nat} (h : KD i = 2) (k : Nat) : cZ i k = if k = 2 then (-1 : Int32) else 0 := by
  unfold cZ
  rw [h]
  rfl
theorem cZ_4 {i : Nat} (h : KD i = 4) (k : Nat) : cZ i k = if k = 7 then nI 5 else if k = 8 then nI 100 else 0 := by
  unfold cZ
  rw [h]
  rfl
theorem cZ_10 {i : Nat} (h : KD i = 10) (k : Nat) : cZ i k = 0 := by
  unfold cZ
  rw [h]
  rfl
theorem cZ_11 {i : Nat} (h : KD i = 11) (k : Nat) : cZ i k = 0 := by
  unfold cZ
  rw [h]
  rfl
def AZ : AS := (E0, [], none, 0, cZ 390, (-1 : Int32), (0, 0))
theorem nbZ : nbN (E0) = 0 := by decide
theorem nlZ : nlN (E0) = 0 := by decide
theorem freZ : ∀ j, j < 6 → ∀ k, k < 12 → cZ (1 + 5 + j) k = if k = 9 ∨ k = 10 then nI 20 else nI 0 := by decide +kernel
theorem letZ : ∀ l, l < 24 → cZ (1 + 11 + l) 2 = (-1 : Int32) := by decide +kernel
theorem inZ : IN (E0) := by
  refine ⟨⟨by rw [nbZ]; decide, by decide, by rw [nlZ]; decide, by decide⟩, ⟨5, by decide, by decide, by decide⟩, ⟨100, by decide, by decide⟩, by decide +kernel, fun j hj => ?_, fun l hl => ?_, by decide +kernel⟩
  · rw [nbZ] at hj
    exact absurd hj (Nat.not_lt_zero _)
  · rw [nlZ] at hl
    exact absurd hl (Nat.not_lt_zero _)
theorem relZ : RelT cZ 1 (E0) := by
  refine ⟨by decide +kernel, by decide +kernel, fun j hj => ?_, fun j _ hj => freZ j hj, fun l hl => ?_, fun l _ hl => letZ l hl⟩
  · rw [nbZ] at hj
    exact absurd hj (Nat.not_lt_zero _)
  · rw [nlZ] at hl
    exact absurd hl (Nat.not_lt_zero _)
theorem caZ : CA cZ AZ := ⟨inZ, relZ, ⟨by decide, by decide, 0, by decide, by decide, fun t S h => by cases h⟩, (by decide : cZ 0 5 = nI 0), by decide, by decide, rfl, by decide, by decide, by decide⟩
theorem arrN (cA : ClassId) {n : Nat} {f g : Nat → Value} (h : ∀ k, k < n → f k = g k) : arrV cA n f = arrV cA n g := by
  unfold arrV
  have e : (fun j : Fin n => f j.val) = fun j : Fin n => g j.val := funext fun j => h j.val j.isLt
  rw [e]
section ATZ
variable {D : va_G} {aC : Nat → ClassId} {z : Nat} {H : Heap}
theorem at_int {i N t : Nat} {g : Nat → Int32} (hK : KD i = 10 ∧ t = 0 ∨ KD i = 11 ∧ t = 1) (hL : LN i = N) (hc : ∀ k, k < N → cZ i k = g k) (h : va_at D vwc (z + i, abE z aC (.inr (.inl (t, N, g)))) H) : va_at D vwc (z + i, cE z aC (cZ, 0, 0) i) H := by
  subst hL
  have e : ∀ d t, KD i = d → (d = 10 ∨ d = 11) → d - 10 = t → va_at D vwc (z + i, abE z aC (.inr (.inl (t, LN i, g)))) H → va_at D vwc (z + i, cE z aC (cZ, 0, 0) i) H := by
    intro d t h1 h2 h3 h
    subst h3
    rw [cE_int h1 h2]
    refine Eq.trans h (congrArg some ?_)
    show arrV (aC (d - 10)) (LN i) (fun j => Value.int (g j)) = arrV (aC (d - 10)) (LN i) (fun j => Value.int (cZ i j))
    exact arrN _ (fun k hk => by rw [hc k hk])
  rcases hK with ⟨h1, rfl⟩ | ⟨h1, rfl⟩
  · exact e 10 0 h1 (Or.inl rfl) rfl h
  · exact e 11 1 h1 (Or.inr rfl) rfl h
theorem at_ref {i N d t : Nat} {g : Nat → Option Nat} (hK : KD i = d) (hd : d = 12 ∧ t = 2 ∨ d = 13 ∧ t = 3 ∨ d = 14 ∧ t = 4) (hL : LN i = N) (hc : ∀ k, k < N → g k = RO d i k) (h : va_at D vwc (z + i, abE z aC (.inr (.inr (.inl (t, N, g))))) H) : va_at D vwc (z + i, cE z aC (cZ, 0, 0) i) H := by
  subst hL
  rw [cE_ref hK (by omega)]
  have ht : t = d - 10 := by omega
  subst ht
  refine Eq.trans h (congrArg some ?_)
  show arrV (aC (d - 10)) (LN i) (fun j => va_rf ((g j).map (z + ·))) = arrV (aC (d - 10)) (LN i) (fun j => va_rf ((RO d i j).map (z + ·)))
  exact arrN _ (fun k hk => by rw [hc k hk])
theorem at_obj {i d : Nat} {fs : List Value} (hK : KD i = d) (hd : d < 7) (hc : fs.map (trv z) = (List.range (cN d)).map (fV z cZ d i)) (h : va_at D vwc (z + i, abE z aC (.inl (d, fs))) H) : va_at D vwc (z + i, cE z aC (cZ, 0, 0) i) H := by
  rw [cE_obj hK hd, ← hc]
  exact h
theorem at_bal {i : Nat} (hK : KD i = 0) (h : va_at D vwc (z + i, abE z aC balE) H) : va_at D vwc (z + i, cE z aC (cZ, 0, 0) i) H := by
  refine at_obj hK (by decide) ?_ h
  have hf : fV z cZ 0 i = fun k => Value.int (if k = 9 ∨ k = 10 then nI 20 else 0) := funext fun k => by
    show Value.int (cZ i k) = _
    rw [cZ_0 hK]
  rw [hf]
  rfl
theorem at_let {i : Nat} (hK : KD i = 2) (h : va_at D vwc (z + i, abE z aC letE) H) : va_at D vwc (z + i, cE z aC (cZ, 0, 0) i) H := by
  refine at_obj hK (by decide) ?_ h
  have hf : fV z cZ 2 i = fun k => Value.int (if k = 2 then (-1 : Int32) else 0) := funext fun k => by
    show Value.int (cZ i k) = _
    rw [cZ_2 hK]
  rw [hf]
  rfl
theorem at_tw {i : Nat} (hK : KD i = 4) (h : va_at D vwc (z + i, abE z aC (twE i)) H) : va_at D vwc (z + i, cE z aC (cZ, 0, 0) i) H := by
  refine at_obj hK (by decide) ?_ h
  have hf : fV z cZ 4 i = fun k => if k < 4 then Value.ref (z + (i + 1 + k)) else Value.int (if k = 7 then nI 5 else if k = 8 then nI 100 else 0) := funext fun k => by
    unfold fV RO
    by_cases h4 : k < 4
    · simp only [h4, ↓reduceIte]
    · simp only [h4, ↓reduceIte, cZ_4 hK]
  rw [hf]
  rfl
theorem at_town {T : Nat} (hK : ∀ o, o < 35 → KD (T + o) = kdT o ∧ LN (T + o) = lnT o) (hT : T + 35 ≤ 388) {g : Nat → RE} (hg : ∀ o, o < 35 → g (T + o) = tE T o) {o : Nat} (ho : o < 35) (h : va_at D vwc (z + (T + o), abE z aC (g (T + o))) H) : va_at D vwc (z + (T + o), cE z aC (cZ, 0, 0) (T + o)) H := by
  rw [hg o ho] at h
  obtain ⟨h1, h2⟩ := hK o ho
  unfold tE at h
  unfold kdT at h1
  unfold lnT at h2
  by_cases h0 : o = 0
  · subst h0
    exact at_tw h1 h
  · rw [if_neg h0] at h h1
    by_cases h3 : o < 3
    · rw [if_pos h3] at h h1
      rw [if_neg (by omega)] at h2
      exact at_int (Or.inl ⟨h1, rfl⟩) h2 (fun k _ => cZ_10 h1 k) h
    · rw [if_neg h3] at h h1
      by_cases h4 : o = 3
      · subst h4
        have h1 : KD (T + 3) = 12 := h1
        have h2 : LN (T + 3) = 6 := h2
        have h : va_at D vwc (z + (T + 3), abE z aC (brE T 6)) H := h
        exact at_ref h1 (Or.inl ⟨rfl, rfl⟩) h2 (fun k hk => by
          rw [if_pos hk]
          show some _ = some _
          congr 1) h
      · rw [if_neg h4] at h h1
        by_cases h5 : o = 4
        · subst h5
          have h1 : KD (T + 4) = 13 := h1
          have h2 : LN (T + 4) = 24 := h2
          have h : va_at D vwc (z + (T + 4), abE z aC (lrE T 24)) H := h
          exact at_ref h1 (Or.inr (Or.inl ⟨rfl, rfl⟩)) h2 (fun k hk => by
            rw [if_pos hk]
            show some _ = some _
            congr 1) h
        · rw [if_neg h5] at h h1
          by_cases h6 : o < 11
          · rw [if_pos h6] at h h1
            exact at_bal h1 h
          · rw [if_neg h6] at h h1
            exact at_let h1 h
end ATZ
theorem kd1 : ∀ o, o < 35 → KD (1 + o) = kdT o ∧ LN (1 + o) = lnT o := by decide +kernel
theorem kdr : ∀ r, r < 9 → ∀ o, o < 35 → KD (38 + 35 * r + o) = kdT o ∧ LN (38 + 35 * r + o) = lnT o := by decide +kernel
theorem kd353 : ∀ o, o < 35 → KD (353 + o) = kdT o ∧ LN (353 + o) = lnT o := by decide +kernel
/-- all 395 cells -/
theorem wl_init {D : va_G} {aC : Nat → ClassId} {z : Nat} {H : Heap} {g : Nat → RE} (hg : PV0 g) (hP : va_P D vwc (wf z aC 395 g) H) : va_P D vwc (wl z aC (cZ, 0, 0)) H := by
  obtain ⟨p0, p1, p2, p3, p4, p5, p6, p7, p8, p9, p10, p11, p12⟩ := hg
  intro k x hx
  obtain ⟨hk, rfl⟩ := wl_of hx
  have hk : k < 395 := hk
  have h := hP k _ (wf_at z aC g hk)
  by_cases h0 : k = 0
  · subst h0
    rw [p0] at h
    exact at_obj (by decide) (by decide) rfl h
  by_cases h1 : k < 36
  · obtain ⟨o, rfl⟩ : ∃ o, k = 1 + o := ⟨k - 1, by omega⟩
    exact at_town kd1 (by decide) p1 (by omega) h
  by_cases h2 : k = 36
  · subst h2
    rw [p2] at h
    exact at_obj (by decide) (by decide) rfl h
  by_cases h3 : k = 37
  · subst h3
    rw [p3] at h
    exact at_ref (d := 14) (by decide) (Or.inr (Or.inr ⟨rfl, rfl⟩)) (by decide) (fun j hj => by
      rw [if_pos hj]
      rfl) h
  by_cases h4 : k < 353
  · obtain ⟨r, o, hr, ho, rfl⟩ : ∃ r o, r < 9 ∧ o < 35 ∧ k = 38 + 35 * r + o := ⟨(k - 38) / 35, (k - 38) % 35, by omega, by omega, by omega⟩
    exact at_town (kdr r hr) (by omega) (p4 r hr) ho h
  by_cases h5 : k < 388
  · obtain ⟨o, rfl⟩ : ∃ o, k = 353 + o := ⟨k - 353, by omega⟩
    exact at_town kd353 (by decide) p5 (by omega) h
  rcases (show k = 388 ∨ k = 389 ∨ k = 390 ∨ k = 391 ∨ k = 392 ∨ k = 393 ∨ k = 394 by omega) with rfl | rfl | rfl | rfl | rfl | rfl | rfl
  · rw [p6] at h
    exact at_bal (by decide) h
  · rw [p7] at h
    exact at_obj (by decide) (by decide) rfl h
  · rw [p8] at h
    exact at_int (Or.inr ⟨by decide, rfl⟩) (by decide) (fun j _ => cZ_11 (by decide) j) h
  · rw [p9] at h
    exact at_int (Or.inl ⟨by decide, rfl⟩) (by decide) (fun j _ => cZ_10 (by decide) j) h
  · rw [p10] at h
    exact at_int (Or.inl ⟨by decide, rfl⟩) (by decide) (fun j _ => cZ_10 (by decide) j) h
  · rw [p11] at h
    exact at_int (Or.inl ⟨by decide, rfl⟩) (by decide) (fun j _ => cZ_10 (by decide) j) h
  · rw [p12] at h
    exact at_int (Or.inl ⟨by decide, rfl⟩) (by decide) (fun j _ => cZ_10 (by decide) j) h
