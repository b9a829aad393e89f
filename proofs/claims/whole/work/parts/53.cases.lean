/-! THE LAW'S CASES: each call, against the abstract state -/
abbrev LL (i : Nat) : List (Nat × Value) := [(1, .ref 0), (2, .ref 395), (3, .ref 403), (4, .ref 404), (5, .int (nI i))]
theorem nI3 {n : Nat} (h : n ≤ 3) (e : nI n = 0) : n = 0 := by
  rcases (show n = 0 ∨ n = 1 ∨ n = 2 ∨ n = 3 by omega) with rfl | rfl | rfl | rfl
  · rfl
  · exact absurd e (by decide)
  · exact absurd e (by decide)
  · exact absurd e (by decide)
theorem lg_self (x : Int64) : lg_cmp x x = 0 := by
  unfold lg_cmp
  rw [if_neg (by simp), if_pos rfl]
theorem dc_self {x : UInt64} (h : FP.Core.dIsNaN x = false) : Op.cmpValue (FP.dcmp x x) .l = 0 := by
  rw [show FP.dcmp x x = some .eq from FP.Core.dcmp_self ((FP.Core.notNaN_iff _).mp h)]
  rfl
theorem char_ok (x : Int32) : vp_nar .char ((x.toUInt32 % 65536).toInt32) = (x.toUInt32 % 65536).toInt32 := by
  have h : ∀ y : Int32, vp_nar .char y = (y.toUInt32 % 65536).toInt32 := fun y => rfl
  rw [h]
  congr 1
  apply UInt32.toNat_inj.mp
  have e : ((x.toUInt32 % 65536).toInt32).toUInt32 = x.toUInt32 % 65536 := rfl
  rw [e, UInt32.toNat_mod, UInt32.toNat_mod]
  show _ % 65536 % 65536 = _ % 65536
  omega
set_option maxRecDepth 20000 in
set_option maxHeartbeats 1000000 in
theorem k_ring {b Ls : Nat} {xs : Nat → Int32} {Z : ZT} (i : Nat) (hi : i + 4 ≤ Ls ∧ Ls ≤ 2048) (c : CC) (od : Int64 × UInt64) (A : AS) (H : CA c A) (P : Pre c A) (cu su : Nat) (hc : cu + 3 ≤ 603072 ∧ su + 18 ≤ 7211114) (K : ∀ (c1 : CC) (od1 : Int64 × UInt64) (A1 : AS), CA c1 A1 → MA c1 A1 → LE b Ls xs Z 2123 (LL i) [] (c1, od1) (cu + 3) (su + 18)) : LE b Ls xs Z 196 (LL i) [] (c, od) cu su := by
  refine LE.aload_n (n := 197) dL_law_196 rfl rfl ?_
  refine LE.arg (n := 203) (k := 1) (i := i) dL_law_197 dL_law_198 dL_law_200 dL_law_201 dL_law_202 rfl rfl rfl ⟨by omega, hi.2⟩ ?_
  refine LE.aload_n (n := 204) dL_law_203 rfl rfl ?_
  have hx : CM mL_ring [.ref 0, .int (xs (i + 1)), .ref 403] (c, od) (PI (HP c (stepC A (S_ring A.1 (xs (i + 1))) 1))) := x_ring c od A H (xs (i + 1))
  have hr : ∀ (c1 : CC) (od1 : Int64 × UInt64), Pre c1 A → CM mX6_ring [.ref 395, .int (xs (i + 1))] (c1, od1) (RCP c1 od1 (stepC A (S_ring A.1 (xs (i + 1))) 1)) := fun c1 od1 P1 => r_ring c1 od1 A P1 (xs (i + 1))
  generalize stepC A (S_ring A.1 (xs (i + 1))) 1 = sp at hx hr
  refine LE.callHI (M' := mL_ring) (n := 207) (mc := 1) (ms := 6) (st := []) [.ref 0, .int (xs (i + 1)), .ref 403] dL_law_204 rfl ch_L_128 rfl ⟨rfl, rfl⟩ ⟨by decide, by decide⟩ ⟨by omega, by omega⟩ (Nat.le_of_ble_eq_true rfl) hx (fun k σ1 q => ?_)
  obtain ⟨c1, o1, d1, rfl, f1, H1, rfl, hle, ho⟩ := q
  have P1 := P.frame f1
  refine LE.istore (n := 209) dL_law_207 rfl ⟨by decide, by decide⟩ ?_
  refine LE.aload_n (n := 210) dL_law_209 rfl rfl ?_
  refine LE.arg (n := 216) (k := 1) (i := i) dL_law_210 dL_law_211 dL_law_213 dL_law_214 dL_law_215 rfl rfl rfl ⟨by omega, hi.2⟩ ?_
  refine LE.callVI (M' := mX6_ring) (n := 219) (mc := 0) (ms := 0) (a := 395) (d := 6) (st := []) [.int (xs (i + 1))] dL_law_216 rfl cv_L_133 rfl (by decide) ⟨rfl, rfl⟩ ⟨by decide, by decide⟩ ⟨by omega, by omega⟩ (Nat.le_of_ble_eq_true rfl) (hr c1 (o1, d1) P1) (fun bq σ2 q => ?_)
  obtain ⟨c2, rfl, g1, g2, g3, g4⟩ := q
  refine LE.istore (n := 221) dL_law_219 rfl ⟨by decide, by decide⟩ ?_
  refine LE.aload_n (n := 222) dL_law_221 rfl rfl ?_
  refine LE.callVR (M' := mX6_thrown) (n := 225) (mc := 0) (ms := 0) (a := 395) (d := 6) (st := []) [] dL_law_222 rfl cv_L_134 rfl (by decide) ⟨rfl, rfl⟩ ⟨by decide, by decide⟩ ⟨by omega, by omega⟩ (Nat.le_of_ble_eq_true rfl) (m_thrown c2 (o1, d1)) ?_
  refine LE.iload (n := 227) dL_law_225 rfl rfl ?_
  refine LE.icmp_eq (n := 230) (tgt := 232) dL_law_227 rfl (by decide) (fun h1 => ?_) (fun h1 => absurd g2 h1)
  refine LE.iload (n := 234) dL_law_232 rfl rfl ?_
  refine LE.if_ne (n := 237) (tgt := 249) dL_law_234 rfl (by decide) (fun h2 => ?_) (fun h2 => ?_)
  · refine LE.goto (tgt := 2123) dL_law_249 (by decide) ?_
    exact LE.widen (by omega) (by omega) (LE.ofA (L' := LL i) ⟨rfl, rfl, rfl, rfl, rfl, trivial⟩ (K _ _ _ (H1.frame (fun a k _ h => g1 a k h)) g4))
  · have h0 := nI3 hle h2
    refine LE.aload_n (n := 238) dL_law_237 rfl rfl ?_
    refine LE.iconst (n := 239) (nI 0) dL_law_238 rfl (by decide) ?_
    refine LE.lald (n := 240) dL_law_239 rfl ?_
    refine LE.iload (n := 242) dL_law_240 rfl rfl ?_
    refine LE.i2l (n := 243) dL_law_242 rfl ?_
    refine LE.lcmp (n := 244) dL_law_243 rfl ?_
    refine LE.if_eq (n := 247) (tgt := 249) dL_law_244 rfl (by decide) (fun h3 => ?_) (fun h3 => absurd (by
      show lg_cmp o1 bq.toInt64 = 0
      rw [ho h0, g3 h0]
      exact lg_self _) h3)
    refine LE.goto (tgt := 2123) dL_law_249 (by decide) ?_
    exact LE.widen (by omega) (by omega) (LE.ofA (L' := LL i) ⟨rfl, rfl, rfl, rfl, rfl, trivial⟩ (K _ _ _ (H1.frame (fun a k _ h => g1 a k h)) g4))
set_option maxRecDepth 20000 in
set_option maxHeartbeats 1000000 in
theorem k_wind {b Ls : Nat} {xs : Nat → Int32} {Z : ZT} (i : Nat) (hi : i + 4 ≤ Ls ∧ Ls ≤ 2048) (c : CC) (od : Int64 × UInt64) (A : AS) (H : CA c A) (P : Pre c A) (cu su : Nat) (hc : cu + 3 ≤ 603072 ∧ su + 18 ≤ 7211114) (K : ∀ (c1 : CC) (od1 : Int64 × UInt64) (A1 : AS), CA c1 A1 → MA c1 A1 → LE b Ls xs Z 2123 (LL i) [] (c1, od1) (cu + 3) (su + 18)) : LE b Ls xs Z 252 (LL i) [] (c, od) cu su := by
  refine LE.aload_n (n := 253) dL_law_252 rfl rfl ?_
  refine LE.arg (n := 259) (k := 1) (i := i) dL_law_253 dL_law_254 dL_law_256 dL_law_257 dL_law_258 rfl rfl rfl ⟨by omega, hi.2⟩ ?_
  refine LE.arg (n := 265) (k := 2) (i := i) dL_law_259 dL_law_260 dL_law_262 dL_law_263 dL_law_264 rfl rfl rfl ⟨by omega, hi.2⟩ ?_
  refine LE.arg (n := 271) (k := 3) (i := i) dL_law_265 dL_law_266 dL_law_268 dL_law_269 dL_law_270 rfl rfl rfl ⟨by omega, hi.2⟩ ?_
  refine LE.aload_n (n := 272) dL_law_271 rfl rfl ?_
  have hx : CM mL_wind [.ref 0, .int (xs (i + 1)), .int (xs (i + 2)), .int (xs (i + 3)), .ref 403] (c, od) (PI (HP c (stepC A (S_blows A.1 (xs (i + 1)) (xs (i + 2)) (xs (i + 3))) 3))) := x_wind c od A H (xs (i + 1)) (xs (i + 2)) (xs (i + 3))
  have hr : ∀ (c1 : CC) (od1 : Int64 × UInt64), Pre c1 A → CM mX6_wind [.ref 395, .int (xs (i + 1)), .int (xs (i + 2)), .int (xs (i + 3))] (c1, od1) (RCP c1 od1 (stepC A (S_blows A.1 (xs (i + 1)) (xs (i + 2)) (xs (i + 3))) 3)) := fun c1 od1 P1 => r_wind c1 od1 A P1 (xs (i + 1)) (xs (i + 2)) (xs (i + 3))
  generalize stepC A (S_blows A.1 (xs (i + 1)) (xs (i + 2)) (xs (i + 3))) 3 = sp at hx hr
  refine LE.callHI (M' := mL_wind) (n := 275) (mc := 1) (ms := 6) (st := []) [.ref 0, .int (xs (i + 1)), .int (xs (i + 2)), .int (xs (i + 3)), .ref 403] dL_law_272 rfl ch_L_137 rfl ⟨rfl, rfl⟩ ⟨by decide, by decide⟩ ⟨by omega, by omega⟩ (Nat.le_of_ble_eq_true rfl) hx (fun k σ1 q => ?_)
  obtain ⟨c1, o1, d1, rfl, f1, H1, rfl, hle, ho⟩ := q
  have P1 := P.frame f1
  refine LE.istore (n := 277) dL_law_275 rfl ⟨by decide, by decide⟩ ?_
  refine LE.aload_n (n := 278) dL_law_277 rfl rfl ?_
  refine LE.arg (n := 284) (k := 1) (i := i) dL_law_278 dL_law_279 dL_law_281 dL_law_282 dL_law_283 rfl rfl rfl ⟨by omega, hi.2⟩ ?_
  refine LE.arg (n := 290) (k := 2) (i := i) dL_law_284 dL_law_285 dL_law_287 dL_law_288 dL_law_289 rfl rfl rfl ⟨by omega, hi.2⟩ ?_
  refine LE.arg (n := 296) (k := 3) (i := i) dL_law_290 dL_law_291 dL_law_293 dL_law_294 dL_law_295 rfl rfl rfl ⟨by omega, hi.2⟩ ?_
  refine LE.callVI (M' := mX6_wind) (n := 299) (mc := 0) (ms := 0) (a := 395) (d := 6) (st := []) [.int (xs (i + 1)), .int (xs (i + 2)), .int (xs (i + 3))] dL_law_296 rfl cv_L_140 rfl (by decide) ⟨rfl, rfl⟩ ⟨by decide, by decide⟩ ⟨by omega, by omega⟩ (Nat.le_of_ble_eq_true rfl) (hr c1 (o1, d1) P1) (fun bq σ2 q => ?_)
  obtain ⟨c2, rfl, g1, g2, g3, g4⟩ := q
  refine LE.istore (n := 301) dL_law_299 rfl ⟨by decide, by decide⟩ ?_
  refine LE.aload_n (n := 302) dL_law_301 rfl rfl ?_
  refine LE.callVR (M' := mX6_thrown) (n := 305) (mc := 0) (ms := 0) (a := 395) (d := 6) (st := []) [] dL_law_302 rfl cv_L_134 rfl (by decide) ⟨rfl, rfl⟩ ⟨by decide, by decide⟩ ⟨by omega, by omega⟩ (Nat.le_of_ble_eq_true rfl) (m_thrown c2 (o1, d1)) ?_
  refine LE.iload (n := 307) dL_law_305 rfl rfl ?_
  refine LE.icmp_eq (n := 310) (tgt := 312) dL_law_307 rfl (by decide) (fun h1 => ?_) (fun h1 => absurd g2 h1)
  refine LE.iload (n := 314) dL_law_312 rfl rfl ?_
  refine LE.if_ne (n := 317) (tgt := 329) dL_law_314 rfl (by decide) (fun h2 => ?_) (fun h2 => ?_)
  · refine LE.goto (tgt := 2123) dL_law_329 (by decide) ?_
    exact LE.widen (by omega) (by omega) (LE.ofA (L' := LL i) ⟨rfl, rfl, rfl, rfl, rfl, trivial⟩ (K _ _ _ (H1.frame (fun a k _ h => g1 a k h)) g4))
  · have h0 := nI3 hle h2
    refine LE.aload_n (n := 318) dL_law_317 rfl rfl ?_
    refine LE.iconst (n := 319) (nI 0) dL_law_318 rfl (by decide) ?_
    refine LE.lald (n := 320) dL_law_319 rfl ?_
    refine LE.iload (n := 322) dL_law_320 rfl rfl ?_
    refine LE.i2l (n := 323) dL_law_322 rfl ?_
    refine LE.lcmp (n := 324) dL_law_323 rfl ?_
    refine LE.if_eq (n := 327) (tgt := 329) dL_law_324 rfl (by decide) (fun h3 => ?_) (fun h3 => absurd (by
      show lg_cmp o1 bq.toInt64 = 0
      rw [ho h0, g3 h0]
      exact lg_self _) h3)
    refine LE.goto (tgt := 2123) dL_law_329 (by decide) ?_
    exact LE.widen (by omega) (by omega) (LE.ofA (L' := LL i) ⟨rfl, rfl, rfl, rfl, rfl, trivial⟩ (K _ _ _ (H1.frame (fun a k _ h => g1 a k h)) g4))
set_option maxRecDepth 20000 in
set_option maxHeartbeats 1000000 in
theorem k_gas {b Ls : Nat} {xs : Nat → Int32} {Z : ZT} (i : Nat) (hi : i + 4 ≤ Ls ∧ Ls ≤ 2048) (c : CC) (od : Int64 × UInt64) (A : AS) (H : CA c A) (P : Pre c A) (cu su : Nat) (hc : cu + 3 ≤ 603072 ∧ su + 18 ≤ 7211114) (K : ∀ (c1 : CC) (od1 : Int64 × UInt64) (A1 : AS), CA c1 A1 → MA c1 A1 → LE b Ls xs Z 2123 (LL i) [] (c1, od1) (cu + 3) (su + 18)) : LE b Ls xs Z 332 (LL i) [] (c, od) cu su := by
  refine LE.aload_n (n := 333) dL_law_332 rfl rfl ?_
  refine LE.arg (n := 339) (k := 1) (i := i) dL_law_333 dL_law_334 dL_law_336 dL_law_337 dL_law_338 rfl rfl rfl ⟨by omega, hi.2⟩ ?_
  refine LE.aload_n (n := 340) dL_law_339 rfl rfl ?_
  have hx : CM mL_gas [.ref 0, .int (xs (i + 1)), .ref 403] (c, od) (PI (HP c (stepC A (S_gas A.1 (xs (i + 1))) 1))) := x_gas c od A H (xs (i + 1))
  have hr : ∀ (c1 : CC) (od1 : Int64 × UInt64), Pre c1 A → CM mX6_gas [.ref 395, .int (xs (i + 1))] (c1, od1) (RCP c1 od1 (stepC A (S_gas A.1 (xs (i + 1))) 1)) := fun c1 od1 P1 => r_gas c1 od1 A P1 (xs (i + 1))
  generalize stepC A (S_gas A.1 (xs (i + 1))) 1 = sp at hx hr
  refine LE.callHI (M' := mL_gas) (n := 343) (mc := 1) (ms := 6) (st := []) [.ref 0, .int (xs (i + 1)), .ref 403] dL_law_340 rfl ch_L_141 rfl ⟨rfl, rfl⟩ ⟨by decide, by decide⟩ ⟨by omega, by omega⟩ (Nat.le_of_ble_eq_true rfl) hx (fun k σ1 q => ?_)
  obtain ⟨c1, o1, d1, rfl, f1, H1, rfl, hle, ho⟩ := q
  have P1 := P.frame f1
  refine LE.istore (n := 345) dL_law_343 rfl ⟨by decide, by decide⟩ ?_
  refine LE.aload_n (n := 346) dL_law_345 rfl rfl ?_
  refine LE.arg (n := 352) (k := 1) (i := i) dL_law_346 dL_law_347 dL_law_349 dL_law_350 dL_law_351 rfl rfl rfl ⟨by omega, hi.2⟩ ?_
  refine LE.callVI (M' := mX6_gas) (n := 355) (mc := 0) (ms := 0) (a := 395) (d := 6) (st := []) [.int (xs (i + 1))] dL_law_352 rfl cv_L_143 rfl (by decide) ⟨rfl, rfl⟩ ⟨by decide, by decide⟩ ⟨by omega, by omega⟩ (Nat.le_of_ble_eq_true rfl) (hr c1 (o1, d1) P1) (fun bq σ2 q => ?_)
  obtain ⟨c2, rfl, g1, g2, g3, g4⟩ := q
  refine LE.istore (n := 357) dL_law_355 rfl ⟨by decide, by decide⟩ ?_
  refine LE.aload_n (n := 358) dL_law_357 rfl rfl ?_
  refine LE.callVR (M' := mX6_thrown) (n := 361) (mc := 0) (ms := 0) (a := 395) (d := 6) (st := []) [] dL_law_358 rfl cv_L_134 rfl (by decide) ⟨rfl, rfl⟩ ⟨by decide, by decide⟩ ⟨by omega, by omega⟩ (Nat.le_of_ble_eq_true rfl) (m_thrown c2 (o1, d1)) ?_
  refine LE.iload (n := 363) dL_law_361 rfl rfl ?_
  refine LE.icmp_eq (n := 366) (tgt := 368) dL_law_363 rfl (by decide) (fun h1 => ?_) (fun h1 => absurd g2 h1)
  refine LE.iload (n := 370) dL_law_368 rfl rfl ?_
  refine LE.if_ne (n := 373) (tgt := 385) dL_law_370 rfl (by decide) (fun h2 => ?_) (fun h2 => ?_)
  · refine LE.goto (tgt := 2123) dL_law_385 (by decide) ?_
    exact LE.widen (by omega) (by omega) (LE.ofA (L' := LL i) ⟨rfl, rfl, rfl, rfl, rfl, trivial⟩ (K _ _ _ (H1.frame (fun a k _ h => g1 a k h)) g4))
  · have h0 := nI3 hle h2
    refine LE.aload_n (n := 374) dL_law_373 rfl rfl ?_
    refine LE.iconst (n := 375) (nI 0) dL_law_374 rfl (by decide) ?_
    refine LE.lald (n := 376) dL_law_375 rfl ?_
    refine LE.iload (n := 378) dL_law_376 rfl rfl ?_
    refine LE.i2l (n := 379) dL_law_378 rfl ?_
    refine LE.lcmp (n := 380) dL_law_379 rfl ?_
    refine LE.if_eq (n := 383) (tgt := 385) dL_law_380 rfl (by decide) (fun h3 => ?_) (fun h3 => absurd (by
      show lg_cmp o1 bq.toInt64 = 0
      rw [ho h0, g3 h0]
      exact lg_self _) h3)
    refine LE.goto (tgt := 2123) dL_law_385 (by decide) ?_
    exact LE.widen (by omega) (by omega) (LE.ofA (L' := LL i) ⟨rfl, rfl, rfl, rfl, rfl, trivial⟩ (K _ _ _ (H1.frame (fun a k _ h => g1 a k h)) g4))
set_option maxRecDepth 20000 in
set_option maxHeartbeats 1000000 in
theorem k_balloon {b Ls : Nat} {xs : Nat → Int32} {Z : ZT} (i : Nat) (hi : i + 4 ≤ Ls ∧ Ls ≤ 2048) (c : CC) (od : Int64 × UInt64) (A : AS) (H : CA c A) (P : Pre c A) (cu su : Nat) (hc : cu + 3 ≤ 603072 ∧ su + 18 ≤ 7211114) (K : ∀ (c1 : CC) (od1 : Int64 × UInt64) (A1 : AS), CA c1 A1 → MA c1 A1 → LE b Ls xs Z 2123 (LL i) [] (c1, od1) (cu + 3) (su + 18)) : LE b Ls xs Z 388 (LL i) [] (c, od) cu su := by
  refine LE.aload_n (n := 389) dL_law_388 rfl rfl ?_
  refine LE.arg (n := 395) (k := 1) (i := i) dL_law_389 dL_law_390 dL_law_392 dL_law_393 dL_law_394 rfl rfl rfl ⟨by omega, hi.2⟩ ?_
  refine LE.aload_n (n := 396) dL_law_395 rfl rfl ?_
  have hx : CM mL_balloon [.ref 0, .int (xs (i + 1)), .ref 403] (c, od) (PI (HP c (stepC A (S_balloon A.1 (xs (i + 1))) 2))) := x_balloon c od A H (xs (i + 1))
  have hr : ∀ (c1 : CC) (od1 : Int64 × UInt64), Pre c1 A → CM mX6_balloon [.ref 395, .int (xs (i + 1))] (c1, od1) (RCP c1 od1 (stepC A (S_balloon A.1 (xs (i + 1))) 2)) := fun c1 od1 P1 => r_balloon c1 od1 A P1 (xs (i + 1))
  generalize stepC A (S_balloon A.1 (xs (i + 1))) 2 = sp at hx hr
  refine LE.callHI (M' := mL_balloon) (n := 399) (mc := 1) (ms := 6) (st := []) [.ref 0, .int (xs (i + 1)), .ref 403] dL_law_396 rfl ch_L_144 rfl ⟨rfl, rfl⟩ ⟨by decide, by decide⟩ ⟨by omega, by omega⟩ (Nat.le_of_ble_eq_true rfl) hx (fun k σ1 q => ?_)
  obtain ⟨c1, o1, d1, rfl, f1, H1, rfl, hle, ho⟩ := q
  have P1 := P.frame f1
  refine LE.istore (n := 401) dL_law_399 rfl ⟨by decide, by decide⟩ ?_
  refine LE.aload_n (n := 402) dL_law_401 rfl rfl ?_
  refine LE.arg (n := 408) (k := 1) (i := i) dL_law_402 dL_law_403 dL_law_405 dL_law_406 dL_law_407 rfl rfl rfl ⟨by omega, hi.2⟩ ?_
  refine LE.callVI (M' := mX6_balloon) (n := 411) (mc := 0) (ms := 0) (a := 395) (d := 6) (st := []) [.int (xs (i + 1))] dL_law_408 rfl cv_L_146 rfl (by decide) ⟨rfl, rfl⟩ ⟨by decide, by decide⟩ ⟨by omega, by omega⟩ (Nat.le_of_ble_eq_true rfl) (hr c1 (o1, d1) P1) (fun bq σ2 q => ?_)
  obtain ⟨c2, rfl, g1, g2, g3, g4⟩ := q
  refine LE.istore (n := 413) dL_law_411 rfl ⟨by decide, by decide⟩ ?_
  refine LE.aload_n (n := 414) dL_law_413 rfl rfl ?_
  refine LE.callVR (M' := mX6_thrown) (n := 417) (mc := 0) (ms := 0) (a := 395) (d := 6) (st := []) [] dL_law_414 rfl cv_L_134 rfl (by decide) ⟨rfl, rfl⟩ ⟨by decide, by decide⟩ ⟨by omega, by omega⟩ (Nat.le_of_ble_eq_true rfl) (m_thrown c2 (o1, d1)) ?_
  refine LE.iload (n := 419) dL_law_417 rfl rfl ?_
  refine LE.icmp_eq (n := 422) (tgt := 424) dL_law_419 rfl (by decide) (fun h1 => ?_) (fun h1 => absurd g2 h1)
  refine LE.iload (n := 426) dL_law_424 rfl rfl ?_
  refine LE.if_ne (n := 429) (tgt := 441) dL_law_426 rfl (by decide) (fun h2 => ?_) (fun h2 => ?_)
  · refine LE.goto (tgt := 2123) dL_law_441 (by decide) ?_
    exact LE.widen (by omega) (by omega) (LE.ofA (L' := LL i) ⟨rfl, rfl, rfl, rfl, rfl, trivial⟩ (K _ _ _ (H1.frame (fun a k _ h => g1 a k h)) g4))
  · have h0 := nI3 hle h2
    refine LE.aload_n (n := 430) dL_law_429 rfl rfl ?_
    refine LE.iconst (n := 431) (nI 0) dL_law_430 rfl (by decide) ?_
    refine LE.lald (n := 432) dL_law_431 rfl ?_
    refine LE.iload (n := 434) dL_law_432 rfl rfl ?_
    refine LE.i2l (n := 435) dL_law_434 rfl ?_
    refine LE.lcmp (n := 436) dL_law_435 rfl ?_
    refine LE.if_eq (n := 439) (tgt := 441) dL_law_436 rfl (by decide) (fun h3 => ?_) (fun h3 => absurd (by
      show lg_cmp o1 bq.toInt64 = 0
      rw [ho h0, g3 h0]
      exact lg_self _) h3)
    refine LE.goto (tgt := 2123) dL_law_441 (by decide) ?_
    exact LE.widen (by omega) (by omega) (LE.ofA (L' := LL i) ⟨rfl, rfl, rfl, rfl, rfl, trivial⟩ (K _ _ _ (H1.frame (fun a k _ h => g1 a k h)) g4))
set_option maxRecDepth 20000 in
set_option maxHeartbeats 1000000 in
theorem k_fill {b Ls : Nat} {xs : Nat → Int32} {Z : ZT} (i : Nat) (hi : i + 4 ≤ Ls ∧ Ls ≤ 2048) (c : CC) (od : Int64 × UInt64) (A : AS) (H : CA c A) (P : Pre c A) (cu su : Nat) (hc : cu + 3 ≤ 603072 ∧ su + 18 ≤ 7211114) (K : ∀ (c1 : CC) (od1 : Int64 × UInt64) (A1 : AS), CA c1 A1 → MA c1 A1 → LE b Ls xs Z 2123 (LL i) [] (c1, od1) (cu + 3) (su + 18)) : LE b Ls xs Z 444 (LL i) [] (c, od) cu su := by
  refine LE.aload_n (n := 445) dL_law_444 rfl rfl ?_
  refine LE.arg (n := 451) (k := 1) (i := i) dL_law_445 dL_law_446 dL_law_448 dL_law_449 dL_law_450 rfl rfl rfl ⟨by omega, hi.2⟩ ?_
  refine LE.arg (n := 457) (k := 2) (i := i) dL_law_451 dL_law_452 dL_law_454 dL_law_455 dL_law_456 rfl rfl rfl ⟨by omega, hi.2⟩ ?_
  refine LE.aload_n (n := 458) dL_law_457 rfl rfl ?_
  have hx : CM mL_fill [.ref 0, .int (xs (i + 1)), .int (xs (i + 2)), .ref 403] (c, od) (PI (HP c (stepC A (S_fills A.1 (xs (i + 1)) (xs (i + 2))) 3))) := x_fill c od A H (xs (i + 1)) (xs (i + 2))
  have hr : ∀ (c1 : CC) (od1 : Int64 × UInt64), Pre c1 A → CM mX6_fill [.ref 395, .int (xs (i + 1)), .int (xs (i + 2))] (c1, od1) (RCP c1 od1 (stepC A (S_fills A.1 (xs (i + 1)) (xs (i + 2))) 3)) := fun c1 od1 P1 => r_fill c1 od1 A P1 (xs (i + 1)) (xs (i + 2))
  generalize stepC A (S_fills A.1 (xs (i + 1)) (xs (i + 2))) 3 = sp at hx hr
  refine LE.callHI (M' := mL_fill) (n := 461) (mc := 1) (ms := 6) (st := []) [.ref 0, .int (xs (i + 1)), .int (xs (i + 2)), .ref 403] dL_law_458 rfl ch_L_147 rfl ⟨rfl, rfl⟩ ⟨by decide, by decide⟩ ⟨by omega, by omega⟩ (Nat.le_of_ble_eq_true rfl) hx (fun k σ1 q => ?_)
  obtain ⟨c1, o1, d1, rfl, f1, H1, rfl, hle, ho⟩ := q
  have P1 := P.frame f1
  refine LE.istore (n := 463) dL_law_461 rfl ⟨by decide, by decide⟩ ?_
  refine LE.aload_n (n := 464) dL_law_463 rfl rfl ?_
  refine LE.arg (n := 470) (k := 1) (i := i) dL_law_464 dL_law_465 dL_law_467 dL_law_468 dL_law_469 rfl rfl rfl ⟨by omega, hi.2⟩ ?_
  refine LE.arg (n := 476) (k := 2) (i := i) dL_law_470 dL_law_471 dL_law_473 dL_law_474 dL_law_475 rfl rfl rfl ⟨by omega, hi.2⟩ ?_
  refine LE.callVI (M' := mX6_fill) (n := 479) (mc := 0) (ms := 0) (a := 395) (d := 6) (st := []) [.int (xs (i + 1)), .int (xs (i + 2))] dL_law_476 rfl cv_L_150 rfl (by decide) ⟨rfl, rfl⟩ ⟨by decide, by decide⟩ ⟨by omega, by omega⟩ (Nat.le_of_ble_eq_true rfl) (hr c1 (o1, d1) P1) (fun bq σ2 q => ?_)
  obtain ⟨c2, rfl, g1, g2, g3, g4⟩ := q
  refine LE.istore (n := 481) dL_law_479 rfl ⟨by decide, by decide⟩ ?_
  refine LE.aload_n (n := 482) dL_law_481 rfl rfl ?_
  refine LE.callVR (M' := mX6_thrown) (n := 485) (mc := 0) (ms := 0) (a := 395) (d := 6) (st := []) [] dL_law_482 rfl cv_L_134 rfl (by decide) ⟨rfl, rfl⟩ ⟨by decide, by decide⟩ ⟨by omega, by omega⟩ (Nat.le_of_ble_eq_true rfl) (m_thrown c2 (o1, d1)) ?_
  refine LE.iload (n := 487) dL_law_485 rfl rfl ?_
  refine LE.icmp_eq (n := 490) (tgt := 492) dL_law_487 rfl (by decide) (fun h1 => ?_) (fun h1 => absurd g2 h1)
  refine LE.iload (n := 494) dL_law_492 rfl rfl ?_
  refine LE.if_ne (n := 497) (tgt := 509) dL_law_494 rfl (by decide) (fun h2 => ?_) (fun h2 => ?_)
  · refine LE.goto (tgt := 2123) dL_law_509 (by decide) ?_
    exact LE.widen (by omega) (by omega) (LE.ofA (L' := LL i) ⟨rfl, rfl, rfl, rfl, rfl, trivial⟩ (K _ _ _ (H1.frame (fun a k _ h => g1 a k h)) g4))
  · have h0 := nI3 hle h2
    refine LE.aload_n (n := 498) dL_law_497 rfl rfl ?_
    refine LE.iconst (n := 499) (nI 0) dL_law_498 rfl (by decide) ?_
    refine LE.lald (n := 500) dL_law_499 rfl ?_
    refine LE.iload (n := 502) dL_law_500 rfl rfl ?_
    refine LE.i2l (n := 503) dL_law_502 rfl ?_
    refine LE.lcmp (n := 504) dL_law_503 rfl ?_
    refine LE.if_eq (n := 507) (tgt := 509) dL_law_504 rfl (by decide) (fun h3 => ?_) (fun h3 => absurd (by
      show lg_cmp o1 bq.toInt64 = 0
      rw [ho h0, g3 h0]
      exact lg_self _) h3)
    refine LE.goto (tgt := 2123) dL_law_509 (by decide) ?_
    exact LE.widen (by omega) (by omega) (LE.ofA (L' := LL i) ⟨rfl, rfl, rfl, rfl, rfl, trivial⟩ (K _ _ _ (H1.frame (fun a k _ h => g1 a k h)) g4))
set_option maxRecDepth 20000 in
set_option maxHeartbeats 1000000 in
theorem k_ballast {b Ls : Nat} {xs : Nat → Int32} {Z : ZT} (i : Nat) (hi : i + 4 ≤ Ls ∧ Ls ≤ 2048) (c : CC) (od : Int64 × UInt64) (A : AS) (H : CA c A) (P : Pre c A) (cu su : Nat) (hc : cu + 3 ≤ 603072 ∧ su + 18 ≤ 7211114) (K : ∀ (c1 : CC) (od1 : Int64 × UInt64) (A1 : AS), CA c1 A1 → MA c1 A1 → LE b Ls xs Z 2123 (LL i) [] (c1, od1) (cu + 3) (su + 18)) : LE b Ls xs Z 512 (LL i) [] (c, od) cu su := by
  refine LE.aload_n (n := 513) dL_law_512 rfl rfl ?_
  refine LE.arg (n := 519) (k := 1) (i := i) dL_law_513 dL_law_514 dL_law_516 dL_law_517 dL_law_518 rfl rfl rfl ⟨by omega, hi.2⟩ ?_
  refine LE.arg (n := 525) (k := 2) (i := i) dL_law_519 dL_law_520 dL_law_522 dL_law_523 dL_law_524 rfl rfl rfl ⟨by omega, hi.2⟩ ?_
  refine LE.aload_n (n := 526) dL_law_525 rfl rfl ?_
  have hx : CM mL_ballast [.ref 0, .int (xs (i + 1)), .int (xs (i + 2)), .ref 403] (c, od) (PI (HP c (stepC A (S_lays A.1 (xs (i + 1)) (xs (i + 2))) 3))) := x_ballast c od A H (xs (i + 1)) (xs (i + 2))
  have hr : ∀ (c1 : CC) (od1 : Int64 × UInt64), Pre c1 A → CM mX6_ballast [.ref 395, .int (xs (i + 1)), .int (xs (i + 2))] (c1, od1) (RCP c1 od1 (stepC A (S_lays A.1 (xs (i + 1)) (xs (i + 2))) 3)) := fun c1 od1 P1 => r_ballast c1 od1 A P1 (xs (i + 1)) (xs (i + 2))
  generalize stepC A (S_lays A.1 (xs (i + 1)) (xs (i + 2))) 3 = sp at hx hr
  refine LE.callHI (M' := mL_ballast) (n := 529) (mc := 1) (ms := 6) (st := []) [.ref 0, .int (xs (i + 1)), .int (xs (i + 2)), .ref 403] dL_law_526 rfl ch_L_151 rfl ⟨rfl, rfl⟩ ⟨by decide, by decide⟩ ⟨by omega, by omega⟩ (Nat.le_of_ble_eq_true rfl) hx (fun k σ1 q => ?_)
  obtain ⟨c1, o1, d1, rfl, f1, H1, rfl, hle, ho⟩ := q
  have P1 := P.frame f1
  refine LE.istore (n := 531) dL_law_529 rfl ⟨by decide, by decide⟩ ?_
  refine LE.aload_n (n := 532) dL_law_531 rfl rfl ?_
  refine LE.arg (n := 538) (k := 1) (i := i) dL_law_532 dL_law_533 dL_law_535 dL_law_536 dL_law_537 rfl rfl rfl ⟨by omega, hi.2⟩ ?_
  refine LE.arg (n := 544) (k := 2) (i := i) dL_law_538 dL_law_539 dL_law_541 dL_law_542 dL_law_543 rfl rfl rfl ⟨by omega, hi.2⟩ ?_
  refine LE.callVI (M' := mX6_ballast) (n := 547) (mc := 0) (ms := 0) (a := 395) (d := 6) (st := []) [.int (xs (i + 1)), .int (xs (i + 2))] dL_law_544 rfl cv_L_153 rfl (by decide) ⟨rfl, rfl⟩ ⟨by decide, by decide⟩ ⟨by omega, by omega⟩ (Nat.le_of_ble_eq_true rfl) (hr c1 (o1, d1) P1) (fun bq σ2 q => ?_)
  obtain ⟨c2, rfl, g1, g2, g3, g4⟩ := q
  refine LE.istore (n := 549) dL_law_547 rfl ⟨by decide, by decide⟩ ?_
  refine LE.aload_n (n := 550) dL_law_549 rfl rfl ?_
  refine LE.callVR (M' := mX6_thrown) (n := 553) (mc := 0) (ms := 0) (a := 395) (d := 6) (st := []) [] dL_law_550 rfl cv_L_134 rfl (by decide) ⟨rfl, rfl⟩ ⟨by decide, by decide⟩ ⟨by omega, by omega⟩ (Nat.le_of_ble_eq_true rfl) (m_thrown c2 (o1, d1)) ?_
  refine LE.iload (n := 555) dL_law_553 rfl rfl ?_
  refine LE.icmp_eq (n := 558) (tgt := 560) dL_law_555 rfl (by decide) (fun h1 => ?_) (fun h1 => absurd g2 h1)
  refine LE.iload (n := 562) dL_law_560 rfl rfl ?_
  refine LE.if_ne (n := 565) (tgt := 577) dL_law_562 rfl (by decide) (fun h2 => ?_) (fun h2 => ?_)
  · refine LE.goto (tgt := 2123) dL_law_577 (by decide) ?_
    exact LE.widen (by omega) (by omega) (LE.ofA (L' := LL i) ⟨rfl, rfl, rfl, rfl, rfl, trivial⟩ (K _ _ _ (H1.frame (fun a k _ h => g1 a k h)) g4))
  · have h0 := nI3 hle h2
    refine LE.aload_n (n := 566) dL_law_565 rfl rfl ?_
    refine LE.iconst (n := 567) (nI 0) dL_law_566 rfl (by decide) ?_
    refine LE.lald (n := 568) dL_law_567 rfl ?_
    refine LE.iload (n := 570) dL_law_568 rfl rfl ?_
    refine LE.i2l (n := 571) dL_law_570 rfl ?_
    refine LE.lcmp (n := 572) dL_law_571 rfl ?_
    refine LE.if_eq (n := 575) (tgt := 577) dL_law_572 rfl (by decide) (fun h3 => ?_) (fun h3 => absurd (by
      show lg_cmp o1 bq.toInt64 = 0
      rw [ho h0, g3 h0]
      exact lg_self _) h3)
    refine LE.goto (tgt := 2123) dL_law_577 (by decide) ?_
    exact LE.widen (by omega) (by omega) (LE.ofA (L' := LL i) ⟨rfl, rfl, rfl, rfl, rfl, trivial⟩ (K _ _ _ (H1.frame (fun a k _ h => g1 a k h)) g4))
set_option maxRecDepth 20000 in
set_option maxHeartbeats 1000000 in
theorem k_courier {b Ls : Nat} {xs : Nat → Int32} {Z : ZT} (i : Nat) (hi : i + 4 ≤ Ls ∧ Ls ≤ 2048) (c : CC) (od : Int64 × UInt64) (A : AS) (H : CA c A) (P : Pre c A) (cu su : Nat) (hc : cu + 3 ≤ 603072 ∧ su + 18 ≤ 7211114) (K : ∀ (c1 : CC) (od1 : Int64 × UInt64) (A1 : AS), CA c1 A1 → MA c1 A1 → LE b Ls xs Z 2123 (LL i) [] (c1, od1) (cu + 3) (su + 18)) : LE b Ls xs Z 580 (LL i) [] (c, od) cu su := by
  refine LE.aload_n (n := 581) dL_law_580 rfl rfl ?_
  refine LE.arg (n := 587) (k := 1) (i := i) dL_law_581 dL_law_582 dL_law_584 dL_law_585 dL_law_586 rfl rfl rfl ⟨by omega, hi.2⟩ ?_
  refine LE.arg (n := 593) (k := 2) (i := i) dL_law_587 dL_law_588 dL_law_590 dL_law_591 dL_law_592 rfl rfl rfl ⟨by omega, hi.2⟩ ?_
  refine LE.aload_n (n := 594) dL_law_593 rfl rfl ?_
  have hx : CM mL_courier [.ref 0, .int (xs (i + 1)), .int (xs (i + 2)), .ref 403] (c, od) (PI (HP c (stepC A (S_courier A.1 (xs (i + 1)) (xs (i + 2))) 3))) := x_courier c od A H (xs (i + 1)) (xs (i + 2))
  have hr : ∀ (c1 : CC) (od1 : Int64 × UInt64), Pre c1 A → CM mX6_courier [.ref 395, .int (xs (i + 1)), .int (xs (i + 2))] (c1, od1) (RCP c1 od1 (stepC A (S_courier A.1 (xs (i + 1)) (xs (i + 2))) 3)) := fun c1 od1 P1 => r_courier c1 od1 A P1 (xs (i + 1)) (xs (i + 2))
  generalize stepC A (S_courier A.1 (xs (i + 1)) (xs (i + 2))) 3 = sp at hx hr
  refine LE.callHI (M' := mL_courier) (n := 597) (mc := 1) (ms := 6) (st := []) [.ref 0, .int (xs (i + 1)), .int (xs (i + 2)), .ref 403] dL_law_594 rfl ch_L_154 rfl ⟨rfl, rfl⟩ ⟨by decide, by decide⟩ ⟨by omega, by omega⟩ (Nat.le_of_ble_eq_true rfl) hx (fun k σ1 q => ?_)
  obtain ⟨c1, o1, d1, rfl, f1, H1, rfl, hle, ho⟩ := q
  have P1 := P.frame f1
  refine LE.istore (n := 599) dL_law_597 rfl ⟨by decide, by decide⟩ ?_
  refine LE.aload_n (n := 600) dL_law_599 rfl rfl ?_
  refine LE.arg (n := 606) (k := 1) (i := i) dL_law_600 dL_law_601 dL_law_603 dL_law_604 dL_law_605 rfl rfl rfl ⟨by omega, hi.2⟩ ?_
  refine LE.arg (n := 612) (k := 2) (i := i) dL_law_606 dL_law_607 dL_law_609 dL_law_610 dL_law_611 rfl rfl rfl ⟨by omega, hi.2⟩ ?_
  refine LE.callVI (M' := mX6_courier) (n := 615) (mc := 0) (ms := 0) (a := 395) (d := 6) (st := []) [.int (xs (i + 1)), .int (xs (i + 2))] dL_law_612 rfl cv_L_156 rfl (by decide) ⟨rfl, rfl⟩ ⟨by decide, by decide⟩ ⟨by omega, by omega⟩ (Nat.le_of_ble_eq_true rfl) (hr c1 (o1, d1) P1) (fun bq σ2 q => ?_)
  obtain ⟨c2, rfl, g1, g2, g3, g4⟩ := q
  refine LE.istore (n := 617) dL_law_615 rfl ⟨by decide, by decide⟩ ?_
  refine LE.aload_n (n := 618) dL_law_617 rfl rfl ?_
  refine LE.callVR (M' := mX6_thrown) (n := 621) (mc := 0) (ms := 0) (a := 395) (d := 6) (st := []) [] dL_law_618 rfl cv_L_134 rfl (by decide) ⟨rfl, rfl⟩ ⟨by decide, by decide⟩ ⟨by omega, by omega⟩ (Nat.le_of_ble_eq_true rfl) (m_thrown c2 (o1, d1)) ?_
  refine LE.iload (n := 623) dL_law_621 rfl rfl ?_
  refine LE.icmp_eq (n := 626) (tgt := 628) dL_law_623 rfl (by decide) (fun h1 => ?_) (fun h1 => absurd g2 h1)
  refine LE.iload (n := 630) dL_law_628 rfl rfl ?_
  refine LE.if_ne (n := 633) (tgt := 645) dL_law_630 rfl (by decide) (fun h2 => ?_) (fun h2 => ?_)
  · refine LE.goto (tgt := 2123) dL_law_645 (by decide) ?_
    exact LE.widen (by omega) (by omega) (LE.ofA (L' := LL i) ⟨rfl, rfl, rfl, rfl, rfl, trivial⟩ (K _ _ _ (H1.frame (fun a k _ h => g1 a k h)) g4))
  · have h0 := nI3 hle h2
    refine LE.aload_n (n := 634) dL_law_633 rfl rfl ?_
    refine LE.iconst (n := 635) (nI 0) dL_law_634 rfl (by decide) ?_
    refine LE.lald (n := 636) dL_law_635 rfl ?_
    refine LE.iload (n := 638) dL_law_636 rfl rfl ?_
    refine LE.i2l (n := 639) dL_law_638 rfl ?_
    refine LE.lcmp (n := 640) dL_law_639 rfl ?_
    refine LE.if_eq (n := 643) (tgt := 645) dL_law_640 rfl (by decide) (fun h3 => ?_) (fun h3 => absurd (by
      show lg_cmp o1 bq.toInt64 = 0
      rw [ho h0, g3 h0]
      exact lg_self _) h3)
    refine LE.goto (tgt := 2123) dL_law_645 (by decide) ?_
    exact LE.widen (by omega) (by omega) (LE.ofA (L' := LL i) ⟨rfl, rfl, rfl, rfl, rfl, trivial⟩ (K _ _ _ (H1.frame (fun a k _ h => g1 a k h)) g4))
set_option maxRecDepth 20000 in
set_option maxHeartbeats 1000000 in
theorem k_letter {b Ls : Nat} {xs : Nat → Int32} {Z : ZT} (i : Nat) (hi : i + 4 ≤ Ls ∧ Ls ≤ 2048) (c : CC) (od : Int64 × UInt64) (A : AS) (H : CA c A) (P : Pre c A) (cu su : Nat) (hc : cu + 3 ≤ 603072 ∧ su + 18 ≤ 7211114) (K : ∀ (c1 : CC) (od1 : Int64 × UInt64) (A1 : AS), CA c1 A1 → MA c1 A1 → LE b Ls xs Z 2123 (LL i) [] (c1, od1) (cu + 3) (su + 18)) : LE b Ls xs Z 648 (LL i) [] (c, od) cu su := by
  refine LE.aload_n (n := 649) dL_law_648 rfl rfl ?_
  refine LE.arg (n := 655) (k := 1) (i := i) dL_law_649 dL_law_650 dL_law_652 dL_law_653 dL_law_654 rfl rfl rfl ⟨by omega, hi.2⟩ ?_
  refine LE.arg (n := 661) (k := 2) (i := i) dL_law_655 dL_law_656 dL_law_658 dL_law_659 dL_law_660 rfl rfl rfl ⟨by omega, hi.2⟩ ?_
  refine LE.aload_n (n := 662) dL_law_661 rfl rfl ?_
  have hx : CM mL_letter [.ref 0, .int (xs (i + 1)), .int (xs (i + 2)), .ref 403] (c, od) (PI (HP c (stepC A (S_letter A.1 (xs (i + 1)) (xs (i + 2))) 2))) := x_letter c od A H (xs (i + 1)) (xs (i + 2))
  have hr : ∀ (c1 : CC) (od1 : Int64 × UInt64), Pre c1 A → CM mX6_letter [.ref 395, .int (xs (i + 1)), .int (xs (i + 2))] (c1, od1) (RCP c1 od1 (stepC A (S_letter A.1 (xs (i + 1)) (xs (i + 2))) 2)) := fun c1 od1 P1 => r_letter c1 od1 A P1 (xs (i + 1)) (xs (i + 2))
  generalize stepC A (S_letter A.1 (xs (i + 1)) (xs (i + 2))) 2 = sp at hx hr
  refine LE.callHI (M' := mL_letter) (n := 665) (mc := 1) (ms := 6) (st := []) [.ref 0, .int (xs (i + 1)), .int (xs (i + 2)), .ref 403] dL_law_662 rfl ch_L_157 rfl ⟨rfl, rfl⟩ ⟨by decide, by decide⟩ ⟨by omega, by omega⟩ (Nat.le_of_ble_eq_true rfl) hx (fun k σ1 q => ?_)
  obtain ⟨c1, o1, d1, rfl, f1, H1, rfl, hle, ho⟩ := q
  have P1 := P.frame f1
  refine LE.istore (n := 667) dL_law_665 rfl ⟨by decide, by decide⟩ ?_
  refine LE.aload_n (n := 668) dL_law_667 rfl rfl ?_
  refine LE.arg (n := 674) (k := 1) (i := i) dL_law_668 dL_law_669 dL_law_671 dL_law_672 dL_law_673 rfl rfl rfl ⟨by omega, hi.2⟩ ?_
  refine LE.arg (n := 680) (k := 2) (i := i) dL_law_674 dL_law_675 dL_law_677 dL_law_678 dL_law_679 rfl rfl rfl ⟨by omega, hi.2⟩ ?_
  refine LE.callVI (M' := mX6_letter) (n := 683) (mc := 0) (ms := 0) (a := 395) (d := 6) (st := []) [.int (xs (i + 1)), .int (xs (i + 2))] dL_law_680 rfl cv_L_159 rfl (by decide) ⟨rfl, rfl⟩ ⟨by decide, by decide⟩ ⟨by omega, by omega⟩ (Nat.le_of_ble_eq_true rfl) (hr c1 (o1, d1) P1) (fun bq σ2 q => ?_)
  obtain ⟨c2, rfl, g1, g2, g3, g4⟩ := q
  refine LE.istore (n := 685) dL_law_683 rfl ⟨by decide, by decide⟩ ?_
  refine LE.aload_n (n := 686) dL_law_685 rfl rfl ?_
  refine LE.callVR (M' := mX6_thrown) (n := 689) (mc := 0) (ms := 0) (a := 395) (d := 6) (st := []) [] dL_law_686 rfl cv_L_134 rfl (by decide) ⟨rfl, rfl⟩ ⟨by decide, by decide⟩ ⟨by omega, by omega⟩ (Nat.le_of_ble_eq_true rfl) (m_thrown c2 (o1, d1)) ?_
  refine LE.iload (n := 691) dL_law_689 rfl rfl ?_
  refine LE.icmp_eq (n := 694) (tgt := 696) dL_law_691 rfl (by decide) (fun h1 => ?_) (fun h1 => absurd g2 h1)
  refine LE.iload (n := 698) dL_law_696 rfl rfl ?_
  refine LE.if_ne (n := 701) (tgt := 713) dL_law_698 rfl (by decide) (fun h2 => ?_) (fun h2 => ?_)
  · refine LE.goto (tgt := 2123) dL_law_713 (by decide) ?_
    exact LE.widen (by omega) (by omega) (LE.ofA (L' := LL i) ⟨rfl, rfl, rfl, rfl, rfl, trivial⟩ (K _ _ _ (H1.frame (fun a k _ h => g1 a k h)) g4))
  · have h0 := nI3 hle h2
    refine LE.aload_n (n := 702) dL_law_701 rfl rfl ?_
    refine LE.iconst (n := 703) (nI 0) dL_law_702 rfl (by decide) ?_
    refine LE.lald (n := 704) dL_law_703 rfl ?_
    refine LE.iload (n := 706) dL_law_704 rfl rfl ?_
    refine LE.i2l (n := 707) dL_law_706 rfl ?_
    refine LE.lcmp (n := 708) dL_law_707 rfl ?_
    refine LE.if_eq (n := 711) (tgt := 713) dL_law_708 rfl (by decide) (fun h3 => ?_) (fun h3 => absurd (by
      show lg_cmp o1 bq.toInt64 = 0
      rw [ho h0, g3 h0]
      exact lg_self _) h3)
    refine LE.goto (tgt := 2123) dL_law_713 (by decide) ?_
    exact LE.widen (by omega) (by omega) (LE.ofA (L' := LL i) ⟨rfl, rfl, rfl, rfl, rfl, trivial⟩ (K _ _ _ (H1.frame (fun a k _ h => g1 a k h)) g4))
set_option maxRecDepth 20000 in
set_option maxHeartbeats 1000000 in
theorem k_load {b Ls : Nat} {xs : Nat → Int32} {Z : ZT} (i : Nat) (hi : i + 4 ≤ Ls ∧ Ls ≤ 2048) (c : CC) (od : Int64 × UInt64) (A : AS) (H : CA c A) (P : Pre c A) (cu su : Nat) (hc : cu + 3 ≤ 603072 ∧ su + 18 ≤ 7211114) (K : ∀ (c1 : CC) (od1 : Int64 × UInt64) (A1 : AS), CA c1 A1 → MA c1 A1 → LE b Ls xs Z 2123 (LL i) [] (c1, od1) (cu + 3) (su + 18)) : LE b Ls xs Z 716 (LL i) [] (c, od) cu su := by
  refine LE.aload_n (n := 717) dL_law_716 rfl rfl ?_
  refine LE.arg (n := 723) (k := 1) (i := i) dL_law_717 dL_law_718 dL_law_720 dL_law_721 dL_law_722 rfl rfl rfl ⟨by omega, hi.2⟩ ?_
  refine LE.arg (n := 729) (k := 2) (i := i) dL_law_723 dL_law_724 dL_law_726 dL_law_727 dL_law_728 rfl rfl rfl ⟨by omega, hi.2⟩ ?_
  refine LE.aload_n (n := 730) dL_law_729 rfl rfl ?_
  have hx : CM mL_load [.ref 0, .int (xs (i + 1)), .int (xs (i + 2)), .ref 403] (c, od) (PI (HP c (stepC A (S_loads A.1 (xs (i + 1)) (xs (i + 2))) 2))) := x_load c od A H (xs (i + 1)) (xs (i + 2))
  have hr : ∀ (c1 : CC) (od1 : Int64 × UInt64), Pre c1 A → CM mX6_load [.ref 395, .int (xs (i + 1)), .int (xs (i + 2))] (c1, od1) (RCP c1 od1 (stepC A (S_loads A.1 (xs (i + 1)) (xs (i + 2))) 2)) := fun c1 od1 P1 => r_load c1 od1 A P1 (xs (i + 1)) (xs (i + 2))
  generalize stepC A (S_loads A.1 (xs (i + 1)) (xs (i + 2))) 2 = sp at hx hr
  refine LE.callHI (M' := mL_load) (n := 733) (mc := 1) (ms := 6) (st := []) [.ref 0, .int (xs (i + 1)), .int (xs (i + 2)), .ref 403] dL_law_730 rfl ch_L_160 rfl ⟨rfl, rfl⟩ ⟨by decide, by decide⟩ ⟨by omega, by omega⟩ (Nat.le_of_ble_eq_true rfl) hx (fun k σ1 q => ?_)
  obtain ⟨c1, o1, d1, rfl, f1, H1, rfl, hle, ho⟩ := q
  have P1 := P.frame f1
  refine LE.istore (n := 735) dL_law_733 rfl ⟨by decide, by decide⟩ ?_
  refine LE.aload_n (n := 736) dL_law_735 rfl rfl ?_
  refine LE.arg (n := 742) (k := 1) (i := i) dL_law_736 dL_law_737 dL_law_739 dL_law_740 dL_law_741 rfl rfl rfl ⟨by omega, hi.2⟩ ?_
  refine LE.arg (n := 748) (k := 2) (i := i) dL_law_742 dL_law_743 dL_law_745 dL_law_746 dL_law_747 rfl rfl rfl ⟨by omega, hi.2⟩ ?_
  refine LE.callVI (M' := mX6_load) (n := 751) (mc := 0) (ms := 0) (a := 395) (d := 6) (st := []) [.int (xs (i + 1)), .int (xs (i + 2))] dL_law_748 rfl cv_L_162 rfl (by decide) ⟨rfl, rfl⟩ ⟨by decide, by decide⟩ ⟨by omega, by omega⟩ (Nat.le_of_ble_eq_true rfl) (hr c1 (o1, d1) P1) (fun bq σ2 q => ?_)
  obtain ⟨c2, rfl, g1, g2, g3, g4⟩ := q
  refine LE.istore (n := 753) dL_law_751 rfl ⟨by decide, by decide⟩ ?_
  refine LE.aload_n (n := 754) dL_law_753 rfl rfl ?_
  refine LE.callVR (M' := mX6_thrown) (n := 757) (mc := 0) (ms := 0) (a := 395) (d := 6) (st := []) [] dL_law_754 rfl cv_L_134 rfl (by decide) ⟨rfl, rfl⟩ ⟨by decide, by decide⟩ ⟨by omega, by omega⟩ (Nat.le_of_ble_eq_true rfl) (m_thrown c2 (o1, d1)) ?_
  refine LE.iload (n := 759) dL_law_757 rfl rfl ?_
  refine LE.icmp_eq (n := 762) (tgt := 764) dL_law_759 rfl (by decide) (fun h1 => ?_) (fun h1 => absurd g2 h1)
  refine LE.iload (n := 766) dL_law_764 rfl rfl ?_
  refine LE.if_ne (n := 769) (tgt := 781) dL_law_766 rfl (by decide) (fun h2 => ?_) (fun h2 => ?_)
  · refine LE.goto (tgt := 2123) dL_law_781 (by decide) ?_
    exact LE.widen (by omega) (by omega) (LE.ofA (L' := LL i) ⟨rfl, rfl, rfl, rfl, rfl, trivial⟩ (K _ _ _ (H1.frame (fun a k _ h => g1 a k h)) g4))
  · have h0 := nI3 hle h2
    refine LE.aload_n (n := 770) dL_law_769 rfl rfl ?_
    refine LE.iconst (n := 771) (nI 0) dL_law_770 rfl (by decide) ?_
    refine LE.lald (n := 772) dL_law_771 rfl ?_
    refine LE.iload (n := 774) dL_law_772 rfl rfl ?_
    refine LE.i2l (n := 775) dL_law_774 rfl ?_
    refine LE.lcmp (n := 776) dL_law_775 rfl ?_
    refine LE.if_eq (n := 779) (tgt := 781) dL_law_776 rfl (by decide) (fun h3 => ?_) (fun h3 => absurd (by
      show lg_cmp o1 bq.toInt64 = 0
      rw [ho h0, g3 h0]
      exact lg_self _) h3)
    refine LE.goto (tgt := 2123) dL_law_781 (by decide) ?_
    exact LE.widen (by omega) (by omega) (LE.ofA (L' := LL i) ⟨rfl, rfl, rfl, rfl, rfl, trivial⟩ (K _ _ _ (H1.frame (fun a k _ h => g1 a k h)) g4))
set_option maxRecDepth 20000 in
set_option maxHeartbeats 1000000 in
theorem k_loadAll {b Ls : Nat} {xs : Nat → Int32} {Z : ZT} (i : Nat) (hi : i + 4 ≤ Ls ∧ Ls ≤ 2048) (c : CC) (od : Int64 × UInt64) (A : AS) (H : CA c A) (P : Pre c A) (cu su : Nat) (hc : cu + 3 ≤ 603072 ∧ su + 18 ≤ 7211114) (K : ∀ (c1 : CC) (od1 : Int64 × UInt64) (A1 : AS), CA c1 A1 → MA c1 A1 → LE b Ls xs Z 2123 (LL i) [] (c1, od1) (cu + 3) (su + 18)) : LE b Ls xs Z 784 (LL i) [] (c, od) cu su := by
  refine LE.aload_n (n := 785) dL_law_784 rfl rfl ?_
  refine LE.arg (n := 791) (k := 1) (i := i) dL_law_785 dL_law_786 dL_law_788 dL_law_789 dL_law_790 rfl rfl rfl ⟨by omega, hi.2⟩ ?_
  refine LE.aload_n (n := 792) dL_law_791 rfl rfl ?_
  have hx : CM mL_loadAll [.ref 0, .int (xs (i + 1)), .ref 403] (c, od) (PI (HP c (stepC A (S_loadAll A.1 (xs (i + 1))) 2))) := x_loadAll c od A H (xs (i + 1))
  have hr : ∀ (c1 : CC) (od1 : Int64 × UInt64), Pre c1 A → CM mX6_loadAll [.ref 395, .int (xs (i + 1))] (c1, od1) (RCP c1 od1 (stepC A (S_loadAll A.1 (xs (i + 1))) 2)) := fun c1 od1 P1 => r_loadAll c1 od1 A P1 (xs (i + 1))
  generalize stepC A (S_loadAll A.1 (xs (i + 1))) 2 = sp at hx hr
  refine LE.callHI (M' := mL_loadAll) (n := 795) (mc := 1) (ms := 6) (st := []) [.ref 0, .int (xs (i + 1)), .ref 403] dL_law_792 rfl ch_L_163 rfl ⟨rfl, rfl⟩ ⟨by decide, by decide⟩ ⟨by omega, by omega⟩ (Nat.le_of_ble_eq_true rfl) hx (fun k σ1 q => ?_)
  obtain ⟨c1, o1, d1, rfl, f1, H1, rfl, hle, ho⟩ := q
  have P1 := P.frame f1
  refine LE.istore (n := 797) dL_law_795 rfl ⟨by decide, by decide⟩ ?_
  refine LE.aload_n (n := 798) dL_law_797 rfl rfl ?_
  refine LE.arg (n := 804) (k := 1) (i := i) dL_law_798 dL_law_799 dL_law_801 dL_law_802 dL_law_803 rfl rfl rfl ⟨by omega, hi.2⟩ ?_
  refine LE.callVI (M' := mX6_loadAll) (n := 807) (mc := 0) (ms := 0) (a := 395) (d := 6) (st := []) [.int (xs (i + 1))] dL_law_804 rfl cv_L_165 rfl (by decide) ⟨rfl, rfl⟩ ⟨by decide, by decide⟩ ⟨by omega, by omega⟩ (Nat.le_of_ble_eq_true rfl) (hr c1 (o1, d1) P1) (fun bq σ2 q => ?_)
  obtain ⟨c2, rfl, g1, g2, g3, g4⟩ := q
  refine LE.istore (n := 809) dL_law_807 rfl ⟨by decide, by decide⟩ ?_
  refine LE.aload_n (n := 810) dL_law_809 rfl rfl ?_
  refine LE.callVR (M' := mX6_thrown) (n := 813) (mc := 0) (ms := 0) (a := 395) (d := 6) (st := []) [] dL_law_810 rfl cv_L_134 rfl (by decide) ⟨rfl, rfl⟩ ⟨by decide, by decide⟩ ⟨by omega, by omega⟩ (Nat.le_of_ble_eq_true rfl) (m_thrown c2 (o1, d1)) ?_
  refine LE.iload (n := 815) dL_law_813 rfl rfl ?_
  refine LE.icmp_eq (n := 818) (tgt := 820) dL_law_815 rfl (by decide) (fun h1 => ?_) (fun h1 => absurd g2 h1)
  refine LE.iload (n := 822) dL_law_820 rfl rfl ?_
  refine LE.if_ne (n := 825) (tgt := 837) dL_law_822 rfl (by decide) (fun h2 => ?_) (fun h2 => ?_)
  · refine LE.goto (tgt := 2123) dL_law_837 (by decide) ?_
    exact LE.widen (by omega) (by omega) (LE.ofA (L' := LL i) ⟨rfl, rfl, rfl, rfl, rfl, trivial⟩ (K _ _ _ (H1.frame (fun a k _ h => g1 a k h)) g4))
  · have h0 := nI3 hle h2
    refine LE.aload_n (n := 826) dL_law_825 rfl rfl ?_
    refine LE.iconst (n := 827) (nI 0) dL_law_826 rfl (by decide) ?_
    refine LE.lald (n := 828) dL_law_827 rfl ?_
    refine LE.iload (n := 830) dL_law_828 rfl rfl ?_
    refine LE.i2l (n := 831) dL_law_830 rfl ?_
    refine LE.lcmp (n := 832) dL_law_831 rfl ?_
    refine LE.if_eq (n := 835) (tgt := 837) dL_law_832 rfl (by decide) (fun h3 => ?_) (fun h3 => absurd (by
      show lg_cmp o1 bq.toInt64 = 0
      rw [ho h0, g3 h0]
      exact lg_self _) h3)
    refine LE.goto (tgt := 2123) dL_law_837 (by decide) ?_
    exact LE.widen (by omega) (by omega) (LE.ofA (L' := LL i) ⟨rfl, rfl, rfl, rfl, rfl, trivial⟩ (K _ _ _ (H1.frame (fun a k _ h => g1 a k h)) g4))
set_option maxRecDepth 20000 in
set_option maxHeartbeats 1000000 in
theorem k_launch {b Ls : Nat} {xs : Nat → Int32} {Z : ZT} (i : Nat) (hi : i + 4 ≤ Ls ∧ Ls ≤ 2048) (c : CC) (od : Int64 × UInt64) (A : AS) (H : CA c A) (P : Pre c A) (cu su : Nat) (hc : cu + 3 ≤ 603072 ∧ su + 18 ≤ 7211114) (K : ∀ (c1 : CC) (od1 : Int64 × UInt64) (A1 : AS), CA c1 A1 → MA c1 A1 → LE b Ls xs Z 2123 (LL i) [] (c1, od1) (cu + 3) (su + 18)) : LE b Ls xs Z 840 (LL i) [] (c, od) cu su := by
  refine LE.aload_n (n := 841) dL_law_840 rfl rfl ?_
  refine LE.arg (n := 847) (k := 1) (i := i) dL_law_841 dL_law_842 dL_law_844 dL_law_845 dL_law_846 rfl rfl rfl ⟨by omega, hi.2⟩ ?_
  refine LE.aload_n (n := 848) dL_law_847 rfl rfl ?_
  have hx : CM mL_launch [.ref 0, .int (xs (i + 1)), .ref 403] (c, od) (PI (HP c (stepC A (S_launches A.1 (xs (i + 1))) 2))) := x_launch c od A H (xs (i + 1))
  have hr : ∀ (c1 : CC) (od1 : Int64 × UInt64), Pre c1 A → CM mX6_launch [.ref 395, .int (xs (i + 1))] (c1, od1) (RCP c1 od1 (stepC A (S_launches A.1 (xs (i + 1))) 2)) := fun c1 od1 P1 => r_launch c1 od1 A P1 (xs (i + 1))
  generalize stepC A (S_launches A.1 (xs (i + 1))) 2 = sp at hx hr
  refine LE.callHI (M' := mL_launch) (n := 851) (mc := 1) (ms := 6) (st := []) [.ref 0, .int (xs (i + 1)), .ref 403] dL_law_848 rfl ch_L_166 rfl ⟨rfl, rfl⟩ ⟨by decide, by decide⟩ ⟨by omega, by omega⟩ (Nat.le_of_ble_eq_true rfl) hx (fun k σ1 q => ?_)
  obtain ⟨c1, o1, d1, rfl, f1, H1, rfl, hle, ho⟩ := q
  have P1 := P.frame f1
  refine LE.istore (n := 853) dL_law_851 rfl ⟨by decide, by decide⟩ ?_
  refine LE.aload_n (n := 854) dL_law_853 rfl rfl ?_
  refine LE.arg (n := 860) (k := 1) (i := i) dL_law_854 dL_law_855 dL_law_857 dL_law_858 dL_law_859 rfl rfl rfl ⟨by omega, hi.2⟩ ?_
  refine LE.callVI (M' := mX6_launch) (n := 863) (mc := 0) (ms := 0) (a := 395) (d := 6) (st := []) [.int (xs (i + 1))] dL_law_860 rfl cv_L_168 rfl (by decide) ⟨rfl, rfl⟩ ⟨by decide, by decide⟩ ⟨by omega, by omega⟩ (Nat.le_of_ble_eq_true rfl) (hr c1 (o1, d1) P1) (fun bq σ2 q => ?_)
  obtain ⟨c2, rfl, g1, g2, g3, g4⟩ := q
  refine LE.istore (n := 865) dL_law_863 rfl ⟨by decide, by decide⟩ ?_
  refine LE.aload_n (n := 866) dL_law_865 rfl rfl ?_
  refine LE.callVR (M' := mX6_thrown) (n := 869) (mc := 0) (ms := 0) (a := 395) (d := 6) (st := []) [] dL_law_866 rfl cv_L_134 rfl (by decide) ⟨rfl, rfl⟩ ⟨by decide, by decide⟩ ⟨by omega, by omega⟩ (Nat.le_of_ble_eq_true rfl) (m_thrown c2 (o1, d1)) ?_
  refine LE.iload (n := 871) dL_law_869 rfl rfl ?_
  refine LE.icmp_eq (n := 874) (tgt := 876) dL_law_871 rfl (by decide) (fun h1 => ?_) (fun h1 => absurd g2 h1)
  refine LE.iload (n := 878) dL_law_876 rfl rfl ?_
  refine LE.if_ne (n := 881) (tgt := 893) dL_law_878 rfl (by decide) (fun h2 => ?_) (fun h2 => ?_)
  · refine LE.goto (tgt := 2123) dL_law_893 (by decide) ?_
    exact LE.widen (by omega) (by omega) (LE.ofA (L' := LL i) ⟨rfl, rfl, rfl, rfl, rfl, trivial⟩ (K _ _ _ (H1.frame (fun a k _ h => g1 a k h)) g4))
  · have h0 := nI3 hle h2
    refine LE.aload_n (n := 882) dL_law_881 rfl rfl ?_
    refine LE.iconst (n := 883) (nI 0) dL_law_882 rfl (by decide) ?_
    refine LE.lald (n := 884) dL_law_883 rfl ?_
    refine LE.iload (n := 886) dL_law_884 rfl rfl ?_
    refine LE.i2l (n := 887) dL_law_886 rfl ?_
    refine LE.lcmp (n := 888) dL_law_887 rfl ?_
    refine LE.if_eq (n := 891) (tgt := 893) dL_law_888 rfl (by decide) (fun h3 => ?_) (fun h3 => absurd (by
      show lg_cmp o1 bq.toInt64 = 0
      rw [ho h0, g3 h0]
      exact lg_self _) h3)
    refine LE.goto (tgt := 2123) dL_law_893 (by decide) ?_
    exact LE.widen (by omega) (by omega) (LE.ofA (L' := LL i) ⟨rfl, rfl, rfl, rfl, rfl, trivial⟩ (K _ _ _ (H1.frame (fun a k _ h => g1 a k h)) g4))
set_option maxRecDepth 20000 in
set_option maxHeartbeats 1000000 in
theorem k_drop {b Ls : Nat} {xs : Nat → Int32} {Z : ZT} (i : Nat) (hi : i + 4 ≤ Ls ∧ Ls ≤ 2048) (c : CC) (od : Int64 × UInt64) (A : AS) (H : CA c A) (P : Pre c A) (cu su : Nat) (hc : cu + 3 ≤ 603072 ∧ su + 18 ≤ 7211114) (K : ∀ (c1 : CC) (od1 : Int64 × UInt64) (A1 : AS), CA c1 A1 → MA c1 A1 → LE b Ls xs Z 2123 (LL i) [] (c1, od1) (cu + 3) (su + 18)) : LE b Ls xs Z 896 (LL i) [] (c, od) cu su := by
  refine LE.aload_n (n := 897) dL_law_896 rfl rfl ?_
  refine LE.arg (n := 903) (k := 1) (i := i) dL_law_897 dL_law_898 dL_law_900 dL_law_901 dL_law_902 rfl rfl rfl ⟨by omega, hi.2⟩ ?_
  refine LE.arg (n := 909) (k := 2) (i := i) dL_law_903 dL_law_904 dL_law_906 dL_law_907 dL_law_908 rfl rfl rfl ⟨by omega, hi.2⟩ ?_
  refine LE.aload_n (n := 910) dL_law_909 rfl rfl ?_
  have hx : CM mL_drop [.ref 0, .int (xs (i + 1)), .int (xs (i + 2)), .ref 403] (c, od) (PI (HP c (stepC A (S_drops A.1 (xs (i + 1)) (xs (i + 2))) 3))) := x_drop c od A H (xs (i + 1)) (xs (i + 2))
  have hr : ∀ (c1 : CC) (od1 : Int64 × UInt64), Pre c1 A → CM mX6_drop [.ref 395, .int (xs (i + 1)), .int (xs (i + 2))] (c1, od1) (RCP c1 od1 (stepC A (S_drops A.1 (xs (i + 1)) (xs (i + 2))) 3)) := fun c1 od1 P1 => r_drop c1 od1 A P1 (xs (i + 1)) (xs (i + 2))
  generalize stepC A (S_drops A.1 (xs (i + 1)) (xs (i + 2))) 3 = sp at hx hr
  refine LE.callHI (M' := mL_drop) (n := 913) (mc := 1) (ms := 6) (st := []) [.ref 0, .int (xs (i + 1)), .int (xs (i + 2)), .ref 403] dL_law_910 rfl ch_L_169 rfl ⟨rfl, rfl⟩ ⟨by decide, by decide⟩ ⟨by omega, by omega⟩ (Nat.le_of_ble_eq_true rfl) hx (fun k σ1 q => ?_)
  obtain ⟨c1, o1, d1, rfl, f1, H1, rfl, hle, ho⟩ := q
  have P1 := P.frame f1
  refine LE.istore (n := 915) dL_law_913 rfl ⟨by decide, by decide⟩ ?_
  refine LE.aload_n (n := 916) dL_law_915 rfl rfl ?_
  refine LE.arg (n := 922) (k := 1) (i := i) dL_law_916 dL_law_917 dL_law_919 dL_law_920 dL_law_921 rfl rfl rfl ⟨by omega, hi.2⟩ ?_
  refine LE.arg (n := 928) (k := 2) (i := i) dL_law_922 dL_law_923 dL_law_925 dL_law_926 dL_law_927 rfl rfl rfl ⟨by omega, hi.2⟩ ?_
  refine LE.callVI (M' := mX6_drop) (n := 931) (mc := 0) (ms := 0) (a := 395) (d := 6) (st := []) [.int (xs (i + 1)), .int (xs (i + 2))] dL_law_928 rfl cv_L_171 rfl (by decide) ⟨rfl, rfl⟩ ⟨by decide, by decide⟩ ⟨by omega, by omega⟩ (Nat.le_of_ble_eq_true rfl) (hr c1 (o1, d1) P1) (fun bq σ2 q => ?_)
  obtain ⟨c2, rfl, g1, g2, g3, g4⟩ := q
  refine LE.istore (n := 933) dL_law_931 rfl ⟨by decide, by decide⟩ ?_
  refine LE.aload_n (n := 934) dL_law_933 rfl rfl ?_
  refine LE.callVR (M' := mX6_thrown) (n := 937) (mc := 0) (ms := 0) (a := 395) (d := 6) (st := []) [] dL_law_934 rfl cv_L_134 rfl (by decide) ⟨rfl, rfl⟩ ⟨by decide, by decide⟩ ⟨by omega, by omega⟩ (Nat.le_of_ble_eq_true rfl) (m_thrown c2 (o1, d1)) ?_
  refine LE.iload (n := 939) dL_law_937 rfl rfl ?_
  refine LE.icmp_eq (n := 942) (tgt := 944) dL_law_939 rfl (by decide) (fun h1 => ?_) (fun h1 => absurd g2 h1)
  refine LE.iload (n := 946) dL_law_944 rfl rfl ?_
  refine LE.if_ne (n := 949) (tgt := 961) dL_law_946 rfl (by decide) (fun h2 => ?_) (fun h2 => ?_)
  · refine LE.goto (tgt := 2123) dL_law_961 (by decide) ?_
    exact LE.widen (by omega) (by omega) (LE.ofA (L' := LL i) ⟨rfl, rfl, rfl, rfl, rfl, trivial⟩ (K _ _ _ (H1.frame (fun a k _ h => g1 a k h)) g4))
  · have h0 := nI3 hle h2
    refine LE.aload_n (n := 950) dL_law_949 rfl rfl ?_
    refine LE.iconst (n := 951) (nI 0) dL_law_950 rfl (by decide) ?_
    refine LE.lald (n := 952) dL_law_951 rfl ?_
    refine LE.iload (n := 954) dL_law_952 rfl rfl ?_
    refine LE.i2l (n := 955) dL_law_954 rfl ?_
    refine LE.lcmp (n := 956) dL_law_955 rfl ?_
    refine LE.if_eq (n := 959) (tgt := 961) dL_law_956 rfl (by decide) (fun h3 => ?_) (fun h3 => absurd (by
      show lg_cmp o1 bq.toInt64 = 0
      rw [ho h0, g3 h0]
      exact lg_self _) h3)
    refine LE.goto (tgt := 2123) dL_law_961 (by decide) ?_
    exact LE.widen (by omega) (by omega) (LE.ofA (L' := LL i) ⟨rfl, rfl, rfl, rfl, rfl, trivial⟩ (K _ _ _ (H1.frame (fun a k _ h => g1 a k h)) g4))
set_option maxRecDepth 20000 in
set_option maxHeartbeats 1000000 in
theorem k_pass {b Ls : Nat} {xs : Nat → Int32} {Z : ZT} (i : Nat) (hi : i + 4 ≤ Ls ∧ Ls ≤ 2048) (c : CC) (od : Int64 × UInt64) (A : AS) (H : CA c A) (P : Pre c A) (cu su : Nat) (hc : cu + 3 ≤ 603072 ∧ su + 18 ≤ 7211114) (K : ∀ (c1 : CC) (od1 : Int64 × UInt64) (A1 : AS), CA c1 A1 → MA c1 A1 → LE b Ls xs Z 2123 (LL i) [] (c1, od1) (cu + 3) (su + 18)) : LE b Ls xs Z 964 (LL i) [] (c, od) cu su := by
  refine LE.aload_n (n := 965) dL_law_964 rfl rfl ?_
  refine LE.arg (n := 971) (k := 1) (i := i) dL_law_965 dL_law_966 dL_law_968 dL_law_969 dL_law_970 rfl rfl rfl ⟨by omega, hi.2⟩ ?_
  refine LE.aload_n (n := 972) dL_law_971 rfl rfl ?_
  have hx : CM mL_pass [.ref 0, .int (xs (i + 1)), .ref 403] (c, od) (PI (HP c (stepC A (S_passes A.1 (xs (i + 1))) 1))) := x_pass c od A H (xs (i + 1))
  have hr : ∀ (c1 : CC) (od1 : Int64 × UInt64), Pre c1 A → CM mX6_pass [.ref 395, .int (xs (i + 1))] (c1, od1) (RCP c1 od1 (stepC A (S_passes A.1 (xs (i + 1))) 1)) := fun c1 od1 P1 => r_pass c1 od1 A P1 (xs (i + 1))
  generalize stepC A (S_passes A.1 (xs (i + 1))) 1 = sp at hx hr
  refine LE.callHI (M' := mL_pass) (n := 975) (mc := 1) (ms := 6) (st := []) [.ref 0, .int (xs (i + 1)), .ref 403] dL_law_972 rfl ch_L_172 rfl ⟨rfl, rfl⟩ ⟨by decide, by decide⟩ ⟨by omega, by omega⟩ (Nat.le_of_ble_eq_true rfl) hx (fun k σ1 q => ?_)
  obtain ⟨c1, o1, d1, rfl, f1, H1, rfl, hle, ho⟩ := q
  have P1 := P.frame f1
  refine LE.istore (n := 977) dL_law_975 rfl ⟨by decide, by decide⟩ ?_
  refine LE.aload_n (n := 978) dL_law_977 rfl rfl ?_
  refine LE.arg (n := 984) (k := 1) (i := i) dL_law_978 dL_law_979 dL_law_981 dL_law_982 dL_law_983 rfl rfl rfl ⟨by omega, hi.2⟩ ?_
  refine LE.callVI (M' := mX6_pass) (n := 987) (mc := 0) (ms := 0) (a := 395) (d := 6) (st := []) [.int (xs (i + 1))] dL_law_984 rfl cv_L_174 rfl (by decide) ⟨rfl, rfl⟩ ⟨by decide, by decide⟩ ⟨by omega, by omega⟩ (Nat.le_of_ble_eq_true rfl) (hr c1 (o1, d1) P1) (fun bq σ2 q => ?_)
  obtain ⟨c2, rfl, g1, g2, g3, g4⟩ := q
  refine LE.istore (n := 989) dL_law_987 rfl ⟨by decide, by decide⟩ ?_
  refine LE.aload_n (n := 990) dL_law_989 rfl rfl ?_
  refine LE.callVR (M' := mX6_thrown) (n := 993) (mc := 0) (ms := 0) (a := 395) (d := 6) (st := []) [] dL_law_990 rfl cv_L_134 rfl (by decide) ⟨rfl, rfl⟩ ⟨by decide, by decide⟩ ⟨by omega, by omega⟩ (Nat.le_of_ble_eq_true rfl) (m_thrown c2 (o1, d1)) ?_
  refine LE.iload (n := 995) dL_law_993 rfl rfl ?_
  refine LE.icmp_eq (n := 998) (tgt := 1000) dL_law_995 rfl (by decide) (fun h1 => ?_) (fun h1 => absurd g2 h1)
  refine LE.iload (n := 1002) dL_law_1000 rfl rfl ?_
  refine LE.if_ne (n := 1005) (tgt := 1017) dL_law_1002 rfl (by decide) (fun h2 => ?_) (fun h2 => ?_)
  · refine LE.goto (tgt := 2123) dL_law_1017 (by decide) ?_
    exact LE.widen (by omega) (by omega) (LE.ofA (L' := LL i) ⟨rfl, rfl, rfl, rfl, rfl, trivial⟩ (K _ _ _ (H1.frame (fun a k _ h => g1 a k h)) g4))
  · have h0 := nI3 hle h2
    refine LE.aload_n (n := 1006) dL_law_1005 rfl rfl ?_
    refine LE.iconst (n := 1007) (nI 0) dL_law_1006 rfl (by decide) ?_
    refine LE.lald (n := 1008) dL_law_1007 rfl ?_
    refine LE.iload (n := 1010) dL_law_1008 rfl rfl ?_
    refine LE.i2l (n := 1011) dL_law_1010 rfl ?_
    refine LE.lcmp (n := 1012) dL_law_1011 rfl ?_
    refine LE.if_eq (n := 1015) (tgt := 1017) dL_law_1012 rfl (by decide) (fun h3 => ?_) (fun h3 => absurd (by
      show lg_cmp o1 bq.toInt64 = 0
      rw [ho h0, g3 h0]
      exact lg_self _) h3)
    refine LE.goto (tgt := 2123) dL_law_1017 (by decide) ?_
    exact LE.widen (by omega) (by omega) (LE.ofA (L' := LL i) ⟨rfl, rfl, rfl, rfl, rfl, trivial⟩ (K _ _ _ (H1.frame (fun a k _ h => g1 a k h)) g4))
set_option maxRecDepth 20000 in
set_option maxHeartbeats 1000000 in
theorem k_balloonOf {b Ls : Nat} {xs : Nat → Int32} {Z : ZT} (i : Nat) (hi : i + 4 ≤ Ls ∧ Ls ≤ 2048) (c : CC) (od : Int64 × UInt64) (A : AS) (H : CA c A) (P : Pre c A) (cu su : Nat) (hc : cu + 3 ≤ 603072 ∧ su + 18 ≤ 7211114) (K : ∀ (c1 : CC) (od1 : Int64 × UInt64) (A1 : AS), CA c1 A1 → MA c1 A1 → LE b Ls xs Z 2123 (LL i) [] (c1, od1) (cu + 3) (su + 18)) : LE b Ls xs Z 1020 (LL i) [] (c, od) cu su := by
  refine LE.aload_n (n := 1021) dL_law_1020 rfl rfl ?_
  refine LE.arg (n := 1027) (k := 1) (i := i) dL_law_1021 dL_law_1022 dL_law_1024 dL_law_1025 dL_law_1026 rfl rfl rfl ⟨by omega, hi.2⟩ ?_
  refine LE.arg (n := 1033) (k := 2) (i := i) dL_law_1027 dL_law_1028 dL_law_1030 dL_law_1031 dL_law_1032 rfl rfl rfl ⟨by omega, hi.2⟩ ?_
  refine LE.aload_n (n := 1034) dL_law_1033 rfl rfl ?_
  have hx : CM mL_balloonOf [.ref 0, .int (xs (i + 1)), .int (xs (i + 2)), .ref 403] (c, od) (PI (HP c (stepQ A (Q_balloonOf A.1 (xs (i + 1)) (xs (i + 2)))))) := x_balloonOf c od A H (xs (i + 1)) (xs (i + 2))
  have hr : ∀ (c1 : CC) (od1 : Int64 × UInt64), Pre c1 A → CM mX6_balloonOf [.ref 395, .int (xs (i + 1)), .int (xs (i + 2))] (c1, od1) (RCP c1 od1 (stepQ A (Q_balloonOf A.1 (xs (i + 1)) (xs (i + 2))))) := fun c1 od1 P1 => r_balloonOf c1 od1 A P1 (xs (i + 1)) (xs (i + 2))
  generalize stepQ A (Q_balloonOf A.1 (xs (i + 1)) (xs (i + 2))) = sp at hx hr
  refine LE.callHI (M' := mL_balloonOf) (n := 1037) (mc := 2) (ms := 12) (st := []) [.ref 0, .int (xs (i + 1)), .int (xs (i + 2)), .ref 403] dL_law_1034 rfl ch_L_175 rfl ⟨rfl, rfl⟩ ⟨by decide, by decide⟩ ⟨by omega, by omega⟩ (Nat.le_of_ble_eq_true rfl) hx (fun k σ1 q => ?_)
  obtain ⟨c1, o1, d1, rfl, f1, H1, rfl, hle, ho⟩ := q
  have P1 := P.frame f1
  refine LE.istore (n := 1039) dL_law_1037 rfl ⟨by decide, by decide⟩ ?_
  refine LE.aload_n (n := 1040) dL_law_1039 rfl rfl ?_
  refine LE.arg (n := 1046) (k := 1) (i := i) dL_law_1040 dL_law_1041 dL_law_1043 dL_law_1044 dL_law_1045 rfl rfl rfl ⟨by omega, hi.2⟩ ?_
  refine LE.arg (n := 1052) (k := 2) (i := i) dL_law_1046 dL_law_1047 dL_law_1049 dL_law_1050 dL_law_1051 rfl rfl rfl ⟨by omega, hi.2⟩ ?_
  refine LE.callVI (M' := mX6_balloonOf) (n := 1055) (mc := 0) (ms := 0) (a := 395) (d := 6) (st := []) [.int (xs (i + 1)), .int (xs (i + 2))] dL_law_1052 rfl cv_L_177 rfl (by decide) ⟨rfl, rfl⟩ ⟨by decide, by decide⟩ ⟨by omega, by omega⟩ (Nat.le_of_ble_eq_true rfl) (hr c1 (o1, d1) P1) (fun bq σ2 q => ?_)
  obtain ⟨c2, rfl, g1, g2, g3, g4⟩ := q
  refine LE.istore (n := 1057) dL_law_1055 rfl ⟨by decide, by decide⟩ ?_
  refine LE.aload_n (n := 1058) dL_law_1057 rfl rfl ?_
  refine LE.callVR (M' := mX6_thrown) (n := 1061) (mc := 0) (ms := 0) (a := 395) (d := 6) (st := []) [] dL_law_1058 rfl cv_L_134 rfl (by decide) ⟨rfl, rfl⟩ ⟨by decide, by decide⟩ ⟨by omega, by omega⟩ (Nat.le_of_ble_eq_true rfl) (m_thrown c2 (o1, d1)) ?_
  refine LE.iload (n := 1063) dL_law_1061 rfl rfl ?_
  refine LE.icmp_eq (n := 1066) (tgt := 1068) dL_law_1063 rfl (by decide) (fun h1 => ?_) (fun h1 => absurd g2 h1)
  refine LE.iload (n := 1070) dL_law_1068 rfl rfl ?_
  refine LE.if_ne (n := 1073) (tgt := 1085) dL_law_1070 rfl (by decide) (fun h2 => ?_) (fun h2 => ?_)
  · refine LE.goto (tgt := 2123) dL_law_1085 (by decide) ?_
    exact LE.widen (by omega) (by omega) (LE.ofA (L' := LL i) ⟨rfl, rfl, rfl, rfl, rfl, trivial⟩ (K _ _ _ (H1.frame (fun a k _ h => g1 a k h)) g4))
  · have h0 := nI3 hle h2
    refine LE.aload_n (n := 1074) dL_law_1073 rfl rfl ?_
    refine LE.iconst (n := 1075) (nI 0) dL_law_1074 rfl (by decide) ?_
    refine LE.lald (n := 1076) dL_law_1075 rfl ?_
    refine LE.iload (n := 1078) dL_law_1076 rfl rfl ?_
    refine LE.i2l (n := 1079) dL_law_1078 rfl ?_
    refine LE.lcmp (n := 1080) dL_law_1079 rfl ?_
    refine LE.if_eq (n := 1083) (tgt := 1085) dL_law_1080 rfl (by decide) (fun h3 => ?_) (fun h3 => absurd (by
      show lg_cmp o1 bq.toInt64 = 0
      rw [ho h0, g3 h0]
      exact lg_self _) h3)
    refine LE.goto (tgt := 2123) dL_law_1085 (by decide) ?_
    exact LE.widen (by omega) (by omega) (LE.ofA (L' := LL i) ⟨rfl, rfl, rfl, rfl, rfl, trivial⟩ (K _ _ _ (H1.frame (fun a k _ h => g1 a k h)) g4))
set_option maxRecDepth 20000 in
set_option maxHeartbeats 1000000 in
theorem k_letterOf {b Ls : Nat} {xs : Nat → Int32} {Z : ZT} (i : Nat) (hi : i + 4 ≤ Ls ∧ Ls ≤ 2048) (c : CC) (od : Int64 × UInt64) (A : AS) (H : CA c A) (P : Pre c A) (cu su : Nat) (hc : cu + 3 ≤ 603072 ∧ su + 18 ≤ 7211114) (K : ∀ (c1 : CC) (od1 : Int64 × UInt64) (A1 : AS), CA c1 A1 → MA c1 A1 → LE b Ls xs Z 2123 (LL i) [] (c1, od1) (cu + 3) (su + 18)) : LE b Ls xs Z 1088 (LL i) [] (c, od) cu su := by
  refine LE.aload_n (n := 1089) dL_law_1088 rfl rfl ?_
  refine LE.arg (n := 1095) (k := 1) (i := i) dL_law_1089 dL_law_1090 dL_law_1092 dL_law_1093 dL_law_1094 rfl rfl rfl ⟨by omega, hi.2⟩ ?_
  refine LE.arg (n := 1101) (k := 2) (i := i) dL_law_1095 dL_law_1096 dL_law_1098 dL_law_1099 dL_law_1100 rfl rfl rfl ⟨by omega, hi.2⟩ ?_
  refine LE.aload_n (n := 1102) dL_law_1101 rfl rfl ?_
  have hx : CM mL_letterOf [.ref 0, .int (xs (i + 1)), .int (xs (i + 2)), .ref 403] (c, od) (PI (HP c (stepQ A (Q_letterOf A.1 (xs (i + 1)) (xs (i + 2)))))) := x_letterOf c od A H (xs (i + 1)) (xs (i + 2))
  have hr : ∀ (c1 : CC) (od1 : Int64 × UInt64), Pre c1 A → CM mX6_letterOf [.ref 395, .int (xs (i + 1)), .int (xs (i + 2))] (c1, od1) (RCP c1 od1 (stepQ A (Q_letterOf A.1 (xs (i + 1)) (xs (i + 2))))) := fun c1 od1 P1 => r_letterOf c1 od1 A P1 (xs (i + 1)) (xs (i + 2))
  generalize stepQ A (Q_letterOf A.1 (xs (i + 1)) (xs (i + 2))) = sp at hx hr
  refine LE.callHI (M' := mL_letterOf) (n := 1105) (mc := 1) (ms := 6) (st := []) [.ref 0, .int (xs (i + 1)), .int (xs (i + 2)), .ref 403] dL_law_1102 rfl ch_L_178 rfl ⟨rfl, rfl⟩ ⟨by decide, by decide⟩ ⟨by omega, by omega⟩ (Nat.le_of_ble_eq_true rfl) hx (fun k σ1 q => ?_)
  obtain ⟨c1, o1, d1, rfl, f1, H1, rfl, hle, ho⟩ := q
  have P1 := P.frame f1
  refine LE.istore (n := 1107) dL_law_1105 rfl ⟨by decide, by decide⟩ ?_
  refine LE.aload_n (n := 1108) dL_law_1107 rfl rfl ?_
  refine LE.arg (n := 1114) (k := 1) (i := i) dL_law_1108 dL_law_1109 dL_law_1111 dL_law_1112 dL_law_1113 rfl rfl rfl ⟨by omega, hi.2⟩ ?_
  refine LE.arg (n := 1120) (k := 2) (i := i) dL_law_1114 dL_law_1115 dL_law_1117 dL_law_1118 dL_law_1119 rfl rfl rfl ⟨by omega, hi.2⟩ ?_
  refine LE.callVI (M' := mX6_letterOf) (n := 1123) (mc := 0) (ms := 0) (a := 395) (d := 6) (st := []) [.int (xs (i + 1)), .int (xs (i + 2))] dL_law_1120 rfl cv_L_180 rfl (by decide) ⟨rfl, rfl⟩ ⟨by decide, by decide⟩ ⟨by omega, by omega⟩ (Nat.le_of_ble_eq_true rfl) (hr c1 (o1, d1) P1) (fun bq σ2 q => ?_)
  obtain ⟨c2, rfl, g1, g2, g3, g4⟩ := q
  refine LE.istore (n := 1125) dL_law_1123 rfl ⟨by decide, by decide⟩ ?_
  refine LE.aload_n (n := 1126) dL_law_1125 rfl rfl ?_
  refine LE.callVR (M' := mX6_thrown) (n := 1129) (mc := 0) (ms := 0) (a := 395) (d := 6) (st := []) [] dL_law_1126 rfl cv_L_134 rfl (by decide) ⟨rfl, rfl⟩ ⟨by decide, by decide⟩ ⟨by omega, by omega⟩ (Nat.le_of_ble_eq_true rfl) (m_thrown c2 (o1, d1)) ?_
  refine LE.iload (n := 1131) dL_law_1129 rfl rfl ?_
  refine LE.icmp_eq (n := 1134) (tgt := 1136) dL_law_1131 rfl (by decide) (fun h1 => ?_) (fun h1 => absurd g2 h1)
  refine LE.iload (n := 1138) dL_law_1136 rfl rfl ?_
  refine LE.if_ne (n := 1141) (tgt := 1153) dL_law_1138 rfl (by decide) (fun h2 => ?_) (fun h2 => ?_)
  · refine LE.goto (tgt := 2123) dL_law_1153 (by decide) ?_
    exact LE.widen (by omega) (by omega) (LE.ofA (L' := LL i) ⟨rfl, rfl, rfl, rfl, rfl, trivial⟩ (K _ _ _ (H1.frame (fun a k _ h => g1 a k h)) g4))
  · have h0 := nI3 hle h2
    refine LE.aload_n (n := 1142) dL_law_1141 rfl rfl ?_
    refine LE.iconst (n := 1143) (nI 0) dL_law_1142 rfl (by decide) ?_
    refine LE.lald (n := 1144) dL_law_1143 rfl ?_
    refine LE.iload (n := 1146) dL_law_1144 rfl rfl ?_
    refine LE.i2l (n := 1147) dL_law_1146 rfl ?_
    refine LE.lcmp (n := 1148) dL_law_1147 rfl ?_
    refine LE.if_eq (n := 1151) (tgt := 1153) dL_law_1148 rfl (by decide) (fun h3 => ?_) (fun h3 => absurd (by
      show lg_cmp o1 bq.toInt64 = 0
      rw [ho h0, g3 h0]
      exact lg_self _) h3)
    refine LE.goto (tgt := 2123) dL_law_1153 (by decide) ?_
    exact LE.widen (by omega) (by omega) (LE.ofA (L' := LL i) ⟨rfl, rfl, rfl, rfl, rfl, trivial⟩ (K _ _ _ (H1.frame (fun a k _ h => g1 a k h)) g4))
set_option maxRecDepth 20000 in
set_option maxHeartbeats 1000000 in
theorem k_weightAgain {b Ls : Nat} {xs : Nat → Int32} {Z : ZT} (i : Nat) (hi : i + 4 ≤ Ls ∧ Ls ≤ 2048) (c : CC) (od : Int64 × UInt64) (A : AS) (H : CA c A) (P : Pre c A) (cu su : Nat) (hc : cu + 3 ≤ 603072 ∧ su + 18 ≤ 7211114) (K : ∀ (c1 : CC) (od1 : Int64 × UInt64) (A1 : AS), CA c1 A1 → MA c1 A1 → LE b Ls xs Z 2123 (LL i) [] (c1, od1) (cu + 3) (su + 18)) : LE b Ls xs Z 1156 (LL i) [] (c, od) cu su := by
  refine LE.aload_n (n := 1157) dL_law_1156 rfl rfl ?_
  refine LE.arg (n := 1163) (k := 1) (i := i) dL_law_1157 dL_law_1158 dL_law_1160 dL_law_1161 dL_law_1162 rfl rfl rfl ⟨by omega, hi.2⟩ ?_
  refine LE.aload_n (n := 1164) dL_law_1163 rfl rfl ?_
  have hx : CM mL_weightAgain [.ref 0, .int (xs (i + 1)), .ref 403] (c, od) (PI (HP c (stepQ A (Q_weight A.1 (xs (i + 1)))))) := x_weightAgain c od A H (xs (i + 1))
  have hr : ∀ (c1 : CC) (od1 : Int64 × UInt64), Pre c1 A → CM mX6_weightAgain [.ref 395, .int (xs (i + 1))] (c1, od1) (RCP c1 od1 (stepQ A (Q_weight A.1 (xs (i + 1))))) := fun c1 od1 P1 => r_weightAgain c1 od1 A P1 (xs (i + 1))
  generalize stepQ A (Q_weight A.1 (xs (i + 1))) = sp at hx hr
  refine LE.callHI (M' := mL_weightAgain) (n := 1167) (mc := 1) (ms := 6) (st := []) [.ref 0, .int (xs (i + 1)), .ref 403] dL_law_1164 rfl ch_L_181 rfl ⟨rfl, rfl⟩ ⟨by decide, by decide⟩ ⟨by omega, by omega⟩ (Nat.le_of_ble_eq_true rfl) hx (fun k σ1 q => ?_)
  obtain ⟨c1, o1, d1, rfl, f1, H1, rfl, hle, ho⟩ := q
  have P1 := P.frame f1
  refine LE.istore (n := 1169) dL_law_1167 rfl ⟨by decide, by decide⟩ ?_
  refine LE.aload_n (n := 1170) dL_law_1169 rfl rfl ?_
  refine LE.arg (n := 1176) (k := 1) (i := i) dL_law_1170 dL_law_1171 dL_law_1173 dL_law_1174 dL_law_1175 rfl rfl rfl ⟨by omega, hi.2⟩ ?_
  refine LE.callVI (M' := mX6_weightAgain) (n := 1179) (mc := 0) (ms := 0) (a := 395) (d := 6) (st := []) [.int (xs (i + 1))] dL_law_1176 rfl cv_L_183 rfl (by decide) ⟨rfl, rfl⟩ ⟨by decide, by decide⟩ ⟨by omega, by omega⟩ (Nat.le_of_ble_eq_true rfl) (hr c1 (o1, d1) P1) (fun bq σ2 q => ?_)
  obtain ⟨c2, rfl, g1, g2, g3, g4⟩ := q
  refine LE.istore (n := 1181) dL_law_1179 rfl ⟨by decide, by decide⟩ ?_
  refine LE.aload_n (n := 1182) dL_law_1181 rfl rfl ?_
  refine LE.callVR (M' := mX6_thrown) (n := 1185) (mc := 0) (ms := 0) (a := 395) (d := 6) (st := []) [] dL_law_1182 rfl cv_L_134 rfl (by decide) ⟨rfl, rfl⟩ ⟨by decide, by decide⟩ ⟨by omega, by omega⟩ (Nat.le_of_ble_eq_true rfl) (m_thrown c2 (o1, d1)) ?_
  refine LE.iload (n := 1187) dL_law_1185 rfl rfl ?_
  refine LE.icmp_eq (n := 1190) (tgt := 1192) dL_law_1187 rfl (by decide) (fun h1 => ?_) (fun h1 => absurd g2 h1)
  refine LE.iload (n := 1194) dL_law_1192 rfl rfl ?_
  refine LE.if_ne (n := 1197) (tgt := 1209) dL_law_1194 rfl (by decide) (fun h2 => ?_) (fun h2 => ?_)
  · refine LE.goto (tgt := 2123) dL_law_1209 (by decide) ?_
    exact LE.widen (by omega) (by omega) (LE.ofA (L' := LL i) ⟨rfl, rfl, rfl, rfl, rfl, trivial⟩ (K _ _ _ (H1.frame (fun a k _ h => g1 a k h)) g4))
  · have h0 := nI3 hle h2
    refine LE.aload_n (n := 1198) dL_law_1197 rfl rfl ?_
    refine LE.iconst (n := 1199) (nI 0) dL_law_1198 rfl (by decide) ?_
    refine LE.lald (n := 1200) dL_law_1199 rfl ?_
    refine LE.iload (n := 1202) dL_law_1200 rfl rfl ?_
    refine LE.i2l (n := 1203) dL_law_1202 rfl ?_
    refine LE.lcmp (n := 1204) dL_law_1203 rfl ?_
    refine LE.if_eq (n := 1207) (tgt := 1209) dL_law_1204 rfl (by decide) (fun h3 => ?_) (fun h3 => absurd (by
      show lg_cmp o1 bq.toInt64 = 0
      rw [ho h0, g3 h0]
      exact lg_self _) h3)
    refine LE.goto (tgt := 2123) dL_law_1209 (by decide) ?_
    exact LE.widen (by omega) (by omega) (LE.ofA (L' := LL i) ⟨rfl, rfl, rfl, rfl, rfl, trivial⟩ (K _ _ _ (H1.frame (fun a k _ h => g1 a k h)) g4))
set_option maxRecDepth 20000 in
set_option maxHeartbeats 1000000 in
theorem k_waiting {b Ls : Nat} {xs : Nat → Int32} {Z : ZT} (i : Nat) (hi : i + 4 ≤ Ls ∧ Ls ≤ 2048) (c : CC) (od : Int64 × UInt64) (A : AS) (H : CA c A) (P : Pre c A) (cu su : Nat) (hc : cu + 3 ≤ 603072 ∧ su + 18 ≤ 7211114) (K : ∀ (c1 : CC) (od1 : Int64 × UInt64) (A1 : AS), CA c1 A1 → MA c1 A1 → LE b Ls xs Z 2123 (LL i) [] (c1, od1) (cu + 3) (su + 18)) : LE b Ls xs Z 1212 (LL i) [] (c, od) cu su := by
  refine LE.aload_n (n := 1213) dL_law_1212 rfl rfl ?_
  refine LE.arg (n := 1219) (k := 1) (i := i) dL_law_1213 dL_law_1214 dL_law_1216 dL_law_1217 dL_law_1218 rfl rfl rfl ⟨by omega, hi.2⟩ ?_
  refine LE.aload_n (n := 1220) dL_law_1219 rfl rfl ?_
  have hx : CM mL_waiting [.ref 0, .int (xs (i + 1)), .ref 403] (c, od) (PI (HP c (stepQ A (Q_waiting A.1 (xs (i + 1)))))) := x_waiting c od A H (xs (i + 1))
  have hr : ∀ (c1 : CC) (od1 : Int64 × UInt64), Pre c1 A → CM mX6_waiting [.ref 395, .int (xs (i + 1))] (c1, od1) (RCP c1 od1 (stepQ A (Q_waiting A.1 (xs (i + 1))))) := fun c1 od1 P1 => r_waiting c1 od1 A P1 (xs (i + 1))
  generalize stepQ A (Q_waiting A.1 (xs (i + 1))) = sp at hx hr
  refine LE.callHI (M' := mL_waiting) (n := 1223) (mc := 1) (ms := 6) (st := []) [.ref 0, .int (xs (i + 1)), .ref 403] dL_law_1220 rfl ch_L_184 rfl ⟨rfl, rfl⟩ ⟨by decide, by decide⟩ ⟨by omega, by omega⟩ (Nat.le_of_ble_eq_true rfl) hx (fun k σ1 q => ?_)
  obtain ⟨c1, o1, d1, rfl, f1, H1, rfl, hle, ho⟩ := q
  have P1 := P.frame f1
  refine LE.istore (n := 1225) dL_law_1223 rfl ⟨by decide, by decide⟩ ?_
  refine LE.aload_n (n := 1226) dL_law_1225 rfl rfl ?_
  refine LE.arg (n := 1232) (k := 1) (i := i) dL_law_1226 dL_law_1227 dL_law_1229 dL_law_1230 dL_law_1231 rfl rfl rfl ⟨by omega, hi.2⟩ ?_
  refine LE.callVI (M' := mX6_waiting) (n := 1235) (mc := 0) (ms := 0) (a := 395) (d := 6) (st := []) [.int (xs (i + 1))] dL_law_1232 rfl cv_L_186 rfl (by decide) ⟨rfl, rfl⟩ ⟨by decide, by decide⟩ ⟨by omega, by omega⟩ (Nat.le_of_ble_eq_true rfl) (hr c1 (o1, d1) P1) (fun bq σ2 q => ?_)
  obtain ⟨c2, rfl, g1, g2, g3, g4⟩ := q
  refine LE.istore (n := 1237) dL_law_1235 rfl ⟨by decide, by decide⟩ ?_
  refine LE.aload_n (n := 1238) dL_law_1237 rfl rfl ?_
  refine LE.callVR (M' := mX6_thrown) (n := 1241) (mc := 0) (ms := 0) (a := 395) (d := 6) (st := []) [] dL_law_1238 rfl cv_L_134 rfl (by decide) ⟨rfl, rfl⟩ ⟨by decide, by decide⟩ ⟨by omega, by omega⟩ (Nat.le_of_ble_eq_true rfl) (m_thrown c2 (o1, d1)) ?_
  refine LE.iload (n := 1243) dL_law_1241 rfl rfl ?_
  refine LE.icmp_eq (n := 1246) (tgt := 1248) dL_law_1243 rfl (by decide) (fun h1 => ?_) (fun h1 => absurd g2 h1)
  refine LE.iload (n := 1250) dL_law_1248 rfl rfl ?_
  refine LE.if_ne (n := 1253) (tgt := 1265) dL_law_1250 rfl (by decide) (fun h2 => ?_) (fun h2 => ?_)
  · refine LE.goto (tgt := 2123) dL_law_1265 (by decide) ?_
    exact LE.widen (by omega) (by omega) (LE.ofA (L' := LL i) ⟨rfl, rfl, rfl, rfl, rfl, trivial⟩ (K _ _ _ (H1.frame (fun a k _ h => g1 a k h)) g4))
  · have h0 := nI3 hle h2
    refine LE.aload_n (n := 1254) dL_law_1253 rfl rfl ?_
    refine LE.iconst (n := 1255) (nI 0) dL_law_1254 rfl (by decide) ?_
    refine LE.lald (n := 1256) dL_law_1255 rfl ?_
    refine LE.iload (n := 1258) dL_law_1256 rfl rfl ?_
    refine LE.i2l (n := 1259) dL_law_1258 rfl ?_
    refine LE.lcmp (n := 1260) dL_law_1259 rfl ?_
    refine LE.if_eq (n := 1263) (tgt := 1265) dL_law_1260 rfl (by decide) (fun h3 => ?_) (fun h3 => absurd (by
      show lg_cmp o1 bq.toInt64 = 0
      rw [ho h0, g3 h0]
      exact lg_self _) h3)
    refine LE.goto (tgt := 2123) dL_law_1265 (by decide) ?_
    exact LE.widen (by omega) (by omega) (LE.ofA (L' := LL i) ⟨rfl, rfl, rfl, rfl, rfl, trivial⟩ (K _ _ _ (H1.frame (fun a k _ h => g1 a k h)) g4))
set_option maxRecDepth 20000 in
set_option maxHeartbeats 1000000 in
theorem k_word {b Ls : Nat} {xs : Nat → Int32} {Z : ZT} (i : Nat) (hi : i + 4 ≤ Ls ∧ Ls ≤ 2048) (c : CC) (od : Int64 × UInt64) (A : AS) (H : CA c A) (P : Pre c A) (cu su : Nat) (hc : cu + 3 ≤ 603072 ∧ su + 18 ≤ 7211114) (K : ∀ (c1 : CC) (od1 : Int64 × UInt64) (A1 : AS), CA c1 A1 → MA c1 A1 → LE b Ls xs Z 2123 (LL i) [] (c1, od1) (cu + 3) (su + 18)) : LE b Ls xs Z 1268 (LL i) [] (c, od) cu su := by
  refine LE.aload_n (n := 1269) dL_law_1268 rfl rfl ?_
  refine LE.arg (n := 1275) (k := 1) (i := i) dL_law_1269 dL_law_1270 dL_law_1272 dL_law_1273 dL_law_1274 rfl rfl rfl ⟨by omega, hi.2⟩ ?_
  refine LE.aload_n (n := 1276) dL_law_1275 rfl rfl ?_
  have hx : CM mL_word [.ref 0, .int (xs (i + 1)), .ref 403] (c, od) (PI (HP c (stepQ A (Q_word A.1 (xs (i + 1)))))) := x_word c od A H (xs (i + 1))
  have hr : ∀ (c1 : CC) (od1 : Int64 × UInt64), Pre c1 A → CM mX6_word [.ref 395, .int (xs (i + 1))] (c1, od1) (RCP c1 od1 (stepQ A (Q_word A.1 (xs (i + 1))))) := fun c1 od1 P1 => r_word c1 od1 A P1 (xs (i + 1))
  generalize stepQ A (Q_word A.1 (xs (i + 1))) = sp at hx hr
  refine LE.callHI (M' := mL_word) (n := 1279) (mc := 2) (ms := 12) (st := []) [.ref 0, .int (xs (i + 1)), .ref 403] dL_law_1276 rfl ch_L_187 rfl ⟨rfl, rfl⟩ ⟨by decide, by decide⟩ ⟨by omega, by omega⟩ (Nat.le_of_ble_eq_true rfl) hx (fun k σ1 q => ?_)
  obtain ⟨c1, o1, d1, rfl, f1, H1, rfl, hle, ho⟩ := q
  have P1 := P.frame f1
  refine LE.istore (n := 1281) dL_law_1279 rfl ⟨by decide, by decide⟩ ?_
  refine LE.aload_n (n := 1282) dL_law_1281 rfl rfl ?_
  refine LE.arg (n := 1288) (k := 1) (i := i) dL_law_1282 dL_law_1283 dL_law_1285 dL_law_1286 dL_law_1287 rfl rfl rfl ⟨by omega, hi.2⟩ ?_
  refine LE.callVI (M' := mX6_word) (n := 1291) (mc := 0) (ms := 0) (a := 395) (d := 6) (st := []) [.int (xs (i + 1))] dL_law_1288 rfl cv_L_189 rfl (by decide) ⟨rfl, rfl⟩ ⟨by decide, by decide⟩ ⟨by omega, by omega⟩ (Nat.le_of_ble_eq_true rfl) (hr c1 (o1, d1) P1) (fun bq σ2 q => ?_)
  obtain ⟨c2, rfl, g1, g2, g3, g4⟩ := q
  refine LE.istore (n := 1293) dL_law_1291 rfl ⟨by decide, by decide⟩ ?_
  refine LE.aload_n (n := 1294) dL_law_1293 rfl rfl ?_
  refine LE.callVR (M' := mX6_thrown) (n := 1297) (mc := 0) (ms := 0) (a := 395) (d := 6) (st := []) [] dL_law_1294 rfl cv_L_134 rfl (by decide) ⟨rfl, rfl⟩ ⟨by decide, by decide⟩ ⟨by omega, by omega⟩ (Nat.le_of_ble_eq_true rfl) (m_thrown c2 (o1, d1)) ?_
  refine LE.iload (n := 1299) dL_law_1297 rfl rfl ?_
  refine LE.icmp_eq (n := 1302) (tgt := 1304) dL_law_1299 rfl (by decide) (fun h1 => ?_) (fun h1 => absurd g2 h1)
  refine LE.iload (n := 1306) dL_law_1304 rfl rfl ?_
  refine LE.if_ne (n := 1309) (tgt := 1321) dL_law_1306 rfl (by decide) (fun h2 => ?_) (fun h2 => ?_)
  · refine LE.goto (tgt := 2123) dL_law_1321 (by decide) ?_
    exact LE.widen (by omega) (by omega) (LE.ofA (L' := LL i) ⟨rfl, rfl, rfl, rfl, rfl, trivial⟩ (K _ _ _ (H1.frame (fun a k _ h => g1 a k h)) g4))
  · have h0 := nI3 hle h2
    refine LE.aload_n (n := 1310) dL_law_1309 rfl rfl ?_
    refine LE.iconst (n := 1311) (nI 0) dL_law_1310 rfl (by decide) ?_
    refine LE.lald (n := 1312) dL_law_1311 rfl ?_
    refine LE.iload (n := 1314) dL_law_1312 rfl rfl ?_
    refine LE.i2l (n := 1315) dL_law_1314 rfl ?_
    refine LE.lcmp (n := 1316) dL_law_1315 rfl ?_
    refine LE.if_eq (n := 1319) (tgt := 1321) dL_law_1316 rfl (by decide) (fun h3 => ?_) (fun h3 => absurd (by
      show lg_cmp o1 bq.toInt64 = 0
      rw [ho h0, g3 h0]
      exact lg_self _) h3)
    refine LE.goto (tgt := 2123) dL_law_1321 (by decide) ?_
    exact LE.widen (by omega) (by omega) (LE.ofA (L' := LL i) ⟨rfl, rfl, rfl, rfl, rfl, trivial⟩ (K _ _ _ (H1.frame (fun a k _ h => g1 a k h)) g4))
set_option maxRecDepth 20000 in
set_option maxHeartbeats 1000000 in
theorem k_sign {b Ls : Nat} {xs : Nat → Int32} {Z : ZT} (i : Nat) (hi : i + 4 ≤ Ls ∧ Ls ≤ 2048) (c : CC) (od : Int64 × UInt64) (A : AS) (H : CA c A) (P : Pre c A) (cu su : Nat) (hc : cu + 3 ≤ 603072 ∧ su + 18 ≤ 7211114) (K : ∀ (c1 : CC) (od1 : Int64 × UInt64) (A1 : AS), CA c1 A1 → MA c1 A1 → LE b Ls xs Z 2123 (LL i) [] (c1, od1) (cu + 3) (su + 18)) : LE b Ls xs Z 1324 (LL i) [] (c, od) cu su := by
  refine LE.aload_n (n := 1325) dL_law_1324 rfl rfl ?_
  refine LE.arg (n := 1331) (k := 1) (i := i) dL_law_1325 dL_law_1326 dL_law_1328 dL_law_1329 dL_law_1330 rfl rfl rfl ⟨by omega, hi.2⟩ ?_
  refine LE.aload_n (n := 1332) dL_law_1331 rfl rfl ?_
  have hx : CM mL_sign [.ref 0, .int (xs (i + 1)), .ref 403] (c, od) (PI (HP c (stepQ A (Q_sign A.1 (xs (i + 1)))))) := x_sign c od A H (xs (i + 1))
  have hr : ∀ (c1 : CC) (od1 : Int64 × UInt64), Pre c1 A → CM mX6_sign [.ref 395, .int (xs (i + 1))] (c1, od1) (RCP c1 od1 (stepQ A (Q_sign A.1 (xs (i + 1))))) := fun c1 od1 P1 => r_sign c1 od1 A P1 (xs (i + 1))
  generalize stepQ A (Q_sign A.1 (xs (i + 1))) = sp at hx hr
  refine LE.callHI (M' := mL_sign) (n := 1335) (mc := 1) (ms := 6) (st := []) [.ref 0, .int (xs (i + 1)), .ref 403] dL_law_1332 rfl ch_L_190 rfl ⟨rfl, rfl⟩ ⟨by decide, by decide⟩ ⟨by omega, by omega⟩ (Nat.le_of_ble_eq_true rfl) hx (fun k σ1 q => ?_)
  obtain ⟨c1, o1, d1, rfl, f1, H1, rfl, hle, ho⟩ := q
  have P1 := P.frame f1
  refine LE.istore (n := 1337) dL_law_1335 rfl ⟨by decide, by decide⟩ ?_
  refine LE.aload_n (n := 1338) dL_law_1337 rfl rfl ?_
  refine LE.arg (n := 1344) (k := 1) (i := i) dL_law_1338 dL_law_1339 dL_law_1341 dL_law_1342 dL_law_1343 rfl rfl rfl ⟨by omega, hi.2⟩ ?_
  refine LE.callVI (M' := mX6_sign) (n := 1347) (mc := 0) (ms := 0) (a := 395) (d := 6) (st := []) [.int (xs (i + 1))] dL_law_1344 rfl cv_L_192 rfl (by decide) ⟨rfl, rfl⟩ ⟨by decide, by decide⟩ ⟨by omega, by omega⟩ (Nat.le_of_ble_eq_true rfl) (hr c1 (o1, d1) P1) (fun bq σ2 q => ?_)
  obtain ⟨c2, rfl, g1, g2, g3, g4⟩ := q
  refine LE.istore (n := 1349) dL_law_1347 rfl ⟨by decide, by decide⟩ ?_
  refine LE.aload_n (n := 1350) dL_law_1349 rfl rfl ?_
  refine LE.callVR (M' := mX6_thrown) (n := 1353) (mc := 0) (ms := 0) (a := 395) (d := 6) (st := []) [] dL_law_1350 rfl cv_L_134 rfl (by decide) ⟨rfl, rfl⟩ ⟨by decide, by decide⟩ ⟨by omega, by omega⟩ (Nat.le_of_ble_eq_true rfl) (m_thrown c2 (o1, d1)) ?_
  refine LE.iload (n := 1355) dL_law_1353 rfl rfl ?_
  refine LE.icmp_eq (n := 1358) (tgt := 1360) dL_law_1355 rfl (by decide) (fun h1 => ?_) (fun h1 => absurd g2 h1)
  refine LE.iload (n := 1362) dL_law_1360 rfl rfl ?_
  refine LE.if_ne (n := 1365) (tgt := 1377) dL_law_1362 rfl (by decide) (fun h2 => ?_) (fun h2 => ?_)
  · refine LE.goto (tgt := 2123) dL_law_1377 (by decide) ?_
    exact LE.widen (by omega) (by omega) (LE.ofA (L' := LL i) ⟨rfl, rfl, rfl, rfl, rfl, trivial⟩ (K _ _ _ (H1.frame (fun a k _ h => g1 a k h)) g4))
  · have h0 := nI3 hle h2
    refine LE.aload_n (n := 1366) dL_law_1365 rfl rfl ?_
    refine LE.iconst (n := 1367) (nI 0) dL_law_1366 rfl (by decide) ?_
    refine LE.lald (n := 1368) dL_law_1367 rfl ?_
    refine LE.iload (n := 1370) dL_law_1368 rfl rfl ?_
    refine LE.i2l (n := 1371) dL_law_1370 rfl ?_
    refine LE.lcmp (n := 1372) dL_law_1371 rfl ?_
    refine LE.if_eq (n := 1375) (tgt := 1377) dL_law_1372 rfl (by decide) (fun h3 => ?_) (fun h3 => absurd (by
      show lg_cmp o1 bq.toInt64 = 0
      rw [ho h0, g3 h0]
      exact lg_self _) h3)
    refine LE.goto (tgt := 2123) dL_law_1377 (by decide) ?_
    exact LE.widen (by omega) (by omega) (LE.ofA (L' := LL i) ⟨rfl, rfl, rfl, rfl, rfl, trivial⟩ (K _ _ _ (H1.frame (fun a k _ h => g1 a k h)) g4))
set_option maxRecDepth 20000 in
set_option maxHeartbeats 1000000 in
theorem k_isWithin {b Ls : Nat} {xs : Nat → Int32} {Z : ZT} (i : Nat) (hi : i + 4 ≤ Ls ∧ Ls ≤ 2048) (c : CC) (od : Int64 × UInt64) (A : AS) (H : CA c A) (P : Pre c A) (cu su : Nat) (hc : cu + 3 ≤ 603072 ∧ su + 18 ≤ 7211114) (K : ∀ (c1 : CC) (od1 : Int64 × UInt64) (A1 : AS), CA c1 A1 → MA c1 A1 → LE b Ls xs Z 2123 (LL i) [] (c1, od1) (cu + 3) (su + 18)) : LE b Ls xs Z 1380 (LL i) [] (c, od) cu su := by
  refine LE.aload_n (n := 1381) dL_law_1380 rfl rfl ?_
  refine LE.arg (n := 1387) (k := 1) (i := i) dL_law_1381 dL_law_1382 dL_law_1384 dL_law_1385 dL_law_1386 rfl rfl rfl ⟨by omega, hi.2⟩ ?_
  refine LE.arg (n := 1393) (k := 2) (i := i) dL_law_1387 dL_law_1388 dL_law_1390 dL_law_1391 dL_law_1392 rfl rfl rfl ⟨by omega, hi.2⟩ ?_
  refine LE.aload_n (n := 1394) dL_law_1393 rfl rfl ?_
  have hx : CM mL_isWithin [.ref 0, .int (xs (i + 1)), .int (xs (i + 2)), .ref 403] (c, od) (PI (HP c (stepQ A (Q_within A.1 (xs (i + 1)) (xs (i + 2)))))) := x_isWithin c od A H (xs (i + 1)) (xs (i + 2))
  have hr : ∀ (c1 : CC) (od1 : Int64 × UInt64), Pre c1 A → CM mX6_isWithin [.ref 395, .int (xs (i + 1)), .int (xs (i + 2))] (c1, od1) (RCP c1 od1 (stepQ A (Q_within A.1 (xs (i + 1)) (xs (i + 2))))) := fun c1 od1 P1 => r_isWithin c1 od1 A P1 (xs (i + 1)) (xs (i + 2))
  have hB : (stepQ A (Q_within A.1 (xs (i + 1)) (xs (i + 2)))).1 = 0 → (stepQ A (Q_within A.1 (xs (i + 1)) (xs (i + 2)))).2.1 = nI 0 ∨ (stepQ A (Q_within A.1 (xs (i + 1)) (xs (i + 2)))).2.1 = nI 1 := by
    intro h
    unfold Q_within at h ⊢
    split
    · split
      · show b2i _ = nI 0 ∨ b2i _ = nI 1
        unfold b2i
        split
        · exact Or.inr rfl
        · exact Or.inl rfl
      · exact Or.inl rfl
    · exact Or.inl rfl
  generalize stepQ A (Q_within A.1 (xs (i + 1)) (xs (i + 2))) = sp at hx hr hB
  refine LE.callHI (M' := mL_isWithin) (n := 1397) (mc := 1) (ms := 6) (st := []) [.ref 0, .int (xs (i + 1)), .int (xs (i + 2)), .ref 403] dL_law_1394 rfl ch_L_193 rfl ⟨rfl, rfl⟩ ⟨by decide, by decide⟩ ⟨by omega, by omega⟩ (Nat.le_of_ble_eq_true rfl) hx (fun k σ1 q => ?_)
  obtain ⟨c1, o1, d1, rfl, f1, H1, rfl, hle, ho⟩ := q
  have P1 := P.frame f1
  refine LE.istore (n := 1399) dL_law_1397 rfl ⟨by decide, by decide⟩ ?_
  refine LE.aload_n (n := 1400) dL_law_1399 rfl rfl ?_
  refine LE.arg (n := 1406) (k := 1) (i := i) dL_law_1400 dL_law_1401 dL_law_1403 dL_law_1404 dL_law_1405 rfl rfl rfl ⟨by omega, hi.2⟩ ?_
  refine LE.arg (n := 1412) (k := 2) (i := i) dL_law_1406 dL_law_1407 dL_law_1409 dL_law_1410 dL_law_1411 rfl rfl rfl ⟨by omega, hi.2⟩ ?_
  refine LE.callVI (M' := mX6_isWithin) (n := 1415) (mc := 0) (ms := 0) (a := 395) (d := 6) (st := []) [.int (xs (i + 1)), .int (xs (i + 2))] dL_law_1412 rfl cv_L_195 rfl (by decide) ⟨rfl, rfl⟩ ⟨by decide, by decide⟩ ⟨by omega, by omega⟩ (Nat.le_of_ble_eq_true rfl) (hr c1 (o1, d1) P1) (fun bq σ2 q => ?_)
  obtain ⟨c2, rfl, g1, g2, g3, g4⟩ := q
  refine LE.istore (n := 1417) dL_law_1415 rfl ⟨by decide, by decide⟩ ?_
  refine LE.aload_n (n := 1418) dL_law_1417 rfl rfl ?_
  refine LE.callVR (M' := mX6_thrown) (n := 1421) (mc := 0) (ms := 0) (a := 395) (d := 6) (st := []) [] dL_law_1418 rfl cv_L_134 rfl (by decide) ⟨rfl, rfl⟩ ⟨by decide, by decide⟩ ⟨by omega, by omega⟩ (Nat.le_of_ble_eq_true rfl) (m_thrown c2 (o1, d1)) ?_
  refine LE.iload (n := 1423) dL_law_1421 rfl rfl ?_
  refine LE.icmp_eq (n := 1426) (tgt := 1428) dL_law_1423 rfl (by decide) (fun h1 => ?_) (fun h1 => absurd g2 h1)
  refine LE.iload (n := 1430) dL_law_1428 rfl rfl ?_
  refine LE.if_ne (n := 1433) (tgt := 1452) dL_law_1430 rfl (by decide) (fun h2 => ?_) (fun h2 => ?_)
  · refine LE.goto (tgt := 2123) dL_law_1452 (by decide) ?_
    exact LE.widen (by omega) (by omega) (LE.ofA (L' := LL i) ⟨rfl, rfl, rfl, rfl, rfl, trivial⟩ (K _ _ _ (H1.frame (fun a k _ h => g1 a k h)) g4))
  · have h0 := nI3 hle h2
    have hb := hB h0
    refine LE.aload_n (n := 1434) dL_law_1433 rfl rfl ?_
    refine LE.iconst (n := 1435) (nI 0) dL_law_1434 rfl (by decide) ?_
    refine LE.lald (n := 1436) dL_law_1435 rfl ?_
    refine LE.iload (n := 1438) dL_law_1436 rfl rfl ?_
    refine LE.if_eq (n := 1441) (tgt := 1445) dL_law_1438 rfl (by decide) (fun h3 => ?_) (fun h3 => ?_)
    · refine LE.lconst (n := 1446) 0 dL_law_1445 rfl (by decide) ?_
      refine LE.lcmp (n := 1447) dL_law_1446 rfl ?_
      refine LE.if_eq (n := 1450) (tgt := 1452) dL_law_1447 rfl (by decide) (fun h4 => ?_) (fun h4 => absurd (by
        show lg_cmp o1 0 = 0
        rw [ho h0]
        rcases hb with e | e
        · rw [e]
          rfl
        · rw [e]
          rw [g3 h0, e] at h3
          exact absurd h3 (by decide)) h4)
      refine LE.goto (tgt := 2123) dL_law_1452 (by decide) ?_
      exact LE.widen (by omega) (by omega) (LE.ofA (L' := LL i) ⟨rfl, rfl, rfl, rfl, rfl, trivial⟩ (K _ _ _ (H1.frame (fun a k _ h => g1 a k h)) g4))
    · refine LE.lconst (n := 1442) 1 dL_law_1441 rfl (by decide) ?_
      refine LE.goto (tgt := 1446) dL_law_1442 (by decide) ?_
      refine LE.lcmp (n := 1447) dL_law_1446 rfl ?_
      refine LE.if_eq (n := 1450) (tgt := 1452) dL_law_1447 rfl (by decide) (fun h4 => ?_) (fun h4 => absurd (by
        show lg_cmp o1 1 = 0
        rw [ho h0]
        rcases hb with e | e
        · rw [e]
          rw [g3 h0, e] at h3
          exact absurd (by decide) h3
        · rw [e]
          rfl) h4)
      refine LE.goto (tgt := 2123) dL_law_1452 (by decide) ?_
      exact LE.widen (by omega) (by omega) (LE.ofA (L' := LL i) ⟨rfl, rfl, rfl, rfl, rfl, trivial⟩ (K _ _ _ (H1.frame (fun a k _ h => g1 a k h)) g4))
set_option maxRecDepth 20000 in
set_option maxHeartbeats 1000000 in
theorem k_endsIn {b Ls : Nat} {xs : Nat → Int32} {Z : ZT} (i : Nat) (hi : i + 4 ≤ Ls ∧ Ls ≤ 2048) (c : CC) (od : Int64 × UInt64) (A : AS) (H : CA c A) (P : Pre c A) (cu su : Nat) (hc : cu + 3 ≤ 603072 ∧ su + 18 ≤ 7211114) (K : ∀ (c1 : CC) (od1 : Int64 × UInt64) (A1 : AS), CA c1 A1 → MA c1 A1 → LE b Ls xs Z 2123 (LL i) [] (c1, od1) (cu + 3) (su + 18)) : LE b Ls xs Z 1455 (LL i) [] (c, od) cu su := by
  refine LE.aload_n (n := 1456) dL_law_1455 rfl rfl ?_
  refine LE.arg (n := 1462) (k := 1) (i := i) dL_law_1456 dL_law_1457 dL_law_1459 dL_law_1460 dL_law_1461 rfl rfl rfl ⟨by omega, hi.2⟩ ?_
  refine LE.aload_n (n := 1463) dL_law_1462 rfl rfl ?_
  have hx : CM mL_endsIn [.ref 0, .int (xs (i + 1)), .ref 403] (c, od) (PI (HP c (stepQ A (Q_endsIn A.1 (xs (i + 1)) 1000)))) := x_endsIn c od A H (xs (i + 1))
  have hr : ∀ (c1 : CC) (od1 : Int64 × UInt64), Pre c1 A → CM mX6_endsIn [.ref 395, .int (xs (i + 1))] (c1, od1) (RCP c1 od1 (stepQ A (Q_endsIn A.1 (xs (i + 1)) 1000))) := fun c1 od1 P1 => r_endsIn c1 od1 A P1 (xs (i + 1))
  generalize stepQ A (Q_endsIn A.1 (xs (i + 1)) 1000) = sp at hx hr
  refine LE.callHI (M' := mL_endsIn) (n := 1466) (mc := 2) (ms := 12) (st := []) [.ref 0, .int (xs (i + 1)), .ref 403] dL_law_1463 rfl ch_L_196 rfl ⟨rfl, rfl⟩ ⟨by decide, by decide⟩ ⟨by omega, by omega⟩ (Nat.le_of_ble_eq_true rfl) hx (fun k σ1 q => ?_)
  obtain ⟨c1, o1, d1, rfl, f1, H1, rfl, hle, ho⟩ := q
  have P1 := P.frame f1
  refine LE.istore (n := 1468) dL_law_1466 rfl ⟨by decide, by decide⟩ ?_
  refine LE.aload_n (n := 1469) dL_law_1468 rfl rfl ?_
  refine LE.arg (n := 1475) (k := 1) (i := i) dL_law_1469 dL_law_1470 dL_law_1472 dL_law_1473 dL_law_1474 rfl rfl rfl ⟨by omega, hi.2⟩ ?_
  refine LE.callVI (M' := mX6_endsIn) (n := 1478) (mc := 0) (ms := 0) (a := 395) (d := 6) (st := []) [.int (xs (i + 1))] dL_law_1475 rfl cv_L_198 rfl (by decide) ⟨rfl, rfl⟩ ⟨by decide, by decide⟩ ⟨by omega, by omega⟩ (Nat.le_of_ble_eq_true rfl) (hr c1 (o1, d1) P1) (fun bq σ2 q => ?_)
  obtain ⟨c2, rfl, g1, g2, g3, g4⟩ := q
  refine LE.istore (n := 1480) dL_law_1478 rfl ⟨by decide, by decide⟩ ?_
  refine LE.aload_n (n := 1481) dL_law_1480 rfl rfl ?_
  refine LE.callVR (M' := mX6_thrown) (n := 1484) (mc := 0) (ms := 0) (a := 395) (d := 6) (st := []) [] dL_law_1481 rfl cv_L_134 rfl (by decide) ⟨rfl, rfl⟩ ⟨by decide, by decide⟩ ⟨by omega, by omega⟩ (Nat.le_of_ble_eq_true rfl) (m_thrown c2 (o1, d1)) ?_
  refine LE.iload (n := 1486) dL_law_1484 rfl rfl ?_
  refine LE.icmp_eq (n := 1489) (tgt := 1491) dL_law_1486 rfl (by decide) (fun h1 => ?_) (fun h1 => absurd g2 h1)
  refine LE.iload (n := 1493) dL_law_1491 rfl rfl ?_
  refine LE.if_ne (n := 1496) (tgt := 1508) dL_law_1493 rfl (by decide) (fun h2 => ?_) (fun h2 => ?_)
  · refine LE.goto (tgt := 2123) dL_law_1508 (by decide) ?_
    exact LE.widen (by omega) (by omega) (LE.ofA (L' := LL i) ⟨rfl, rfl, rfl, rfl, rfl, trivial⟩ (K _ _ _ (H1.frame (fun a k _ h => g1 a k h)) g4))
  · have h0 := nI3 hle h2
    refine LE.aload_n (n := 1497) dL_law_1496 rfl rfl ?_
    refine LE.iconst (n := 1498) (nI 0) dL_law_1497 rfl (by decide) ?_
    refine LE.lald (n := 1499) dL_law_1498 rfl ?_
    refine LE.iload (n := 1501) dL_law_1499 rfl rfl ?_
    refine LE.i2l (n := 1502) dL_law_1501 rfl ?_
    refine LE.lcmp (n := 1503) dL_law_1502 rfl ?_
    refine LE.if_eq (n := 1506) (tgt := 1508) dL_law_1503 rfl (by decide) (fun h3 => ?_) (fun h3 => absurd (by
      show lg_cmp o1 bq.toInt64 = 0
      rw [ho h0, g3 h0]
      exact lg_self _) h3)
    refine LE.goto (tgt := 2123) dL_law_1508 (by decide) ?_
    exact LE.widen (by omega) (by omega) (LE.ofA (L' := LL i) ⟨rfl, rfl, rfl, rfl, rfl, trivial⟩ (K _ _ _ (H1.frame (fun a k _ h => g1 a k h)) g4))
set_option maxRecDepth 20000 in
set_option maxHeartbeats 1000000 in
theorem k_ends {b Ls : Nat} {xs : Nat → Int32} {Z : ZT} (i : Nat) (hi : i + 4 ≤ Ls ∧ Ls ≤ 2048) (c : CC) (od : Int64 × UInt64) (A : AS) (H : CA c A) (P : Pre c A) (cu su : Nat) (hc : cu + 3 ≤ 603072 ∧ su + 18 ≤ 7211114) (K : ∀ (c1 : CC) (od1 : Int64 × UInt64) (A1 : AS), CA c1 A1 → MA c1 A1 → LE b Ls xs Z 2123 (LL i) [] (c1, od1) (cu + 3) (su + 18)) : LE b Ls xs Z 1511 (LL i) [] (c, od) cu su := by
  refine LE.aload_n (n := 1512) dL_law_1511 rfl rfl ?_
  refine LE.arg (n := 1518) (k := 1) (i := i) dL_law_1512 dL_law_1513 dL_law_1515 dL_law_1516 dL_law_1517 rfl rfl rfl ⟨by omega, hi.2⟩ ?_
  refine LE.arg (n := 1524) (k := 2) (i := i) dL_law_1518 dL_law_1519 dL_law_1521 dL_law_1522 dL_law_1523 rfl rfl rfl ⟨by omega, hi.2⟩ ?_
  refine LE.aload_n (n := 1525) dL_law_1524 rfl rfl ?_
  have hx : CM mL_ends [.ref 0, .int (xs (i + 1)), .int (xs (i + 2)), .ref 403] (c, od) (PI (HP c (stepQ A (Q_ends A.1 (xs (i + 1)) (xs (i + 2)) 1000)))) := x_ends c od A H (xs (i + 1)) (xs (i + 2))
  have hr : ∀ (c1 : CC) (od1 : Int64 × UInt64), Pre c1 A → CM mX6_ends [.ref 395, .int (xs (i + 1)), .int (xs (i + 2))] (c1, od1) (RCP c1 od1 (stepQ A (Q_ends A.1 (xs (i + 1)) (xs (i + 2)) 1000))) := fun c1 od1 P1 => r_ends c1 od1 A P1 (xs (i + 1)) (xs (i + 2))
  generalize stepQ A (Q_ends A.1 (xs (i + 1)) (xs (i + 2)) 1000) = sp at hx hr
  refine LE.callHI (M' := mL_ends) (n := 1528) (mc := 3) (ms := 18) (st := []) [.ref 0, .int (xs (i + 1)), .int (xs (i + 2)), .ref 403] dL_law_1525 rfl ch_L_199 rfl ⟨rfl, rfl⟩ ⟨by decide, by decide⟩ ⟨by omega, by omega⟩ (Nat.le_of_ble_eq_true rfl) hx (fun k σ1 q => ?_)
  obtain ⟨c1, o1, d1, rfl, f1, H1, rfl, hle, ho⟩ := q
  have P1 := P.frame f1
  refine LE.istore (n := 1530) dL_law_1528 rfl ⟨by decide, by decide⟩ ?_
  refine LE.aload_n (n := 1531) dL_law_1530 rfl rfl ?_
  refine LE.arg (n := 1537) (k := 1) (i := i) dL_law_1531 dL_law_1532 dL_law_1534 dL_law_1535 dL_law_1536 rfl rfl rfl ⟨by omega, hi.2⟩ ?_
  refine LE.arg (n := 1543) (k := 2) (i := i) dL_law_1537 dL_law_1538 dL_law_1540 dL_law_1541 dL_law_1542 rfl rfl rfl ⟨by omega, hi.2⟩ ?_
  refine LE.callVI (M' := mX6_ends) (n := 1546) (mc := 0) (ms := 0) (a := 395) (d := 6) (st := []) [.int (xs (i + 1)), .int (xs (i + 2))] dL_law_1543 rfl cv_L_201 rfl (by decide) ⟨rfl, rfl⟩ ⟨by decide, by decide⟩ ⟨by omega, by omega⟩ (Nat.le_of_ble_eq_true rfl) (hr c1 (o1, d1) P1) (fun bq σ2 q => ?_)
  obtain ⟨c2, rfl, g1, g2, g3, g4⟩ := q
  refine LE.istore (n := 1548) dL_law_1546 rfl ⟨by decide, by decide⟩ ?_
  refine LE.aload_n (n := 1549) dL_law_1548 rfl rfl ?_
  refine LE.callVR (M' := mX6_thrown) (n := 1552) (mc := 0) (ms := 0) (a := 395) (d := 6) (st := []) [] dL_law_1549 rfl cv_L_134 rfl (by decide) ⟨rfl, rfl⟩ ⟨by decide, by decide⟩ ⟨by omega, by omega⟩ (Nat.le_of_ble_eq_true rfl) (m_thrown c2 (o1, d1)) ?_
  refine LE.iload (n := 1554) dL_law_1552 rfl rfl ?_
  refine LE.icmp_eq (n := 1557) (tgt := 1559) dL_law_1554 rfl (by decide) (fun h1 => ?_) (fun h1 => absurd g2 h1)
  refine LE.iload (n := 1561) dL_law_1559 rfl rfl ?_
  refine LE.if_ne (n := 1564) (tgt := 1576) dL_law_1561 rfl (by decide) (fun h2 => ?_) (fun h2 => ?_)
  · refine LE.goto (tgt := 2123) dL_law_1576 (by decide) ?_
    exact LE.widen (by omega) (by omega) (LE.ofA (L' := LL i) ⟨rfl, rfl, rfl, rfl, rfl, trivial⟩ (K _ _ _ (H1.frame (fun a k _ h => g1 a k h)) g4))
  · have h0 := nI3 hle h2
    refine LE.aload_n (n := 1565) dL_law_1564 rfl rfl ?_
    refine LE.iconst (n := 1566) (nI 0) dL_law_1565 rfl (by decide) ?_
    refine LE.lald (n := 1567) dL_law_1566 rfl ?_
    refine LE.iload (n := 1569) dL_law_1567 rfl rfl ?_
    refine LE.i2l (n := 1570) dL_law_1569 rfl ?_
    refine LE.lcmp (n := 1571) dL_law_1570 rfl ?_
    refine LE.if_eq (n := 1574) (tgt := 1576) dL_law_1571 rfl (by decide) (fun h3 => ?_) (fun h3 => absurd (by
      show lg_cmp o1 bq.toInt64 = 0
      rw [ho h0, g3 h0]
      exact lg_self _) h3)
    refine LE.goto (tgt := 2123) dL_law_1576 (by decide) ?_
    exact LE.widen (by omega) (by omega) (LE.ofA (L' := LL i) ⟨rfl, rfl, rfl, rfl, rfl, trivial⟩ (K _ _ _ (H1.frame (fun a k _ h => g1 a k h)) g4))
set_option maxRecDepth 20000 in
set_option maxHeartbeats 1000000 in
theorem k_bestDrop {b Ls : Nat} {xs : Nat → Int32} {Z : ZT} (i : Nat) (hi : i + 4 ≤ Ls ∧ Ls ≤ 2048) (c : CC) (od : Int64 × UInt64) (A : AS) (H : CA c A) (P : Pre c A) (cu su : Nat) (hc : cu + 3 ≤ 603072 ∧ su + 18 ≤ 7211114) (K : ∀ (c1 : CC) (od1 : Int64 × UInt64) (A1 : AS), CA c1 A1 → MA c1 A1 → LE b Ls xs Z 2123 (LL i) [] (c1, od1) (cu + 3) (su + 18)) : LE b Ls xs Z 1579 (LL i) [] (c, od) cu su := by
  refine LE.aload_n (n := 1580) dL_law_1579 rfl rfl ?_
  refine LE.arg (n := 1586) (k := 1) (i := i) dL_law_1580 dL_law_1581 dL_law_1583 dL_law_1584 dL_law_1585 rfl rfl rfl ⟨by omega, hi.2⟩ ?_
  refine LE.aload_n (n := 1587) dL_law_1586 rfl rfl ?_
  have hx : CM mL_bestDrop [.ref 0, .int (xs (i + 1)), .ref 403] (c, od) (PI (HP c (stepB A (Q_bestDrop A.1 (xs (i + 1)) 1000)))) := x_bestDrop c od A H (xs (i + 1))
  have hr : ∀ (c1 : CC) (od1 : Int64 × UInt64), Pre c1 A → CM mX6_bestDrop [.ref 395, .int (xs (i + 1))] (c1, od1) (RCP c1 od1 (stepB A (Q_bestDrop A.1 (xs (i + 1)) 1000))) := fun c1 od1 P1 => r_bestDrop c1 od1 A P1 (xs (i + 1))
  generalize stepB A (Q_bestDrop A.1 (xs (i + 1)) 1000) = sp at hx hr
  refine LE.callHI (M' := mL_bestDrop) (n := 1590) (mc := 3) (ms := 18) (st := []) [.ref 0, .int (xs (i + 1)), .ref 403] dL_law_1587 rfl ch_L_202 rfl ⟨rfl, rfl⟩ ⟨by decide, by decide⟩ ⟨by omega, by omega⟩ (Nat.le_of_ble_eq_true rfl) hx (fun k σ1 q => ?_)
  obtain ⟨c1, o1, d1, rfl, f1, H1, rfl, hle, ho⟩ := q
  have P1 := P.frame f1
  refine LE.istore (n := 1592) dL_law_1590 rfl ⟨by decide, by decide⟩ ?_
  refine LE.aload_n (n := 1593) dL_law_1592 rfl rfl ?_
  refine LE.arg (n := 1599) (k := 1) (i := i) dL_law_1593 dL_law_1594 dL_law_1596 dL_law_1597 dL_law_1598 rfl rfl rfl ⟨by omega, hi.2⟩ ?_
  refine LE.callVI (M' := mX6_bestDrop) (n := 1602) (mc := 0) (ms := 0) (a := 395) (d := 6) (st := []) [.int (xs (i + 1))] dL_law_1599 rfl cv_L_204 rfl (by decide) ⟨rfl, rfl⟩ ⟨by decide, by decide⟩ ⟨by omega, by omega⟩ (Nat.le_of_ble_eq_true rfl) (hr c1 (o1, d1) P1) (fun bq σ2 q => ?_)
  obtain ⟨c2, rfl, g1, g2, g3, g4⟩ := q
  refine LE.istore (n := 1604) dL_law_1602 rfl ⟨by decide, by decide⟩ ?_
  refine LE.aload_n (n := 1605) dL_law_1604 rfl rfl ?_
  refine LE.callVR (M' := mX6_thrown) (n := 1608) (mc := 0) (ms := 0) (a := 395) (d := 6) (st := []) [] dL_law_1605 rfl cv_L_134 rfl (by decide) ⟨rfl, rfl⟩ ⟨by decide, by decide⟩ ⟨by omega, by omega⟩ (Nat.le_of_ble_eq_true rfl) (m_thrown c2 (o1, d1)) ?_
  refine LE.iload (n := 1610) dL_law_1608 rfl rfl ?_
  refine LE.icmp_eq (n := 1613) (tgt := 1615) dL_law_1610 rfl (by decide) (fun h1 => ?_) (fun h1 => absurd g2 h1)
  refine LE.iload (n := 1617) dL_law_1615 rfl rfl ?_
  refine LE.if_ne (n := 1620) (tgt := 1632) dL_law_1617 rfl (by decide) (fun h2 => ?_) (fun h2 => ?_)
  · refine LE.goto (tgt := 2123) dL_law_1632 (by decide) ?_
    exact LE.widen (by omega) (by omega) (LE.ofA (L' := LL i) ⟨rfl, rfl, rfl, rfl, rfl, trivial⟩ (K _ _ _ (H1.frame (fun a k _ h => g1 a k h)) g4))
  · have h0 := nI3 hle h2
    refine LE.aload_n (n := 1621) dL_law_1620 rfl rfl ?_
    refine LE.iconst (n := 1622) (nI 0) dL_law_1621 rfl (by decide) ?_
    refine LE.lald (n := 1623) dL_law_1622 rfl ?_
    refine LE.iload (n := 1625) dL_law_1623 rfl rfl ?_
    refine LE.i2l (n := 1626) dL_law_1625 rfl ?_
    refine LE.lcmp (n := 1627) dL_law_1626 rfl ?_
    refine LE.if_eq (n := 1630) (tgt := 1632) dL_law_1627 rfl (by decide) (fun h3 => ?_) (fun h3 => absurd (by
      show lg_cmp o1 bq.toInt64 = 0
      rw [ho h0, g3 h0]
      exact lg_self _) h3)
    refine LE.goto (tgt := 2123) dL_law_1632 (by decide) ?_
    exact LE.widen (by omega) (by omega) (LE.ofA (L' := LL i) ⟨rfl, rfl, rfl, rfl, rfl, trivial⟩ (K _ _ _ (H1.frame (fun a k _ h => g1 a k h)) g4))
set_option maxRecDepth 20000 in
set_option maxHeartbeats 1000000 in
theorem k_append {b Ls : Nat} {xs : Nat → Int32} {Z : ZT} (i : Nat) (hi : i + 4 ≤ Ls ∧ Ls ≤ 2048) (c : CC) (od : Int64 × UInt64) (A : AS) (H : CA c A) (P : Pre c A) (cu su : Nat) (hc : cu + 3 ≤ 603072 ∧ su + 18 ≤ 7211114) (K : ∀ (c1 : CC) (od1 : Int64 × UInt64) (A1 : AS), CA c1 A1 → MA c1 A1 → LE b Ls xs Z 2123 (LL i) [] (c1, od1) (cu + 3) (su + 18)) : LE b Ls xs Z 1635 (LL i) [] (c, od) cu su := by
  refine LE.aload_n (n := 1636) dL_law_1635 rfl rfl ?_
  refine LE.arg (n := 1642) (k := 1) (i := i) dL_law_1636 dL_law_1637 dL_law_1639 dL_law_1640 dL_law_1641 rfl rfl rfl ⟨by omega, hi.2⟩ ?_
  refine LE.i2c (n := 1643) dL_law_1642 rfl ?_
  refine LE.aload_n (n := 1644) dL_law_1643 rfl rfl ?_
  have hx : CM mL_append [.ref 0, .int (((xs (i + 1)).toUInt32 % 65536).toInt32), .ref 403] (c, od) (PI (HP c (stepA A (((xs (i + 1)).toUInt32 % 65536).toInt32)))) := x_append c od A H (((xs (i + 1)).toUInt32 % 65536).toInt32) (char_ok _)
  have hr : ∀ (c1 : CC) (od1 : Int64 × UInt64), Pre c1 A → CM mX6_append [.ref 395, .int (((xs (i + 1)).toUInt32 % 65536).toInt32)] (c1, od1) (RCP c1 od1 (stepA A (((xs (i + 1)).toUInt32 % 65536).toInt32))) := fun c1 od1 P1 => r_append c1 od1 A P1 (((xs (i + 1)).toUInt32 % 65536).toInt32) (char_ok _)
  generalize stepA A (((xs (i + 1)).toUInt32 % 65536).toInt32) = sp at hx hr
  refine LE.callHI (M' := mL_append) (n := 1647) (mc := 1) (ms := 6) (st := []) [.ref 0, .int (((xs (i + 1)).toUInt32 % 65536).toInt32), .ref 403] dL_law_1644 rfl ch_L_205 rfl ⟨rfl, rfl⟩ ⟨by decide, by decide⟩ ⟨by omega, by omega⟩ (Nat.le_of_ble_eq_true rfl) hx (fun k σ1 q => ?_)
  obtain ⟨c1, o1, d1, rfl, f1, H1, rfl, hle, ho⟩ := q
  have P1 := P.frame f1
  refine LE.istore (n := 1649) dL_law_1647 rfl ⟨by decide, by decide⟩ ?_
  refine LE.aload_n (n := 1650) dL_law_1649 rfl rfl ?_
  refine LE.arg (n := 1656) (k := 1) (i := i) dL_law_1650 dL_law_1651 dL_law_1653 dL_law_1654 dL_law_1655 rfl rfl rfl ⟨by omega, hi.2⟩ ?_
  refine LE.i2c (n := 1657) dL_law_1656 rfl ?_
  refine LE.callVI (M' := mX6_append) (n := 1660) (mc := 0) (ms := 0) (a := 395) (d := 6) (st := []) [.int (((xs (i + 1)).toUInt32 % 65536).toInt32)] dL_law_1657 rfl cv_L_208 rfl (by decide) ⟨rfl, rfl⟩ ⟨by decide, by decide⟩ ⟨by omega, by omega⟩ (Nat.le_of_ble_eq_true rfl) (hr c1 (o1, d1) P1) (fun bq σ2 q => ?_)
  obtain ⟨c2, rfl, g1, g2, g3, g4⟩ := q
  refine LE.istore (n := 1662) dL_law_1660 rfl ⟨by decide, by decide⟩ ?_
  refine LE.aload_n (n := 1663) dL_law_1662 rfl rfl ?_
  refine LE.callVR (M' := mX6_thrown) (n := 1666) (mc := 0) (ms := 0) (a := 395) (d := 6) (st := []) [] dL_law_1663 rfl cv_L_134 rfl (by decide) ⟨rfl, rfl⟩ ⟨by decide, by decide⟩ ⟨by omega, by omega⟩ (Nat.le_of_ble_eq_true rfl) (m_thrown c2 (o1, d1)) ?_
  refine LE.iload (n := 1668) dL_law_1666 rfl rfl ?_
  refine LE.icmp_eq (n := 1671) (tgt := 1673) dL_law_1668 rfl (by decide) (fun h1 => ?_) (fun h1 => absurd g2 h1)
  refine LE.iload (n := 1675) dL_law_1673 rfl rfl ?_
  refine LE.if_ne (n := 1678) (tgt := 1690) dL_law_1675 rfl (by decide) (fun h2 => ?_) (fun h2 => ?_)
  · refine LE.goto (tgt := 2123) dL_law_1690 (by decide) ?_
    exact LE.widen (by omega) (by omega) (LE.ofA (L' := LL i) ⟨rfl, rfl, rfl, rfl, rfl, trivial⟩ (K _ _ _ (H1.frame (fun a k _ h => g1 a k h)) g4))
  · have h0 := nI3 hle h2
    refine LE.aload_n (n := 1679) dL_law_1678 rfl rfl ?_
    refine LE.iconst (n := 1680) (nI 0) dL_law_1679 rfl (by decide) ?_
    refine LE.lald (n := 1681) dL_law_1680 rfl ?_
    refine LE.iload (n := 1683) dL_law_1681 rfl rfl ?_
    refine LE.i2l (n := 1684) dL_law_1683 rfl ?_
    refine LE.lcmp (n := 1685) dL_law_1684 rfl ?_
    refine LE.if_eq (n := 1688) (tgt := 1690) dL_law_1685 rfl (by decide) (fun h3 => ?_) (fun h3 => absurd (by
      show lg_cmp o1 bq.toInt64 = 0
      rw [ho h0, g3 h0]
      exact lg_self _) h3)
    refine LE.goto (tgt := 2123) dL_law_1690 (by decide) ?_
    exact LE.widen (by omega) (by omega) (LE.ofA (L' := LL i) ⟨rfl, rfl, rfl, rfl, rfl, trivial⟩ (K _ _ _ (H1.frame (fun a k _ h => g1 a k h)) g4))
set_option maxRecDepth 20000 in
set_option maxHeartbeats 1000000 in
theorem k_read {b Ls : Nat} {xs : Nat → Int32} {Z : ZT} (i : Nat) (hi : i + 4 ≤ Ls ∧ Ls ≤ 2048) (c : CC) (od : Int64 × UInt64) (A : AS) (H : CA c A) (P : Pre c A) (cu su : Nat) (hc : cu + 3 ≤ 603072 ∧ su + 18 ≤ 7211114) (K : ∀ (c1 : CC) (od1 : Int64 × UInt64) (A1 : AS), CA c1 A1 → MA c1 A1 → LE b Ls xs Z 2123 (LL i) [] (c1, od1) (cu + 3) (su + 18)) : LE b Ls xs Z 1693 (LL i) [] (c, od) cu su := by
  refine LE.aload_n (n := 1694) dL_law_1693 rfl rfl ?_
  refine LE.aload_n (n := 1695) dL_law_1694 rfl rfl ?_
  have hx : CM mL_read [.ref 0, .ref 403] (c, od) (PI (HP c (stepD A))) := x_read c od A H 
  have hr : ∀ (c1 : CC) (od1 : Int64 × UInt64), Pre c1 A → CM mX6_read [.ref 395] (c1, od1) (RCP c1 od1 (stepD A)) := fun c1 od1 P1 => r_read c1 od1 A P1 
  generalize stepD A = sp at hx hr
  refine LE.callHI (M' := mL_read) (n := 1698) (mc := 3) (ms := 18) (st := []) [.ref 0, .ref 403] dL_law_1695 rfl ch_L_209 rfl ⟨rfl, rfl⟩ ⟨by decide, by decide⟩ ⟨by omega, by omega⟩ (Nat.le_of_ble_eq_true rfl) hx (fun k σ1 q => ?_)
  obtain ⟨c1, o1, d1, rfl, f1, H1, rfl, hle, ho⟩ := q
  have P1 := P.frame f1
  refine LE.istore (n := 1700) dL_law_1698 rfl ⟨by decide, by decide⟩ ?_
  refine LE.aload_n (n := 1701) dL_law_1700 rfl rfl ?_
  refine LE.callVI (M' := mX6_read) (n := 1704) (mc := 0) (ms := 0) (a := 395) (d := 6) (st := []) [] dL_law_1701 rfl cv_L_212 rfl (by decide) ⟨rfl, rfl⟩ ⟨by decide, by decide⟩ ⟨by omega, by omega⟩ (Nat.le_of_ble_eq_true rfl) (hr c1 (o1, d1) P1) (fun bq σ2 q => ?_)
  obtain ⟨c2, rfl, g1, g2, g3, g4⟩ := q
  refine LE.istore (n := 1706) dL_law_1704 rfl ⟨by decide, by decide⟩ ?_
  refine LE.aload_n (n := 1707) dL_law_1706 rfl rfl ?_
  refine LE.callVR (M' := mX6_thrown) (n := 1710) (mc := 0) (ms := 0) (a := 395) (d := 6) (st := []) [] dL_law_1707 rfl cv_L_134 rfl (by decide) ⟨rfl, rfl⟩ ⟨by decide, by decide⟩ ⟨by omega, by omega⟩ (Nat.le_of_ble_eq_true rfl) (m_thrown c2 (o1, d1)) ?_
  refine LE.iload (n := 1712) dL_law_1710 rfl rfl ?_
  refine LE.icmp_eq (n := 1715) (tgt := 1717) dL_law_1712 rfl (by decide) (fun h1 => ?_) (fun h1 => absurd g2 h1)
  refine LE.iload (n := 1719) dL_law_1717 rfl rfl ?_
  refine LE.if_ne (n := 1722) (tgt := 1734) dL_law_1719 rfl (by decide) (fun h2 => ?_) (fun h2 => ?_)
  · refine LE.goto (tgt := 2123) dL_law_1734 (by decide) ?_
    exact LE.widen (by omega) (by omega) (LE.ofA (L' := LL i) ⟨rfl, rfl, rfl, rfl, rfl, trivial⟩ (K _ _ _ (H1.frame (fun a k _ h => g1 a k h)) g4))
  · have h0 := nI3 hle h2
    refine LE.aload_n (n := 1723) dL_law_1722 rfl rfl ?_
    refine LE.iconst (n := 1724) (nI 0) dL_law_1723 rfl (by decide) ?_
    refine LE.lald (n := 1725) dL_law_1724 rfl ?_
    refine LE.iload (n := 1727) dL_law_1725 rfl rfl ?_
    refine LE.i2l (n := 1728) dL_law_1727 rfl ?_
    refine LE.lcmp (n := 1729) dL_law_1728 rfl ?_
    refine LE.if_eq (n := 1732) (tgt := 1734) dL_law_1729 rfl (by decide) (fun h3 => ?_) (fun h3 => absurd (by
      show lg_cmp o1 bq.toInt64 = 0
      rw [ho h0, g3 h0]
      exact lg_self _) h3)
    refine LE.goto (tgt := 2123) dL_law_1734 (by decide) ?_
    exact LE.widen (by omega) (by omega) (LE.ofA (L' := LL i) ⟨rfl, rfl, rfl, rfl, rfl, trivial⟩ (K _ _ _ (H1.frame (fun a k _ h => g1 a k h)) g4))
set_option maxRecDepth 20000 in
set_option maxHeartbeats 1000000 in
theorem k_errorPosition {b Ls : Nat} {xs : Nat → Int32} {Z : ZT} (i : Nat) (hi : i + 4 ≤ Ls ∧ Ls ≤ 2048) (c : CC) (od : Int64 × UInt64) (A : AS) (H : CA c A) (P : Pre c A) (cu su : Nat) (hc : cu + 3 ≤ 603072 ∧ su + 18 ≤ 7211114) (K : ∀ (c1 : CC) (od1 : Int64 × UInt64) (A1 : AS), CA c1 A1 → MA c1 A1 → LE b Ls xs Z 2123 (LL i) [] (c1, od1) (cu + 3) (su + 18)) : LE b Ls xs Z 1737 (LL i) [] (c, od) cu su := by
  refine LE.aload_n (n := 1738) dL_law_1737 rfl rfl ?_
  refine LE.callVI (M' := mX5_errorPosition) (n := 1741) (mc := 0) (ms := 0) (a := 0) (d := 5) (st := []) [] dL_law_1738 rfl cv_L_213 rfl (by decide) ⟨rfl, rfl⟩ ⟨by decide, by decide⟩ ⟨by omega, by omega⟩ (Nat.le_of_ble_eq_true rfl) (x_errorPosition c od A H) (fun v σ1 q => ?_)
  obtain ⟨c1, rfl, f1, H1, hv⟩ := q
  have P1 := P.frame f1
  refine LE.aload_n (n := 1742) dL_law_1741 rfl rfl ?_
  refine LE.callVI (M' := mX6_errorPosition) (n := 1745) (mc := 0) (ms := 0) (a := 395) (d := 6) (st := [.int v]) [] dL_law_1742 rfl cv_L_216 rfl (by decide) ⟨rfl, rfl⟩ ⟨by decide, by decide⟩ ⟨by omega, by omega⟩ (Nat.le_of_ble_eq_true rfl) (r_errorPosition c1 od A P1) (fun bq σ2 q => ?_)
  obtain ⟨c2, rfl, g1, g2, g3, g4⟩ := q
  refine LE.icmp_eq (n := 1748) (tgt := 2123) dL_law_1745 rfl (by decide) (fun h1 => ?_) (fun h1 => absurd (hv.trans (g3 rfl).symm) h1)
  exact LE.widen (by omega) (by omega) (LE.ofA (L' := LL i) ⟨rfl, rfl, rfl, rfl, rfl, trivial⟩ (K _ _ _ (H1.frame (fun a k _ h => g1 a k h)) g4))
set_option maxRecDepth 20000 in
set_option maxHeartbeats 1000000 in
theorem k_refusal {b Ls : Nat} {xs : Nat → Int32} {Z : ZT} (i : Nat) (hi : i + 4 ≤ Ls ∧ Ls ≤ 2048) (c : CC) (od : Int64 × UInt64) (A : AS) (H : CA c A) (P : Pre c A) (cu su : Nat) (hc : cu + 3 ≤ 603072 ∧ su + 18 ≤ 7211114) (K : ∀ (c1 : CC) (od1 : Int64 × UInt64) (A1 : AS), CA c1 A1 → MA c1 A1 → LE b Ls xs Z 2123 (LL i) [] (c1, od1) (cu + 3) (su + 18)) : LE b Ls xs Z 1750 (LL i) [] (c, od) cu su := by
  refine LE.aload_n (n := 1751) dL_law_1750 rfl rfl ?_
  refine LE.arg (n := 1757) (k := 1) (i := i) dL_law_1751 dL_law_1752 dL_law_1754 dL_law_1755 dL_law_1756 rfl rfl rfl ⟨by omega, hi.2⟩ ?_
  refine LE.if_eq (n := 1760) (tgt := 1764) dL_law_1757 rfl (by decide) (fun h8 => ?_) (fun h8 => ?_)
  · skip
    refine LE.iconst (n := 1765) (nI 0) dL_law_1764 rfl (by decide) ?_
    refine LE.aload_n (n := 1766) dL_law_1765 rfl rfl ?_
    have hx : CM mL_refusal [.ref 0, .int (nI 0), .ref 403] (c, od) (PI (HP c (stepQ A (Q_why A.2.2.2.2.2.2 (nI 0))))) := x_refusal c od A H (nI 0)
    have hr : ∀ (c1 : CC) (od1 : Int64 × UInt64), Pre c1 A → CM mX6_refusal [.ref 395, .int (nI 0)] (c1, od1) (RCP c1 od1 (stepQ A (Q_why A.2.2.2.2.2.2 (nI 0)))) := fun c1 od1 P1 => r_refusal c1 od1 A P1 (nI 0)
    generalize stepQ A (Q_why A.2.2.2.2.2.2 (nI 0)) = sp at hx hr
    refine LE.callHI (M' := mL_refusal) (n := 1769) (mc := 1) (ms := 6) (st := []) [.ref 0, .int (nI 0), .ref 403] dL_law_1766 rfl ch_L_217 rfl ⟨rfl, rfl⟩ ⟨by decide, by decide⟩ ⟨by omega, by omega⟩ (Nat.le_of_ble_eq_true rfl) hx (fun k σ1 q => ?_)
    obtain ⟨c1, o1, d1, rfl, f1, H1, rfl, hle, ho⟩ := q
    have P1 := P.frame f1
    refine LE.istore (n := 1771) dL_law_1769 rfl ⟨by decide, by decide⟩ ?_
    refine LE.aload_n (n := 1772) dL_law_1771 rfl rfl ?_
    refine LE.arg (n := 1778) (k := 1) (i := i) dL_law_1772 dL_law_1773 dL_law_1775 dL_law_1776 dL_law_1777 rfl rfl rfl ⟨by omega, hi.2⟩ ?_
    refine LE.if_eq (n := 1781) (tgt := 1785) dL_law_1778 rfl (by decide) (fun h9 => ?_) (fun h9 => absurd h8 h9)
    refine LE.iconst (n := 1786) (nI 0) dL_law_1785 rfl (by decide) ?_
    refine LE.callVI (M' := mX6_refusal) (n := 1789) (mc := 0) (ms := 0) (a := 395) (d := 6) (st := []) [.int (nI 0)] dL_law_1786 rfl cv_L_220 rfl (by decide) ⟨rfl, rfl⟩ ⟨by decide, by decide⟩ ⟨by omega, by omega⟩ (Nat.le_of_ble_eq_true rfl) (hr c1 (o1, d1) P1) (fun bq σ2 q => ?_)
    obtain ⟨c2, rfl, g1, g2, g3, g4⟩ := q
    refine LE.istore (n := 1791) dL_law_1789 rfl ⟨by decide, by decide⟩ ?_
    refine LE.aload_n (n := 1792) dL_law_1791 rfl rfl ?_
    refine LE.callVR (M' := mX6_thrown) (n := 1795) (mc := 0) (ms := 0) (a := 395) (d := 6) (st := []) [] dL_law_1792 rfl cv_L_134 rfl (by decide) ⟨rfl, rfl⟩ ⟨by decide, by decide⟩ ⟨by omega, by omega⟩ (Nat.le_of_ble_eq_true rfl) (m_thrown c2 (o1, d1)) ?_
    refine LE.iload (n := 1797) dL_law_1795 rfl rfl ?_
    refine LE.icmp_eq (n := 1800) (tgt := 1802) dL_law_1797 rfl (by decide) (fun h1 => ?_) (fun h1 => absurd g2 h1)
    refine LE.iload (n := 1804) dL_law_1802 rfl rfl ?_
    refine LE.if_ne (n := 1807) (tgt := 1819) dL_law_1804 rfl (by decide) (fun h2 => ?_) (fun h2 => ?_)
    · refine LE.goto (tgt := 2123) dL_law_1819 (by decide) ?_
      exact LE.widen (by omega) (by omega) (LE.ofA (L' := LL i) ⟨rfl, rfl, rfl, rfl, rfl, trivial⟩ (K _ _ _ (H1.frame (fun a k _ h => g1 a k h)) g4))
    · have h0 := nI3 hle h2
      refine LE.aload_n (n := 1808) dL_law_1807 rfl rfl ?_
      refine LE.iconst (n := 1809) (nI 0) dL_law_1808 rfl (by decide) ?_
      refine LE.lald (n := 1810) dL_law_1809 rfl ?_
      refine LE.iload (n := 1812) dL_law_1810 rfl rfl ?_
      refine LE.i2l (n := 1813) dL_law_1812 rfl ?_
      refine LE.lcmp (n := 1814) dL_law_1813 rfl ?_
      refine LE.if_eq (n := 1817) (tgt := 1819) dL_law_1814 rfl (by decide) (fun h3 => ?_) (fun h3 => absurd (by
        show lg_cmp o1 bq.toInt64 = 0
        rw [ho h0, g3 h0]
        exact lg_self _) h3)
      refine LE.goto (tgt := 2123) dL_law_1819 (by decide) ?_
      exact LE.widen (by omega) (by omega) (LE.ofA (L' := LL i) ⟨rfl, rfl, rfl, rfl, rfl, trivial⟩ (K _ _ _ (H1.frame (fun a k _ h => g1 a k h)) g4))
  · skip
    refine LE.iconst (n := 1761) (nI 1) dL_law_1760 rfl (by decide) ?_
    refine LE.goto (tgt := 1765) dL_law_1761 (by decide) ?_
    refine LE.aload_n (n := 1766) dL_law_1765 rfl rfl ?_
    have hx : CM mL_refusal [.ref 0, .int (nI 1), .ref 403] (c, od) (PI (HP c (stepQ A (Q_why A.2.2.2.2.2.2 (nI 1))))) := x_refusal c od A H (nI 1)
    have hr : ∀ (c1 : CC) (od1 : Int64 × UInt64), Pre c1 A → CM mX6_refusal [.ref 395, .int (nI 1)] (c1, od1) (RCP c1 od1 (stepQ A (Q_why A.2.2.2.2.2.2 (nI 1)))) := fun c1 od1 P1 => r_refusal c1 od1 A P1 (nI 1)
    generalize stepQ A (Q_why A.2.2.2.2.2.2 (nI 1)) = sp at hx hr
    refine LE.callHI (M' := mL_refusal) (n := 1769) (mc := 1) (ms := 6) (st := []) [.ref 0, .int (nI 1), .ref 403] dL_law_1766 rfl ch_L_217 rfl ⟨rfl, rfl⟩ ⟨by decide, by decide⟩ ⟨by omega, by omega⟩ (Nat.le_of_ble_eq_true rfl) hx (fun k σ1 q => ?_)
    obtain ⟨c1, o1, d1, rfl, f1, H1, rfl, hle, ho⟩ := q
    have P1 := P.frame f1
    refine LE.istore (n := 1771) dL_law_1769 rfl ⟨by decide, by decide⟩ ?_
    refine LE.aload_n (n := 1772) dL_law_1771 rfl rfl ?_
    refine LE.arg (n := 1778) (k := 1) (i := i) dL_law_1772 dL_law_1773 dL_law_1775 dL_law_1776 dL_law_1777 rfl rfl rfl ⟨by omega, hi.2⟩ ?_
    refine LE.if_eq (n := 1781) (tgt := 1785) dL_law_1778 rfl (by decide) (fun h9 => absurd h9 h8) (fun h9 => ?_)
    refine LE.iconst (n := 1782) (nI 1) dL_law_1781 rfl (by decide) ?_
    refine LE.goto (tgt := 1786) dL_law_1782 (by decide) ?_
    refine LE.callVI (M' := mX6_refusal) (n := 1789) (mc := 0) (ms := 0) (a := 395) (d := 6) (st := []) [.int (nI 1)] dL_law_1786 rfl cv_L_220 rfl (by decide) ⟨rfl, rfl⟩ ⟨by decide, by decide⟩ ⟨by omega, by omega⟩ (Nat.le_of_ble_eq_true rfl) (hr c1 (o1, d1) P1) (fun bq σ2 q => ?_)
    obtain ⟨c2, rfl, g1, g2, g3, g4⟩ := q
    refine LE.istore (n := 1791) dL_law_1789 rfl ⟨by decide, by decide⟩ ?_
    refine LE.aload_n (n := 1792) dL_law_1791 rfl rfl ?_
    refine LE.callVR (M' := mX6_thrown) (n := 1795) (mc := 0) (ms := 0) (a := 395) (d := 6) (st := []) [] dL_law_1792 rfl cv_L_134 rfl (by decide) ⟨rfl, rfl⟩ ⟨by decide, by decide⟩ ⟨by omega, by omega⟩ (Nat.le_of_ble_eq_true rfl) (m_thrown c2 (o1, d1)) ?_
    refine LE.iload (n := 1797) dL_law_1795 rfl rfl ?_
    refine LE.icmp_eq (n := 1800) (tgt := 1802) dL_law_1797 rfl (by decide) (fun h1 => ?_) (fun h1 => absurd g2 h1)
    refine LE.iload (n := 1804) dL_law_1802 rfl rfl ?_
    refine LE.if_ne (n := 1807) (tgt := 1819) dL_law_1804 rfl (by decide) (fun h2 => ?_) (fun h2 => ?_)
    · refine LE.goto (tgt := 2123) dL_law_1819 (by decide) ?_
      exact LE.widen (by omega) (by omega) (LE.ofA (L' := LL i) ⟨rfl, rfl, rfl, rfl, rfl, trivial⟩ (K _ _ _ (H1.frame (fun a k _ h => g1 a k h)) g4))
    · have h0 := nI3 hle h2
      refine LE.aload_n (n := 1808) dL_law_1807 rfl rfl ?_
      refine LE.iconst (n := 1809) (nI 0) dL_law_1808 rfl (by decide) ?_
      refine LE.lald (n := 1810) dL_law_1809 rfl ?_
      refine LE.iload (n := 1812) dL_law_1810 rfl rfl ?_
      refine LE.i2l (n := 1813) dL_law_1812 rfl ?_
      refine LE.lcmp (n := 1814) dL_law_1813 rfl ?_
      refine LE.if_eq (n := 1817) (tgt := 1819) dL_law_1814 rfl (by decide) (fun h3 => ?_) (fun h3 => absurd (by
        show lg_cmp o1 bq.toInt64 = 0
        rw [ho h0, g3 h0]
        exact lg_self _) h3)
      refine LE.goto (tgt := 2123) dL_law_1819 (by decide) ?_
      exact LE.widen (by omega) (by omega) (LE.ofA (L' := LL i) ⟨rfl, rfl, rfl, rfl, rfl, trivial⟩ (K _ _ _ (H1.frame (fun a k _ h => g1 a k h)) g4))
set_option maxRecDepth 20000 in
set_option maxHeartbeats 1000000 in
theorem k_account {b Ls : Nat} {xs : Nat → Int32} {Z : ZT} (i : Nat) (hi : i + 4 ≤ Ls ∧ Ls ≤ 2048) (c : CC) (od : Int64 × UInt64) (A : AS) (H : CA c A) (P : Pre c A) (cu su : Nat) (hc : cu + 3 ≤ 603072 ∧ su + 18 ≤ 7211114) (K : ∀ (c1 : CC) (od1 : Int64 × UInt64) (A1 : AS), CA c1 A1 → MA c1 A1 → LE b Ls xs Z 2123 (LL i) [] (c1, od1) (cu + 3) (su + 18)) : LE b Ls xs Z 1822 (LL i) [] (c, od) cu su := by
  refine LE.aload_n (n := 1823) dL_law_1822 rfl rfl ?_
  refine LE.arg (n := 1829) (k := 1) (i := i) dL_law_1823 dL_law_1824 dL_law_1826 dL_law_1827 dL_law_1828 rfl rfl rfl ⟨by omega, hi.2⟩ ?_
  refine LE.aload_n (n := 1830) dL_law_1829 rfl rfl ?_
  have hx : CM mL_account [.ref 0, .int (xs (i + 1)), .ref 403] (c, od) (PI (HP c (stepQ A (Q_acc A.1 (nI A.2.2.2.1) (nI A.2.1.length) (xs (i + 1)))))) := x_account c od A H (xs (i + 1))
  have hr : ∀ (c1 : CC) (od1 : Int64 × UInt64), Pre c1 A → CM mX6_account [.ref 395, .int (xs (i + 1))] (c1, od1) (RCP c1 od1 (stepQ A (Q_acc A.1 (nI A.2.2.2.1) (nI A.2.1.length) (xs (i + 1))))) := fun c1 od1 P1 => r_account c1 od1 A P1 (xs (i + 1))
  generalize stepQ A (Q_acc A.1 (nI A.2.2.2.1) (nI A.2.1.length) (xs (i + 1))) = sp at hx hr
  refine LE.callHI (M' := mL_account) (n := 1833) (mc := 1) (ms := 6) (st := []) [.ref 0, .int (xs (i + 1)), .ref 403] dL_law_1830 rfl ch_L_221 rfl ⟨rfl, rfl⟩ ⟨by decide, by decide⟩ ⟨by omega, by omega⟩ (Nat.le_of_ble_eq_true rfl) hx (fun k σ1 q => ?_)
  obtain ⟨c1, o1, d1, rfl, f1, H1, rfl, hle, ho⟩ := q
  have P1 := P.frame f1
  refine LE.istore (n := 1835) dL_law_1833 rfl ⟨by decide, by decide⟩ ?_
  refine LE.aload_n (n := 1836) dL_law_1835 rfl rfl ?_
  refine LE.arg (n := 1842) (k := 1) (i := i) dL_law_1836 dL_law_1837 dL_law_1839 dL_law_1840 dL_law_1841 rfl rfl rfl ⟨by omega, hi.2⟩ ?_
  refine LE.callVI (M' := mX6_account) (n := 1845) (mc := 0) (ms := 0) (a := 395) (d := 6) (st := []) [.int (xs (i + 1))] dL_law_1842 rfl cv_L_223 rfl (by decide) ⟨rfl, rfl⟩ ⟨by decide, by decide⟩ ⟨by omega, by omega⟩ (Nat.le_of_ble_eq_true rfl) (hr c1 (o1, d1) P1) (fun bq σ2 q => ?_)
  obtain ⟨c2, rfl, g1, g2, g3, g4⟩ := q
  refine LE.istore (n := 1847) dL_law_1845 rfl ⟨by decide, by decide⟩ ?_
  refine LE.aload_n (n := 1848) dL_law_1847 rfl rfl ?_
  refine LE.callVR (M' := mX6_thrown) (n := 1851) (mc := 0) (ms := 0) (a := 395) (d := 6) (st := []) [] dL_law_1848 rfl cv_L_134 rfl (by decide) ⟨rfl, rfl⟩ ⟨by decide, by decide⟩ ⟨by omega, by omega⟩ (Nat.le_of_ble_eq_true rfl) (m_thrown c2 (o1, d1)) ?_
  refine LE.iload (n := 1853) dL_law_1851 rfl rfl ?_
  refine LE.icmp_eq (n := 1856) (tgt := 1858) dL_law_1853 rfl (by decide) (fun h1 => ?_) (fun h1 => absurd g2 h1)
  refine LE.iload (n := 1860) dL_law_1858 rfl rfl ?_
  refine LE.if_ne (n := 1863) (tgt := 1875) dL_law_1860 rfl (by decide) (fun h2 => ?_) (fun h2 => ?_)
  · refine LE.goto (tgt := 2123) dL_law_1875 (by decide) ?_
    exact LE.widen (by omega) (by omega) (LE.ofA (L' := LL i) ⟨rfl, rfl, rfl, rfl, rfl, trivial⟩ (K _ _ _ (H1.frame (fun a k _ h => g1 a k h)) g4))
  · have h0 := nI3 hle h2
    refine LE.aload_n (n := 1864) dL_law_1863 rfl rfl ?_
    refine LE.iconst (n := 1865) (nI 0) dL_law_1864 rfl (by decide) ?_
    refine LE.lald (n := 1866) dL_law_1865 rfl ?_
    refine LE.iload (n := 1868) dL_law_1866 rfl rfl ?_
    refine LE.i2l (n := 1869) dL_law_1868 rfl ?_
    refine LE.lcmp (n := 1870) dL_law_1869 rfl ?_
    refine LE.if_eq (n := 1873) (tgt := 1875) dL_law_1870 rfl (by decide) (fun h3 => ?_) (fun h3 => absurd (by
      show lg_cmp o1 bq.toInt64 = 0
      rw [ho h0, g3 h0]
      exact lg_self _) h3)
    refine LE.goto (tgt := 2123) dL_law_1875 (by decide) ?_
    exact LE.widen (by omega) (by omega) (LE.ofA (L' := LL i) ⟨rfl, rfl, rfl, rfl, rfl, trivial⟩ (K _ _ _ (H1.frame (fun a k _ h => g1 a k h)) g4))
set_option maxRecDepth 20000 in
set_option maxHeartbeats 1000000 in
theorem k_isWell {b Ls : Nat} {xs : Nat → Int32} {Z : ZT} (i : Nat) (hi : i + 4 ≤ Ls ∧ Ls ≤ 2048) (c : CC) (od : Int64 × UInt64) (A : AS) (H : CA c A) (P : Pre c A) (cu su : Nat) (hc : cu + 3 ≤ 603072 ∧ su + 18 ≤ 7211114) (K : ∀ (c1 : CC) (od1 : Int64 × UInt64) (A1 : AS), CA c1 A1 → MA c1 A1 → LE b Ls xs Z 2123 (LL i) [] (c1, od1) (cu + 3) (su + 18)) : LE b Ls xs Z 1878 (LL i) [] (c, od) cu su := by
  refine LE.aload_n (n := 1879) dL_law_1878 rfl rfl ?_
  refine LE.callVI (M' := mX5_isWell) (n := 1882) (mc := 0) (ms := 0) (a := 0) (d := 5) (st := []) [] dL_law_1879 rfl cv_L_224 rfl (by decide) ⟨rfl, rfl⟩ ⟨by decide, by decide⟩ ⟨by omega, by omega⟩ (Nat.le_of_ble_eq_true rfl) (x_isWell c od A H) (fun v σ1 q => ?_)
  obtain ⟨c1, rfl, f1, H1, hv⟩ := q
  have P1 := P.frame f1
  refine LE.aload_n (n := 1883) dL_law_1882 rfl rfl ?_
  refine LE.callVI (M' := mX6_isWell) (n := 1886) (mc := 0) (ms := 0) (a := 395) (d := 6) (st := [.int v]) [] dL_law_1883 rfl cv_L_228 rfl (by decide) ⟨rfl, rfl⟩ ⟨by decide, by decide⟩ ⟨by omega, by omega⟩ (Nat.le_of_ble_eq_true rfl) (r_isWell c1 od A P1) (fun bq σ2 q => ?_)
  obtain ⟨c2, rfl, g1, g2, g3, g4⟩ := q
  refine LE.icmp_eq (n := 1889) (tgt := 2123) dL_law_1886 rfl (by decide) (fun h1 => ?_) (fun h1 => absurd (hv.trans (g3 rfl).symm) h1)
  exact LE.widen (by omega) (by omega) (LE.ofA (L' := LL i) ⟨rfl, rfl, rfl, rfl, rfl, trivial⟩ (K _ _ _ (H1.frame (fun a k _ h => g1 a k h)) g4))
set_option maxRecDepth 20000 in
set_option maxHeartbeats 1000000 in
theorem k_meanDistance {b Ls : Nat} {xs : Nat → Int32} {Z : ZT} (i : Nat) (hi : i + 4 ≤ Ls ∧ Ls ≤ 2048) (c : CC) (od : Int64 × UInt64) (A : AS) (H : CA c A) (P : Pre c A) (cu su : Nat) (hc : cu + 3 ≤ 603072 ∧ su + 18 ≤ 7211114) (K : ∀ (c1 : CC) (od1 : Int64 × UInt64) (A1 : AS), CA c1 A1 → MA c1 A1 → LE b Ls xs Z 2123 (LL i) [] (c1, od1) (cu + 3) (su + 18)) : LE b Ls xs Z 1891 (LL i) [] (c, od) cu su := by
  refine LE.aload_n (n := 1892) dL_law_1891 rfl rfl ?_
  refine LE.aload (n := 1894) dL_law_1892 rfl rfl ?_
  refine LE.callHI (M' := mL_meanDistance) (n := 1897) (mc := 1) (ms := 6) (st := []) [.ref 0, .ref 404] dL_law_1894 rfl ch_L_229 rfl ⟨rfl, rfl⟩ ⟨by decide, by decide⟩ ⟨by omega, by omega⟩ (Nat.le_of_ble_eq_true rfl) (x_meanDistance c od A H) (fun k σ1 q => ?_)
  refine LE.istore (n := 1899) dL_law_1897 rfl ⟨by decide, by decide⟩ ?_
  by_cases h0 : (mdN A.1) = 0
  · rw [if_pos h0] at q
    obtain ⟨rfl, rfl⟩ := q
    refine LE.aload_n (n := 1900) dL_law_1899 rfl rfl ?_
    refine LE.callV (M' := mX6_meanDistance) (n := 1903) (mc := 0) (ms := 0) (a := 395) (d := 6) (st := []) [] dL_law_1900 rfl cv_L_232 rfl (by decide) ⟨rfl, rfl⟩ ⟨by decide, by decide⟩ ⟨by omega, by omega⟩ (Nat.le_of_ble_eq_true rfl) (r_meanDistance c od A P) (fun E σ2 q => by obtain ⟨w, c2, q1, -⟩ := q; cases q1) (fun v σ2 q => ?_)
    obtain ⟨w, c2, q1, ⟨w0, rfl⟩, rfl, g1, g2, g3, g4⟩ := q
    cases q1
    refine LE.dstore (n := 1905) dL_law_1903 rfl ⟨by decide, by decide⟩ ?_
    refine LE.aload_n (n := 1906) dL_law_1905 rfl rfl ?_
    refine LE.callVR (M' := mX6_thrown) (n := 1909) (mc := 0) (ms := 0) (a := 395) (d := 6) (st := []) [] dL_law_1906 rfl cv_L_134 rfl (by decide) ⟨rfl, rfl⟩ ⟨by decide, by decide⟩ ⟨by omega, by omega⟩ (Nat.le_of_ble_eq_true rfl) (m_thrown c2 od) ?_
    refine LE.iload (n := 1911) dL_law_1909 rfl rfl ?_
    refine LE.icmp_eq (n := 1914) (tgt := 1916) dL_law_1911 rfl (by decide) (fun h1 => ?_) (fun h1 => absurd (by rw [g2, if_pos h0]) h1)
    refine LE.iload (n := 1918) dL_law_1916 rfl rfl ?_
    refine LE.if_ne (n := 1921) (tgt := 1953) dL_law_1918 rfl (by decide) (fun h2 => ?_) (fun h2 => absurd h2 (by decide))
    refine LE.goto (tgt := 2123) dL_law_1953 (by decide) ?_
    exact LE.widen (by omega) (by omega) (LE.ofA (L' := LL i) ⟨rfl, rfl, rfl, rfl, rfl, trivial⟩ (K _ _ _ (H.frame (fun a k _ h => g1 a k h)) g4))
  · rw [if_neg h0] at q
    obtain ⟨rfl, rfl⟩ := q
    refine LE.aload_n (n := 1900) dL_law_1899 rfl rfl ?_
    refine LE.callV (M' := mX6_meanDistance) (n := 1903) (mc := 0) (ms := 0) (a := 395) (d := 6) (st := []) [] dL_law_1900 rfl cv_L_232 rfl (by decide) ⟨rfl, rfl⟩ ⟨by decide, by decide⟩ ⟨by omega, by omega⟩ (Nat.le_of_ble_eq_true rfl) (r_meanDistance c (od.1, dqN (diN A.1 (nbN A.1)) (mdN A.1)) A P) (fun E σ2 q => by obtain ⟨w, c2, q1, -⟩ := q; cases q1) (fun v σ2 q => ?_)
    obtain ⟨w, c2, q1, ⟨w0, rfl⟩, rfl, g1, g2, g3, g4⟩ := q
    cases q1
    refine LE.dstore (n := 1905) dL_law_1903 rfl ⟨by decide, by decide⟩ ?_
    refine LE.aload_n (n := 1906) dL_law_1905 rfl rfl ?_
    refine LE.callVR (M' := mX6_thrown) (n := 1909) (mc := 0) (ms := 0) (a := 395) (d := 6) (st := []) [] dL_law_1906 rfl cv_L_134 rfl (by decide) ⟨rfl, rfl⟩ ⟨by decide, by decide⟩ ⟨by omega, by omega⟩ (Nat.le_of_ble_eq_true rfl) (m_thrown c2 (od.1, dqN (diN A.1 (nbN A.1)) (mdN A.1))) ?_
    refine LE.iload (n := 1911) dL_law_1909 rfl rfl ?_
    refine LE.icmp_eq (n := 1914) (tgt := 1916) dL_law_1911 rfl (by decide) (fun h1 => ?_) (fun h1 => absurd (by rw [g2, if_neg h0]) h1)
    refine LE.iload (n := 1918) dL_law_1916 rfl rfl ?_
    refine LE.if_ne (n := 1921) (tgt := 1953) dL_law_1918 rfl (by decide) (fun h2 => absurd (by decide) h2) (fun h2 => ?_)
    have e0 := g3 h0
    cases e0
    refine LE.aload (n := 1923) dL_law_1921 rfl rfl ?_
    refine LE.iconst (n := 1924) (nI 0) dL_law_1923 rfl (by decide) ?_
    refine LE.dald (n := 1925) dL_law_1924 rfl ?_
    refine LE.dload (n := 1927) dL_law_1925 rfl rfl ?_
    refine LE.dcmp (n := 1928) dL_law_1927 rfl ?_
    refine LE.if_eq (n := 1931) (tgt := 1953) dL_law_1928 rfl (by decide) (fun h3 => ?_) (fun h3 => absurd (dc_self (dq_no _ h0)) h3)
    refine LE.goto (tgt := 2123) dL_law_1953 (by decide) ?_
    exact LE.widen (by omega) (by omega) (LE.ofA (L' := LL i) ⟨rfl, rfl, rfl, rfl, rfl, trivial⟩ (K _ _ _ (H.frame (fun a k _ h => g1 a k h)) g4))
set_option maxRecDepth 20000 in
set_option maxHeartbeats 1000000 in
theorem k_share {b Ls : Nat} {xs : Nat → Int32} {Z : ZT} (i : Nat) (hi : i + 4 ≤ Ls ∧ Ls ≤ 2048) (c : CC) (od : Int64 × UInt64) (A : AS) (H : CA c A) (P : Pre c A) (cu su : Nat) (hc : cu + 3 ≤ 603072 ∧ su + 18 ≤ 7211114) (K : ∀ (c1 : CC) (od1 : Int64 × UInt64) (A1 : AS), CA c1 A1 → MA c1 A1 → LE b Ls xs Z 2123 (LL i) [] (c1, od1) (cu + 3) (su + 18)) : LE b Ls xs Z 1956 (LL i) [] (c, od) cu su := by
  refine LE.aload_n (n := 1957) dL_law_1956 rfl rfl ?_
  refine LE.aload (n := 1959) dL_law_1957 rfl rfl ?_
  refine LE.callHI (M' := mL_share) (n := 1962) (mc := 1) (ms := 6) (st := []) [.ref 0, .ref 404] dL_law_1959 rfl ch_L_233 rfl ⟨rfl, rfl⟩ ⟨by decide, by decide⟩ ⟨by omega, by omega⟩ (Nat.le_of_ble_eq_true rfl) (x_share c od A H) (fun k σ1 q => ?_)
  refine LE.istore (n := 1964) dL_law_1962 rfl ⟨by decide, by decide⟩ ?_
  by_cases h0 : (l2N A.1 + l3N A.1) = 0
  · rw [if_pos h0] at q
    obtain ⟨rfl, rfl⟩ := q
    refine LE.aload_n (n := 1965) dL_law_1964 rfl rfl ?_
    refine LE.callV (M' := mX6_share) (n := 1968) (mc := 0) (ms := 0) (a := 395) (d := 6) (st := []) [] dL_law_1965 rfl cv_L_235 rfl (by decide) ⟨rfl, rfl⟩ ⟨by decide, by decide⟩ ⟨by omega, by omega⟩ (Nat.le_of_ble_eq_true rfl) (r_share c od A P) (fun E σ2 q => by obtain ⟨w, c2, q1, -⟩ := q; cases q1) (fun v σ2 q => ?_)
    obtain ⟨w, c2, q1, ⟨w0, rfl⟩, rfl, g1, g2, g3, g4⟩ := q
    cases q1
    refine LE.fstore (n := 1970) dL_law_1968 rfl ⟨by decide, by decide⟩ ?_
    refine LE.aload_n (n := 1971) dL_law_1970 rfl rfl ?_
    refine LE.callVR (M' := mX6_thrown) (n := 1974) (mc := 0) (ms := 0) (a := 395) (d := 6) (st := []) [] dL_law_1971 rfl cv_L_134 rfl (by decide) ⟨rfl, rfl⟩ ⟨by decide, by decide⟩ ⟨by omega, by omega⟩ (Nat.le_of_ble_eq_true rfl) (m_thrown c2 od) ?_
    refine LE.iload (n := 1976) dL_law_1974 rfl rfl ?_
    refine LE.icmp_eq (n := 1979) (tgt := 1981) dL_law_1976 rfl (by decide) (fun h1 => ?_) (fun h1 => absurd (by rw [g2, if_pos h0]) h1)
    refine LE.iload (n := 1983) dL_law_1981 rfl rfl ?_
    refine LE.if_ne (n := 1986) (tgt := 2019) dL_law_1983 rfl (by decide) (fun h2 => ?_) (fun h2 => absurd h2 (by decide))
    refine LE.goto (tgt := 2123) dL_law_2019 (by decide) ?_
    exact LE.widen (by omega) (by omega) (LE.ofA (L' := LL i) ⟨rfl, rfl, rfl, rfl, rfl, trivial⟩ (K _ _ _ (H.frame (fun a k _ h => g1 a k h)) g4))
  · rw [if_neg h0] at q
    obtain ⟨rfl, rfl⟩ := q
    refine LE.aload_n (n := 1965) dL_law_1964 rfl rfl ?_
    refine LE.callV (M' := mX6_share) (n := 1968) (mc := 0) (ms := 0) (a := 395) (d := 6) (st := []) [] dL_law_1965 rfl cv_L_235 rfl (by decide) ⟨rfl, rfl⟩ ⟨by decide, by decide⟩ ⟨by omega, by omega⟩ (Nat.le_of_ble_eq_true rfl) (r_share c (od.1, FP.f2d (fqN (l2N A.1) (l2N A.1 + l3N A.1))) A P) (fun E σ2 q => by obtain ⟨w, c2, q1, -⟩ := q; cases q1) (fun v σ2 q => ?_)
    obtain ⟨w, c2, q1, ⟨w0, rfl⟩, rfl, g1, g2, g3, g4⟩ := q
    cases q1
    refine LE.fstore (n := 1970) dL_law_1968 rfl ⟨by decide, by decide⟩ ?_
    refine LE.aload_n (n := 1971) dL_law_1970 rfl rfl ?_
    refine LE.callVR (M' := mX6_thrown) (n := 1974) (mc := 0) (ms := 0) (a := 395) (d := 6) (st := []) [] dL_law_1971 rfl cv_L_134 rfl (by decide) ⟨rfl, rfl⟩ ⟨by decide, by decide⟩ ⟨by omega, by omega⟩ (Nat.le_of_ble_eq_true rfl) (m_thrown c2 (od.1, FP.f2d (fqN (l2N A.1) (l2N A.1 + l3N A.1)))) ?_
    refine LE.iload (n := 1976) dL_law_1974 rfl rfl ?_
    refine LE.icmp_eq (n := 1979) (tgt := 1981) dL_law_1976 rfl (by decide) (fun h1 => ?_) (fun h1 => absurd (by rw [g2, if_neg h0]) h1)
    refine LE.iload (n := 1983) dL_law_1981 rfl rfl ?_
    refine LE.if_ne (n := 1986) (tgt := 2019) dL_law_1983 rfl (by decide) (fun h2 => absurd (by decide) h2) (fun h2 => ?_)
    have e0 := g3 h0
    cases e0
    refine LE.aload (n := 1988) dL_law_1986 rfl rfl ?_
    refine LE.iconst (n := 1989) (nI 0) dL_law_1988 rfl (by decide) ?_
    refine LE.dald (n := 1990) dL_law_1989 rfl ?_
    refine LE.fload (n := 1992) dL_law_1990 rfl rfl ?_
    refine LE.f2d (n := 1993) dL_law_1992 rfl (n64_of ((show FP.Core.dIsNaN (FP.f2d _) = FP.Core.fIsNaN _ from FP.f2d_nan _).trans (fq_no _ h0))) ?_
    refine LE.dcmp (n := 1994) dL_law_1993 rfl ?_
    refine LE.if_eq (n := 1997) (tgt := 2019) dL_law_1994 rfl (by decide) (fun h3 => ?_) (fun h3 => absurd (dc_self ((show FP.Core.dIsNaN (FP.f2d _) = FP.Core.fIsNaN _ from FP.f2d_nan _).trans (fq_no _ h0))) h3)
    refine LE.goto (tgt := 2123) dL_law_2019 (by decide) ?_
    exact LE.widen (by omega) (by omega) (LE.ofA (L' := LL i) ⟨rfl, rfl, rfl, rfl, rfl, trivial⟩ (K _ _ _ (H.frame (fun a k _ h => g1 a k h)) g4))
set_option maxRecDepth 20000 in
set_option maxHeartbeats 1000000 in
theorem k_undo {b Ls : Nat} {xs : Nat → Int32} {Z : ZT} (i : Nat) (hi : i + 4 ≤ Ls ∧ Ls ≤ 2048) (c : CC) (od : Int64 × UInt64) (A : AS) (H : CA c A) (P : Pre c A) (cu su : Nat) (hc : cu + 3 ≤ 603072 ∧ su + 18 ≤ 7211114) (K : ∀ (c1 : CC) (od1 : Int64 × UInt64) (A1 : AS), CA c1 A1 → MA c1 A1 → LE b Ls xs Z 2123 (LL i) [] (c1, od1) (cu + 3) (su + 18)) : LE b Ls xs Z 2022 (LL i) [] (c, od) cu su := by
  refine LE.aload_n (n := 2023) dL_law_2022 rfl rfl ?_
  refine LE.aload_n (n := 2024) dL_law_2023 rfl rfl ?_
  have hx : CM mL_undo [.ref 0, .ref 403] (c, od) (PI (HP c (stepU A))) := x_undo c od A H 
  have hr : ∀ (c1 : CC) (od1 : Int64 × UInt64), Pre c1 A → CM mX6_undo [.ref 395] (c1, od1) (RCP c1 od1 (stepU A)) := fun c1 od1 P1 => r_undo c1 od1 A P1 
  generalize stepU A = sp at hx hr
  refine LE.callHI (M' := mL_undo) (n := 2027) (mc := 1) (ms := 6) (st := []) [.ref 0, .ref 403] dL_law_2024 rfl ch_L_236 rfl ⟨rfl, rfl⟩ ⟨by decide, by decide⟩ ⟨by omega, by omega⟩ (Nat.le_of_ble_eq_true rfl) hx (fun k σ1 q => ?_)
  obtain ⟨c1, o1, d1, rfl, f1, H1, rfl, hle, ho⟩ := q
  have P1 := P.frame f1
  refine LE.istore (n := 2029) dL_law_2027 rfl ⟨by decide, by decide⟩ ?_
  refine LE.aload_n (n := 2030) dL_law_2029 rfl rfl ?_
  refine LE.callVI (M' := mX6_undo) (n := 2033) (mc := 0) (ms := 0) (a := 395) (d := 6) (st := []) [] dL_law_2030 rfl cv_L_238 rfl (by decide) ⟨rfl, rfl⟩ ⟨by decide, by decide⟩ ⟨by omega, by omega⟩ (Nat.le_of_ble_eq_true rfl) (hr c1 (o1, d1) P1) (fun bq σ2 q => ?_)
  obtain ⟨c2, rfl, g1, g2, g3, g4⟩ := q
  refine LE.istore (n := 2035) dL_law_2033 rfl ⟨by decide, by decide⟩ ?_
  refine LE.aload_n (n := 2036) dL_law_2035 rfl rfl ?_
  refine LE.callVR (M' := mX6_thrown) (n := 2039) (mc := 0) (ms := 0) (a := 395) (d := 6) (st := []) [] dL_law_2036 rfl cv_L_134 rfl (by decide) ⟨rfl, rfl⟩ ⟨by decide, by decide⟩ ⟨by omega, by omega⟩ (Nat.le_of_ble_eq_true rfl) (m_thrown c2 (o1, d1)) ?_
  refine LE.iload (n := 2041) dL_law_2039 rfl rfl ?_
  refine LE.icmp_eq (n := 2044) (tgt := 2046) dL_law_2041 rfl (by decide) (fun h1 => ?_) (fun h1 => absurd g2 h1)
  refine LE.iload (n := 2048) dL_law_2046 rfl rfl ?_
  refine LE.if_ne (n := 2051) (tgt := 2063) dL_law_2048 rfl (by decide) (fun h2 => ?_) (fun h2 => ?_)
  · refine LE.goto (tgt := 2123) dL_law_2063 (by decide) ?_
    exact LE.widen (by omega) (by omega) (LE.ofA (L' := LL i) ⟨rfl, rfl, rfl, rfl, rfl, trivial⟩ (K _ _ _ (H1.frame (fun a k _ h => g1 a k h)) g4))
  · have h0 := nI3 hle h2
    refine LE.aload_n (n := 2052) dL_law_2051 rfl rfl ?_
    refine LE.iconst (n := 2053) (nI 0) dL_law_2052 rfl (by decide) ?_
    refine LE.lald (n := 2054) dL_law_2053 rfl ?_
    refine LE.iload (n := 2056) dL_law_2054 rfl rfl ?_
    refine LE.i2l (n := 2057) dL_law_2056 rfl ?_
    refine LE.lcmp (n := 2058) dL_law_2057 rfl ?_
    refine LE.if_eq (n := 2061) (tgt := 2063) dL_law_2058 rfl (by decide) (fun h3 => ?_) (fun h3 => absurd (by
      show lg_cmp o1 bq.toInt64 = 0
      rw [ho h0, g3 h0]
      exact lg_self _) h3)
    refine LE.goto (tgt := 2123) dL_law_2063 (by decide) ?_
    exact LE.widen (by omega) (by omega) (LE.ofA (L' := LL i) ⟨rfl, rfl, rfl, rfl, rfl, trivial⟩ (K _ _ _ (H1.frame (fun a k _ h => g1 a k h)) g4))
set_option maxRecDepth 20000 in
set_option maxHeartbeats 1000000 in
theorem k_save {b Ls : Nat} {xs : Nat → Int32} {Z : ZT} (i : Nat) (hi : i + 4 ≤ Ls ∧ Ls ≤ 2048) (c : CC) (od : Int64 × UInt64) (A : AS) (H : CA c A) (P : Pre c A) (cu su : Nat) (hc : cu + 3 ≤ 603072 ∧ su + 18 ≤ 7211114) (K : ∀ (c1 : CC) (od1 : Int64 × UInt64) (A1 : AS), CA c1 A1 → MA c1 A1 → LE b Ls xs Z 2123 (LL i) [] (c1, od1) (cu + 3) (su + 18)) : LE b Ls xs Z 2066 (LL i) [] (c, od) cu su := by
  refine LE.aload_n (n := 2067) dL_law_2066 rfl rfl ?_
  refine LE.callVI (M' := mX5_save) (n := 2070) (mc := 0) (ms := 0) (a := 0) (d := 5) (st := []) [] dL_law_2067 rfl cv_L_239 rfl (by decide) ⟨rfl, rfl⟩ ⟨by decide, by decide⟩ ⟨by omega, by omega⟩ (Nat.le_of_ble_eq_true rfl) (x_save c od A H) (fun v σ1 q => ?_)
  obtain ⟨c1, rfl, f1, H1, hv⟩ := q
  have P1 := P.frame f1
  refine LE.aload_n (n := 2071) dL_law_2070 rfl rfl ?_
  refine LE.callVI (M' := mX6_save) (n := 2074) (mc := 0) (ms := 0) (a := 395) (d := 6) (st := [.int v]) [] dL_law_2071 rfl cv_L_242 rfl (by decide) ⟨rfl, rfl⟩ ⟨by decide, by decide⟩ ⟨by omega, by omega⟩ (Nat.le_of_ble_eq_true rfl) (r_save c1 od A P1) (fun bq σ2 q => ?_)
  obtain ⟨c2, rfl, g1, g2, g3, g4⟩ := q
  refine LE.icmp_eq (n := 2077) (tgt := 2123) dL_law_2074 rfl (by decide) (fun h1 => ?_) (fun h1 => absurd (hv.trans (g3 rfl).symm) h1)
  exact LE.widen (by omega) (by omega) (LE.ofA (L' := LL i) ⟨rfl, rfl, rfl, rfl, rfl, trivial⟩ (K _ _ _ (H1.frame (fun a k _ h => g1 a k h)) g4))
set_option maxRecDepth 20000 in
set_option maxHeartbeats 1000000 in
theorem k_restore {b Ls : Nat} {xs : Nat → Int32} {Z : ZT} (i : Nat) (hi : i + 4 ≤ Ls ∧ Ls ≤ 2048) (c : CC) (od : Int64 × UInt64) (A : AS) (H : CA c A) (P : Pre c A) (cu su : Nat) (hc : cu + 3 ≤ 603072 ∧ su + 18 ≤ 7211114) (K : ∀ (c1 : CC) (od1 : Int64 × UInt64) (A1 : AS), CA c1 A1 → MA c1 A1 → LE b Ls xs Z 2123 (LL i) [] (c1, od1) (cu + 3) (su + 18)) : LE b Ls xs Z 2079 (LL i) [] (c, od) cu su := by
  refine LE.aload_n (n := 2080) dL_law_2079 rfl rfl ?_
  refine LE.aload_n (n := 2081) dL_law_2080 rfl rfl ?_
  have hx : CM mL_restore [.ref 0, .ref 403] (c, od) (PI (HP c (stepR A))) := x_restore c od A H 
  have hr : ∀ (c1 : CC) (od1 : Int64 × UInt64), Pre c1 A → CM mX6_restore [.ref 395] (c1, od1) (RCP c1 od1 (stepR A)) := fun c1 od1 P1 => r_restore c1 od1 A P1 
  generalize stepR A = sp at hx hr
  refine LE.callHI (M' := mL_restore) (n := 2084) (mc := 1) (ms := 6) (st := []) [.ref 0, .ref 403] dL_law_2081 rfl ch_L_243 rfl ⟨rfl, rfl⟩ ⟨by decide, by decide⟩ ⟨by omega, by omega⟩ (Nat.le_of_ble_eq_true rfl) hx (fun k σ1 q => ?_)
  obtain ⟨c1, o1, d1, rfl, f1, H1, rfl, hle, ho⟩ := q
  have P1 := P.frame f1
  refine LE.istore (n := 2086) dL_law_2084 rfl ⟨by decide, by decide⟩ ?_
  refine LE.aload_n (n := 2087) dL_law_2086 rfl rfl ?_
  refine LE.callVI (M' := mX6_restore) (n := 2090) (mc := 0) (ms := 0) (a := 395) (d := 6) (st := []) [] dL_law_2087 rfl cv_L_245 rfl (by decide) ⟨rfl, rfl⟩ ⟨by decide, by decide⟩ ⟨by omega, by omega⟩ (Nat.le_of_ble_eq_true rfl) (hr c1 (o1, d1) P1) (fun bq σ2 q => ?_)
  obtain ⟨c2, rfl, g1, g2, g3, g4⟩ := q
  refine LE.istore (n := 2092) dL_law_2090 rfl ⟨by decide, by decide⟩ ?_
  refine LE.aload_n (n := 2093) dL_law_2092 rfl rfl ?_
  refine LE.callVR (M' := mX6_thrown) (n := 2096) (mc := 0) (ms := 0) (a := 395) (d := 6) (st := []) [] dL_law_2093 rfl cv_L_134 rfl (by decide) ⟨rfl, rfl⟩ ⟨by decide, by decide⟩ ⟨by omega, by omega⟩ (Nat.le_of_ble_eq_true rfl) (m_thrown c2 (o1, d1)) ?_
  refine LE.iload (n := 2098) dL_law_2096 rfl rfl ?_
  refine LE.icmp_eq (n := 2101) (tgt := 2103) dL_law_2098 rfl (by decide) (fun h1 => ?_) (fun h1 => absurd g2 h1)
  refine LE.iload (n := 2105) dL_law_2103 rfl rfl ?_
  refine LE.if_ne (n := 2108) (tgt := 2120) dL_law_2105 rfl (by decide) (fun h2 => ?_) (fun h2 => ?_)
  · refine LE.goto (tgt := 2123) dL_law_2120 (by decide) ?_
    exact LE.widen (by omega) (by omega) (LE.ofA (L' := LL i) ⟨rfl, rfl, rfl, rfl, rfl, trivial⟩ (K _ _ _ (H1.frame (fun a k _ h => g1 a k h)) g4))
  · have h0 := nI3 hle h2
    refine LE.aload_n (n := 2109) dL_law_2108 rfl rfl ?_
    refine LE.iconst (n := 2110) (nI 0) dL_law_2109 rfl (by decide) ?_
    refine LE.lald (n := 2111) dL_law_2110 rfl ?_
    refine LE.iload (n := 2113) dL_law_2111 rfl rfl ?_
    refine LE.i2l (n := 2114) dL_law_2113 rfl ?_
    refine LE.lcmp (n := 2115) dL_law_2114 rfl ?_
    refine LE.if_eq (n := 2118) (tgt := 2120) dL_law_2115 rfl (by decide) (fun h3 => ?_) (fun h3 => absurd (by
      show lg_cmp o1 bq.toInt64 = 0
      rw [ho h0, g3 h0]
      exact lg_self _) h3)
    refine LE.goto (tgt := 2123) dL_law_2120 (by decide) ?_
    exact LE.widen (by omega) (by omega) (LE.ofA (L' := LL i) ⟨rfl, rfl, rfl, rfl, rfl, trivial⟩ (K _ _ _ (H1.frame (fun a k _ h => g1 a k h)) g4))
