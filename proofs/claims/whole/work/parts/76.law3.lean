/-! ===== the law: a call each ===== -/
theorem qNum_st (O : kO) (k : Nat) : (qNum O k).2.2 = O := rfl
theorem qCnt_st (O : kO) : (qCnt O).2.2 = O := rfl
theorem qAt_st (O : kO) (i : Int32) : (qAt O i).2.2 = O := by unfold qAt; split <;> rfl
theorem qEx_st (O : kO) (i : Int32) : (qEx O i).2.2 = O := rfl
theorem qOf_st (O : kO) (i : Int32) (f : (Nat → Nat) → Nat) : (qOf O i f).2.2 = O := by unfold qOf; split <;> rfl
theorem qRank_st (O : kO) (i : Int32) : (qRank O i).2.2 = O := by unfold qRank; split <;> rfl
theorem qIn_st (O : kO) (i : Int32) : (qIn O i).2.2 = O := by unfold qIn; split <;> rfl
theorem qMeet_st (mt : Int32 → Int32 → Int32 → Int32 → Int32) (O : kO) (a b : Int32) : (qMeet mt O a b).2.2 = O := by
  cases ha : plV O.1.1 a with
  | none => rw [qMeet_a ha]
  | some i =>
    cases hb : plV O.1.1 b with
    | none => rw [qMeet_b hb]
    | some j =>
      rw [qMeet_s ha hb]
      split
      · rfl
      · split <;> rfl
theorem qAli_st (O : kO) : (qAli O).2.2 = O := by unfold qAli; split <;> rfl
theorem qMea_st (O : kO) : (qMea O).2.2 = O := by unfold qMea; split <;> rfl
theorem qSha_st (O : kO) : (qSha O).2.2 = O := rfl
theorem qWor_st (O : kO) (i : Int32) : (qWor O i).2.2 = O := by unfold qWor; split <;> rfl
theorem qWoD_st (O : kO) (i : Int32) : (qWoD O i).2.2 = O := by unfold qWoD; split <;> rfl
theorem qFew_st (O : kO) (i : Int32) : (qFew O i).2.2 = O := by unfold qFew; split <;> rfl
theorem qDust_st (O : kO) (i : Int32) : (qDust O i).2.2 = O := by unfold qDust; split <;> rfl
theorem qGain_st (O : kO) (a n : Int32) : (qGain O a n).2.2 = O := by unfold qGain; split <;> (try split) <;> rfl
theorem qTot_st (O : kO) : (qTot O).2.2 = O := rfl
theorem qKad_st (O : kO) : (qKad O).2.2 = O := rfl
theorem qArc_st (O : kO) (r : Int32) : (qArc O r).2.2 = O := rfl
theorem qCon_st (O : kO) : (qCon O).2.2 = O := rfl
theorem qErr_st (O : kO) : (qErr O).2.2 = O := by unfold qErr; split <;> rfl
theorem qFail_st (O : kO) : (qFail O).2.2 = O := by unfold qFail; split <;> rfl
theorem qOut_st (O : kO) (i : Int32) : (qOut O i).2.2 = O := by unfold qOut; split <;> rfl
theorem WfO.same {u : Nat} {O O' : kO} (h : WfO u O) (e : O' = O) : WfO (u + 12) O' := by rw [e]; exact h.up (by omega)
set_option maxRecDepth 20000 in
set_option maxHeartbeats 4000000 in
theorem s_B0 {E : qE} {X : qX} {Q : State → Prop} {g : qG} {m : qM} {cN sN : Nat} (hX : MC E yL_law cL_law 10 (some .boolean) 1475 603072 7182442 [] X) {b L x u i : Nat} {xs : Nat → Int32} {O : kO} {z6 z7 z8 z9 : Option Value} (hs : ScrX E X b L xs) (hL : L ≤ 2048) (hi : i + 4 ≤ L) (hI : LI x u O g m) (hu : u ≤ 6144) (hcN : cN + 25 ≤ 603072) (hsN : sN + 7500 ≤ 7182442) (K : ∀ (O' : kO) (g' : qG) (m' : qM) (z6 z7 z8 z9 : Option Value), LI x (u + 12) O' g' m' → WS E X (cN + 25) (sN + 7500) Q g' m' 2383 [some (.ref b), some (.ref x), some (.ref (x + 138)), some (.ref (x + 145)), some (.ref (x + 146)), some (.int (nI i)), z6, z7, z8, z9] []) : WS E X cN sN Q g m 260 [some (.ref b), some (.ref x), some (.ref (x + 138)), some (.ref (x + 145)), some (.ref (x + 146)), some (.int (nI i)), z6, z7, z8, z9] [] := by
  refine r_known (fun hk => ?_)
  refine r_aload_n hX dL_law_260 rfl ?_
  refine r_aload_n hX dL_law_261 rfl ?_
  refine r_iload hX dL_law_262 rfl ?_
  refine r_iconst (v := 1) hX dL_law_264 (by decide) ?_
  refine r_iadd hX dL_law_265 ?_
  refine r_sld hX hs (j := i + 1) (nI_add i 1) (by omega) (by omega) dL_law_266 ?_
  refine r_aload_n hX dL_law_267 rfl ?_
  refine r_iload hX dL_law_268 rfl ?_
  refine r_iconst (v := 2) hX dL_law_270 (by decide) ?_
  refine r_iadd hX dL_law_271 ?_
  refine r_sld hX hs (j := i + 2) (nI_add i 2) (by omega) (by omega) dL_law_272 ?_
  refine r_aload_n hX dL_law_273 rfl ?_
  refine r_iload hX dL_law_274 rfl ?_
  refine r_iconst (v := 3) hX dL_law_276 (by decide) ?_
  refine r_iadd hX dL_law_277 ?_
  refine r_sld hX hs (j := i + 3) (nI_add i 3) (by omega) (by omega) dL_law_278 ?_
  refine r_aload_n hX dL_law_279 rfl ?_
  refine r_callH hX dL_law_280 (s_L_addComet E g m x O hI.1 u hI.2.2.2.2 hu (xs (i + 1)) (xs (i + 2)) (xs (i + 3)) (x + 145) hI.2.2.1) ml_L_132 rfl rfl ⟨Nat.le_of_ble_eq_true rfl, Nat.le_of_ble_eq_true rfl⟩ ⟨by omega, by omega, rfl, Nat.le_of_ble_eq_true rfl⟩ (fun v1 g1 m1 hp => ?_)
  obtain ⟨hv, hO1, hF1, hq1, hR5⟩ := hp
  subst hv
  have hJ := hI.lp hO1 hF1 (Or.inl rfl) hk
  refine r_istore hX dL_law_283 (Nat.le_of_ble_eq_true rfl) rfl ?_
  refine r_aload_n hX dL_law_285 rfl ?_
  refine r_aload_n hX dL_law_286 rfl ?_
  refine r_iload hX dL_law_287 rfl ?_
  refine r_iconst (v := 1) hX dL_law_289 (by decide) ?_
  refine r_iadd hX dL_law_290 ?_
  refine r_sld hX hs (j := i + 1) (nI_add i 1) (by omega) (by omega) dL_law_291 ?_
  refine r_aload_n hX dL_law_292 rfl ?_
  refine r_iload hX dL_law_293 rfl ?_
  refine r_iconst (v := 2) hX dL_law_295 (by decide) ?_
  refine r_iadd hX dL_law_296 ?_
  refine r_sld hX hs (j := i + 2) (nI_add i 2) (by omega) (by omega) dL_law_297 ?_
  refine r_aload_n hX dL_law_298 rfl ?_
  refine r_iload hX dL_law_299 rfl ?_
  refine r_iconst (v := 3) hX dL_law_301 (by decide) ?_
  refine r_iadd hX dL_law_302 ?_
  refine r_sld hX hs (j := i + 3) (nI_add i 3) (by omega) (by omega) dL_law_303 ?_
  refine r_callV hX dL_law_304 (s_X8_addComet E g1 m1 (x + 138) O hJ.2.1 u hJ.2.2.2.2 hu (xs (i + 1)) (xs (i + 2)) (xs (i + 3))) ml_L_137 rfl rfl hJ.2.1.1.1.1.1 rfl ⟨Nat.le_of_ble_eq_true rfl, Nat.le_of_ble_eq_true rfl⟩ ⟨by omega, by omega, rfl, Nat.le_of_ble_eq_true rfl⟩ (fun v304 g304 m304 hp => ?_)
  obtain ⟨⟨w9, hv, hw9⟩, hg, hz0, hM, hMF⟩ := hp
  subst hv
  subst g304
  refine r_istore hX dL_law_307 (Nat.le_of_ble_eq_true rfl) rfl ?_
  refine r_aload_n hX dL_law_309 rfl ?_
  refine r_callV hX dL_law_310 (s_X8_thrown E g1 m304 (x + 138) hM.1.1) ml_L_138 rfl rfl hM.1.1.1.1 rfl ⟨Nat.le_of_ble_eq_true rfl, Nat.le_of_ble_eq_true rfl⟩ ⟨by omega, by omega, rfl, Nat.le_of_ble_eq_true rfl⟩ (fun v310 g310 m310 hp => ?_)
  obtain ⟨hv, hg, hm⟩ := hp
  subst v310
  subst g310
  subst m310
  rw [hz0]
  refine r_iload hX dL_law_313 rfl ?_
  refine r_icmp_eq (tgt := 320) hX dL_law_315 (by decide) (fun c315 => ?_) (fun c315 => ?_)
  · refine r_iload hX dL_law_320 rfl ?_
    refine r_if_ne (tgt := 337) hX dL_law_322 (by decide) (fun c322 => ?_) (fun c322 => ?_)
    · refine r_goto (tgt := 2383) hX dL_law_337 (by decide) ?_
      refine r_widen (cN' := cN + 25) (sN' := sN + 7500) (by omega) (by omega) ?_
      exact K _ _ _ _ _ _ _ (hJ.fin hM hMF (addO_wf hI.2.2.2.2 (xs (i + 1)) (xs (i + 2)) (xs (i + 3))))
    · refine r_aload_n hX dL_law_325 rfl ?_
      refine r_iconst (v := 0) hX dL_law_326 (by decide) ?_
      have hr0 := r0_of hR5 c322
      refine r_laload hX dL_law_327 hJ.2.2.1 (pk_in 0 1 (by decide)) ?_
      rw [show qJ m304 (x + 145) (Int32.toNatClampNeg 0) = (addO O (xs (i + 1)) (xs (i + 2)) (xs (i + 3))).2.1.toInt64 from (hMF.qJ _ _).trans (hq1 hr0)]
      refine r_iload hX dL_law_328 rfl ?_
      rw [hw9 hr0]
      refine r_i2l hX dL_law_330 ?_
      refine r_lcmp hX dL_law_331 ?_
      rw [lg_self]
      refine r_if_eq (tgt := 337) hX dL_law_332 (by decide) (fun c332 => ?_) (fun c332 => ?_)
      · refine r_goto (tgt := 2383) hX dL_law_337 (by decide) ?_
        refine r_widen (cN' := cN + 25) (sN' := sN + 7500) (by omega) (by omega) ?_
        exact K _ _ _ _ _ _ _ (hJ.fin hM hMF (addO_wf hI.2.2.2.2 (xs (i + 1)) (xs (i + 2)) (xs (i + 3))))
      · exact absurd rfl c332
  · exact absurd rfl c315
set_option maxRecDepth 20000 in
set_option maxHeartbeats 4000000 in
theorem s_B1 {E : qE} {X : qX} {Q : State → Prop} {g : qG} {m : qM} {cN sN : Nat} (hX : MC E yL_law cL_law 10 (some .boolean) 1475 603072 7182442 [] X) {b L x u i : Nat} {xs : Nat → Int32} {O : kO} {z6 z7 z8 z9 : Option Value} (hs : ScrX E X b L xs) (hL : L ≤ 2048) (hi : i + 4 ≤ L) (hI : LI x u O g m) (hu : u ≤ 6144) (hcN : cN + 25 ≤ 603072) (hsN : sN + 7500 ≤ 7182442) (K : ∀ (O' : kO) (g' : qG) (m' : qM) (z6 z7 z8 z9 : Option Value), LI x (u + 12) O' g' m' → WS E X (cN + 25) (sN + 7500) Q g' m' 2383 [some (.ref b), some (.ref x), some (.ref (x + 138)), some (.ref (x + 145)), some (.ref (x + 146)), some (.int (nI i)), z6, z7, z8, z9] []) : WS E X cN sN Q g m 340 [some (.ref b), some (.ref x), some (.ref (x + 138)), some (.ref (x + 145)), some (.ref (x + 146)), some (.int (nI i)), z6, z7, z8, z9] [] := by
  refine r_known (fun hk => ?_)
  refine r_aload_n hX dL_law_340 rfl ?_
  refine r_aload_n hX dL_law_341 rfl ?_
  refine r_iload hX dL_law_342 rfl ?_
  refine r_iconst (v := 1) hX dL_law_344 (by decide) ?_
  refine r_iadd hX dL_law_345 ?_
  refine r_sld hX hs (j := i + 1) (nI_add i 1) (by omega) (by omega) dL_law_346 ?_
  refine r_aload_n hX dL_law_347 rfl ?_
  refine r_callH hX dL_law_348 (s_L_remove E g m x O hI.1 u hI.2.2.2.2 hu (xs (i + 1)) (x + 145) hI.2.2.1) ml_L_141 rfl rfl ⟨Nat.le_of_ble_eq_true rfl, Nat.le_of_ble_eq_true rfl⟩ ⟨by omega, by omega, rfl, Nat.le_of_ble_eq_true rfl⟩ (fun v1 g1 m1 hp => ?_)
  obtain ⟨hv, hO1, hF1, hq1, hR5⟩ := hp
  subst hv
  have hJ := hI.lp hO1 hF1 (Or.inl rfl) hk
  refine r_istore hX dL_law_351 (Nat.le_of_ble_eq_true rfl) rfl ?_
  refine r_aload_n hX dL_law_353 rfl ?_
  refine r_aload_n hX dL_law_354 rfl ?_
  refine r_iload hX dL_law_355 rfl ?_
  refine r_iconst (v := 1) hX dL_law_357 (by decide) ?_
  refine r_iadd hX dL_law_358 ?_
  refine r_sld hX hs (j := i + 1) (nI_add i 1) (by omega) (by omega) dL_law_359 ?_
  refine r_callV hX dL_law_360 (s_X8_remove E g1 m1 (x + 138) O hJ.2.1 u hJ.2.2.2.2 hu (xs (i + 1))) ml_L_144 rfl rfl hJ.2.1.1.1.1.1 rfl ⟨Nat.le_of_ble_eq_true rfl, Nat.le_of_ble_eq_true rfl⟩ ⟨by omega, by omega, rfl, Nat.le_of_ble_eq_true rfl⟩ (fun v360 g360 m360 hp => ?_)
  obtain ⟨⟨w9, hv, hw9⟩, hg, hz0, hM, hMF⟩ := hp
  subst hv
  subst g360
  refine r_istore hX dL_law_363 (Nat.le_of_ble_eq_true rfl) rfl ?_
  refine r_aload_n hX dL_law_365 rfl ?_
  refine r_callV hX dL_law_366 (s_X8_thrown E g1 m360 (x + 138) hM.1.1) ml_L_138 rfl rfl hM.1.1.1.1 rfl ⟨Nat.le_of_ble_eq_true rfl, Nat.le_of_ble_eq_true rfl⟩ ⟨by omega, by omega, rfl, Nat.le_of_ble_eq_true rfl⟩ (fun v366 g366 m366 hp => ?_)
  obtain ⟨hv, hg, hm⟩ := hp
  subst v366
  subst g366
  subst m366
  rw [hz0]
  refine r_iload hX dL_law_369 rfl ?_
  refine r_icmp_eq (tgt := 376) hX dL_law_371 (by decide) (fun c371 => ?_) (fun c371 => ?_)
  · refine r_iload hX dL_law_376 rfl ?_
    refine r_if_ne (tgt := 393) hX dL_law_378 (by decide) (fun c378 => ?_) (fun c378 => ?_)
    · refine r_goto (tgt := 2383) hX dL_law_393 (by decide) ?_
      refine r_widen (cN' := cN + 25) (sN' := sN + 7500) (by omega) (by omega) ?_
      exact K _ _ _ _ _ _ _ (hJ.fin hM hMF (dropO_wf hI.2.2.2.2 (xs (i + 1))))
    · refine r_aload_n hX dL_law_381 rfl ?_
      refine r_iconst (v := 0) hX dL_law_382 (by decide) ?_
      have hr0 := r0_of hR5 c378
      refine r_laload hX dL_law_383 hJ.2.2.1 (pk_in 0 1 (by decide)) ?_
      rw [show qJ m360 (x + 145) (Int32.toNatClampNeg 0) = (dropO O (xs (i + 1))).2.1.toInt64 from (hMF.qJ _ _).trans (hq1 hr0)]
      refine r_iload hX dL_law_384 rfl ?_
      rw [hw9 hr0]
      refine r_i2l hX dL_law_386 ?_
      refine r_lcmp hX dL_law_387 ?_
      rw [lg_self]
      refine r_if_eq (tgt := 393) hX dL_law_388 (by decide) (fun c388 => ?_) (fun c388 => ?_)
      · refine r_goto (tgt := 2383) hX dL_law_393 (by decide) ?_
        refine r_widen (cN' := cN + 25) (sN' := sN + 7500) (by omega) (by omega) ?_
        exact K _ _ _ _ _ _ _ (hJ.fin hM hMF (dropO_wf hI.2.2.2.2 (xs (i + 1))))
      · exact absurd rfl c388
  · exact absurd rfl c371
set_option maxRecDepth 20000 in
set_option maxHeartbeats 4000000 in
theorem s_B2 {E : qE} {X : qX} {Q : State → Prop} {g : qG} {m : qM} {cN sN : Nat} (hX : MC E yL_law cL_law 10 (some .boolean) 1475 603072 7182442 [] X) {b L x u i : Nat} {xs : Nat → Int32} {O : kO} {z6 z7 z8 z9 : Option Value} (hs : ScrX E X b L xs) (hL : L ≤ 2048) (hi : i + 4 ≤ L) (hI : LI x u O g m) (hu : u ≤ 6144) (hcN : cN + 25 ≤ 603072) (hsN : sN + 7500 ≤ 7182442) (K : ∀ (O' : kO) (g' : qG) (m' : qM) (z6 z7 z8 z9 : Option Value), LI x (u + 12) O' g' m' → WS E X (cN + 25) (sN + 7500) Q g' m' 2383 [some (.ref b), some (.ref x), some (.ref (x + 138)), some (.ref (x + 145)), some (.ref (x + 146)), some (.int (nI i)), z6, z7, z8, z9] []) : WS E X cN sN Q g m 396 [some (.ref b), some (.ref x), some (.ref (x + 138)), some (.ref (x + 145)), some (.ref (x + 146)), some (.int (nI i)), z6, z7, z8, z9] [] := by
  refine r_known (fun hk => ?_)
  refine r_aload_n hX dL_law_396 rfl ?_
  refine r_aload_n hX dL_law_397 rfl ?_
  refine r_iload hX dL_law_398 rfl ?_
  refine r_iconst (v := 1) hX dL_law_400 (by decide) ?_
  refine r_iadd hX dL_law_401 ?_
  refine r_sld hX hs (j := i + 1) (nI_add i 1) (by omega) (by omega) dL_law_402 ?_
  refine r_aload_n hX dL_law_403 rfl ?_
  refine r_iload hX dL_law_404 rfl ?_
  refine r_iconst (v := 2) hX dL_law_406 (by decide) ?_
  refine r_iadd hX dL_law_407 ?_
  refine r_sld hX hs (j := i + 2) (nI_add i 2) (by omega) (by omega) dL_law_408 ?_
  refine r_aload_n hX dL_law_409 rfl ?_
  refine r_callH hX dL_law_410 (s_L_setPeriod E g m x O hI.1 u hI.2.2.2.2 hu (xs (i + 1)) (xs (i + 2)) (x + 145) hI.2.2.1) ml_L_145 rfl rfl ⟨Nat.le_of_ble_eq_true rfl, Nat.le_of_ble_eq_true rfl⟩ ⟨by omega, by omega, rfl, Nat.le_of_ble_eq_true rfl⟩ (fun v1 g1 m1 hp => ?_)
  obtain ⟨hv, hO1, hF1, hq1, hR5⟩ := hp
  subst hv
  have hJ := hI.lp hO1 hF1 (Or.inl rfl) hk
  refine r_istore hX dL_law_413 (Nat.le_of_ble_eq_true rfl) rfl ?_
  refine r_aload_n hX dL_law_415 rfl ?_
  refine r_aload_n hX dL_law_416 rfl ?_
  refine r_iload hX dL_law_417 rfl ?_
  refine r_iconst (v := 1) hX dL_law_419 (by decide) ?_
  refine r_iadd hX dL_law_420 ?_
  refine r_sld hX hs (j := i + 1) (nI_add i 1) (by omega) (by omega) dL_law_421 ?_
  refine r_aload_n hX dL_law_422 rfl ?_
  refine r_iload hX dL_law_423 rfl ?_
  refine r_iconst (v := 2) hX dL_law_425 (by decide) ?_
  refine r_iadd hX dL_law_426 ?_
  refine r_sld hX hs (j := i + 2) (nI_add i 2) (by omega) (by omega) dL_law_427 ?_
  refine r_callV hX dL_law_428 (s_X8_setPeriod E g1 m1 (x + 138) O hJ.2.1 u hJ.2.2.2.2 hu (xs (i + 1)) (xs (i + 2))) ml_L_148 rfl rfl hJ.2.1.1.1.1.1 rfl ⟨Nat.le_of_ble_eq_true rfl, Nat.le_of_ble_eq_true rfl⟩ ⟨by omega, by omega, rfl, Nat.le_of_ble_eq_true rfl⟩ (fun v428 g428 m428 hp => ?_)
  obtain ⟨⟨w9, hv, hw9⟩, hg, hz0, hM, hMF⟩ := hp
  subst hv
  subst g428
  refine r_istore hX dL_law_431 (Nat.le_of_ble_eq_true rfl) rfl ?_
  refine r_aload_n hX dL_law_433 rfl ?_
  refine r_callV hX dL_law_434 (s_X8_thrown E g1 m428 (x + 138) hM.1.1) ml_L_138 rfl rfl hM.1.1.1.1 rfl ⟨Nat.le_of_ble_eq_true rfl, Nat.le_of_ble_eq_true rfl⟩ ⟨by omega, by omega, rfl, Nat.le_of_ble_eq_true rfl⟩ (fun v434 g434 m434 hp => ?_)
  obtain ⟨hv, hg, hm⟩ := hp
  subst v434
  subst g434
  subst m434
  rw [hz0]
  refine r_iload hX dL_law_437 rfl ?_
  refine r_icmp_eq (tgt := 444) hX dL_law_439 (by decide) (fun c439 => ?_) (fun c439 => ?_)
  · refine r_iload hX dL_law_444 rfl ?_
    refine r_if_ne (tgt := 461) hX dL_law_446 (by decide) (fun c446 => ?_) (fun c446 => ?_)
    · refine r_goto (tgt := 2383) hX dL_law_461 (by decide) ?_
      refine r_widen (cN' := cN + 25) (sN' := sN + 7500) (by omega) (by omega) ?_
      exact K _ _ _ _ _ _ _ (hJ.fin hM hMF (turnO_wf hI.2.2.2.2 (xs (i + 1)) (xs (i + 2))))
    · refine r_aload_n hX dL_law_449 rfl ?_
      refine r_iconst (v := 0) hX dL_law_450 (by decide) ?_
      have hr0 := r0_of hR5 c446
      refine r_laload hX dL_law_451 hJ.2.2.1 (pk_in 0 1 (by decide)) ?_
      rw [show qJ m428 (x + 145) (Int32.toNatClampNeg 0) = (turnO O (xs (i + 1)) (xs (i + 2))).2.1.toInt64 from (hMF.qJ _ _).trans (hq1 hr0)]
      refine r_iload hX dL_law_452 rfl ?_
      rw [hw9 hr0]
      refine r_i2l hX dL_law_454 ?_
      refine r_lcmp hX dL_law_455 ?_
      rw [lg_self]
      refine r_if_eq (tgt := 461) hX dL_law_456 (by decide) (fun c456 => ?_) (fun c456 => ?_)
      · refine r_goto (tgt := 2383) hX dL_law_461 (by decide) ?_
        refine r_widen (cN' := cN + 25) (sN' := sN + 7500) (by omega) (by omega) ?_
        exact K _ _ _ _ _ _ _ (hJ.fin hM hMF (turnO_wf hI.2.2.2.2 (xs (i + 1)) (xs (i + 2))))
      · exact absurd rfl c456
  · exact absurd rfl c439
set_option maxRecDepth 20000 in
set_option maxHeartbeats 4000000 in
theorem s_B3 {E : qE} {X : qX} {Q : State → Prop} {g : qG} {m : qM} {cN sN : Nat} (hX : MC E yL_law cL_law 10 (some .boolean) 1475 603072 7182442 [] X) {b L x u i : Nat} {xs : Nat → Int32} {O : kO} {z6 z7 z8 z9 : Option Value} (hs : ScrX E X b L xs) (hL : L ≤ 2048) (hi : i + 4 ≤ L) (hI : LI x u O g m) (hu : u ≤ 6144) (hcN : cN + 25 ≤ 603072) (hsN : sN + 7500 ≤ 7182442) (K : ∀ (O' : kO) (g' : qG) (m' : qM) (z6 z7 z8 z9 : Option Value), LI x (u + 12) O' g' m' → WS E X (cN + 25) (sN + 7500) Q g' m' 2383 [some (.ref b), some (.ref x), some (.ref (x + 138)), some (.ref (x + 145)), some (.ref (x + 146)), some (.int (nI i)), z6, z7, z8, z9] []) : WS E X cN sN Q g m 464 [some (.ref b), some (.ref x), some (.ref (x + 138)), some (.ref (x + 145)), some (.ref (x + 146)), some (.int (nI i)), z6, z7, z8, z9] [] := by
  refine r_known (fun hk => ?_)
  refine r_aload_n hX dL_law_464 rfl ?_
  refine r_aload_n hX dL_law_465 rfl ?_
  refine r_iload hX dL_law_466 rfl ?_
  refine r_iconst (v := 1) hX dL_law_468 (by decide) ?_
  refine r_iadd hX dL_law_469 ?_
  refine r_sld hX hs (j := i + 1) (nI_add i 1) (by omega) (by omega) dL_law_470 ?_
  refine r_aload_n hX dL_law_471 rfl ?_
  refine r_iload hX dL_law_472 rfl ?_
  refine r_iconst (v := 2) hX dL_law_474 (by decide) ?_
  refine r_iadd hX dL_law_475 ?_
  refine r_sld hX hs (j := i + 2) (nI_add i 2) (by omega) (by omega) dL_law_476 ?_
  refine r_aload_n hX dL_law_477 rfl ?_
  refine r_callH hX dL_law_478 (s_L_brighten E g m x O hI.1 u hI.2.2.2.2 hu (xs (i + 1)) (xs (i + 2)) (x + 145) hI.2.2.1) ml_L_149 rfl rfl ⟨Nat.le_of_ble_eq_true rfl, Nat.le_of_ble_eq_true rfl⟩ ⟨by omega, by omega, rfl, Nat.le_of_ble_eq_true rfl⟩ (fun v1 g1 m1 hp => ?_)
  obtain ⟨hv, hO1, hF1, hq1, hR5⟩ := hp
  subst hv
  have hJ := hI.lp hO1 hF1 (Or.inl rfl) hk
  refine r_istore hX dL_law_481 (Nat.le_of_ble_eq_true rfl) rfl ?_
  refine r_aload_n hX dL_law_483 rfl ?_
  refine r_aload_n hX dL_law_484 rfl ?_
  refine r_iload hX dL_law_485 rfl ?_
  refine r_iconst (v := 1) hX dL_law_487 (by decide) ?_
  refine r_iadd hX dL_law_488 ?_
  refine r_sld hX hs (j := i + 1) (nI_add i 1) (by omega) (by omega) dL_law_489 ?_
  refine r_aload_n hX dL_law_490 rfl ?_
  refine r_iload hX dL_law_491 rfl ?_
  refine r_iconst (v := 2) hX dL_law_493 (by decide) ?_
  refine r_iadd hX dL_law_494 ?_
  refine r_sld hX hs (j := i + 2) (nI_add i 2) (by omega) (by omega) dL_law_495 ?_
  refine r_callV hX dL_law_496 (s_X8_brighten E g1 m1 (x + 138) O hJ.2.1 u hJ.2.2.2.2 hu (xs (i + 1)) (xs (i + 2))) ml_L_151 rfl rfl hJ.2.1.1.1.1.1 rfl ⟨Nat.le_of_ble_eq_true rfl, Nat.le_of_ble_eq_true rfl⟩ ⟨by omega, by omega, rfl, Nat.le_of_ble_eq_true rfl⟩ (fun v496 g496 m496 hp => ?_)
  obtain ⟨⟨w9, hv, hw9⟩, hg, hz0, hM, hMF⟩ := hp
  subst hv
  subst g496
  refine r_istore hX dL_law_499 (Nat.le_of_ble_eq_true rfl) rfl ?_
  refine r_aload_n hX dL_law_501 rfl ?_
  refine r_callV hX dL_law_502 (s_X8_thrown E g1 m496 (x + 138) hM.1.1) ml_L_138 rfl rfl hM.1.1.1.1 rfl ⟨Nat.le_of_ble_eq_true rfl, Nat.le_of_ble_eq_true rfl⟩ ⟨by omega, by omega, rfl, Nat.le_of_ble_eq_true rfl⟩ (fun v502 g502 m502 hp => ?_)
  obtain ⟨hv, hg, hm⟩ := hp
  subst v502
  subst g502
  subst m502
  rw [hz0]
  refine r_iload hX dL_law_505 rfl ?_
  refine r_icmp_eq (tgt := 512) hX dL_law_507 (by decide) (fun c507 => ?_) (fun c507 => ?_)
  · refine r_iload hX dL_law_512 rfl ?_
    refine r_if_ne (tgt := 529) hX dL_law_514 (by decide) (fun c514 => ?_) (fun c514 => ?_)
    · refine r_goto (tgt := 2383) hX dL_law_529 (by decide) ?_
      refine r_widen (cN' := cN + 25) (sN' := sN + 7500) (by omega) (by omega) ?_
      exact K _ _ _ _ _ _ _ (hJ.fin hM hMF (shineO_wf hI.2.2.2.2 (xs (i + 1)) (xs (i + 2))))
    · refine r_aload_n hX dL_law_517 rfl ?_
      refine r_iconst (v := 0) hX dL_law_518 (by decide) ?_
      have hr0 := r0_of hR5 c514
      refine r_laload hX dL_law_519 hJ.2.2.1 (pk_in 0 1 (by decide)) ?_
      rw [show qJ m496 (x + 145) (Int32.toNatClampNeg 0) = (shineO O (xs (i + 1)) (xs (i + 2))).2.1.toInt64 from (hMF.qJ _ _).trans (hq1 hr0)]
      refine r_iload hX dL_law_520 rfl ?_
      rw [hw9 hr0]
      refine r_i2l hX dL_law_522 ?_
      refine r_lcmp hX dL_law_523 ?_
      rw [lg_self]
      refine r_if_eq (tgt := 529) hX dL_law_524 (by decide) (fun c524 => ?_) (fun c524 => ?_)
      · refine r_goto (tgt := 2383) hX dL_law_529 (by decide) ?_
        refine r_widen (cN' := cN + 25) (sN' := sN + 7500) (by omega) (by omega) ?_
        exact K _ _ _ _ _ _ _ (hJ.fin hM hMF (shineO_wf hI.2.2.2.2 (xs (i + 1)) (xs (i + 2))))
      · exact absurd rfl c524
  · exact absurd rfl c507
set_option maxRecDepth 20000 in
set_option maxHeartbeats 4000000 in
theorem s_B4 {E : qE} {X : qX} {Q : State → Prop} {g : qG} {m : qM} {cN sN : Nat} (hX : MC E yL_law cL_law 10 (some .boolean) 1475 603072 7182442 [] X) {b L x u i : Nat} {xs : Nat → Int32} {O : kO} {z6 z7 z8 z9 : Option Value} (hs : ScrX E X b L xs) (hL : L ≤ 2048) (hi : i + 4 ≤ L) (hI : LI x u O g m) (hu : u ≤ 6144) (hcN : cN + 25 ≤ 603072) (hsN : sN + 7500 ≤ 7182442) (K : ∀ (O' : kO) (g' : qG) (m' : qM) (z6 z7 z8 z9 : Option Value), LI x (u + 12) O' g' m' → WS E X (cN + 25) (sN + 7500) Q g' m' 2383 [some (.ref b), some (.ref x), some (.ref (x + 138)), some (.ref (x + 145)), some (.ref (x + 146)), some (.int (nI i)), z6, z7, z8, z9] []) : WS E X cN sN Q g m 532 [some (.ref b), some (.ref x), some (.ref (x + 138)), some (.ref (x + 145)), some (.ref (x + 146)), some (.int (nI i)), z6, z7, z8, z9] [] := by
  refine r_known (fun hk => ?_)
  refine r_aload_n hX dL_law_532 rfl ?_
  refine r_aload_n hX dL_law_533 rfl ?_
  refine r_iload hX dL_law_534 rfl ?_
  refine r_iconst (v := 1) hX dL_law_536 (by decide) ?_
  refine r_iadd hX dL_law_537 ?_
  refine r_sld hX hs (j := i + 1) (nI_add i 1) (by omega) (by omega) dL_law_538 ?_
  refine r_aload_n hX dL_law_539 rfl ?_
  refine r_callH hX dL_law_540 (s_L_passDays E g m x O hI.1 u hI.2.2.2.2 hu (xs (i + 1)) (x + 145) hI.2.2.1) ml_L_152 rfl rfl ⟨Nat.le_of_ble_eq_true rfl, Nat.le_of_ble_eq_true rfl⟩ ⟨by omega, by omega, rfl, Nat.le_of_ble_eq_true rfl⟩ (fun v1 g1 m1 hp => ?_)
  obtain ⟨hv, hO1, hF1, hq1, hR5⟩ := hp
  subst hv
  have hJ := hI.lp hO1 hF1 (Or.inl rfl) hk
  refine r_istore hX dL_law_543 (Nat.le_of_ble_eq_true rfl) rfl ?_
  refine r_aload_n hX dL_law_545 rfl ?_
  refine r_aload_n hX dL_law_546 rfl ?_
  refine r_iload hX dL_law_547 rfl ?_
  refine r_iconst (v := 1) hX dL_law_549 (by decide) ?_
  refine r_iadd hX dL_law_550 ?_
  refine r_sld hX hs (j := i + 1) (nI_add i 1) (by omega) (by omega) dL_law_551 ?_
  refine r_callV hX dL_law_552 (s_X8_passDays E g1 m1 (x + 138) O hJ.2.1 u hJ.2.2.2.2 hu (xs (i + 1))) ml_L_154 rfl rfl hJ.2.1.1.1.1.1 rfl ⟨Nat.le_of_ble_eq_true rfl, Nat.le_of_ble_eq_true rfl⟩ ⟨by omega, by omega, rfl, Nat.le_of_ble_eq_true rfl⟩ (fun v552 g552 m552 hp => ?_)
  obtain ⟨⟨w9, hv, hw9⟩, hg, hz0, hM, hMF⟩ := hp
  subst hv
  subst g552
  refine r_istore hX dL_law_555 (Nat.le_of_ble_eq_true rfl) rfl ?_
  refine r_aload_n hX dL_law_557 rfl ?_
  refine r_callV hX dL_law_558 (s_X8_thrown E g1 m552 (x + 138) hM.1.1) ml_L_138 rfl rfl hM.1.1.1.1 rfl ⟨Nat.le_of_ble_eq_true rfl, Nat.le_of_ble_eq_true rfl⟩ ⟨by omega, by omega, rfl, Nat.le_of_ble_eq_true rfl⟩ (fun v558 g558 m558 hp => ?_)
  obtain ⟨hv, hg, hm⟩ := hp
  subst v558
  subst g558
  subst m558
  rw [hz0]
  refine r_iload hX dL_law_561 rfl ?_
  refine r_icmp_eq (tgt := 568) hX dL_law_563 (by decide) (fun c563 => ?_) (fun c563 => ?_)
  · refine r_iload hX dL_law_568 rfl ?_
    refine r_if_ne (tgt := 585) hX dL_law_570 (by decide) (fun c570 => ?_) (fun c570 => ?_)
    · refine r_goto (tgt := 2383) hX dL_law_585 (by decide) ?_
      refine r_widen (cN' := cN + 25) (sN' := sN + 7500) (by omega) (by omega) ?_
      exact K _ _ _ _ _ _ _ (hJ.fin hM hMF (dayO_wf hI.2.2.2.2 (xs (i + 1))))
    · refine r_aload_n hX dL_law_573 rfl ?_
      refine r_iconst (v := 0) hX dL_law_574 (by decide) ?_
      have hr0 := r0_of hR5 c570
      refine r_laload hX dL_law_575 hJ.2.2.1 (pk_in 0 1 (by decide)) ?_
      rw [show qJ m552 (x + 145) (Int32.toNatClampNeg 0) = (dayO O (xs (i + 1))).2.1.toInt64 from (hMF.qJ _ _).trans (hq1 hr0)]
      refine r_iload hX dL_law_576 rfl ?_
      rw [hw9 hr0]
      refine r_i2l hX dL_law_578 ?_
      refine r_lcmp hX dL_law_579 ?_
      rw [lg_self]
      refine r_if_eq (tgt := 585) hX dL_law_580 (by decide) (fun c580 => ?_) (fun c580 => ?_)
      · refine r_goto (tgt := 2383) hX dL_law_585 (by decide) ?_
        refine r_widen (cN' := cN + 25) (sN' := sN + 7500) (by omega) (by omega) ?_
        exact K _ _ _ _ _ _ _ (hJ.fin hM hMF (dayO_wf hI.2.2.2.2 (xs (i + 1))))
      · exact absurd rfl c580
  · exact absurd rfl c563
set_option maxRecDepth 20000 in
set_option maxHeartbeats 4000000 in
theorem s_B5 {E : qE} {X : qX} {Q : State → Prop} {g : qG} {m : qM} {cN sN : Nat} (hX : MC E yL_law cL_law 10 (some .boolean) 1475 603072 7182442 [] X) {b L x u i : Nat} {xs : Nat → Int32} {O : kO} {z6 z7 z8 z9 : Option Value} (hs : ScrX E X b L xs) (hL : L ≤ 2048) (hi : i + 4 ≤ L) (hI : LI x u O g m) (hu : u ≤ 6144) (hcN : cN + 25 ≤ 603072) (hsN : sN + 7500 ≤ 7182442) (K : ∀ (O' : kO) (g' : qG) (m' : qM) (z6 z7 z8 z9 : Option Value), LI x (u + 12) O' g' m' → WS E X (cN + 25) (sN + 7500) Q g' m' 2383 [some (.ref b), some (.ref x), some (.ref (x + 138)), some (.ref (x + 145)), some (.ref (x + 146)), some (.int (nI i)), z6, z7, z8, z9] []) : WS E X cN sN Q g m 588 [some (.ref b), some (.ref x), some (.ref (x + 138)), some (.ref (x + 145)), some (.ref (x + 146)), some (.int (nI i)), z6, z7, z8, z9] [] := by
  refine r_known (fun hk => ?_)
  refine r_aload_n hX dL_law_588 rfl ?_
  refine r_aload_n hX dL_law_589 rfl ?_
  refine r_iload hX dL_law_590 rfl ?_
  refine r_iconst (v := 1) hX dL_law_592 (by decide) ?_
  refine r_iadd hX dL_law_593 ?_
  refine r_sld hX hs (j := i + 1) (nI_add i 1) (by omega) (by omega) dL_law_594 ?_
  refine r_aload_n hX dL_law_595 rfl ?_
  refine r_iload hX dL_law_596 rfl ?_
  refine r_iconst (v := 2) hX dL_law_598 (by decide) ?_
  refine r_iadd hX dL_law_599 ?_
  refine r_sld hX hs (j := i + 2) (nI_add i 2) (by omega) (by omega) dL_law_600 ?_
  refine r_aload_n hX dL_law_601 rfl ?_
  refine r_callH hX dL_law_602 (s_L_clean E g m x O hI.1 u hI.2.2.2.2 hu (xs (i + 1)) (xs (i + 2)) (x + 145) hI.2.2.1) ml_L_155 rfl rfl ⟨Nat.le_of_ble_eq_true rfl, Nat.le_of_ble_eq_true rfl⟩ ⟨by omega, by omega, rfl, Nat.le_of_ble_eq_true rfl⟩ (fun v1 g1 m1 hp => ?_)
  obtain ⟨hv, hO1, hF1, hq1, hR5⟩ := hp
  subst hv
  have hJ := hI.lp hO1 hF1 (Or.inl rfl) hk
  refine r_istore hX dL_law_605 (Nat.le_of_ble_eq_true rfl) rfl ?_
  refine r_aload_n hX dL_law_607 rfl ?_
  refine r_aload_n hX dL_law_608 rfl ?_
  refine r_iload hX dL_law_609 rfl ?_
  refine r_iconst (v := 1) hX dL_law_611 (by decide) ?_
  refine r_iadd hX dL_law_612 ?_
  refine r_sld hX hs (j := i + 1) (nI_add i 1) (by omega) (by omega) dL_law_613 ?_
  refine r_aload_n hX dL_law_614 rfl ?_
  refine r_iload hX dL_law_615 rfl ?_
  refine r_iconst (v := 2) hX dL_law_617 (by decide) ?_
  refine r_iadd hX dL_law_618 ?_
  refine r_sld hX hs (j := i + 2) (nI_add i 2) (by omega) (by omega) dL_law_619 ?_
  refine r_callV hX dL_law_620 (s_X8_clean E g1 m1 (x + 138) O hJ.2.1 u hJ.2.2.2.2 hu (xs (i + 1)) (xs (i + 2))) ml_L_157 rfl rfl hJ.2.1.1.1.1.1 rfl ⟨Nat.le_of_ble_eq_true rfl, Nat.le_of_ble_eq_true rfl⟩ ⟨by omega, by omega, rfl, Nat.le_of_ble_eq_true rfl⟩ (fun v620 g620 m620 hp => ?_)
  obtain ⟨⟨w9, hv, hw9⟩, hg, hz0, hM, hMF⟩ := hp
  subst hv
  subst g620
  refine r_istore hX dL_law_623 (Nat.le_of_ble_eq_true rfl) rfl ?_
  refine r_aload_n hX dL_law_625 rfl ?_
  refine r_callV hX dL_law_626 (s_X8_thrown E g1 m620 (x + 138) hM.1.1) ml_L_138 rfl rfl hM.1.1.1.1 rfl ⟨Nat.le_of_ble_eq_true rfl, Nat.le_of_ble_eq_true rfl⟩ ⟨by omega, by omega, rfl, Nat.le_of_ble_eq_true rfl⟩ (fun v626 g626 m626 hp => ?_)
  obtain ⟨hv, hg, hm⟩ := hp
  subst v626
  subst g626
  subst m626
  rw [hz0]
  refine r_iload hX dL_law_629 rfl ?_
  refine r_icmp_eq (tgt := 636) hX dL_law_631 (by decide) (fun c631 => ?_) (fun c631 => ?_)
  · refine r_iload hX dL_law_636 rfl ?_
    refine r_if_ne (tgt := 653) hX dL_law_638 (by decide) (fun c638 => ?_) (fun c638 => ?_)
    · refine r_goto (tgt := 2383) hX dL_law_653 (by decide) ?_
      refine r_widen (cN' := cN + 25) (sN' := sN + 7500) (by omega) (by omega) ?_
      exact K _ _ _ _ _ _ _ (hJ.fin hM hMF (vacO_wf hI.2.2.2.2 (xs (i + 1)) (xs (i + 2))))
    · refine r_aload_n hX dL_law_641 rfl ?_
      refine r_iconst (v := 0) hX dL_law_642 (by decide) ?_
      have hr0 := r0_of hR5 c638
      refine r_laload hX dL_law_643 hJ.2.2.1 (pk_in 0 1 (by decide)) ?_
      rw [show qJ m620 (x + 145) (Int32.toNatClampNeg 0) = (vacO O (xs (i + 1)) (xs (i + 2))).2.1.toInt64 from (hMF.qJ _ _).trans (hq1 hr0)]
      refine r_iload hX dL_law_644 rfl ?_
      rw [hw9 hr0]
      refine r_i2l hX dL_law_646 ?_
      refine r_lcmp hX dL_law_647 ?_
      rw [lg_self]
      refine r_if_eq (tgt := 653) hX dL_law_648 (by decide) (fun c648 => ?_) (fun c648 => ?_)
      · refine r_goto (tgt := 2383) hX dL_law_653 (by decide) ?_
        refine r_widen (cN' := cN + 25) (sN' := sN + 7500) (by omega) (by omega) ?_
        exact K _ _ _ _ _ _ _ (hJ.fin hM hMF (vacO_wf hI.2.2.2.2 (xs (i + 1)) (xs (i + 2))))
      · exact absurd rfl c648
  · exact absurd rfl c631
set_option maxRecDepth 20000 in
set_option maxHeartbeats 4000000 in
theorem s_B6 {E : qE} {X : qX} {Q : State → Prop} {g : qG} {m : qM} {cN sN : Nat} (hX : MC E yL_law cL_law 10 (some .boolean) 1475 603072 7182442 [] X) {b L x u i : Nat} {xs : Nat → Int32} {O : kO} {z6 z7 z8 z9 : Option Value} (hs : ScrX E X b L xs) (hL : L ≤ 2048) (hi : i + 4 ≤ L) (hI : LI x u O g m) (hu : u ≤ 6144) (hcN : cN + 25 ≤ 603072) (hsN : sN + 7500 ≤ 7182442) (K : ∀ (O' : kO) (g' : qG) (m' : qM) (z6 z7 z8 z9 : Option Value), LI x (u + 12) O' g' m' → WS E X (cN + 25) (sN + 7500) Q g' m' 2383 [some (.ref b), some (.ref x), some (.ref (x + 138)), some (.ref (x + 145)), some (.ref (x + 146)), some (.int (nI i)), z6, z7, z8, z9] []) : WS E X cN sN Q g m 656 [some (.ref b), some (.ref x), some (.ref (x + 138)), some (.ref (x + 145)), some (.ref (x + 146)), some (.int (nI i)), z6, z7, z8, z9] [] := by
  refine r_known (fun hk => ?_)
  refine r_aload_n hX dL_law_656 rfl ?_
  refine r_aload_n hX dL_law_657 rfl ?_
  refine r_iload hX dL_law_658 rfl ?_
  refine r_iconst (v := 1) hX dL_law_660 (by decide) ?_
  refine r_iadd hX dL_law_661 ?_
  refine r_sld hX hs (j := i + 1) (nI_add i 1) (by omega) (by omega) dL_law_662 ?_
  refine r_aload_n hX dL_law_663 rfl ?_
  refine r_callH hX dL_law_664 (s_L_setRate E g m x O hI.1 u hI.2.2.2.2 hu (xs (i + 1)) (x + 145) hI.2.2.1) ml_L_158 rfl rfl ⟨Nat.le_of_ble_eq_true rfl, Nat.le_of_ble_eq_true rfl⟩ ⟨by omega, by omega, rfl, Nat.le_of_ble_eq_true rfl⟩ (fun v1 g1 m1 hp => ?_)
  obtain ⟨hv, hO1, hF1, hq1, hR5⟩ := hp
  subst hv
  have hJ := hI.lp hO1 hF1 (Or.inl rfl) hk
  refine r_istore hX dL_law_667 (Nat.le_of_ble_eq_true rfl) rfl ?_
  refine r_aload_n hX dL_law_669 rfl ?_
  refine r_aload_n hX dL_law_670 rfl ?_
  refine r_iload hX dL_law_671 rfl ?_
  refine r_iconst (v := 1) hX dL_law_673 (by decide) ?_
  refine r_iadd hX dL_law_674 ?_
  refine r_sld hX hs (j := i + 1) (nI_add i 1) (by omega) (by omega) dL_law_675 ?_
  refine r_callV hX dL_law_676 (s_X8_setRate E g1 m1 (x + 138) O hJ.2.1 u hJ.2.2.2.2 hu (xs (i + 1))) ml_L_160 rfl rfl hJ.2.1.1.1.1.1 rfl ⟨Nat.le_of_ble_eq_true rfl, Nat.le_of_ble_eq_true rfl⟩ ⟨by omega, by omega, rfl, Nat.le_of_ble_eq_true rfl⟩ (fun v676 g676 m676 hp => ?_)
  obtain ⟨⟨w9, hv, hw9⟩, hg, hz0, hM, hMF⟩ := hp
  subst hv
  subst g676
  refine r_istore hX dL_law_679 (Nat.le_of_ble_eq_true rfl) rfl ?_
  refine r_aload_n hX dL_law_681 rfl ?_
  refine r_callV hX dL_law_682 (s_X8_thrown E g1 m676 (x + 138) hM.1.1) ml_L_138 rfl rfl hM.1.1.1.1 rfl ⟨Nat.le_of_ble_eq_true rfl, Nat.le_of_ble_eq_true rfl⟩ ⟨by omega, by omega, rfl, Nat.le_of_ble_eq_true rfl⟩ (fun v682 g682 m682 hp => ?_)
  obtain ⟨hv, hg, hm⟩ := hp
  subst v682
  subst g682
  subst m682
  rw [hz0]
  refine r_iload hX dL_law_685 rfl ?_
  refine r_icmp_eq (tgt := 692) hX dL_law_687 (by decide) (fun c687 => ?_) (fun c687 => ?_)
  · refine r_iload hX dL_law_692 rfl ?_
    refine r_if_ne (tgt := 709) hX dL_law_694 (by decide) (fun c694 => ?_) (fun c694 => ?_)
    · refine r_goto (tgt := 2383) hX dL_law_709 (by decide) ?_
      refine r_widen (cN' := cN + 25) (sN' := sN + 7500) (by omega) (by omega) ?_
      exact K _ _ _ _ _ _ _ (hJ.fin hM hMF (rateO_wf hI.2.2.2.2 (xs (i + 1))))
    · refine r_aload_n hX dL_law_697 rfl ?_
      refine r_iconst (v := 0) hX dL_law_698 (by decide) ?_
      have hr0 := r0_of hR5 c694
      refine r_laload hX dL_law_699 hJ.2.2.1 (pk_in 0 1 (by decide)) ?_
      rw [show qJ m676 (x + 145) (Int32.toNatClampNeg 0) = (rateO O (xs (i + 1))).2.1.toInt64 from (hMF.qJ _ _).trans (hq1 hr0)]
      refine r_iload hX dL_law_700 rfl ?_
      rw [hw9 hr0]
      refine r_i2l hX dL_law_702 ?_
      refine r_lcmp hX dL_law_703 ?_
      rw [lg_self]
      refine r_if_eq (tgt := 709) hX dL_law_704 (by decide) (fun c704 => ?_) (fun c704 => ?_)
      · refine r_goto (tgt := 2383) hX dL_law_709 (by decide) ?_
        refine r_widen (cN' := cN + 25) (sN' := sN + 7500) (by omega) (by omega) ?_
        exact K _ _ _ _ _ _ _ (hJ.fin hM hMF (rateO_wf hI.2.2.2.2 (xs (i + 1))))
      · exact absurd rfl c704
  · exact absurd rfl c687
set_option maxRecDepth 20000 in
set_option maxHeartbeats 4000000 in
theorem s_B7 {E : qE} {X : qX} {Q : State → Prop} {g : qG} {m : qM} {cN sN : Nat} (hX : MC E yL_law cL_law 10 (some .boolean) 1475 603072 7182442 [] X) {b L x u i : Nat} {xs : Nat → Int32} {O : kO} {z6 z7 z8 z9 : Option Value} (hs : ScrX E X b L xs) (hL : L ≤ 2048) (hi : i + 4 ≤ L) (hI : LI x u O g m) (hu : u ≤ 6144) (hcN : cN + 25 ≤ 603072) (hsN : sN + 7500 ≤ 7182442) (K : ∀ (O' : kO) (g' : qG) (m' : qM) (z6 z7 z8 z9 : Option Value), LI x (u + 12) O' g' m' → WS E X (cN + 25) (sN + 7500) Q g' m' 2383 [some (.ref b), some (.ref x), some (.ref (x + 138)), some (.ref (x + 145)), some (.ref (x + 146)), some (.int (nI i)), z6, z7, z8, z9] []) : WS E X cN sN Q g m 712 [some (.ref b), some (.ref x), some (.ref (x + 138)), some (.ref (x + 145)), some (.ref (x + 146)), some (.int (nI i)), z6, z7, z8, z9] [] := by
  refine r_known (fun hk => ?_)
  refine r_aload_n hX dL_law_712 rfl ?_
  refine r_callV hX dL_law_713 (s_X7_cometCount E g m x O hI.1 u hI.2.2.2.2 hu) ml_L_161 rfl rfl hI.1.1.1 rfl ⟨Nat.le_of_ble_eq_true rfl, Nat.le_of_ble_eq_true rfl⟩ ⟨by omega, by omega, rfl, Nat.le_of_ble_eq_true rfl⟩ (fun v713 g713 m713 hp => ?_)
  obtain ⟨h0, hv, hO1, hF1⟩ := hp
  subst hv
  have hJ := hI.lx hO1 hF1 hk
  refine r_aload_n hX dL_law_716 rfl ?_
  refine r_callV hX dL_law_717 (s_X8_cometCount E g713 m713 (x + 138) O hJ.2.1 u hJ.2.2.2.2 hu) ml_L_164 rfl rfl hJ.2.1.1.1.1.1 rfl ⟨Nat.le_of_ble_eq_true rfl, Nat.le_of_ble_eq_true rfl⟩ ⟨by omega, by omega, rfl, Nat.le_of_ble_eq_true rfl⟩ (fun v717 g717 m717 hp => ?_)
  obtain ⟨⟨w9, hv, hw9⟩, hg, hz0, hM, hMF⟩ := hp
  subst hv
  subst g717
  refine r_icmp_eq (tgt := 2383) hX dL_law_720 (by decide) (fun c720 => ?_) (fun c720 => ?_)
  · refine r_widen (cN' := cN + 25) (sN' := sN + 7500) (by omega) (by omega) ?_
    exact K _ _ _ _ _ _ _ (hJ.fin hM hMF (hI.2.2.2.2.same (qCnt_st O)))
  · exact absurd (hw9 h0).symm c720
set_option maxRecDepth 20000 in
set_option maxHeartbeats 4000000 in
theorem s_B8 {E : qE} {X : qX} {Q : State → Prop} {g : qG} {m : qM} {cN sN : Nat} (hX : MC E yL_law cL_law 10 (some .boolean) 1475 603072 7182442 [] X) {b L x u i : Nat} {xs : Nat → Int32} {O : kO} {z6 z7 z8 z9 : Option Value} (hs : ScrX E X b L xs) (hL : L ≤ 2048) (hi : i + 4 ≤ L) (hI : LI x u O g m) (hu : u ≤ 6144) (hcN : cN + 25 ≤ 603072) (hsN : sN + 7500 ≤ 7182442) (K : ∀ (O' : kO) (g' : qG) (m' : qM) (z6 z7 z8 z9 : Option Value), LI x (u + 12) O' g' m' → WS E X (cN + 25) (sN + 7500) Q g' m' 2383 [some (.ref b), some (.ref x), some (.ref (x + 138)), some (.ref (x + 145)), some (.ref (x + 146)), some (.int (nI i)), z6, z7, z8, z9] []) : WS E X cN sN Q g m 725 [some (.ref b), some (.ref x), some (.ref (x + 138)), some (.ref (x + 145)), some (.ref (x + 146)), some (.int (nI i)), z6, z7, z8, z9] [] := by
  refine r_known (fun hk => ?_)
  refine r_aload_n hX dL_law_725 rfl ?_
  refine r_aload_n hX dL_law_726 rfl ?_
  refine r_iload hX dL_law_727 rfl ?_
  refine r_iconst (v := 1) hX dL_law_729 (by decide) ?_
  refine r_iadd hX dL_law_730 ?_
  refine r_sld hX hs (j := i + 1) (nI_add i 1) (by omega) (by omega) dL_law_731 ?_
  refine r_aload_n hX dL_law_732 rfl ?_
  refine r_callH hX dL_law_733 (s_L_cometAt E g m x O hI.1 u hI.2.2.2.2 hu (xs (i + 1)) (x + 145) hI.2.2.1) ml_L_165 rfl rfl ⟨Nat.le_of_ble_eq_true rfl, Nat.le_of_ble_eq_true rfl⟩ ⟨by omega, by omega, rfl, Nat.le_of_ble_eq_true rfl⟩ (fun v1 g1 m1 hp => ?_)
  obtain ⟨hv, hO1, hF1, hq1, hR5⟩ := hp
  subst hv
  have hJ := hI.lp hO1 hF1 (Or.inl rfl) hk
  refine r_istore hX dL_law_736 (Nat.le_of_ble_eq_true rfl) rfl ?_
  refine r_aload_n hX dL_law_738 rfl ?_
  refine r_aload_n hX dL_law_739 rfl ?_
  refine r_iload hX dL_law_740 rfl ?_
  refine r_iconst (v := 1) hX dL_law_742 (by decide) ?_
  refine r_iadd hX dL_law_743 ?_
  refine r_sld hX hs (j := i + 1) (nI_add i 1) (by omega) (by omega) dL_law_744 ?_
  refine r_callV hX dL_law_745 (s_X8_cometAt E g1 m1 (x + 138) O hJ.2.1 u hJ.2.2.2.2 hu (xs (i + 1))) ml_L_167 rfl rfl hJ.2.1.1.1.1.1 rfl ⟨Nat.le_of_ble_eq_true rfl, Nat.le_of_ble_eq_true rfl⟩ ⟨by omega, by omega, rfl, Nat.le_of_ble_eq_true rfl⟩ (fun v745 g745 m745 hp => ?_)
  obtain ⟨⟨w9, hv, hw9⟩, hg, hz0, hM, hMF⟩ := hp
  subst hv
  subst g745
  refine r_istore hX dL_law_748 (Nat.le_of_ble_eq_true rfl) rfl ?_
  refine r_aload_n hX dL_law_750 rfl ?_
  refine r_callV hX dL_law_751 (s_X8_thrown E g1 m745 (x + 138) hM.1.1) ml_L_138 rfl rfl hM.1.1.1.1 rfl ⟨Nat.le_of_ble_eq_true rfl, Nat.le_of_ble_eq_true rfl⟩ ⟨by omega, by omega, rfl, Nat.le_of_ble_eq_true rfl⟩ (fun v751 g751 m751 hp => ?_)
  obtain ⟨hv, hg, hm⟩ := hp
  subst v751
  subst g751
  subst m751
  rw [hz0]
  refine r_iload hX dL_law_754 rfl ?_
  refine r_icmp_eq (tgt := 761) hX dL_law_756 (by decide) (fun c756 => ?_) (fun c756 => ?_)
  · refine r_iload hX dL_law_761 rfl ?_
    refine r_if_ne (tgt := 778) hX dL_law_763 (by decide) (fun c763 => ?_) (fun c763 => ?_)
    · refine r_goto (tgt := 2383) hX dL_law_778 (by decide) ?_
      refine r_widen (cN' := cN + 25) (sN' := sN + 7500) (by omega) (by omega) ?_
      exact K _ _ _ _ _ _ _ (hJ.fin hM hMF (hI.2.2.2.2.same (qAt_st O (xs (i + 1)))))
    · refine r_aload_n hX dL_law_766 rfl ?_
      refine r_iconst (v := 0) hX dL_law_767 (by decide) ?_
      have hr0 := r0_of hR5 c763
      refine r_laload hX dL_law_768 hJ.2.2.1 (pk_in 0 1 (by decide)) ?_
      rw [show qJ m745 (x + 145) (Int32.toNatClampNeg 0) = (qAt O (xs (i + 1))).2.1.toInt64 from (hMF.qJ _ _).trans (hq1 hr0)]
      refine r_iload hX dL_law_769 rfl ?_
      rw [hw9 hr0]
      refine r_i2l hX dL_law_771 ?_
      refine r_lcmp hX dL_law_772 ?_
      rw [lg_self]
      refine r_if_eq (tgt := 778) hX dL_law_773 (by decide) (fun c773 => ?_) (fun c773 => ?_)
      · refine r_goto (tgt := 2383) hX dL_law_778 (by decide) ?_
        refine r_widen (cN' := cN + 25) (sN' := sN + 7500) (by omega) (by omega) ?_
        exact K _ _ _ _ _ _ _ (hJ.fin hM hMF (hI.2.2.2.2.same (qAt_st O (xs (i + 1)))))
      · exact absurd rfl c773
  · exact absurd rfl c756
set_option maxRecDepth 20000 in
set_option maxHeartbeats 4000000 in
theorem s_B9 {E : qE} {X : qX} {Q : State → Prop} {g : qG} {m : qM} {cN sN : Nat} (hX : MC E yL_law cL_law 10 (some .boolean) 1475 603072 7182442 [] X) {b L x u i : Nat} {xs : Nat → Int32} {O : kO} {z6 z7 z8 z9 : Option Value} (hs : ScrX E X b L xs) (hL : L ≤ 2048) (hi : i + 4 ≤ L) (hI : LI x u O g m) (hu : u ≤ 6144) (hcN : cN + 25 ≤ 603072) (hsN : sN + 7500 ≤ 7182442) (K : ∀ (O' : kO) (g' : qG) (m' : qM) (z6 z7 z8 z9 : Option Value), LI x (u + 12) O' g' m' → WS E X (cN + 25) (sN + 7500) Q g' m' 2383 [some (.ref b), some (.ref x), some (.ref (x + 138)), some (.ref (x + 145)), some (.ref (x + 146)), some (.int (nI i)), z6, z7, z8, z9] []) : WS E X cN sN Q g m 781 [some (.ref b), some (.ref x), some (.ref (x + 138)), some (.ref (x + 145)), some (.ref (x + 146)), some (.int (nI i)), z6, z7, z8, z9] [] := by
  refine r_known (fun hk => ?_)
  refine r_aload_n hX dL_law_781 rfl ?_
  refine r_aload_n hX dL_law_782 rfl ?_
  refine r_iload hX dL_law_783 rfl ?_
  refine r_iconst (v := 1) hX dL_law_785 (by decide) ?_
  refine r_iadd hX dL_law_786 ?_
  refine r_sld hX hs (j := i + 1) (nI_add i 1) (by omega) (by omega) dL_law_787 ?_
  refine r_callV hX dL_law_788 (s_X7_exists E g m x O hI.1 u hI.2.2.2.2 hu (xs (i + 1))) ml_L_168 rfl rfl hI.1.1.1 rfl ⟨Nat.le_of_ble_eq_true rfl, Nat.le_of_ble_eq_true rfl⟩ ⟨by omega, by omega, rfl, Nat.le_of_ble_eq_true rfl⟩ (fun v788 g788 m788 hp => ?_)
  obtain ⟨h0, hv, hO1, hF1⟩ := hp
  subst hv
  have hJ := hI.lx hO1 hF1 hk
  refine r_aload_n hX dL_law_791 rfl ?_
  refine r_aload_n hX dL_law_792 rfl ?_
  refine r_iload hX dL_law_793 rfl ?_
  refine r_iconst (v := 1) hX dL_law_795 (by decide) ?_
  refine r_iadd hX dL_law_796 ?_
  refine r_sld hX hs (j := i + 1) (nI_add i 1) (by omega) (by omega) dL_law_797 ?_
  refine r_callV hX dL_law_798 (s_X8_exists E g788 m788 (x + 138) O hJ.2.1 u hJ.2.2.2.2 hu (xs (i + 1))) ml_L_172 rfl rfl hJ.2.1.1.1.1.1 rfl ⟨Nat.le_of_ble_eq_true rfl, Nat.le_of_ble_eq_true rfl⟩ ⟨by omega, by omega, rfl, Nat.le_of_ble_eq_true rfl⟩ (fun v798 g798 m798 hp => ?_)
  obtain ⟨⟨w9, hv, hw9⟩, hg, hz0, hM, hMF⟩ := hp
  subst hv
  subst g798
  refine r_icmp_eq (tgt := 2383) hX dL_law_801 (by decide) (fun c801 => ?_) (fun c801 => ?_)
  · refine r_widen (cN' := cN + 25) (sN' := sN + 7500) (by omega) (by omega) ?_
    exact K _ _ _ _ _ _ _ (hJ.fin hM hMF (hI.2.2.2.2.same (qEx_st O (xs (i + 1)))))
  · exact absurd (hw9 h0).symm c801
set_option maxRecDepth 20000 in
set_option maxHeartbeats 4000000 in
theorem s_B10 {E : qE} {X : qX} {Q : State → Prop} {g : qG} {m : qM} {cN sN : Nat} (hX : MC E yL_law cL_law 10 (some .boolean) 1475 603072 7182442 [] X) {b L x u i : Nat} {xs : Nat → Int32} {O : kO} {z6 z7 z8 z9 : Option Value} (hs : ScrX E X b L xs) (hL : L ≤ 2048) (hi : i + 4 ≤ L) (hI : LI x u O g m) (hu : u ≤ 6144) (hcN : cN + 25 ≤ 603072) (hsN : sN + 7500 ≤ 7182442) (K : ∀ (O' : kO) (g' : qG) (m' : qM) (z6 z7 z8 z9 : Option Value), LI x (u + 12) O' g' m' → WS E X (cN + 25) (sN + 7500) Q g' m' 2383 [some (.ref b), some (.ref x), some (.ref (x + 138)), some (.ref (x + 145)), some (.ref (x + 146)), some (.int (nI i)), z6, z7, z8, z9] []) : WS E X cN sN Q g m 806 [some (.ref b), some (.ref x), some (.ref (x + 138)), some (.ref (x + 145)), some (.ref (x + 146)), some (.int (nI i)), z6, z7, z8, z9] [] := by
  refine r_known (fun hk => ?_)
  refine r_aload_n hX dL_law_806 rfl ?_
  refine r_aload_n hX dL_law_807 rfl ?_
  refine r_iload hX dL_law_808 rfl ?_
  refine r_iconst (v := 1) hX dL_law_810 (by decide) ?_
  refine r_iadd hX dL_law_811 ?_
  refine r_sld hX hs (j := i + 1) (nI_add i 1) (by omega) (by omega) dL_law_812 ?_
  refine r_aload_n hX dL_law_813 rfl ?_
  refine r_callH hX dL_law_814 (s_L_period E g m x O hI.1 u hI.2.2.2.2 hu (xs (i + 1)) (x + 145) hI.2.2.1) ml_L_173 rfl rfl ⟨Nat.le_of_ble_eq_true rfl, Nat.le_of_ble_eq_true rfl⟩ ⟨by omega, by omega, rfl, Nat.le_of_ble_eq_true rfl⟩ (fun v1 g1 m1 hp => ?_)
  obtain ⟨hv, hO1, hF1, hq1, hR5⟩ := hp
  subst hv
  have hJ := hI.lp hO1 hF1 (Or.inl rfl) hk
  refine r_istore hX dL_law_817 (Nat.le_of_ble_eq_true rfl) rfl ?_
  refine r_aload_n hX dL_law_819 rfl ?_
  refine r_aload_n hX dL_law_820 rfl ?_
  refine r_iload hX dL_law_821 rfl ?_
  refine r_iconst (v := 1) hX dL_law_823 (by decide) ?_
  refine r_iadd hX dL_law_824 ?_
  refine r_sld hX hs (j := i + 1) (nI_add i 1) (by omega) (by omega) dL_law_825 ?_
  refine r_callV hX dL_law_826 (s_X8_period E g1 m1 (x + 138) O hJ.2.1 u hJ.2.2.2.2 hu (xs (i + 1))) ml_L_175 rfl rfl hJ.2.1.1.1.1.1 rfl ⟨Nat.le_of_ble_eq_true rfl, Nat.le_of_ble_eq_true rfl⟩ ⟨by omega, by omega, rfl, Nat.le_of_ble_eq_true rfl⟩ (fun v826 g826 m826 hp => ?_)
  obtain ⟨⟨w9, hv, hw9⟩, hg, hz0, hM, hMF⟩ := hp
  subst hv
  subst g826
  refine r_istore hX dL_law_829 (Nat.le_of_ble_eq_true rfl) rfl ?_
  refine r_aload_n hX dL_law_831 rfl ?_
  refine r_callV hX dL_law_832 (s_X8_thrown E g1 m826 (x + 138) hM.1.1) ml_L_138 rfl rfl hM.1.1.1.1 rfl ⟨Nat.le_of_ble_eq_true rfl, Nat.le_of_ble_eq_true rfl⟩ ⟨by omega, by omega, rfl, Nat.le_of_ble_eq_true rfl⟩ (fun v832 g832 m832 hp => ?_)
  obtain ⟨hv, hg, hm⟩ := hp
  subst v832
  subst g832
  subst m832
  rw [hz0]
  refine r_iload hX dL_law_835 rfl ?_
  refine r_icmp_eq (tgt := 842) hX dL_law_837 (by decide) (fun c837 => ?_) (fun c837 => ?_)
  · refine r_iload hX dL_law_842 rfl ?_
    refine r_if_ne (tgt := 859) hX dL_law_844 (by decide) (fun c844 => ?_) (fun c844 => ?_)
    · refine r_goto (tgt := 2383) hX dL_law_859 (by decide) ?_
      refine r_widen (cN' := cN + 25) (sN' := sN + 7500) (by omega) (by omega) ?_
      exact K _ _ _ _ _ _ _ (hJ.fin hM hMF (hI.2.2.2.2.same (qOf_st O (xs (i + 1)) (fun c => c 1))))
    · refine r_aload_n hX dL_law_847 rfl ?_
      refine r_iconst (v := 0) hX dL_law_848 (by decide) ?_
      have hr0 := r0_of hR5 c844
      refine r_laload hX dL_law_849 hJ.2.2.1 (pk_in 0 1 (by decide)) ?_
      rw [show qJ m826 (x + 145) (Int32.toNatClampNeg 0) = (qOf O (xs (i + 1)) (fun c => c 1)).2.1.toInt64 from (hMF.qJ _ _).trans (hq1 hr0)]
      refine r_iload hX dL_law_850 rfl ?_
      rw [hw9 hr0]
      refine r_i2l hX dL_law_852 ?_
      refine r_lcmp hX dL_law_853 ?_
      rw [lg_self]
      refine r_if_eq (tgt := 859) hX dL_law_854 (by decide) (fun c854 => ?_) (fun c854 => ?_)
      · refine r_goto (tgt := 2383) hX dL_law_859 (by decide) ?_
        refine r_widen (cN' := cN + 25) (sN' := sN + 7500) (by omega) (by omega) ?_
        exact K _ _ _ _ _ _ _ (hJ.fin hM hMF (hI.2.2.2.2.same (qOf_st O (xs (i + 1)) (fun c => c 1))))
      · exact absurd rfl c854
  · exact absurd rfl c837
set_option maxRecDepth 20000 in
set_option maxHeartbeats 4000000 in
theorem s_B11 {E : qE} {X : qX} {Q : State → Prop} {g : qG} {m : qM} {cN sN : Nat} (hX : MC E yL_law cL_law 10 (some .boolean) 1475 603072 7182442 [] X) {b L x u i : Nat} {xs : Nat → Int32} {O : kO} {z6 z7 z8 z9 : Option Value} (hs : ScrX E X b L xs) (hL : L ≤ 2048) (hi : i + 4 ≤ L) (hI : LI x u O g m) (hu : u ≤ 6144) (hcN : cN + 25 ≤ 603072) (hsN : sN + 7500 ≤ 7182442) (K : ∀ (O' : kO) (g' : qG) (m' : qM) (z6 z7 z8 z9 : Option Value), LI x (u + 12) O' g' m' → WS E X (cN + 25) (sN + 7500) Q g' m' 2383 [some (.ref b), some (.ref x), some (.ref (x + 138)), some (.ref (x + 145)), some (.ref (x + 146)), some (.int (nI i)), z6, z7, z8, z9] []) : WS E X cN sN Q g m 862 [some (.ref b), some (.ref x), some (.ref (x + 138)), some (.ref (x + 145)), some (.ref (x + 146)), some (.int (nI i)), z6, z7, z8, z9] [] := by
  refine r_known (fun hk => ?_)
  refine r_aload_n hX dL_law_862 rfl ?_
  refine r_aload_n hX dL_law_863 rfl ?_
  refine r_iload hX dL_law_864 rfl ?_
  refine r_iconst (v := 1) hX dL_law_866 (by decide) ?_
  refine r_iadd hX dL_law_867 ?_
  refine r_sld hX hs (j := i + 1) (nI_add i 1) (by omega) (by omega) dL_law_868 ?_
  refine r_aload_n hX dL_law_869 rfl ?_
  refine r_callH hX dL_law_870 (s_L_brightness E g m x O hI.1 u hI.2.2.2.2 hu (xs (i + 1)) (x + 145) hI.2.2.1) ml_L_176 rfl rfl ⟨Nat.le_of_ble_eq_true rfl, Nat.le_of_ble_eq_true rfl⟩ ⟨by omega, by omega, rfl, Nat.le_of_ble_eq_true rfl⟩ (fun v1 g1 m1 hp => ?_)
  obtain ⟨hv, hO1, hF1, hq1, hR5⟩ := hp
  subst hv
  have hJ := hI.lp hO1 hF1 (Or.inl rfl) hk
  refine r_istore hX dL_law_873 (Nat.le_of_ble_eq_true rfl) rfl ?_
  refine r_aload_n hX dL_law_875 rfl ?_
  refine r_aload_n hX dL_law_876 rfl ?_
  refine r_iload hX dL_law_877 rfl ?_
  refine r_iconst (v := 1) hX dL_law_879 (by decide) ?_
  refine r_iadd hX dL_law_880 ?_
  refine r_sld hX hs (j := i + 1) (nI_add i 1) (by omega) (by omega) dL_law_881 ?_
  refine r_callV hX dL_law_882 (s_X8_brightness E g1 m1 (x + 138) O hJ.2.1 u hJ.2.2.2.2 hu (xs (i + 1))) ml_L_178 rfl rfl hJ.2.1.1.1.1.1 rfl ⟨Nat.le_of_ble_eq_true rfl, Nat.le_of_ble_eq_true rfl⟩ ⟨by omega, by omega, rfl, Nat.le_of_ble_eq_true rfl⟩ (fun v882 g882 m882 hp => ?_)
  obtain ⟨⟨w9, hv, hw9⟩, hg, hz0, hM, hMF⟩ := hp
  subst hv
  subst g882
  refine r_istore hX dL_law_885 (Nat.le_of_ble_eq_true rfl) rfl ?_
  refine r_aload_n hX dL_law_887 rfl ?_
  refine r_callV hX dL_law_888 (s_X8_thrown E g1 m882 (x + 138) hM.1.1) ml_L_138 rfl rfl hM.1.1.1.1 rfl ⟨Nat.le_of_ble_eq_true rfl, Nat.le_of_ble_eq_true rfl⟩ ⟨by omega, by omega, rfl, Nat.le_of_ble_eq_true rfl⟩ (fun v888 g888 m888 hp => ?_)
  obtain ⟨hv, hg, hm⟩ := hp
  subst v888
  subst g888
  subst m888
  rw [hz0]
  refine r_iload hX dL_law_891 rfl ?_
  refine r_icmp_eq (tgt := 898) hX dL_law_893 (by decide) (fun c893 => ?_) (fun c893 => ?_)
  · refine r_iload hX dL_law_898 rfl ?_
    refine r_if_ne (tgt := 915) hX dL_law_900 (by decide) (fun c900 => ?_) (fun c900 => ?_)
    · refine r_goto (tgt := 2383) hX dL_law_915 (by decide) ?_
      refine r_widen (cN' := cN + 25) (sN' := sN + 7500) (by omega) (by omega) ?_
      exact K _ _ _ _ _ _ _ (hJ.fin hM hMF (hI.2.2.2.2.same (qOf_st O (xs (i + 1)) (fun c => c 2))))
    · refine r_aload_n hX dL_law_903 rfl ?_
      refine r_iconst (v := 0) hX dL_law_904 (by decide) ?_
      have hr0 := r0_of hR5 c900
      refine r_laload hX dL_law_905 hJ.2.2.1 (pk_in 0 1 (by decide)) ?_
      rw [show qJ m882 (x + 145) (Int32.toNatClampNeg 0) = (qOf O (xs (i + 1)) (fun c => c 2)).2.1.toInt64 from (hMF.qJ _ _).trans (hq1 hr0)]
      refine r_iload hX dL_law_906 rfl ?_
      rw [hw9 hr0]
      refine r_i2l hX dL_law_908 ?_
      refine r_lcmp hX dL_law_909 ?_
      rw [lg_self]
      refine r_if_eq (tgt := 915) hX dL_law_910 (by decide) (fun c910 => ?_) (fun c910 => ?_)
      · refine r_goto (tgt := 2383) hX dL_law_915 (by decide) ?_
        refine r_widen (cN' := cN + 25) (sN' := sN + 7500) (by omega) (by omega) ?_
        exact K _ _ _ _ _ _ _ (hJ.fin hM hMF (hI.2.2.2.2.same (qOf_st O (xs (i + 1)) (fun c => c 2))))
      · exact absurd rfl c910
  · exact absurd rfl c893
set_option maxRecDepth 20000 in
set_option maxHeartbeats 4000000 in
theorem s_B12 {E : qE} {X : qX} {Q : State → Prop} {g : qG} {m : qM} {cN sN : Nat} (hX : MC E yL_law cL_law 10 (some .boolean) 1475 603072 7182442 [] X) {b L x u i : Nat} {xs : Nat → Int32} {O : kO} {z6 z7 z8 z9 : Option Value} (hs : ScrX E X b L xs) (hL : L ≤ 2048) (hi : i + 4 ≤ L) (hI : LI x u O g m) (hu : u ≤ 6144) (hcN : cN + 25 ≤ 603072) (hsN : sN + 7500 ≤ 7182442) (K : ∀ (O' : kO) (g' : qG) (m' : qM) (z6 z7 z8 z9 : Option Value), LI x (u + 12) O' g' m' → WS E X (cN + 25) (sN + 7500) Q g' m' 2383 [some (.ref b), some (.ref x), some (.ref (x + 138)), some (.ref (x + 145)), some (.ref (x + 146)), some (.int (nI i)), z6, z7, z8, z9] []) : WS E X cN sN Q g m 918 [some (.ref b), some (.ref x), some (.ref (x + 138)), some (.ref (x + 145)), some (.ref (x + 146)), some (.int (nI i)), z6, z7, z8, z9] [] := by
  refine r_known (fun hk => ?_)
  refine r_aload_n hX dL_law_918 rfl ?_
  refine r_aload_n hX dL_law_919 rfl ?_
  refine r_iload hX dL_law_920 rfl ?_
  refine r_iconst (v := 1) hX dL_law_922 (by decide) ?_
  refine r_iadd hX dL_law_923 ?_
  refine r_sld hX hs (j := i + 1) (nI_add i 1) (by omega) (by omega) dL_law_924 ?_
  refine r_aload_n hX dL_law_925 rfl ?_
  refine r_callH hX dL_law_926 (s_L_tail E g m x O hI.1 u hI.2.2.2.2 hu (xs (i + 1)) (x + 145) hI.2.2.1) ml_L_179 rfl rfl ⟨Nat.le_of_ble_eq_true rfl, Nat.le_of_ble_eq_true rfl⟩ ⟨by omega, by omega, rfl, Nat.le_of_ble_eq_true rfl⟩ (fun v1 g1 m1 hp => ?_)
  obtain ⟨hv, hO1, hF1, hq1, hR5⟩ := hp
  subst hv
  have hJ := hI.lp hO1 hF1 (Or.inl rfl) hk
  refine r_istore hX dL_law_929 (Nat.le_of_ble_eq_true rfl) rfl ?_
  refine r_aload_n hX dL_law_931 rfl ?_
  refine r_aload_n hX dL_law_932 rfl ?_
  refine r_iload hX dL_law_933 rfl ?_
  refine r_iconst (v := 1) hX dL_law_935 (by decide) ?_
  refine r_iadd hX dL_law_936 ?_
  refine r_sld hX hs (j := i + 1) (nI_add i 1) (by omega) (by omega) dL_law_937 ?_
  refine r_callV hX dL_law_938 (s_X8_tail E g1 m1 (x + 138) O hJ.2.1 u hJ.2.2.2.2 hu (xs (i + 1))) ml_L_181 rfl rfl hJ.2.1.1.1.1.1 rfl ⟨Nat.le_of_ble_eq_true rfl, Nat.le_of_ble_eq_true rfl⟩ ⟨by omega, by omega, rfl, Nat.le_of_ble_eq_true rfl⟩ (fun v938 g938 m938 hp => ?_)
  obtain ⟨⟨w9, hv, hw9⟩, hg, hz0, hM, hMF⟩ := hp
  subst hv
  subst g938
  refine r_istore hX dL_law_941 (Nat.le_of_ble_eq_true rfl) rfl ?_
  refine r_aload_n hX dL_law_943 rfl ?_
  refine r_callV hX dL_law_944 (s_X8_thrown E g1 m938 (x + 138) hM.1.1) ml_L_138 rfl rfl hM.1.1.1.1 rfl ⟨Nat.le_of_ble_eq_true rfl, Nat.le_of_ble_eq_true rfl⟩ ⟨by omega, by omega, rfl, Nat.le_of_ble_eq_true rfl⟩ (fun v944 g944 m944 hp => ?_)
  obtain ⟨hv, hg, hm⟩ := hp
  subst v944
  subst g944
  subst m944
  rw [hz0]
  refine r_iload hX dL_law_947 rfl ?_
  refine r_icmp_eq (tgt := 954) hX dL_law_949 (by decide) (fun c949 => ?_) (fun c949 => ?_)
  · refine r_iload hX dL_law_954 rfl ?_
    refine r_if_ne (tgt := 971) hX dL_law_956 (by decide) (fun c956 => ?_) (fun c956 => ?_)
    · refine r_goto (tgt := 2383) hX dL_law_971 (by decide) ?_
      refine r_widen (cN' := cN + 25) (sN' := sN + 7500) (by omega) (by omega) ?_
      exact K _ _ _ _ _ _ _ (hJ.fin hM hMF (hI.2.2.2.2.same (qOf_st O (xs (i + 1)) (fun c => 1 + c 2 / 5))))
    · refine r_aload_n hX dL_law_959 rfl ?_
      refine r_iconst (v := 0) hX dL_law_960 (by decide) ?_
      have hr0 := r0_of hR5 c956
      refine r_laload hX dL_law_961 hJ.2.2.1 (pk_in 0 1 (by decide)) ?_
      rw [show qJ m938 (x + 145) (Int32.toNatClampNeg 0) = (qOf O (xs (i + 1)) (fun c => 1 + c 2 / 5)).2.1.toInt64 from (hMF.qJ _ _).trans (hq1 hr0)]
      refine r_iload hX dL_law_962 rfl ?_
      rw [hw9 hr0]
      refine r_i2l hX dL_law_964 ?_
      refine r_lcmp hX dL_law_965 ?_
      rw [lg_self]
      refine r_if_eq (tgt := 971) hX dL_law_966 (by decide) (fun c966 => ?_) (fun c966 => ?_)
      · refine r_goto (tgt := 2383) hX dL_law_971 (by decide) ?_
        refine r_widen (cN' := cN + 25) (sN' := sN + 7500) (by omega) (by omega) ?_
        exact K _ _ _ _ _ _ _ (hJ.fin hM hMF (hI.2.2.2.2.same (qOf_st O (xs (i + 1)) (fun c => 1 + c 2 / 5))))
      · exact absurd rfl c966
  · exact absurd rfl c949
set_option maxRecDepth 20000 in
set_option maxHeartbeats 4000000 in
theorem s_B13 {E : qE} {X : qX} {Q : State → Prop} {g : qG} {m : qM} {cN sN : Nat} (hX : MC E yL_law cL_law 10 (some .boolean) 1475 603072 7182442 [] X) {b L x u i : Nat} {xs : Nat → Int32} {O : kO} {z6 z7 z8 z9 : Option Value} (hs : ScrX E X b L xs) (hL : L ≤ 2048) (hi : i + 4 ≤ L) (hI : LI x u O g m) (hu : u ≤ 6144) (hcN : cN + 25 ≤ 603072) (hsN : sN + 7500 ≤ 7182442) (K : ∀ (O' : kO) (g' : qG) (m' : qM) (z6 z7 z8 z9 : Option Value), LI x (u + 12) O' g' m' → WS E X (cN + 25) (sN + 7500) Q g' m' 2383 [some (.ref b), some (.ref x), some (.ref (x + 138)), some (.ref (x + 145)), some (.ref (x + 146)), some (.int (nI i)), z6, z7, z8, z9] []) : WS E X cN sN Q g m 974 [some (.ref b), some (.ref x), some (.ref (x + 138)), some (.ref (x + 145)), some (.ref (x + 146)), some (.int (nI i)), z6, z7, z8, z9] [] := by
  refine r_known (fun hk => ?_)
  refine r_aload_n hX dL_law_974 rfl ?_
  refine r_aload_n hX dL_law_975 rfl ?_
  refine r_iload hX dL_law_976 rfl ?_
  refine r_iconst (v := 1) hX dL_law_978 (by decide) ?_
  refine r_iadd hX dL_law_979 ?_
  refine r_sld hX hs (j := i + 1) (nI_add i 1) (by omega) (by omega) dL_law_980 ?_
  refine r_aload_n hX dL_law_981 rfl ?_
  refine r_callH hX dL_law_982 (s_L_nextPass E g m x O hI.1 u hI.2.2.2.2 hu (xs (i + 1)) (x + 145) hI.2.2.1) ml_L_182 rfl rfl ⟨Nat.le_of_ble_eq_true rfl, Nat.le_of_ble_eq_true rfl⟩ ⟨by omega, by omega, rfl, Nat.le_of_ble_eq_true rfl⟩ (fun v1 g1 m1 hp => ?_)
  obtain ⟨hv, hO1, hF1, hq1, hR5⟩ := hp
  subst hv
  have hJ := hI.lp hO1 hF1 (Or.inl rfl) hk
  refine r_istore hX dL_law_985 (Nat.le_of_ble_eq_true rfl) rfl ?_
  refine r_aload_n hX dL_law_987 rfl ?_
  refine r_aload_n hX dL_law_988 rfl ?_
  refine r_iload hX dL_law_989 rfl ?_
  refine r_iconst (v := 1) hX dL_law_991 (by decide) ?_
  refine r_iadd hX dL_law_992 ?_
  refine r_sld hX hs (j := i + 1) (nI_add i 1) (by omega) (by omega) dL_law_993 ?_
  refine r_callV hX dL_law_994 (s_X8_nextPass E g1 m1 (x + 138) O hJ.2.1 u hJ.2.2.2.2 hu (xs (i + 1))) ml_L_184 rfl rfl hJ.2.1.1.1.1.1 rfl ⟨Nat.le_of_ble_eq_true rfl, Nat.le_of_ble_eq_true rfl⟩ ⟨by omega, by omega, rfl, Nat.le_of_ble_eq_true rfl⟩ (fun v994 g994 m994 hp => ?_)
  obtain ⟨⟨w9, hv, hw9⟩, hg, hz0, hM, hMF⟩ := hp
  subst hv
  subst g994
  refine r_istore hX dL_law_997 (Nat.le_of_ble_eq_true rfl) rfl ?_
  refine r_aload_n hX dL_law_999 rfl ?_
  refine r_callV hX dL_law_1000 (s_X8_thrown E g1 m994 (x + 138) hM.1.1) ml_L_138 rfl rfl hM.1.1.1.1 rfl ⟨Nat.le_of_ble_eq_true rfl, Nat.le_of_ble_eq_true rfl⟩ ⟨by omega, by omega, rfl, Nat.le_of_ble_eq_true rfl⟩ (fun v1000 g1000 m1000 hp => ?_)
  obtain ⟨hv, hg, hm⟩ := hp
  subst v1000
  subst g1000
  subst m1000
  rw [hz0]
  refine r_iload hX dL_law_1003 rfl ?_
  refine r_icmp_eq (tgt := 1010) hX dL_law_1005 (by decide) (fun c1005 => ?_) (fun c1005 => ?_)
  · refine r_iload hX dL_law_1010 rfl ?_
    refine r_if_ne (tgt := 1027) hX dL_law_1012 (by decide) (fun c1012 => ?_) (fun c1012 => ?_)
    · refine r_goto (tgt := 2383) hX dL_law_1027 (by decide) ?_
      refine r_widen (cN' := cN + 25) (sN' := sN + 7500) (by omega) (by omega) ?_
      exact K _ _ _ _ _ _ _ (hJ.fin hM hMF (hI.2.2.2.2.same (qOf_st O (xs (i + 1)) (fun c => c 3))))
    · refine r_aload_n hX dL_law_1015 rfl ?_
      refine r_iconst (v := 0) hX dL_law_1016 (by decide) ?_
      have hr0 := r0_of hR5 c1012
      refine r_laload hX dL_law_1017 hJ.2.2.1 (pk_in 0 1 (by decide)) ?_
      rw [show qJ m994 (x + 145) (Int32.toNatClampNeg 0) = (qOf O (xs (i + 1)) (fun c => c 3)).2.1.toInt64 from (hMF.qJ _ _).trans (hq1 hr0)]
      refine r_iload hX dL_law_1018 rfl ?_
      rw [hw9 hr0]
      refine r_i2l hX dL_law_1020 ?_
      refine r_lcmp hX dL_law_1021 ?_
      rw [lg_self]
      refine r_if_eq (tgt := 1027) hX dL_law_1022 (by decide) (fun c1022 => ?_) (fun c1022 => ?_)
      · refine r_goto (tgt := 2383) hX dL_law_1027 (by decide) ?_
        refine r_widen (cN' := cN + 25) (sN' := sN + 7500) (by omega) (by omega) ?_
        exact K _ _ _ _ _ _ _ (hJ.fin hM hMF (hI.2.2.2.2.same (qOf_st O (xs (i + 1)) (fun c => c 3))))
      · exact absurd rfl c1022
  · exact absurd rfl c1005
set_option maxRecDepth 20000 in
set_option maxHeartbeats 4000000 in
theorem s_B14 {E : qE} {X : qX} {Q : State → Prop} {g : qG} {m : qM} {cN sN : Nat} (hX : MC E yL_law cL_law 10 (some .boolean) 1475 603072 7182442 [] X) {b L x u i : Nat} {xs : Nat → Int32} {O : kO} {z6 z7 z8 z9 : Option Value} (hs : ScrX E X b L xs) (hL : L ≤ 2048) (hi : i + 4 ≤ L) (hI : LI x u O g m) (hu : u ≤ 6144) (hcN : cN + 25 ≤ 603072) (hsN : sN + 7500 ≤ 7182442) (K : ∀ (O' : kO) (g' : qG) (m' : qM) (z6 z7 z8 z9 : Option Value), LI x (u + 12) O' g' m' → WS E X (cN + 25) (sN + 7500) Q g' m' 2383 [some (.ref b), some (.ref x), some (.ref (x + 138)), some (.ref (x + 145)), some (.ref (x + 146)), some (.int (nI i)), z6, z7, z8, z9] []) : WS E X cN sN Q g m 1030 [some (.ref b), some (.ref x), some (.ref (x + 138)), some (.ref (x + 145)), some (.ref (x + 146)), some (.int (nI i)), z6, z7, z8, z9] [] := by
  refine r_known (fun hk => ?_)
  refine r_aload_n hX dL_law_1030 rfl ?_
  refine r_aload_n hX dL_law_1031 rfl ?_
  refine r_iload hX dL_law_1032 rfl ?_
  refine r_iconst (v := 1) hX dL_law_1034 (by decide) ?_
  refine r_iadd hX dL_law_1035 ?_
  refine r_sld hX hs (j := i + 1) (nI_add i 1) (by omega) (by omega) dL_law_1036 ?_
  refine r_aload_n hX dL_law_1037 rfl ?_
  refine r_callH hX dL_law_1038 (s_L_passesOf E g m x O hI.1 u hI.2.2.2.2 hu (xs (i + 1)) (x + 145) hI.2.2.1) ml_L_185 rfl rfl ⟨Nat.le_of_ble_eq_true rfl, Nat.le_of_ble_eq_true rfl⟩ ⟨by omega, by omega, rfl, Nat.le_of_ble_eq_true rfl⟩ (fun v1 g1 m1 hp => ?_)
  obtain ⟨hv, hO1, hF1, hq1, hR5⟩ := hp
  subst hv
  have hJ := hI.lp hO1 hF1 (Or.inl rfl) hk
  refine r_istore hX dL_law_1041 (Nat.le_of_ble_eq_true rfl) rfl ?_
  refine r_aload_n hX dL_law_1043 rfl ?_
  refine r_aload_n hX dL_law_1044 rfl ?_
  refine r_iload hX dL_law_1045 rfl ?_
  refine r_iconst (v := 1) hX dL_law_1047 (by decide) ?_
  refine r_iadd hX dL_law_1048 ?_
  refine r_sld hX hs (j := i + 1) (nI_add i 1) (by omega) (by omega) dL_law_1049 ?_
  refine r_callV hX dL_law_1050 (s_X8_passesOf E g1 m1 (x + 138) O hJ.2.1 u hJ.2.2.2.2 hu (xs (i + 1))) ml_L_187 rfl rfl hJ.2.1.1.1.1.1 rfl ⟨Nat.le_of_ble_eq_true rfl, Nat.le_of_ble_eq_true rfl⟩ ⟨by omega, by omega, rfl, Nat.le_of_ble_eq_true rfl⟩ (fun v1050 g1050 m1050 hp => ?_)
  obtain ⟨⟨w9, hv, hw9⟩, hg, hz0, hM, hMF⟩ := hp
  subst hv
  subst g1050
  refine r_istore hX dL_law_1053 (Nat.le_of_ble_eq_true rfl) rfl ?_
  refine r_aload_n hX dL_law_1055 rfl ?_
  refine r_callV hX dL_law_1056 (s_X8_thrown E g1 m1050 (x + 138) hM.1.1) ml_L_138 rfl rfl hM.1.1.1.1 rfl ⟨Nat.le_of_ble_eq_true rfl, Nat.le_of_ble_eq_true rfl⟩ ⟨by omega, by omega, rfl, Nat.le_of_ble_eq_true rfl⟩ (fun v1056 g1056 m1056 hp => ?_)
  obtain ⟨hv, hg, hm⟩ := hp
  subst v1056
  subst g1056
  subst m1056
  rw [hz0]
  refine r_iload hX dL_law_1059 rfl ?_
  refine r_icmp_eq (tgt := 1066) hX dL_law_1061 (by decide) (fun c1061 => ?_) (fun c1061 => ?_)
  · refine r_iload hX dL_law_1066 rfl ?_
    refine r_if_ne (tgt := 1083) hX dL_law_1068 (by decide) (fun c1068 => ?_) (fun c1068 => ?_)
    · refine r_goto (tgt := 2383) hX dL_law_1083 (by decide) ?_
      refine r_widen (cN' := cN + 25) (sN' := sN + 7500) (by omega) (by omega) ?_
      exact K _ _ _ _ _ _ _ (hJ.fin hM hMF (hI.2.2.2.2.same (qOf_st O (xs (i + 1)) (fun c => c 4))))
    · refine r_aload_n hX dL_law_1071 rfl ?_
      refine r_iconst (v := 0) hX dL_law_1072 (by decide) ?_
      have hr0 := r0_of hR5 c1068
      refine r_laload hX dL_law_1073 hJ.2.2.1 (pk_in 0 1 (by decide)) ?_
      rw [show qJ m1050 (x + 145) (Int32.toNatClampNeg 0) = (qOf O (xs (i + 1)) (fun c => c 4)).2.1.toInt64 from (hMF.qJ _ _).trans (hq1 hr0)]
      refine r_iload hX dL_law_1074 rfl ?_
      rw [hw9 hr0]
      refine r_i2l hX dL_law_1076 ?_
      refine r_lcmp hX dL_law_1077 ?_
      rw [lg_self]
      refine r_if_eq (tgt := 1083) hX dL_law_1078 (by decide) (fun c1078 => ?_) (fun c1078 => ?_)
      · refine r_goto (tgt := 2383) hX dL_law_1083 (by decide) ?_
        refine r_widen (cN' := cN + 25) (sN' := sN + 7500) (by omega) (by omega) ?_
        exact K _ _ _ _ _ _ _ (hJ.fin hM hMF (hI.2.2.2.2.same (qOf_st O (xs (i + 1)) (fun c => c 4))))
      · exact absurd rfl c1078
  · exact absurd rfl c1061
set_option maxRecDepth 20000 in
set_option maxHeartbeats 4000000 in
theorem s_B15 {E : qE} {X : qX} {Q : State → Prop} {g : qG} {m : qM} {cN sN : Nat} (hX : MC E yL_law cL_law 10 (some .boolean) 1475 603072 7182442 [] X) {b L x u i : Nat} {xs : Nat → Int32} {O : kO} {z6 z7 z8 z9 : Option Value} (hs : ScrX E X b L xs) (hL : L ≤ 2048) (hi : i + 4 ≤ L) (hI : LI x u O g m) (hu : u ≤ 6144) (hcN : cN + 25 ≤ 603072) (hsN : sN + 7500 ≤ 7182442) (K : ∀ (O' : kO) (g' : qG) (m' : qM) (z6 z7 z8 z9 : Option Value), LI x (u + 12) O' g' m' → WS E X (cN + 25) (sN + 7500) Q g' m' 2383 [some (.ref b), some (.ref x), some (.ref (x + 138)), some (.ref (x + 145)), some (.ref (x + 146)), some (.int (nI i)), z6, z7, z8, z9] []) : WS E X cN sN Q g m 1086 [some (.ref b), some (.ref x), some (.ref (x + 138)), some (.ref (x + 145)), some (.ref (x + 146)), some (.int (nI i)), z6, z7, z8, z9] [] := by
  refine r_known (fun hk => ?_)
  refine r_aload_n hX dL_law_1086 rfl ?_
  refine r_aload_n hX dL_law_1087 rfl ?_
  refine r_iload hX dL_law_1088 rfl ?_
  refine r_iconst (v := 1) hX dL_law_1090 (by decide) ?_
  refine r_iadd hX dL_law_1091 ?_
  refine r_sld hX hs (j := i + 1) (nI_add i 1) (by omega) (by omega) dL_law_1092 ?_
  refine r_aload_n hX dL_law_1093 rfl ?_
  refine r_callH hX dL_law_1094 (s_L_lastPass E g m x O hI.1 u hI.2.2.2.2 hu (xs (i + 1)) (x + 145) hI.2.2.1) ml_L_188 rfl rfl ⟨Nat.le_of_ble_eq_true rfl, Nat.le_of_ble_eq_true rfl⟩ ⟨by omega, by omega, rfl, Nat.le_of_ble_eq_true rfl⟩ (fun v1 g1 m1 hp => ?_)
  obtain ⟨hv, hO1, hF1, hq1, hR5⟩ := hp
  subst hv
  have hJ := hI.lp hO1 hF1 (Or.inl rfl) hk
  refine r_istore hX dL_law_1097 (Nat.le_of_ble_eq_true rfl) rfl ?_
  refine r_aload_n hX dL_law_1099 rfl ?_
  refine r_aload_n hX dL_law_1100 rfl ?_
  refine r_iload hX dL_law_1101 rfl ?_
  refine r_iconst (v := 1) hX dL_law_1103 (by decide) ?_
  refine r_iadd hX dL_law_1104 ?_
  refine r_sld hX hs (j := i + 1) (nI_add i 1) (by omega) (by omega) dL_law_1105 ?_
  refine r_callV hX dL_law_1106 (s_X8_lastPass E g1 m1 (x + 138) O hJ.2.1 u hJ.2.2.2.2 hu (xs (i + 1))) ml_L_190 rfl rfl hJ.2.1.1.1.1.1 rfl ⟨Nat.le_of_ble_eq_true rfl, Nat.le_of_ble_eq_true rfl⟩ ⟨by omega, by omega, rfl, Nat.le_of_ble_eq_true rfl⟩ (fun v1106 g1106 m1106 hp => ?_)
  obtain ⟨⟨w9, hv, hw9⟩, hg, hz0, hM, hMF⟩ := hp
  subst hv
  subst g1106
  refine r_istore hX dL_law_1109 (Nat.le_of_ble_eq_true rfl) rfl ?_
  refine r_aload_n hX dL_law_1111 rfl ?_
  refine r_callV hX dL_law_1112 (s_X8_thrown E g1 m1106 (x + 138) hM.1.1) ml_L_138 rfl rfl hM.1.1.1.1 rfl ⟨Nat.le_of_ble_eq_true rfl, Nat.le_of_ble_eq_true rfl⟩ ⟨by omega, by omega, rfl, Nat.le_of_ble_eq_true rfl⟩ (fun v1112 g1112 m1112 hp => ?_)
  obtain ⟨hv, hg, hm⟩ := hp
  subst v1112
  subst g1112
  subst m1112
  rw [hz0]
  refine r_iload hX dL_law_1115 rfl ?_
  refine r_icmp_eq (tgt := 1122) hX dL_law_1117 (by decide) (fun c1117 => ?_) (fun c1117 => ?_)
  · refine r_iload hX dL_law_1122 rfl ?_
    refine r_if_ne (tgt := 1139) hX dL_law_1124 (by decide) (fun c1124 => ?_) (fun c1124 => ?_)
    · refine r_goto (tgt := 2383) hX dL_law_1139 (by decide) ?_
      refine r_widen (cN' := cN + 25) (sN' := sN + 7500) (by omega) (by omega) ?_
      exact K _ _ _ _ _ _ _ (hJ.fin hM hMF (hI.2.2.2.2.same (qOf_st O (xs (i + 1)) (fun c => c 3 + (c 2 - 1) * c 1))))
    · refine r_aload_n hX dL_law_1127 rfl ?_
      refine r_iconst (v := 0) hX dL_law_1128 (by decide) ?_
      have hr0 := r0_of hR5 c1124
      refine r_laload hX dL_law_1129 hJ.2.2.1 (pk_in 0 1 (by decide)) ?_
      rw [show qJ m1106 (x + 145) (Int32.toNatClampNeg 0) = (qOf O (xs (i + 1)) (fun c => c 3 + (c 2 - 1) * c 1)).2.1.toInt64 from (hMF.qJ _ _).trans (hq1 hr0)]
      refine r_iload hX dL_law_1130 rfl ?_
      rw [hw9 hr0]
      refine r_i2l hX dL_law_1132 ?_
      refine r_lcmp hX dL_law_1133 ?_
      rw [lg_self]
      refine r_if_eq (tgt := 1139) hX dL_law_1134 (by decide) (fun c1134 => ?_) (fun c1134 => ?_)
      · refine r_goto (tgt := 2383) hX dL_law_1139 (by decide) ?_
        refine r_widen (cN' := cN + 25) (sN' := sN + 7500) (by omega) (by omega) ?_
        exact K _ _ _ _ _ _ _ (hJ.fin hM hMF (hI.2.2.2.2.same (qOf_st O (xs (i + 1)) (fun c => c 3 + (c 2 - 1) * c 1))))
      · exact absurd rfl c1134
  · exact absurd rfl c1117
set_option maxRecDepth 20000 in
set_option maxHeartbeats 4000000 in
theorem s_B16 {E : qE} {X : qX} {Q : State → Prop} {g : qG} {m : qM} {cN sN : Nat} (hX : MC E yL_law cL_law 10 (some .boolean) 1475 603072 7182442 [] X) {b L x u i : Nat} {xs : Nat → Int32} {O : kO} {z6 z7 z8 z9 : Option Value} (hs : ScrX E X b L xs) (hL : L ≤ 2048) (hi : i + 4 ≤ L) (hI : LI x u O g m) (hu : u ≤ 6144) (hcN : cN + 25 ≤ 603072) (hsN : sN + 7500 ≤ 7182442) (K : ∀ (O' : kO) (g' : qG) (m' : qM) (z6 z7 z8 z9 : Option Value), LI x (u + 12) O' g' m' → WS E X (cN + 25) (sN + 7500) Q g' m' 2383 [some (.ref b), some (.ref x), some (.ref (x + 138)), some (.ref (x + 145)), some (.ref (x + 146)), some (.int (nI i)), z6, z7, z8, z9] []) : WS E X cN sN Q g m 1142 [some (.ref b), some (.ref x), some (.ref (x + 138)), some (.ref (x + 145)), some (.ref (x + 146)), some (.int (nI i)), z6, z7, z8, z9] [] := by
  refine r_known (fun hk => ?_)
  refine r_aload_n hX dL_law_1142 rfl ?_
  refine r_aload_n hX dL_law_1143 rfl ?_
  refine r_iload hX dL_law_1144 rfl ?_
  refine r_iconst (v := 1) hX dL_law_1146 (by decide) ?_
  refine r_iadd hX dL_law_1147 ?_
  refine r_sld hX hs (j := i + 1) (nI_add i 1) (by omega) (by omega) dL_law_1148 ?_
  refine r_aload_n hX dL_law_1149 rfl ?_
  refine r_callH hX dL_law_1150 (s_L_cometAtRank E g m x O hI.1 u hI.2.2.2.2 hu (xs (i + 1)) (x + 145) hI.2.2.1) ml_L_191 rfl rfl ⟨Nat.le_of_ble_eq_true rfl, Nat.le_of_ble_eq_true rfl⟩ ⟨by omega, by omega, rfl, Nat.le_of_ble_eq_true rfl⟩ (fun v1 g1 m1 hp => ?_)
  obtain ⟨hv, hO1, hF1, hq1, hR5⟩ := hp
  subst hv
  have hJ := hI.lp hO1 hF1 (Or.inl rfl) hk
  refine r_istore hX dL_law_1153 (Nat.le_of_ble_eq_true rfl) rfl ?_
  refine r_aload_n hX dL_law_1155 rfl ?_
  refine r_aload_n hX dL_law_1156 rfl ?_
  refine r_iload hX dL_law_1157 rfl ?_
  refine r_iconst (v := 1) hX dL_law_1159 (by decide) ?_
  refine r_iadd hX dL_law_1160 ?_
  refine r_sld hX hs (j := i + 1) (nI_add i 1) (by omega) (by omega) dL_law_1161 ?_
  refine r_callV hX dL_law_1162 (s_X8_cometAtRank E g1 m1 (x + 138) O hJ.2.1 u hJ.2.2.2.2 hu (xs (i + 1))) ml_L_193 rfl rfl hJ.2.1.1.1.1.1 rfl ⟨Nat.le_of_ble_eq_true rfl, Nat.le_of_ble_eq_true rfl⟩ ⟨by omega, by omega, rfl, Nat.le_of_ble_eq_true rfl⟩ (fun v1162 g1162 m1162 hp => ?_)
  rw [← rank_eq hI.2.2.2.2] at hp
  obtain ⟨⟨w9, hv, hw9⟩, hg, hz0, hM, hMF⟩ := hp
  subst hv
  subst g1162
  refine r_istore hX dL_law_1165 (Nat.le_of_ble_eq_true rfl) rfl ?_
  refine r_aload_n hX dL_law_1167 rfl ?_
  refine r_callV hX dL_law_1168 (s_X8_thrown E g1 m1162 (x + 138) hM.1.1) ml_L_138 rfl rfl hM.1.1.1.1 rfl ⟨Nat.le_of_ble_eq_true rfl, Nat.le_of_ble_eq_true rfl⟩ ⟨by omega, by omega, rfl, Nat.le_of_ble_eq_true rfl⟩ (fun v1168 g1168 m1168 hp => ?_)
  obtain ⟨hv, hg, hm⟩ := hp
  subst v1168
  subst g1168
  subst m1168
  rw [hz0]
  refine r_iload hX dL_law_1171 rfl ?_
  refine r_icmp_eq (tgt := 1178) hX dL_law_1173 (by decide) (fun c1173 => ?_) (fun c1173 => ?_)
  · refine r_iload hX dL_law_1178 rfl ?_
    refine r_if_ne (tgt := 1195) hX dL_law_1180 (by decide) (fun c1180 => ?_) (fun c1180 => ?_)
    · refine r_goto (tgt := 2383) hX dL_law_1195 (by decide) ?_
      refine r_widen (cN' := cN + 25) (sN' := sN + 7500) (by omega) (by omega) ?_
      exact K _ _ _ _ _ _ _ (hJ.fin hM hMF (hI.2.2.2.2.same (qRank_st O (xs (i + 1)))))
    · refine r_aload_n hX dL_law_1183 rfl ?_
      refine r_iconst (v := 0) hX dL_law_1184 (by decide) ?_
      have hr0 := r0_of hR5 c1180
      refine r_laload hX dL_law_1185 hJ.2.2.1 (pk_in 0 1 (by decide)) ?_
      rw [show qJ m1162 (x + 145) (Int32.toNatClampNeg 0) = (qRank O (xs (i + 1))).2.1.toInt64 from (hMF.qJ _ _).trans (hq1 hr0)]
      refine r_iload hX dL_law_1186 rfl ?_
      rw [hw9 hr0]
      refine r_i2l hX dL_law_1188 ?_
      refine r_lcmp hX dL_law_1189 ?_
      rw [lg_self]
      refine r_if_eq (tgt := 1195) hX dL_law_1190 (by decide) (fun c1190 => ?_) (fun c1190 => ?_)
      · refine r_goto (tgt := 2383) hX dL_law_1195 (by decide) ?_
        refine r_widen (cN' := cN + 25) (sN' := sN + 7500) (by omega) (by omega) ?_
        exact K _ _ _ _ _ _ _ (hJ.fin hM hMF (hI.2.2.2.2.same (qRank_st O (xs (i + 1)))))
      · exact absurd rfl c1190
  · exact absurd rfl c1173
set_option maxRecDepth 20000 in
set_option maxHeartbeats 4000000 in
theorem s_B17 {E : qE} {X : qX} {Q : State → Prop} {g : qG} {m : qM} {cN sN : Nat} (hX : MC E yL_law cL_law 10 (some .boolean) 1475 603072 7182442 [] X) {b L x u i : Nat} {xs : Nat → Int32} {O : kO} {z6 z7 z8 z9 : Option Value} (hs : ScrX E X b L xs) (hL : L ≤ 2048) (hi : i + 4 ≤ L) (hI : LI x u O g m) (hu : u ≤ 6144) (hcN : cN + 25 ≤ 603072) (hsN : sN + 7500 ≤ 7182442) (K : ∀ (O' : kO) (g' : qG) (m' : qM) (z6 z7 z8 z9 : Option Value), LI x (u + 12) O' g' m' → WS E X (cN + 25) (sN + 7500) Q g' m' 2383 [some (.ref b), some (.ref x), some (.ref (x + 138)), some (.ref (x + 145)), some (.ref (x + 146)), some (.int (nI i)), z6, z7, z8, z9] []) : WS E X cN sN Q g m 1198 [some (.ref b), some (.ref x), some (.ref (x + 138)), some (.ref (x + 145)), some (.ref (x + 146)), some (.int (nI i)), z6, z7, z8, z9] [] := by
  refine r_known (fun hk => ?_)
  refine r_aload_n hX dL_law_1198 rfl ?_
  refine r_aload_n hX dL_law_1199 rfl ?_
  refine r_iload hX dL_law_1200 rfl ?_
  refine r_iconst (v := 1) hX dL_law_1202 (by decide) ?_
  refine r_iadd hX dL_law_1203 ?_
  refine r_sld hX hs (j := i + 1) (nI_add i 1) (by omega) (by omega) dL_law_1204 ?_
  refine r_aload_n hX dL_law_1205 rfl ?_
  refine r_callH hX dL_law_1206 (s_L_passesIn E g m x O hI.1 u hI.2.2.2.2 hu (xs (i + 1)) (x + 145) hI.2.2.1) ml_L_194 rfl rfl ⟨Nat.le_of_ble_eq_true rfl, Nat.le_of_ble_eq_true rfl⟩ ⟨by omega, by omega, rfl, Nat.le_of_ble_eq_true rfl⟩ (fun v1 g1 m1 hp => ?_)
  obtain ⟨hv, hO1, hF1, hq1, hR5⟩ := hp
  subst hv
  have hJ := hI.lp hO1 hF1 (Or.inl rfl) hk
  refine r_istore hX dL_law_1209 (Nat.le_of_ble_eq_true rfl) rfl ?_
  refine r_aload_n hX dL_law_1211 rfl ?_
  refine r_aload_n hX dL_law_1212 rfl ?_
  refine r_iload hX dL_law_1213 rfl ?_
  refine r_iconst (v := 1) hX dL_law_1215 (by decide) ?_
  refine r_iadd hX dL_law_1216 ?_
  refine r_sld hX hs (j := i + 1) (nI_add i 1) (by omega) (by omega) dL_law_1217 ?_
  refine r_callV hX dL_law_1218 (s_X8_passesIn E g1 m1 (x + 138) O hJ.2.1 u hJ.2.2.2.2 hu (xs (i + 1))) ml_L_196 rfl rfl hJ.2.1.1.1.1.1 rfl ⟨Nat.le_of_ble_eq_true rfl, Nat.le_of_ble_eq_true rfl⟩ ⟨by omega, by omega, rfl, Nat.le_of_ble_eq_true rfl⟩ (fun v1218 g1218 m1218 hp => ?_)
  rw [← in_eq hI.2.2.2.2 hu] at hp
  obtain ⟨⟨w9, hv, hw9⟩, hg, hz0, hM, hMF⟩ := hp
  subst hv
  subst g1218
  refine r_istore hX dL_law_1221 (Nat.le_of_ble_eq_true rfl) rfl ?_
  refine r_aload_n hX dL_law_1223 rfl ?_
  refine r_callV hX dL_law_1224 (s_X8_thrown E g1 m1218 (x + 138) hM.1.1) ml_L_138 rfl rfl hM.1.1.1.1 rfl ⟨Nat.le_of_ble_eq_true rfl, Nat.le_of_ble_eq_true rfl⟩ ⟨by omega, by omega, rfl, Nat.le_of_ble_eq_true rfl⟩ (fun v1224 g1224 m1224 hp => ?_)
  obtain ⟨hv, hg, hm⟩ := hp
  subst v1224
  subst g1224
  subst m1224
  rw [hz0]
  refine r_iload hX dL_law_1227 rfl ?_
  refine r_icmp_eq (tgt := 1234) hX dL_law_1229 (by decide) (fun c1229 => ?_) (fun c1229 => ?_)
  · refine r_iload hX dL_law_1234 rfl ?_
    refine r_if_ne (tgt := 1251) hX dL_law_1236 (by decide) (fun c1236 => ?_) (fun c1236 => ?_)
    · refine r_goto (tgt := 2383) hX dL_law_1251 (by decide) ?_
      refine r_widen (cN' := cN + 25) (sN' := sN + 7500) (by omega) (by omega) ?_
      exact K _ _ _ _ _ _ _ (hJ.fin hM hMF (hI.2.2.2.2.same (qIn_st O (xs (i + 1)))))
    · refine r_aload_n hX dL_law_1239 rfl ?_
      refine r_iconst (v := 0) hX dL_law_1240 (by decide) ?_
      have hr0 := r0_of hR5 c1236
      refine r_laload hX dL_law_1241 hJ.2.2.1 (pk_in 0 1 (by decide)) ?_
      rw [show qJ m1218 (x + 145) (Int32.toNatClampNeg 0) = (qIn O (xs (i + 1))).2.1.toInt64 from (hMF.qJ _ _).trans (hq1 hr0)]
      refine r_iload hX dL_law_1242 rfl ?_
      rw [hw9 hr0]
      refine r_i2l hX dL_law_1244 ?_
      refine r_lcmp hX dL_law_1245 ?_
      rw [lg_self]
      refine r_if_eq (tgt := 1251) hX dL_law_1246 (by decide) (fun c1246 => ?_) (fun c1246 => ?_)
      · refine r_goto (tgt := 2383) hX dL_law_1251 (by decide) ?_
        refine r_widen (cN' := cN + 25) (sN' := sN + 7500) (by omega) (by omega) ?_
        exact K _ _ _ _ _ _ _ (hJ.fin hM hMF (hI.2.2.2.2.same (qIn_st O (xs (i + 1)))))
      · exact absurd rfl c1246
  · exact absurd rfl c1229
set_option maxRecDepth 20000 in
set_option maxHeartbeats 4000000 in
theorem s_B18 {E : qE} {X : qX} {Q : State → Prop} {g : qG} {m : qM} {cN sN : Nat} (hX : MC E yL_law cL_law 10 (some .boolean) 1475 603072 7182442 [] X) {b L x u i : Nat} {xs : Nat → Int32} {O : kO} {z6 z7 z8 z9 : Option Value} (hs : ScrX E X b L xs) (hL : L ≤ 2048) (hi : i + 4 ≤ L) (hI : LI x u O g m) (hu : u ≤ 6144) (hcN : cN + 25 ≤ 603072) (hsN : sN + 7500 ≤ 7182442) (K : ∀ (O' : kO) (g' : qG) (m' : qM) (z6 z7 z8 z9 : Option Value), LI x (u + 12) O' g' m' → WS E X (cN + 25) (sN + 7500) Q g' m' 2383 [some (.ref b), some (.ref x), some (.ref (x + 138)), some (.ref (x + 145)), some (.ref (x + 146)), some (.int (nI i)), z6, z7, z8, z9] []) : WS E X cN sN Q g m 1254 [some (.ref b), some (.ref x), some (.ref (x + 138)), some (.ref (x + 145)), some (.ref (x + 146)), some (.int (nI i)), z6, z7, z8, z9] [] := by
  refine r_known (fun hk => ?_)
  refine r_aload_n hX dL_law_1254 rfl ?_
  refine r_aload_n hX dL_law_1255 rfl ?_
  refine r_iload hX dL_law_1256 rfl ?_
  refine r_iconst (v := 1) hX dL_law_1258 (by decide) ?_
  refine r_iadd hX dL_law_1259 ?_
  refine r_sld hX hs (j := i + 1) (nI_add i 1) (by omega) (by omega) dL_law_1260 ?_
  refine r_aload_n hX dL_law_1261 rfl ?_
  refine r_iload hX dL_law_1262 rfl ?_
  refine r_iconst (v := 2) hX dL_law_1264 (by decide) ?_
  refine r_iadd hX dL_law_1265 ?_
  refine r_sld hX hs (j := i + 2) (nI_add i 2) (by omega) (by omega) dL_law_1266 ?_
  refine r_aload_n hX dL_law_1267 rfl ?_
  refine r_callH hX dL_law_1268 (s_L_nextMeeting E g m x O hI.1 u hI.2.2.2.2 hu (xs (i + 1)) (xs (i + 2)) (x + 145) hI.2.2.1) ml_L_197 rfl rfl ⟨Nat.le_of_ble_eq_true rfl, Nat.le_of_ble_eq_true rfl⟩ ⟨by omega, by omega, rfl, Nat.le_of_ble_eq_true rfl⟩ (fun v1 g1 m1 hp => ?_)
  obtain ⟨hv, hO1, hF1, hq1, hR5⟩ := hp
  subst hv
  have hJ := hI.lp hO1 hF1 (Or.inl rfl) hk
  refine r_istore hX dL_law_1271 (Nat.le_of_ble_eq_true rfl) rfl ?_
  refine r_aload_n hX dL_law_1273 rfl ?_
  refine r_aload_n hX dL_law_1274 rfl ?_
  refine r_iload hX dL_law_1275 rfl ?_
  refine r_iconst (v := 1) hX dL_law_1277 (by decide) ?_
  refine r_iadd hX dL_law_1278 ?_
  refine r_sld hX hs (j := i + 1) (nI_add i 1) (by omega) (by omega) dL_law_1279 ?_
  refine r_aload_n hX dL_law_1280 rfl ?_
  refine r_iload hX dL_law_1281 rfl ?_
  refine r_iconst (v := 2) hX dL_law_1283 (by decide) ?_
  refine r_iadd hX dL_law_1284 ?_
  refine r_sld hX hs (j := i + 2) (nI_add i 2) (by omega) (by omega) dL_law_1285 ?_
  refine r_callV hX dL_law_1286 (s_X8_nextMeeting E g1 m1 (x + 138) O hJ.2.1 u hJ.2.2.2.2 hu (xs (i + 1)) (xs (i + 2))) ml_L_199 rfl rfl hJ.2.1.1.1.1.1 rfl ⟨Nat.le_of_ble_eq_true rfl, Nat.le_of_ble_eq_true rfl⟩ ⟨by omega, by omega, rfl, Nat.le_of_ble_eq_true rfl⟩ (fun v1286 g1286 m1286 hp => ?_)
  rw [← (meet_eq hI.2.2.2.2 hu _ _).1] at hp
  obtain ⟨⟨w9, hv, hw9⟩, hg, hz0, hM, hMF⟩ := hp
  subst hv
  subst g1286
  refine r_istore hX dL_law_1289 (Nat.le_of_ble_eq_true rfl) rfl ?_
  refine r_aload_n hX dL_law_1291 rfl ?_
  refine r_callV hX dL_law_1292 (s_X8_thrown E g1 m1286 (x + 138) hM.1.1) ml_L_138 rfl rfl hM.1.1.1.1 rfl ⟨Nat.le_of_ble_eq_true rfl, Nat.le_of_ble_eq_true rfl⟩ ⟨by omega, by omega, rfl, Nat.le_of_ble_eq_true rfl⟩ (fun v1292 g1292 m1292 hp => ?_)
  obtain ⟨hv, hg, hm⟩ := hp
  subst v1292
  subst g1292
  subst m1292
  rw [hz0]
  refine r_iload hX dL_law_1295 rfl ?_
  refine r_icmp_eq (tgt := 1302) hX dL_law_1297 (by decide) (fun c1297 => ?_) (fun c1297 => ?_)
  · refine r_iload hX dL_law_1302 rfl ?_
    refine r_if_ne (tgt := 1319) hX dL_law_1304 (by decide) (fun c1304 => ?_) (fun c1304 => ?_)
    · refine r_goto (tgt := 2383) hX dL_law_1319 (by decide) ?_
      refine r_widen (cN' := cN + 25) (sN' := sN + 7500) (by omega) (by omega) ?_
      exact K _ _ _ _ _ _ _ (hJ.fin hM hMF (hI.2.2.2.2.same (qMeet_st mWalk O (xs (i + 1)) (xs (i + 2)))))
    · refine r_aload_n hX dL_law_1307 rfl ?_
      refine r_iconst (v := 0) hX dL_law_1308 (by decide) ?_
      have hr0 := r0_of hR5 c1304
      refine r_laload hX dL_law_1309 hJ.2.2.1 (pk_in 0 1 (by decide)) ?_
      rw [show qJ m1286 (x + 145) (Int32.toNatClampNeg 0) = (qMeet mWalk O (xs (i + 1)) (xs (i + 2))).2.1.toInt64 from (hMF.qJ _ _).trans (hq1 hr0)]
      refine r_iload hX dL_law_1310 rfl ?_
      rw [hw9 hr0]
      refine r_i2l hX dL_law_1312 ?_
      refine r_lcmp hX dL_law_1313 ?_
      rw [lg_self]
      refine r_if_eq (tgt := 1319) hX dL_law_1314 (by decide) (fun c1314 => ?_) (fun c1314 => ?_)
      · refine r_goto (tgt := 2383) hX dL_law_1319 (by decide) ?_
        refine r_widen (cN' := cN + 25) (sN' := sN + 7500) (by omega) (by omega) ?_
        exact K _ _ _ _ _ _ _ (hJ.fin hM hMF (hI.2.2.2.2.same (qMeet_st mWalk O (xs (i + 1)) (xs (i + 2)))))
      · exact absurd rfl c1314
  · exact absurd rfl c1297
set_option maxRecDepth 20000 in
set_option maxHeartbeats 4000000 in
theorem s_B19 {E : qE} {X : qX} {Q : State → Prop} {g : qG} {m : qM} {cN sN : Nat} (hX : MC E yL_law cL_law 10 (some .boolean) 1475 603072 7182442 [] X) {b L x u i : Nat} {xs : Nat → Int32} {O : kO} {z6 z7 z8 z9 : Option Value} (hs : ScrX E X b L xs) (hL : L ≤ 2048) (hi : i + 4 ≤ L) (hI : LI x u O g m) (hu : u ≤ 6144) (hcN : cN + 25 ≤ 603072) (hsN : sN + 7500 ≤ 7182442) (K : ∀ (O' : kO) (g' : qG) (m' : qM) (z6 z7 z8 z9 : Option Value), LI x (u + 12) O' g' m' → WS E X (cN + 25) (sN + 7500) Q g' m' 2383 [some (.ref b), some (.ref x), some (.ref (x + 138)), some (.ref (x + 145)), some (.ref (x + 146)), some (.int (nI i)), z6, z7, z8, z9] []) : WS E X cN sN Q g m 1322 [some (.ref b), some (.ref x), some (.ref (x + 138)), some (.ref (x + 145)), some (.ref (x + 146)), some (.int (nI i)), z6, z7, z8, z9] [] := by
  refine r_known (fun hk => ?_)
  refine r_aload_n hX dL_law_1322 rfl ?_
  refine r_aload_n hX dL_law_1323 rfl ?_
  refine r_iload hX dL_law_1324 rfl ?_
  refine r_iconst (v := 1) hX dL_law_1326 (by decide) ?_
  refine r_iadd hX dL_law_1327 ?_
  refine r_sld hX hs (j := i + 1) (nI_add i 1) (by omega) (by omega) dL_law_1328 ?_
  refine r_aload_n hX dL_law_1329 rfl ?_
  refine r_iload hX dL_law_1330 rfl ?_
  refine r_iconst (v := 2) hX dL_law_1332 (by decide) ?_
  refine r_iadd hX dL_law_1333 ?_
  refine r_sld hX hs (j := i + 2) (nI_add i 2) (by omega) (by omega) dL_law_1334 ?_
  refine r_aload_n hX dL_law_1335 rfl ?_
  refine r_callH hX dL_law_1336 (s_L_nextMeetingByRemainders E g m x O hI.1 u hI.2.2.2.2 hu (xs (i + 1)) (xs (i + 2)) (x + 145) hI.2.2.1) ml_L_200 rfl rfl ⟨Nat.le_of_ble_eq_true rfl, Nat.le_of_ble_eq_true rfl⟩ ⟨by omega, by omega, rfl, Nat.le_of_ble_eq_true rfl⟩ (fun v1 g1 m1 hp => ?_)
  obtain ⟨hv, hO1, hF1, hq1, hR5⟩ := hp
  subst hv
  have hJ := hI.lp hO1 hF1 (Or.inl rfl) hk
  refine r_istore hX dL_law_1339 (Nat.le_of_ble_eq_true rfl) rfl ?_
  refine r_aload_n hX dL_law_1341 rfl ?_
  refine r_aload_n hX dL_law_1342 rfl ?_
  refine r_iload hX dL_law_1343 rfl ?_
  refine r_iconst (v := 1) hX dL_law_1345 (by decide) ?_
  refine r_iadd hX dL_law_1346 ?_
  refine r_sld hX hs (j := i + 1) (nI_add i 1) (by omega) (by omega) dL_law_1347 ?_
  refine r_aload_n hX dL_law_1348 rfl ?_
  refine r_iload hX dL_law_1349 rfl ?_
  refine r_iconst (v := 2) hX dL_law_1351 (by decide) ?_
  refine r_iadd hX dL_law_1352 ?_
  refine r_sld hX hs (j := i + 2) (nI_add i 2) (by omega) (by omega) dL_law_1353 ?_
  refine r_callV hX dL_law_1354 (s_X8_nextMeetingByRemainders E g1 m1 (x + 138) O hJ.2.1 u hJ.2.2.2.2 hu (xs (i + 1)) (xs (i + 2))) ml_L_202 rfl rfl hJ.2.1.1.1.1.1 rfl ⟨Nat.le_of_ble_eq_true rfl, Nat.le_of_ble_eq_true rfl⟩ ⟨by omega, by omega, rfl, Nat.le_of_ble_eq_true rfl⟩ (fun v1354 g1354 m1354 hp => ?_)
  rw [← (meet_eq hI.2.2.2.2 hu _ _).2] at hp
  obtain ⟨⟨w9, hv, hw9⟩, hg, hz0, hM, hMF⟩ := hp
  subst hv
  subst g1354
  refine r_istore hX dL_law_1357 (Nat.le_of_ble_eq_true rfl) rfl ?_
  refine r_aload_n hX dL_law_1359 rfl ?_
  refine r_callV hX dL_law_1360 (s_X8_thrown E g1 m1354 (x + 138) hM.1.1) ml_L_138 rfl rfl hM.1.1.1.1 rfl ⟨Nat.le_of_ble_eq_true rfl, Nat.le_of_ble_eq_true rfl⟩ ⟨by omega, by omega, rfl, Nat.le_of_ble_eq_true rfl⟩ (fun v1360 g1360 m1360 hp => ?_)
  obtain ⟨hv, hg, hm⟩ := hp
  subst v1360
  subst g1360
  subst m1360
  rw [hz0]
  refine r_iload hX dL_law_1363 rfl ?_
  refine r_icmp_eq (tgt := 1370) hX dL_law_1365 (by decide) (fun c1365 => ?_) (fun c1365 => ?_)
  · refine r_iload hX dL_law_1370 rfl ?_
    refine r_if_ne (tgt := 1387) hX dL_law_1372 (by decide) (fun c1372 => ?_) (fun c1372 => ?_)
    · refine r_goto (tgt := 2383) hX dL_law_1387 (by decide) ?_
      refine r_widen (cN' := cN + 25) (sN' := sN + 7500) (by omega) (by omega) ?_
      exact K _ _ _ _ _ _ _ (hJ.fin hM hMF (hI.2.2.2.2.same (qMeet_st mEuclid O (xs (i + 1)) (xs (i + 2)))))
    · refine r_aload_n hX dL_law_1375 rfl ?_
      refine r_iconst (v := 0) hX dL_law_1376 (by decide) ?_
      have hr0 := r0_of hR5 c1372
      refine r_laload hX dL_law_1377 hJ.2.2.1 (pk_in 0 1 (by decide)) ?_
      rw [show qJ m1354 (x + 145) (Int32.toNatClampNeg 0) = (qMeet mEuclid O (xs (i + 1)) (xs (i + 2))).2.1.toInt64 from (hMF.qJ _ _).trans (hq1 hr0)]
      refine r_iload hX dL_law_1378 rfl ?_
      rw [hw9 hr0]
      refine r_i2l hX dL_law_1380 ?_
      refine r_lcmp hX dL_law_1381 ?_
      rw [lg_self]
      refine r_if_eq (tgt := 1387) hX dL_law_1382 (by decide) (fun c1382 => ?_) (fun c1382 => ?_)
      · refine r_goto (tgt := 2383) hX dL_law_1387 (by decide) ?_
        refine r_widen (cN' := cN + 25) (sN' := sN + 7500) (by omega) (by omega) ?_
        exact K _ _ _ _ _ _ _ (hJ.fin hM hMF (hI.2.2.2.2.same (qMeet_st mEuclid O (xs (i + 1)) (xs (i + 2)))))
      · exact absurd rfl c1382
  · exact absurd rfl c1365
set_option maxRecDepth 20000 in
set_option maxHeartbeats 4000000 in
theorem s_B20 {E : qE} {X : qX} {Q : State → Prop} {g : qG} {m : qM} {cN sN : Nat} (hX : MC E yL_law cL_law 10 (some .boolean) 1475 603072 7182442 [] X) {b L x u i : Nat} {xs : Nat → Int32} {O : kO} {z6 z7 z8 z9 : Option Value} (hs : ScrX E X b L xs) (hL : L ≤ 2048) (hi : i + 4 ≤ L) (hI : LI x u O g m) (hu : u ≤ 6144) (hcN : cN + 25 ≤ 603072) (hsN : sN + 7500 ≤ 7182442) (K : ∀ (O' : kO) (g' : qG) (m' : qM) (z6 z7 z8 z9 : Option Value), LI x (u + 12) O' g' m' → WS E X (cN + 25) (sN + 7500) Q g' m' 2383 [some (.ref b), some (.ref x), some (.ref (x + 138)), some (.ref (x + 145)), some (.ref (x + 146)), some (.int (nI i)), z6, z7, z8, z9] []) : WS E X cN sN Q g m 1390 [some (.ref b), some (.ref x), some (.ref (x + 138)), some (.ref (x + 145)), some (.ref (x + 146)), some (.int (nI i)), z6, z7, z8, z9] [] := by
  refine r_known (fun hk => ?_)
  refine r_aload_n hX dL_law_1390 rfl ?_
  refine r_aload_n hX dL_law_1391 rfl ?_
  refine r_callH hX dL_law_1392 (s_L_alignment E g m x O hI.1 u hI.2.2.2.2 hu (x + 145) hI.2.2.1) ml_L_203 rfl rfl ⟨Nat.le_of_ble_eq_true rfl, Nat.le_of_ble_eq_true rfl⟩ ⟨by omega, by omega, rfl, Nat.le_of_ble_eq_true rfl⟩ (fun v1 g1 m1 hp => ?_)
  obtain ⟨hv, hO1, hF1, hq1, hR5⟩ := hp
  subst hv
  have hJ := hI.lp hO1 hF1 (Or.inl rfl) hk
  refine r_istore hX dL_law_1395 (Nat.le_of_ble_eq_true rfl) rfl ?_
  refine r_aload_n hX dL_law_1397 rfl ?_
  refine r_callV hX dL_law_1398 (s_X8_alignment E g1 m1 (x + 138) O hJ.2.1 u hJ.2.2.2.2 hu) ml_L_206 rfl rfl hJ.2.1.1.1.1.1 rfl ⟨Nat.le_of_ble_eq_true rfl, Nat.le_of_ble_eq_true rfl⟩ ⟨by omega, by omega, rfl, Nat.le_of_ble_eq_true rfl⟩ (fun v1398 g1398 m1398 hp => ?_)
  obtain ⟨hp, w9, hv⟩ := hp
  rw [← ali_eq hI.2.2.2.2 hu] at hp
  obtain ⟨hw9, hg, hz0, hM, hMF⟩ := hp
  subst hv
  subst g1398
  refine r_lstore hX dL_law_1401 (Nat.le_of_ble_eq_true rfl) rfl ?_
  refine r_aload_n hX dL_law_1403 rfl ?_
  refine r_callV hX dL_law_1404 (s_X8_thrown E g1 m1398 (x + 138) hM.1.1) ml_L_138 rfl rfl hM.1.1.1.1 rfl ⟨Nat.le_of_ble_eq_true rfl, Nat.le_of_ble_eq_true rfl⟩ ⟨by omega, by omega, rfl, Nat.le_of_ble_eq_true rfl⟩ (fun v1404 g1404 m1404 hp => ?_)
  obtain ⟨hv, hg, hm⟩ := hp
  subst v1404
  subst g1404
  subst m1404
  rw [hz0]
  refine r_iload hX dL_law_1407 rfl ?_
  refine r_icmp_eq (tgt := 1414) hX dL_law_1409 (by decide) (fun c1409 => ?_) (fun c1409 => ?_)
  · refine r_iload hX dL_law_1414 rfl ?_
    refine r_if_ne (tgt := 1430) hX dL_law_1416 (by decide) (fun c1416 => ?_) (fun c1416 => ?_)
    · refine r_goto (tgt := 2383) hX dL_law_1430 (by decide) ?_
      refine r_widen (cN' := cN + 25) (sN' := sN + 7500) (by omega) (by omega) ?_
      exact K _ _ _ _ _ _ _ (hJ.fin hM hMF (hI.2.2.2.2.same (qAli_st O)))
    · refine r_aload_n hX dL_law_1419 rfl ?_
      refine r_iconst (v := 0) hX dL_law_1420 (by decide) ?_
      have hr0 := r0_of hR5 c1416
      have e9 : w9 = qJ m1 (x + 145) 0 := Value.long.inj (Option.some.inj ((hw9 hr0).trans (congrArg some (hq1 hr0))))
      refine r_laload hX dL_law_1421 hJ.2.2.1 (pk_in 0 1 (by decide)) ?_
      rw [show qJ m1398 (x + 145) (Int32.toNatClampNeg 0) = w9 from (hMF.qJ _ _).trans e9.symm]
      refine r_lload hX dL_law_1422 rfl ?_
      refine r_lcmp hX dL_law_1424 ?_
      rw [lg_self]
      refine r_if_eq (tgt := 1430) hX dL_law_1425 (by decide) (fun c1425 => ?_) (fun c1425 => ?_)
      · refine r_goto (tgt := 2383) hX dL_law_1430 (by decide) ?_
        refine r_widen (cN' := cN + 25) (sN' := sN + 7500) (by omega) (by omega) ?_
        exact K _ _ _ _ _ _ _ (hJ.fin hM hMF (hI.2.2.2.2.same (qAli_st O)))
      · exact absurd rfl c1425
  · exact absurd rfl c1409
set_option maxRecDepth 20000 in
set_option maxHeartbeats 4000000 in
theorem s_B21 {E : qE} {X : qX} {Q : State → Prop} {g : qG} {m : qM} {cN sN : Nat} (hX : MC E yL_law cL_law 10 (some .boolean) 1475 603072 7182442 [] X) {b L x u i : Nat} {xs : Nat → Int32} {O : kO} {z6 z7 z8 z9 : Option Value} (hs : ScrX E X b L xs) (hL : L ≤ 2048) (hi : i + 4 ≤ L) (hI : LI x u O g m) (hu : u ≤ 6144) (hcN : cN + 25 ≤ 603072) (hsN : sN + 7500 ≤ 7182442) (K : ∀ (O' : kO) (g' : qG) (m' : qM) (z6 z7 z8 z9 : Option Value), LI x (u + 12) O' g' m' → WS E X (cN + 25) (sN + 7500) Q g' m' 2383 [some (.ref b), some (.ref x), some (.ref (x + 138)), some (.ref (x + 145)), some (.ref (x + 146)), some (.int (nI i)), z6, z7, z8, z9] []) : WS E X cN sN Q g m 1433 [some (.ref b), some (.ref x), some (.ref (x + 138)), some (.ref (x + 145)), some (.ref (x + 146)), some (.int (nI i)), z6, z7, z8, z9] [] := by
  refine r_known (fun hk => ?_)
  refine r_aload_n hX dL_law_1433 rfl ?_
  refine r_aload_n hX dL_law_1434 rfl ?_
  refine r_iload hX dL_law_1435 rfl ?_
  refine r_iconst (v := 1) hX dL_law_1437 (by decide) ?_
  refine r_iadd hX dL_law_1438 ?_
  refine r_sld hX hs (j := i + 1) (nI_add i 1) (by omega) (by omega) dL_law_1439 ?_
  refine r_aload_n hX dL_law_1440 rfl ?_
  refine r_callH hX dL_law_1441 (s_L_bestWorth E g m x O hI.1 u hI.2.2.2.2 hu (xs (i + 1)) (x + 145) hI.2.2.1) ml_L_207 rfl rfl ⟨Nat.le_of_ble_eq_true rfl, Nat.le_of_ble_eq_true rfl⟩ ⟨by omega, by omega, rfl, Nat.le_of_ble_eq_true rfl⟩ (fun v1 g1 m1 hp => ?_)
  obtain ⟨hv, hO1, hF1, hq1, hR5⟩ := hp
  subst hv
  have hJ := hI.lp hO1 hF1 (Or.inl rfl) hk
  refine r_istore hX dL_law_1444 (Nat.le_of_ble_eq_true rfl) rfl ?_
  refine r_aload_n hX dL_law_1446 rfl ?_
  refine r_aload_n hX dL_law_1447 rfl ?_
  refine r_iload hX dL_law_1448 rfl ?_
  refine r_iconst (v := 1) hX dL_law_1450 (by decide) ?_
  refine r_iadd hX dL_law_1451 ?_
  refine r_sld hX hs (j := i + 1) (nI_add i 1) (by omega) (by omega) dL_law_1452 ?_
  refine r_callV hX dL_law_1453 (s_X8_bestWorth E g1 m1 (x + 138) O hJ.2.1 u hJ.2.2.2.2 hu (xs (i + 1))) ml_L_209 rfl rfl hJ.2.1.1.1.1.1 rfl ⟨Nat.le_of_ble_eq_true rfl, Nat.le_of_ble_eq_true rfl⟩ ⟨by omega, by omega, rfl, Nat.le_of_ble_eq_true rfl⟩ (fun v1453 g1453 m1453 hp => ?_)
  have hp := hp.1
  rw [← (wod_eq hI.2.2.2.2 hu _).1, ← wor_eq hI.2.2.2.2 hu] at hp
  obtain ⟨⟨w9, hv, hw9⟩, hg, hz0, hM, hMF⟩ := hp
  subst hv
  subst g1453
  refine r_istore hX dL_law_1456 (Nat.le_of_ble_eq_true rfl) rfl ?_
  refine r_aload_n hX dL_law_1458 rfl ?_
  refine r_callV hX dL_law_1459 (s_X8_thrown E g1 m1453 (x + 138) hM.1.1) ml_L_138 rfl rfl hM.1.1.1.1 rfl ⟨Nat.le_of_ble_eq_true rfl, Nat.le_of_ble_eq_true rfl⟩ ⟨by omega, by omega, rfl, Nat.le_of_ble_eq_true rfl⟩ (fun v1459 g1459 m1459 hp => ?_)
  obtain ⟨hv, hg, hm⟩ := hp
  subst v1459
  subst g1459
  subst m1459
  rw [hz0]
  refine r_iload hX dL_law_1462 rfl ?_
  refine r_icmp_eq (tgt := 1469) hX dL_law_1464 (by decide) (fun c1464 => ?_) (fun c1464 => ?_)
  · refine r_iload hX dL_law_1469 rfl ?_
    refine r_if_ne (tgt := 1486) hX dL_law_1471 (by decide) (fun c1471 => ?_) (fun c1471 => ?_)
    · refine r_goto (tgt := 2383) hX dL_law_1486 (by decide) ?_
      refine r_widen (cN' := cN + 25) (sN' := sN + 7500) (by omega) (by omega) ?_
      exact K _ _ _ _ _ _ _ (hJ.fin hM hMF (hI.2.2.2.2.same (qWor_st O (xs (i + 1)))))
    · refine r_aload_n hX dL_law_1474 rfl ?_
      refine r_iconst (v := 0) hX dL_law_1475 (by decide) ?_
      have hr0 := r0_of hR5 c1471
      refine r_laload hX dL_law_1476 hJ.2.2.1 (pk_in 0 1 (by decide)) ?_
      rw [show qJ m1453 (x + 145) (Int32.toNatClampNeg 0) = (qWor O (xs (i + 1))).2.1.toInt64 from (hMF.qJ _ _).trans (hq1 hr0)]
      refine r_iload hX dL_law_1477 rfl ?_
      rw [hw9 hr0]
      refine r_i2l hX dL_law_1479 ?_
      refine r_lcmp hX dL_law_1480 ?_
      rw [lg_self]
      refine r_if_eq (tgt := 1486) hX dL_law_1481 (by decide) (fun c1481 => ?_) (fun c1481 => ?_)
      · refine r_goto (tgt := 2383) hX dL_law_1486 (by decide) ?_
        refine r_widen (cN' := cN + 25) (sN' := sN + 7500) (by omega) (by omega) ?_
        exact K _ _ _ _ _ _ _ (hJ.fin hM hMF (hI.2.2.2.2.same (qWor_st O (xs (i + 1)))))
      · exact absurd rfl c1481
  · exact absurd rfl c1464
set_option maxRecDepth 20000 in
set_option maxHeartbeats 4000000 in
theorem s_B22 {E : qE} {X : qX} {Q : State → Prop} {g : qG} {m : qM} {cN sN : Nat} (hX : MC E yL_law cL_law 10 (some .boolean) 1475 603072 7182442 [] X) {b L x u i : Nat} {xs : Nat → Int32} {O : kO} {z6 z7 z8 z9 : Option Value} (hs : ScrX E X b L xs) (hL : L ≤ 2048) (hi : i + 4 ≤ L) (hI : LI x u O g m) (hu : u ≤ 6144) (hcN : cN + 25 ≤ 603072) (hsN : sN + 7500 ≤ 7182442) (K : ∀ (O' : kO) (g' : qG) (m' : qM) (z6 z7 z8 z9 : Option Value), LI x (u + 12) O' g' m' → WS E X (cN + 25) (sN + 7500) Q g' m' 2383 [some (.ref b), some (.ref x), some (.ref (x + 138)), some (.ref (x + 145)), some (.ref (x + 146)), some (.int (nI i)), z6, z7, z8, z9] []) : WS E X cN sN Q g m 1489 [some (.ref b), some (.ref x), some (.ref (x + 138)), some (.ref (x + 145)), some (.ref (x + 146)), some (.int (nI i)), z6, z7, z8, z9] [] := by
  refine r_known (fun hk => ?_)
  refine r_aload_n hX dL_law_1489 rfl ?_
  refine r_aload_n hX dL_law_1490 rfl ?_
  refine r_iload hX dL_law_1491 rfl ?_
  refine r_iconst (v := 1) hX dL_law_1493 (by decide) ?_
  refine r_iadd hX dL_law_1494 ?_
  refine r_sld hX hs (j := i + 1) (nI_add i 1) (by omega) (by omega) dL_law_1495 ?_
  refine r_aload_n hX dL_law_1496 rfl ?_
  refine r_callH hX dL_law_1497 (s_L_bestWorthByDays E g m x O hI.1 u hI.2.2.2.2 hu (xs (i + 1)) (x + 145) hI.2.2.1) ml_L_210 rfl rfl ⟨Nat.le_of_ble_eq_true rfl, Nat.le_of_ble_eq_true rfl⟩ ⟨by omega, by omega, rfl, Nat.le_of_ble_eq_true rfl⟩ (fun v1 g1 m1 hp => ?_)
  obtain ⟨hv, hO1, hF1, hq1, hR5⟩ := hp
  subst hv
  have hJ := hI.lp hO1 hF1 (Or.inl rfl) hk
  refine r_istore hX dL_law_1500 (Nat.le_of_ble_eq_true rfl) rfl ?_
  refine r_aload_n hX dL_law_1502 rfl ?_
  refine r_aload_n hX dL_law_1503 rfl ?_
  refine r_iload hX dL_law_1504 rfl ?_
  refine r_iconst (v := 1) hX dL_law_1506 (by decide) ?_
  refine r_iadd hX dL_law_1507 ?_
  refine r_sld hX hs (j := i + 1) (nI_add i 1) (by omega) (by omega) dL_law_1508 ?_
  refine r_callV hX dL_law_1509 (s_X8_bestWorthByDays E g1 m1 (x + 138) O hJ.2.1 u hJ.2.2.2.2 hu (xs (i + 1))) ml_L_212 rfl rfl hJ.2.1.1.1.1.1 rfl ⟨Nat.le_of_ble_eq_true rfl, Nat.le_of_ble_eq_true rfl⟩ ⟨by omega, by omega, rfl, Nat.le_of_ble_eq_true rfl⟩ (fun v1509 g1509 m1509 hp => ?_)
  rw [← (wod_eq hI.2.2.2.2 hu _).1] at hp
  obtain ⟨⟨w9, hv, hw9⟩, hg, hz0, hM, hMF⟩ := hp
  subst hv
  subst g1509
  refine r_istore hX dL_law_1512 (Nat.le_of_ble_eq_true rfl) rfl ?_
  refine r_aload_n hX dL_law_1514 rfl ?_
  refine r_callV hX dL_law_1515 (s_X8_thrown E g1 m1509 (x + 138) hM.1.1) ml_L_138 rfl rfl hM.1.1.1.1 rfl ⟨Nat.le_of_ble_eq_true rfl, Nat.le_of_ble_eq_true rfl⟩ ⟨by omega, by omega, rfl, Nat.le_of_ble_eq_true rfl⟩ (fun v1515 g1515 m1515 hp => ?_)
  obtain ⟨hv, hg, hm⟩ := hp
  subst v1515
  subst g1515
  subst m1515
  rw [hz0]
  refine r_iload hX dL_law_1518 rfl ?_
  refine r_icmp_eq (tgt := 1525) hX dL_law_1520 (by decide) (fun c1520 => ?_) (fun c1520 => ?_)
  · refine r_iload hX dL_law_1525 rfl ?_
    refine r_if_ne (tgt := 1542) hX dL_law_1527 (by decide) (fun c1527 => ?_) (fun c1527 => ?_)
    · refine r_goto (tgt := 2383) hX dL_law_1542 (by decide) ?_
      refine r_widen (cN' := cN + 25) (sN' := sN + 7500) (by omega) (by omega) ?_
      exact K _ _ _ _ _ _ _ (hJ.fin hM hMF (hI.2.2.2.2.same (qWoD_st O (xs (i + 1)))))
    · refine r_aload_n hX dL_law_1530 rfl ?_
      refine r_iconst (v := 0) hX dL_law_1531 (by decide) ?_
      have hr0 := r0_of hR5 c1527
      refine r_laload hX dL_law_1532 hJ.2.2.1 (pk_in 0 1 (by decide)) ?_
      rw [show qJ m1509 (x + 145) (Int32.toNatClampNeg 0) = (qWoD O (xs (i + 1))).2.1.toInt64 from (hMF.qJ _ _).trans (hq1 hr0)]
      refine r_iload hX dL_law_1533 rfl ?_
      rw [hw9 hr0]
      refine r_i2l hX dL_law_1535 ?_
      refine r_lcmp hX dL_law_1536 ?_
      rw [lg_self]
      refine r_if_eq (tgt := 1542) hX dL_law_1537 (by decide) (fun c1537 => ?_) (fun c1537 => ?_)
      · refine r_goto (tgt := 2383) hX dL_law_1542 (by decide) ?_
        refine r_widen (cN' := cN + 25) (sN' := sN + 7500) (by omega) (by omega) ?_
        exact K _ _ _ _ _ _ _ (hJ.fin hM hMF (hI.2.2.2.2.same (qWoD_st O (xs (i + 1)))))
      · exact absurd rfl c1537
  · exact absurd rfl c1520
set_option maxRecDepth 20000 in
set_option maxHeartbeats 4000000 in
theorem s_B23 {E : qE} {X : qX} {Q : State → Prop} {g : qG} {m : qM} {cN sN : Nat} (hX : MC E yL_law cL_law 10 (some .boolean) 1475 603072 7182442 [] X) {b L x u i : Nat} {xs : Nat → Int32} {O : kO} {z6 z7 z8 z9 : Option Value} (hs : ScrX E X b L xs) (hL : L ≤ 2048) (hi : i + 4 ≤ L) (hI : LI x u O g m) (hu : u ≤ 6144) (hcN : cN + 25 ≤ 603072) (hsN : sN + 7500 ≤ 7182442) (K : ∀ (O' : kO) (g' : qG) (m' : qM) (z6 z7 z8 z9 : Option Value), LI x (u + 12) O' g' m' → WS E X (cN + 25) (sN + 7500) Q g' m' 2383 [some (.ref b), some (.ref x), some (.ref (x + 138)), some (.ref (x + 145)), some (.ref (x + 146)), some (.int (nI i)), z6, z7, z8, z9] []) : WS E X cN sN Q g m 1545 [some (.ref b), some (.ref x), some (.ref (x + 138)), some (.ref (x + 145)), some (.ref (x + 146)), some (.int (nI i)), z6, z7, z8, z9] [] := by
  refine r_known (fun hk => ?_)
  refine r_aload_n hX dL_law_1545 rfl ?_
  refine r_aload_n hX dL_law_1546 rfl ?_
  refine r_iload hX dL_law_1547 rfl ?_
  refine r_iconst (v := 1) hX dL_law_1549 (by decide) ?_
  refine r_iadd hX dL_law_1550 ?_
  refine r_sld hX hs (j := i + 1) (nI_add i 1) (by omega) (by omega) dL_law_1551 ?_
  refine r_aload_n hX dL_law_1552 rfl ?_
  refine r_callH hX dL_law_1553 (s_L_fewestPasses E g m x O hI.1 u hI.2.2.2.2 hu (xs (i + 1)) (x + 145) hI.2.2.1) ml_L_213 rfl rfl ⟨Nat.le_of_ble_eq_true rfl, Nat.le_of_ble_eq_true rfl⟩ ⟨by omega, by omega, rfl, Nat.le_of_ble_eq_true rfl⟩ (fun v1 g1 m1 hp => ?_)
  obtain ⟨hv, hO1, hF1, hq1, hR5⟩ := hp
  subst hv
  have hJ := hI.lp hO1 hF1 (Or.inl rfl) hk
  refine r_istore hX dL_law_1556 (Nat.le_of_ble_eq_true rfl) rfl ?_
  refine r_aload_n hX dL_law_1558 rfl ?_
  refine r_aload_n hX dL_law_1559 rfl ?_
  refine r_iload hX dL_law_1560 rfl ?_
  refine r_iconst (v := 1) hX dL_law_1562 (by decide) ?_
  refine r_iadd hX dL_law_1563 ?_
  refine r_sld hX hs (j := i + 1) (nI_add i 1) (by omega) (by omega) dL_law_1564 ?_
  refine r_callV hX dL_law_1565 (s_X8_fewestPasses E g1 m1 (x + 138) O hJ.2.1 u hJ.2.2.2.2 hu (xs (i + 1))) ml_L_215 rfl rfl hJ.2.1.1.1.1.1 rfl ⟨Nat.le_of_ble_eq_true rfl, Nat.le_of_ble_eq_true rfl⟩ ⟨by omega, by omega, rfl, Nat.le_of_ble_eq_true rfl⟩ (fun v1565 g1565 m1565 hp => ?_)
  rw [← (wod_eq hI.2.2.2.2 hu _).2] at hp
  obtain ⟨⟨w9, hv, hw9⟩, hg, hz0, hM, hMF⟩ := hp
  subst hv
  subst g1565
  refine r_istore hX dL_law_1568 (Nat.le_of_ble_eq_true rfl) rfl ?_
  refine r_aload_n hX dL_law_1570 rfl ?_
  refine r_callV hX dL_law_1571 (s_X8_thrown E g1 m1565 (x + 138) hM.1.1) ml_L_138 rfl rfl hM.1.1.1.1 rfl ⟨Nat.le_of_ble_eq_true rfl, Nat.le_of_ble_eq_true rfl⟩ ⟨by omega, by omega, rfl, Nat.le_of_ble_eq_true rfl⟩ (fun v1571 g1571 m1571 hp => ?_)
  obtain ⟨hv, hg, hm⟩ := hp
  subst v1571
  subst g1571
  subst m1571
  rw [hz0]
  refine r_iload hX dL_law_1574 rfl ?_
  refine r_icmp_eq (tgt := 1581) hX dL_law_1576 (by decide) (fun c1576 => ?_) (fun c1576 => ?_)
  · refine r_iload hX dL_law_1581 rfl ?_
    refine r_if_ne (tgt := 1598) hX dL_law_1583 (by decide) (fun c1583 => ?_) (fun c1583 => ?_)
    · refine r_goto (tgt := 2383) hX dL_law_1598 (by decide) ?_
      refine r_widen (cN' := cN + 25) (sN' := sN + 7500) (by omega) (by omega) ?_
      exact K _ _ _ _ _ _ _ (hJ.fin hM hMF (hI.2.2.2.2.same (qFew_st O (xs (i + 1)))))
    · refine r_aload_n hX dL_law_1586 rfl ?_
      refine r_iconst (v := 0) hX dL_law_1587 (by decide) ?_
      have hr0 := r0_of hR5 c1583
      refine r_laload hX dL_law_1588 hJ.2.2.1 (pk_in 0 1 (by decide)) ?_
      rw [show qJ m1565 (x + 145) (Int32.toNatClampNeg 0) = (qFew O (xs (i + 1))).2.1.toInt64 from (hMF.qJ _ _).trans (hq1 hr0)]
      refine r_iload hX dL_law_1589 rfl ?_
      rw [hw9 hr0]
      refine r_i2l hX dL_law_1591 ?_
      refine r_lcmp hX dL_law_1592 ?_
      rw [lg_self]
      refine r_if_eq (tgt := 1598) hX dL_law_1593 (by decide) (fun c1593 => ?_) (fun c1593 => ?_)
      · refine r_goto (tgt := 2383) hX dL_law_1598 (by decide) ?_
        refine r_widen (cN' := cN + 25) (sN' := sN + 7500) (by omega) (by omega) ?_
        exact K _ _ _ _ _ _ _ (hJ.fin hM hMF (hI.2.2.2.2.same (qFew_st O (xs (i + 1)))))
      · exact absurd rfl c1593
  · exact absurd rfl c1576
set_option maxRecDepth 20000 in
set_option maxHeartbeats 4000000 in
theorem s_B24 {E : qE} {X : qX} {Q : State → Prop} {g : qG} {m : qM} {cN sN : Nat} (hX : MC E yL_law cL_law 10 (some .boolean) 1475 603072 7182442 [] X) {b L x u i : Nat} {xs : Nat → Int32} {O : kO} {z6 z7 z8 z9 : Option Value} (hs : ScrX E X b L xs) (hL : L ≤ 2048) (hi : i + 4 ≤ L) (hI : LI x u O g m) (hu : u ≤ 6144) (hcN : cN + 25 ≤ 603072) (hsN : sN + 7500 ≤ 7182442) (K : ∀ (O' : kO) (g' : qG) (m' : qM) (z6 z7 z8 z9 : Option Value), LI x (u + 12) O' g' m' → WS E X (cN + 25) (sN + 7500) Q g' m' 2383 [some (.ref b), some (.ref x), some (.ref (x + 138)), some (.ref (x + 145)), some (.ref (x + 146)), some (.int (nI i)), z6, z7, z8, z9] []) : WS E X cN sN Q g m 1601 [some (.ref b), some (.ref x), some (.ref (x + 138)), some (.ref (x + 145)), some (.ref (x + 146)), some (.int (nI i)), z6, z7, z8, z9] [] := by
  refine r_known (fun hk => ?_)
  refine r_aload_n hX dL_law_1601 rfl ?_
  refine r_aload_n hX dL_law_1602 rfl ?_
  refine r_iload hX dL_law_1603 rfl ?_
  refine r_iconst (v := 1) hX dL_law_1605 (by decide) ?_
  refine r_iadd hX dL_law_1606 ?_
  refine r_sld hX hs (j := i + 1) (nI_add i 1) (by omega) (by omega) dL_law_1607 ?_
  refine r_aload_n hX dL_law_1608 rfl ?_
  refine r_callH hX dL_law_1609 (s_L_dust E g m x O hI.1 u hI.2.2.2.2 hu (xs (i + 1)) (x + 145) hI.2.2.1) ml_L_216 rfl rfl ⟨Nat.le_of_ble_eq_true rfl, Nat.le_of_ble_eq_true rfl⟩ ⟨by omega, by omega, rfl, Nat.le_of_ble_eq_true rfl⟩ (fun v1 g1 m1 hp => ?_)
  obtain ⟨hv, hO1, hF1, hq1, hR5⟩ := hp
  subst hv
  have hJ := hI.lp hO1 hF1 (Or.inl rfl) hk
  refine r_istore hX dL_law_1612 (Nat.le_of_ble_eq_true rfl) rfl ?_
  refine r_aload_n hX dL_law_1614 rfl ?_
  refine r_aload_n hX dL_law_1615 rfl ?_
  refine r_iload hX dL_law_1616 rfl ?_
  refine r_iconst (v := 1) hX dL_law_1618 (by decide) ?_
  refine r_iadd hX dL_law_1619 ?_
  refine r_sld hX hs (j := i + 1) (nI_add i 1) (by omega) (by omega) dL_law_1620 ?_
  refine r_callV hX dL_law_1621 (s_X8_dust E g1 m1 (x + 138) O hJ.2.1 u hJ.2.2.2.2 hu (xs (i + 1))) ml_L_218 rfl rfl hJ.2.1.1.1.1.1 rfl ⟨Nat.le_of_ble_eq_true rfl, Nat.le_of_ble_eq_true rfl⟩ ⟨by omega, by omega, rfl, Nat.le_of_ble_eq_true rfl⟩ (fun v1621 g1621 m1621 hp => ?_)
  obtain ⟨⟨w9, hv, hw9⟩, hg, hz0, hM, hMF⟩ := hp
  subst hv
  subst g1621
  refine r_istore hX dL_law_1624 (Nat.le_of_ble_eq_true rfl) rfl ?_
  refine r_aload_n hX dL_law_1626 rfl ?_
  refine r_callV hX dL_law_1627 (s_X8_thrown E g1 m1621 (x + 138) hM.1.1) ml_L_138 rfl rfl hM.1.1.1.1 rfl ⟨Nat.le_of_ble_eq_true rfl, Nat.le_of_ble_eq_true rfl⟩ ⟨by omega, by omega, rfl, Nat.le_of_ble_eq_true rfl⟩ (fun v1627 g1627 m1627 hp => ?_)
  obtain ⟨hv, hg, hm⟩ := hp
  subst v1627
  subst g1627
  subst m1627
  rw [hz0]
  refine r_iload hX dL_law_1630 rfl ?_
  refine r_icmp_eq (tgt := 1637) hX dL_law_1632 (by decide) (fun c1632 => ?_) (fun c1632 => ?_)
  · refine r_iload hX dL_law_1637 rfl ?_
    refine r_if_ne (tgt := 1654) hX dL_law_1639 (by decide) (fun c1639 => ?_) (fun c1639 => ?_)
    · refine r_goto (tgt := 2383) hX dL_law_1654 (by decide) ?_
      refine r_widen (cN' := cN + 25) (sN' := sN + 7500) (by omega) (by omega) ?_
      exact K _ _ _ _ _ _ _ (hJ.fin hM hMF (hI.2.2.2.2.same (qDust_st O (xs (i + 1)))))
    · refine r_aload_n hX dL_law_1642 rfl ?_
      refine r_iconst (v := 0) hX dL_law_1643 (by decide) ?_
      have hr0 := r0_of hR5 c1639
      refine r_laload hX dL_law_1644 hJ.2.2.1 (pk_in 0 1 (by decide)) ?_
      rw [show qJ m1621 (x + 145) (Int32.toNatClampNeg 0) = (qDust O (xs (i + 1))).2.1.toInt64 from (hMF.qJ _ _).trans (hq1 hr0)]
      refine r_iload hX dL_law_1645 rfl ?_
      rw [hw9 hr0]
      refine r_i2l hX dL_law_1647 ?_
      refine r_lcmp hX dL_law_1648 ?_
      rw [lg_self]
      refine r_if_eq (tgt := 1654) hX dL_law_1649 (by decide) (fun c1649 => ?_) (fun c1649 => ?_)
      · refine r_goto (tgt := 2383) hX dL_law_1654 (by decide) ?_
        refine r_widen (cN' := cN + 25) (sN' := sN + 7500) (by omega) (by omega) ?_
        exact K _ _ _ _ _ _ _ (hJ.fin hM hMF (hI.2.2.2.2.same (qDust_st O (xs (i + 1)))))
      · exact absurd rfl c1649
  · exact absurd rfl c1632
set_option maxRecDepth 20000 in
set_option maxHeartbeats 4000000 in
theorem s_B25 {E : qE} {X : qX} {Q : State → Prop} {g : qG} {m : qM} {cN sN : Nat} (hX : MC E yL_law cL_law 10 (some .boolean) 1475 603072 7182442 [] X) {b L x u i : Nat} {xs : Nat → Int32} {O : kO} {z6 z7 z8 z9 : Option Value} (hs : ScrX E X b L xs) (hL : L ≤ 2048) (hi : i + 4 ≤ L) (hI : LI x u O g m) (hu : u ≤ 6144) (hcN : cN + 25 ≤ 603072) (hsN : sN + 7500 ≤ 7182442) (K : ∀ (O' : kO) (g' : qG) (m' : qM) (z6 z7 z8 z9 : Option Value), LI x (u + 12) O' g' m' → WS E X (cN + 25) (sN + 7500) Q g' m' 2383 [some (.ref b), some (.ref x), some (.ref (x + 138)), some (.ref (x + 145)), some (.ref (x + 146)), some (.int (nI i)), z6, z7, z8, z9] []) : WS E X cN sN Q g m 1657 [some (.ref b), some (.ref x), some (.ref (x + 138)), some (.ref (x + 145)), some (.ref (x + 146)), some (.int (nI i)), z6, z7, z8, z9] [] := by
  refine r_known (fun hk => ?_)
  refine r_aload_n hX dL_law_1657 rfl ?_
  refine r_aload_n hX dL_law_1658 rfl ?_
  refine r_iload hX dL_law_1659 rfl ?_
  refine r_iconst (v := 1) hX dL_law_1661 (by decide) ?_
  refine r_iadd hX dL_law_1662 ?_
  refine r_sld hX hs (j := i + 1) (nI_add i 1) (by omega) (by omega) dL_law_1663 ?_
  refine r_aload_n hX dL_law_1664 rfl ?_
  refine r_iload hX dL_law_1665 rfl ?_
  refine r_iconst (v := 2) hX dL_law_1667 (by decide) ?_
  refine r_iadd hX dL_law_1668 ?_
  refine r_sld hX hs (j := i + 2) (nI_add i 2) (by omega) (by omega) dL_law_1669 ?_
  refine r_aload_n hX dL_law_1670 rfl ?_
  refine r_callH hX dL_law_1671 (s_L_gain E g m x O hI.1 u hI.2.2.2.2 hu (xs (i + 1)) (xs (i + 2)) (x + 145) hI.2.2.1) ml_L_219 rfl rfl ⟨Nat.le_of_ble_eq_true rfl, Nat.le_of_ble_eq_true rfl⟩ ⟨by omega, by omega, rfl, Nat.le_of_ble_eq_true rfl⟩ (fun v1 g1 m1 hp => ?_)
  obtain ⟨hv, hO1, hF1, hq1, hR5⟩ := hp
  subst hv
  have hJ := hI.lp hO1 hF1 (Or.inl rfl) hk
  refine r_istore hX dL_law_1674 (Nat.le_of_ble_eq_true rfl) rfl ?_
  refine r_aload_n hX dL_law_1676 rfl ?_
  refine r_aload_n hX dL_law_1677 rfl ?_
  refine r_iload hX dL_law_1678 rfl ?_
  refine r_iconst (v := 1) hX dL_law_1680 (by decide) ?_
  refine r_iadd hX dL_law_1681 ?_
  refine r_sld hX hs (j := i + 1) (nI_add i 1) (by omega) (by omega) dL_law_1682 ?_
  refine r_aload_n hX dL_law_1683 rfl ?_
  refine r_iload hX dL_law_1684 rfl ?_
  refine r_iconst (v := 2) hX dL_law_1686 (by decide) ?_
  refine r_iadd hX dL_law_1687 ?_
  refine r_sld hX hs (j := i + 2) (nI_add i 2) (by omega) (by omega) dL_law_1688 ?_
  refine r_callV hX dL_law_1689 (s_X8_gain E g1 m1 (x + 138) O hJ.2.1 u hJ.2.2.2.2 hu (xs (i + 1)) (xs (i + 2))) ml_L_221 rfl rfl hJ.2.1.1.1.1.1 rfl ⟨Nat.le_of_ble_eq_true rfl, Nat.le_of_ble_eq_true rfl⟩ ⟨by omega, by omega, rfl, Nat.le_of_ble_eq_true rfl⟩ (fun v1689 g1689 m1689 hp => ?_)
  obtain ⟨⟨w9, hv, hw9⟩, hg, hz0, hM, hMF⟩ := hp
  subst hv
  subst g1689
  refine r_istore hX dL_law_1692 (Nat.le_of_ble_eq_true rfl) rfl ?_
  refine r_aload_n hX dL_law_1694 rfl ?_
  refine r_callV hX dL_law_1695 (s_X8_thrown E g1 m1689 (x + 138) hM.1.1) ml_L_138 rfl rfl hM.1.1.1.1 rfl ⟨Nat.le_of_ble_eq_true rfl, Nat.le_of_ble_eq_true rfl⟩ ⟨by omega, by omega, rfl, Nat.le_of_ble_eq_true rfl⟩ (fun v1695 g1695 m1695 hp => ?_)
  obtain ⟨hv, hg, hm⟩ := hp
  subst v1695
  subst g1695
  subst m1695
  rw [hz0]
  refine r_iload hX dL_law_1698 rfl ?_
  refine r_icmp_eq (tgt := 1705) hX dL_law_1700 (by decide) (fun c1700 => ?_) (fun c1700 => ?_)
  · refine r_iload hX dL_law_1705 rfl ?_
    refine r_if_ne (tgt := 1722) hX dL_law_1707 (by decide) (fun c1707 => ?_) (fun c1707 => ?_)
    · refine r_goto (tgt := 2383) hX dL_law_1722 (by decide) ?_
      refine r_widen (cN' := cN + 25) (sN' := sN + 7500) (by omega) (by omega) ?_
      exact K _ _ _ _ _ _ _ (hJ.fin hM hMF (hI.2.2.2.2.same (qGain_st O (xs (i + 1)) (xs (i + 2)))))
    · refine r_aload_n hX dL_law_1710 rfl ?_
      refine r_iconst (v := 0) hX dL_law_1711 (by decide) ?_
      have hr0 := r0_of hR5 c1707
      refine r_laload hX dL_law_1712 hJ.2.2.1 (pk_in 0 1 (by decide)) ?_
      rw [show qJ m1689 (x + 145) (Int32.toNatClampNeg 0) = (qGain O (xs (i + 1)) (xs (i + 2))).2.1.toInt64 from (hMF.qJ _ _).trans (hq1 hr0)]
      refine r_iload hX dL_law_1713 rfl ?_
      rw [hw9 hr0]
      refine r_i2l hX dL_law_1715 ?_
      refine r_lcmp hX dL_law_1716 ?_
      rw [lg_self]
      refine r_if_eq (tgt := 1722) hX dL_law_1717 (by decide) (fun c1717 => ?_) (fun c1717 => ?_)
      · refine r_goto (tgt := 2383) hX dL_law_1722 (by decide) ?_
        refine r_widen (cN' := cN + 25) (sN' := sN + 7500) (by omega) (by omega) ?_
        exact K _ _ _ _ _ _ _ (hJ.fin hM hMF (hI.2.2.2.2.same (qGain_st O (xs (i + 1)) (xs (i + 2)))))
      · exact absurd rfl c1717
  · exact absurd rfl c1700
set_option maxRecDepth 20000 in
set_option maxHeartbeats 4000000 in
theorem s_B26 {E : qE} {X : qX} {Q : State → Prop} {g : qG} {m : qM} {cN sN : Nat} (hX : MC E yL_law cL_law 10 (some .boolean) 1475 603072 7182442 [] X) {b L x u i : Nat} {xs : Nat → Int32} {O : kO} {z6 z7 z8 z9 : Option Value} (hs : ScrX E X b L xs) (hL : L ≤ 2048) (hi : i + 4 ≤ L) (hI : LI x u O g m) (hu : u ≤ 6144) (hcN : cN + 25 ≤ 603072) (hsN : sN + 7500 ≤ 7182442) (K : ∀ (O' : kO) (g' : qG) (m' : qM) (z6 z7 z8 z9 : Option Value), LI x (u + 12) O' g' m' → WS E X (cN + 25) (sN + 7500) Q g' m' 2383 [some (.ref b), some (.ref x), some (.ref (x + 138)), some (.ref (x + 145)), some (.ref (x + 146)), some (.int (nI i)), z6, z7, z8, z9] []) : WS E X cN sN Q g m 1725 [some (.ref b), some (.ref x), some (.ref (x + 138)), some (.ref (x + 145)), some (.ref (x + 146)), some (.int (nI i)), z6, z7, z8, z9] [] := by
  refine r_known (fun hk => ?_)
  refine r_aload_n hX dL_law_1725 rfl ?_
  refine r_callV hX dL_law_1726 (s_X7_bestGain E g m x O hI.1 u hI.2.2.2.2 hu) ml_L_222 rfl rfl hI.1.1.1 rfl ⟨Nat.le_of_ble_eq_true rfl, Nat.le_of_ble_eq_true rfl⟩ ⟨by omega, by omega, rfl, Nat.le_of_ble_eq_true rfl⟩ (fun v1726 g1726 m1726 hp => ?_)
  obtain ⟨h0, hv, hO1, hF1⟩ := hp
  subst hv
  have hJ := hI.lx hO1 hF1 hk
  refine r_aload_n hX dL_law_1729 rfl ?_
  refine r_callV hX dL_law_1730 (s_X8_bestGain E g1726 m1726 (x + 138) O hJ.2.1 u hJ.2.2.2.2 hu) ml_L_225 rfl rfl hJ.2.1.1.1.1.1 rfl ⟨Nat.le_of_ble_eq_true rfl, Nat.le_of_ble_eq_true rfl⟩ ⟨by omega, by omega, rfl, Nat.le_of_ble_eq_true rfl⟩ (fun v1730 g1730 m1730 hp => ?_)
  rw [← kad_eq hI.2.2.2.2 hu] at hp
  obtain ⟨⟨w9, hv, hw9⟩, hg, hz0, hM, hMF⟩ := hp
  subst hv
  subst g1730
  refine r_icmp_eq (tgt := 2383) hX dL_law_1733 (by decide) (fun c1733 => ?_) (fun c1733 => ?_)
  · refine r_widen (cN' := cN + 25) (sN' := sN + 7500) (by omega) (by omega) ?_
    exact K _ _ _ _ _ _ _ (hJ.fin hM hMF (hI.2.2.2.2.same (qKad_st O)))
  · exact absurd (hw9 h0).symm c1733
set_option maxRecDepth 20000 in
set_option maxHeartbeats 4000000 in
theorem s_B27 {E : qE} {X : qX} {Q : State → Prop} {g : qG} {m : qM} {cN sN : Nat} (hX : MC E yL_law cL_law 10 (some .boolean) 1475 603072 7182442 [] X) {b L x u i : Nat} {xs : Nat → Int32} {O : kO} {z6 z7 z8 z9 : Option Value} (hs : ScrX E X b L xs) (hL : L ≤ 2048) (hi : i + 4 ≤ L) (hI : LI x u O g m) (hu : u ≤ 6144) (hcN : cN + 25 ≤ 603072) (hsN : sN + 7500 ≤ 7182442) (K : ∀ (O' : kO) (g' : qG) (m' : qM) (z6 z7 z8 z9 : Option Value), LI x (u + 12) O' g' m' → WS E X (cN + 25) (sN + 7500) Q g' m' 2383 [some (.ref b), some (.ref x), some (.ref (x + 138)), some (.ref (x + 145)), some (.ref (x + 146)), some (.int (nI i)), z6, z7, z8, z9] []) : WS E X cN sN Q g m 1738 [some (.ref b), some (.ref x), some (.ref (x + 138)), some (.ref (x + 145)), some (.ref (x + 146)), some (.int (nI i)), z6, z7, z8, z9] [] := by
  refine r_known (fun hk => ?_)
  refine r_aload_n hX dL_law_1738 rfl ?_
  refine r_callV hX dL_law_1739 (s_X7_bestGainByArcs E g m x O hI.1 u hI.2.2.2.2 hu) ml_L_226 rfl rfl hI.1.1.1 rfl ⟨Nat.le_of_ble_eq_true rfl, Nat.le_of_ble_eq_true rfl⟩ ⟨by omega, by omega, rfl, Nat.le_of_ble_eq_true rfl⟩ (fun v1739 g1739 m1739 hp => ?_)
  obtain ⟨h0, hv, hO1, hF1⟩ := hp
  subst hv
  have hJ := hI.lx hO1 hF1 hk
  refine r_aload_n hX dL_law_1742 rfl ?_
  refine r_callV hX dL_law_1743 (s_X8_bestGainByArcs E g1739 m1739 (x + 138) O hJ.2.1 u hJ.2.2.2.2 hu) ml_L_229 rfl rfl hJ.2.1.1.1.1.1 rfl ⟨Nat.le_of_ble_eq_true rfl, Nat.le_of_ble_eq_true rfl⟩ ⟨by omega, by omega, rfl, Nat.le_of_ble_eq_true rfl⟩ (fun v1743 g1743 m1743 hp => ?_)
  obtain ⟨⟨w9, hv, hw9⟩, hg, hz0, hM, hMF⟩ := hp
  subst hv
  subst g1743
  refine r_icmp_eq (tgt := 2383) hX dL_law_1746 (by decide) (fun c1746 => ?_) (fun c1746 => ?_)
  · refine r_widen (cN' := cN + 25) (sN' := sN + 7500) (by omega) (by omega) ?_
    exact K _ _ _ _ _ _ _ (hJ.fin hM hMF (hI.2.2.2.2.same (qArc_st O (gN O.1.2.2 (O.1.2.1 4) (qArcP O).1 (qArcP O).2))))
  · exact absurd (hw9 h0).symm c1746
set_option maxRecDepth 20000 in
set_option maxHeartbeats 4000000 in
theorem s_B28 {E : qE} {X : qX} {Q : State → Prop} {g : qG} {m : qM} {cN sN : Nat} (hX : MC E yL_law cL_law 10 (some .boolean) 1475 603072 7182442 [] X) {b L x u i : Nat} {xs : Nat → Int32} {O : kO} {z6 z7 z8 z9 : Option Value} (hs : ScrX E X b L xs) (hL : L ≤ 2048) (hi : i + 4 ≤ L) (hI : LI x u O g m) (hu : u ≤ 6144) (hcN : cN + 25 ≤ 603072) (hsN : sN + 7500 ≤ 7182442) (K : ∀ (O' : kO) (g' : qG) (m' : qM) (z6 z7 z8 z9 : Option Value), LI x (u + 12) O' g' m' → WS E X (cN + 25) (sN + 7500) Q g' m' 2383 [some (.ref b), some (.ref x), some (.ref (x + 138)), some (.ref (x + 145)), some (.ref (x + 146)), some (.int (nI i)), z6, z7, z8, z9] []) : WS E X cN sN Q g m 1751 [some (.ref b), some (.ref x), some (.ref (x + 138)), some (.ref (x + 145)), some (.ref (x + 146)), some (.int (nI i)), z6, z7, z8, z9] [] := by
  refine r_known (fun hk => ?_)
  refine r_aload_n hX dL_law_1751 rfl ?_
  refine r_callV hX dL_law_1752 (s_X7_bestStart E g m x O hI.1 u hI.2.2.2.2 hu) ml_L_230 rfl rfl hI.1.1.1 rfl ⟨Nat.le_of_ble_eq_true rfl, Nat.le_of_ble_eq_true rfl⟩ ⟨by omega, by omega, rfl, Nat.le_of_ble_eq_true rfl⟩ (fun v1752 g1752 m1752 hp => ?_)
  obtain ⟨h0, hv, hO1, hF1⟩ := hp
  subst hv
  have hJ := hI.lx hO1 hF1 hk
  refine r_aload_n hX dL_law_1755 rfl ?_
  refine r_callV hX dL_law_1756 (s_X8_bestStart E g1752 m1752 (x + 138) O hJ.2.1 u hJ.2.2.2.2 hu) ml_L_233 rfl rfl hJ.2.1.1.1.1.1 rfl ⟨Nat.le_of_ble_eq_true rfl, Nat.le_of_ble_eq_true rfl⟩ ⟨by omega, by omega, rfl, Nat.le_of_ble_eq_true rfl⟩ (fun v1756 g1756 m1756 hp => ?_)
  obtain ⟨⟨w9, hv, hw9⟩, hg, hz0, hM, hMF⟩ := hp
  subst hv
  subst g1756
  refine r_icmp_eq (tgt := 2383) hX dL_law_1759 (by decide) (fun c1759 => ?_) (fun c1759 => ?_)
  · refine r_widen (cN' := cN + 25) (sN' := sN + 7500) (by omega) (by omega) ?_
    exact K _ _ _ _ _ _ _ (hJ.fin hM hMF (hI.2.2.2.2.same (qArc_st O (nI (qArcP O).1))))
  · exact absurd (hw9 h0).symm c1759
set_option maxRecDepth 20000 in
set_option maxHeartbeats 4000000 in
theorem s_B29 {E : qE} {X : qX} {Q : State → Prop} {g : qG} {m : qM} {cN sN : Nat} (hX : MC E yL_law cL_law 10 (some .boolean) 1475 603072 7182442 [] X) {b L x u i : Nat} {xs : Nat → Int32} {O : kO} {z6 z7 z8 z9 : Option Value} (hs : ScrX E X b L xs) (hL : L ≤ 2048) (hi : i + 4 ≤ L) (hI : LI x u O g m) (hu : u ≤ 6144) (hcN : cN + 25 ≤ 603072) (hsN : sN + 7500 ≤ 7182442) (K : ∀ (O' : kO) (g' : qG) (m' : qM) (z6 z7 z8 z9 : Option Value), LI x (u + 12) O' g' m' → WS E X (cN + 25) (sN + 7500) Q g' m' 2383 [some (.ref b), some (.ref x), some (.ref (x + 138)), some (.ref (x + 145)), some (.ref (x + 146)), some (.int (nI i)), z6, z7, z8, z9] []) : WS E X cN sN Q g m 1764 [some (.ref b), some (.ref x), some (.ref (x + 138)), some (.ref (x + 145)), some (.ref (x + 146)), some (.int (nI i)), z6, z7, z8, z9] [] := by
  refine r_known (fun hk => ?_)
  refine r_aload_n hX dL_law_1764 rfl ?_
  refine r_callV hX dL_law_1765 (s_X7_bestPlaces E g m x O hI.1 u hI.2.2.2.2 hu) ml_L_234 rfl rfl hI.1.1.1 rfl ⟨Nat.le_of_ble_eq_true rfl, Nat.le_of_ble_eq_true rfl⟩ ⟨by omega, by omega, rfl, Nat.le_of_ble_eq_true rfl⟩ (fun v1765 g1765 m1765 hp => ?_)
  obtain ⟨h0, hv, hO1, hF1⟩ := hp
  subst hv
  have hJ := hI.lx hO1 hF1 hk
  refine r_aload_n hX dL_law_1768 rfl ?_
  refine r_callV hX dL_law_1769 (s_X8_bestPlaces E g1765 m1765 (x + 138) O hJ.2.1 u hJ.2.2.2.2 hu) ml_L_237 rfl rfl hJ.2.1.1.1.1.1 rfl ⟨Nat.le_of_ble_eq_true rfl, Nat.le_of_ble_eq_true rfl⟩ ⟨by omega, by omega, rfl, Nat.le_of_ble_eq_true rfl⟩ (fun v1769 g1769 m1769 hp => ?_)
  obtain ⟨⟨w9, hv, hw9⟩, hg, hz0, hM, hMF⟩ := hp
  subst hv
  subst g1769
  refine r_icmp_eq (tgt := 2383) hX dL_law_1772 (by decide) (fun c1772 => ?_) (fun c1772 => ?_)
  · refine r_widen (cN' := cN + 25) (sN' := sN + 7500) (by omega) (by omega) ?_
    exact K _ _ _ _ _ _ _ (hJ.fin hM hMF (hI.2.2.2.2.same (qArc_st O (nI (qArcP O).2))))
  · exact absurd (hw9 h0).symm c1772
set_option maxRecDepth 20000 in
set_option maxHeartbeats 4000000 in
theorem s_B30 {E : qE} {X : qX} {Q : State → Prop} {g : qG} {m : qM} {cN sN : Nat} (hX : MC E yL_law cL_law 10 (some .boolean) 1475 603072 7182442 [] X) {b L x u i : Nat} {xs : Nat → Int32} {O : kO} {z6 z7 z8 z9 : Option Value} (hs : ScrX E X b L xs) (hL : L ≤ 2048) (hi : i + 4 ≤ L) (hI : LI x u O g m) (hu : u ≤ 6144) (hcN : cN + 25 ≤ 603072) (hsN : sN + 7500 ≤ 7182442) (K : ∀ (O' : kO) (g' : qG) (m' : qM) (z6 z7 z8 z9 : Option Value), LI x (u + 12) O' g' m' → WS E X (cN + 25) (sN + 7500) Q g' m' 2383 [some (.ref b), some (.ref x), some (.ref (x + 138)), some (.ref (x + 145)), some (.ref (x + 146)), some (.int (nI i)), z6, z7, z8, z9] []) : WS E X cN sN Q g m 1777 [some (.ref b), some (.ref x), some (.ref (x + 138)), some (.ref (x + 145)), some (.ref (x + 146)), some (.int (nI i)), z6, z7, z8, z9] [] := by
  refine r_known (fun hk => ?_)
  refine r_aload_n hX dL_law_1777 rfl ?_
  refine r_callV hX dL_law_1778 (s_X7_day E g m x O hI.1 u hI.2.2.2.2 hu) ml_L_238 rfl rfl hI.1.1.1 rfl ⟨Nat.le_of_ble_eq_true rfl, Nat.le_of_ble_eq_true rfl⟩ ⟨by omega, by omega, rfl, Nat.le_of_ble_eq_true rfl⟩ (fun v1778 g1778 m1778 hp => ?_)
  obtain ⟨h0, hv, hO1, hF1⟩ := hp
  subst hv
  have hJ := hI.lx hO1 hF1 hk
  refine r_aload_n hX dL_law_1781 rfl ?_
  refine r_callV hX dL_law_1782 (s_X8_day E g1778 m1778 (x + 138) O hJ.2.1 u hJ.2.2.2.2 hu) ml_L_241 rfl rfl hJ.2.1.1.1.1.1 rfl ⟨Nat.le_of_ble_eq_true rfl, Nat.le_of_ble_eq_true rfl⟩ ⟨by omega, by omega, rfl, Nat.le_of_ble_eq_true rfl⟩ (fun v1782 g1782 m1782 hp => ?_)
  obtain ⟨⟨w9, hv, hw9⟩, hg, hz0, hM, hMF⟩ := hp
  subst hv
  subst g1782
  refine r_icmp_eq (tgt := 2383) hX dL_law_1785 (by decide) (fun c1785 => ?_) (fun c1785 => ?_)
  · refine r_widen (cN' := cN + 25) (sN' := sN + 7500) (by omega) (by omega) ?_
    exact K _ _ _ _ _ _ _ (hJ.fin hM hMF (hI.2.2.2.2.same (qNum_st O 2)))
  · exact absurd (hw9 h0).symm c1785
set_option maxRecDepth 20000 in
set_option maxHeartbeats 4000000 in
theorem s_B31 {E : qE} {X : qX} {Q : State → Prop} {g : qG} {m : qM} {cN sN : Nat} (hX : MC E yL_law cL_law 10 (some .boolean) 1475 603072 7182442 [] X) {b L x u i : Nat} {xs : Nat → Int32} {O : kO} {z6 z7 z8 z9 : Option Value} (hs : ScrX E X b L xs) (hL : L ≤ 2048) (hi : i + 4 ≤ L) (hI : LI x u O g m) (hu : u ≤ 6144) (hcN : cN + 25 ≤ 603072) (hsN : sN + 7500 ≤ 7182442) (K : ∀ (O' : kO) (g' : qG) (m' : qM) (z6 z7 z8 z9 : Option Value), LI x (u + 12) O' g' m' → WS E X (cN + 25) (sN + 7500) Q g' m' 2383 [some (.ref b), some (.ref x), some (.ref (x + 138)), some (.ref (x + 145)), some (.ref (x + 146)), some (.int (nI i)), z6, z7, z8, z9] []) : WS E X cN sN Q g m 1790 [some (.ref b), some (.ref x), some (.ref (x + 138)), some (.ref (x + 145)), some (.ref (x + 146)), some (.int (nI i)), z6, z7, z8, z9] [] := by
  refine r_known (fun hk => ?_)
  refine r_aload_n hX dL_law_1790 rfl ?_
  refine r_callV hX dL_law_1791 (s_X7_coins E g m x O hI.1 u hI.2.2.2.2 hu) ml_L_242 rfl rfl hI.1.1.1 rfl ⟨Nat.le_of_ble_eq_true rfl, Nat.le_of_ble_eq_true rfl⟩ ⟨by omega, by omega, rfl, Nat.le_of_ble_eq_true rfl⟩ (fun v1791 g1791 m1791 hp => ?_)
  obtain ⟨h0, hv, hO1, hF1⟩ := hp
  subst hv
  have hJ := hI.lx hO1 hF1 hk
  refine r_aload_n hX dL_law_1794 rfl ?_
  refine r_callV hX dL_law_1795 (s_X8_coins E g1791 m1791 (x + 138) O hJ.2.1 u hJ.2.2.2.2 hu) ml_L_245 rfl rfl hJ.2.1.1.1.1.1 rfl ⟨Nat.le_of_ble_eq_true rfl, Nat.le_of_ble_eq_true rfl⟩ ⟨by omega, by omega, rfl, Nat.le_of_ble_eq_true rfl⟩ (fun v1795 g1795 m1795 hp => ?_)
  obtain ⟨⟨w9, hv, hw9⟩, hg, hz0, hM, hMF⟩ := hp
  subst hv
  subst g1795
  refine r_icmp_eq (tgt := 2383) hX dL_law_1798 (by decide) (fun c1798 => ?_) (fun c1798 => ?_)
  · refine r_widen (cN' := cN + 25) (sN' := sN + 7500) (by omega) (by omega) ?_
    exact K _ _ _ _ _ _ _ (hJ.fin hM hMF (hI.2.2.2.2.same (qNum_st O 3)))
  · exact absurd (hw9 h0).symm c1798
set_option maxRecDepth 20000 in
set_option maxHeartbeats 4000000 in
theorem s_B32 {E : qE} {X : qX} {Q : State → Prop} {g : qG} {m : qM} {cN sN : Nat} (hX : MC E yL_law cL_law 10 (some .boolean) 1475 603072 7182442 [] X) {b L x u i : Nat} {xs : Nat → Int32} {O : kO} {z6 z7 z8 z9 : Option Value} (hs : ScrX E X b L xs) (hL : L ≤ 2048) (hi : i + 4 ≤ L) (hI : LI x u O g m) (hu : u ≤ 6144) (hcN : cN + 25 ≤ 603072) (hsN : sN + 7500 ≤ 7182442) (K : ∀ (O' : kO) (g' : qG) (m' : qM) (z6 z7 z8 z9 : Option Value), LI x (u + 12) O' g' m' → WS E X (cN + 25) (sN + 7500) Q g' m' 2383 [some (.ref b), some (.ref x), some (.ref (x + 138)), some (.ref (x + 145)), some (.ref (x + 146)), some (.int (nI i)), z6, z7, z8, z9] []) : WS E X cN sN Q g m 1803 [some (.ref b), some (.ref x), some (.ref (x + 138)), some (.ref (x + 145)), some (.ref (x + 146)), some (.int (nI i)), z6, z7, z8, z9] [] := by
  refine r_known (fun hk => ?_)
  refine r_aload_n hX dL_law_1803 rfl ?_
  refine r_callV hX dL_law_1804 (s_X7_rate E g m x O hI.1 u hI.2.2.2.2 hu) ml_L_246 rfl rfl hI.1.1.1 rfl ⟨Nat.le_of_ble_eq_true rfl, Nat.le_of_ble_eq_true rfl⟩ ⟨by omega, by omega, rfl, Nat.le_of_ble_eq_true rfl⟩ (fun v1804 g1804 m1804 hp => ?_)
  obtain ⟨h0, hv, hO1, hF1⟩ := hp
  subst hv
  have hJ := hI.lx hO1 hF1 hk
  refine r_aload_n hX dL_law_1807 rfl ?_
  refine r_callV hX dL_law_1808 (s_X8_rate E g1804 m1804 (x + 138) O hJ.2.1 u hJ.2.2.2.2 hu) ml_L_249 rfl rfl hJ.2.1.1.1.1.1 rfl ⟨Nat.le_of_ble_eq_true rfl, Nat.le_of_ble_eq_true rfl⟩ ⟨by omega, by omega, rfl, Nat.le_of_ble_eq_true rfl⟩ (fun v1808 g1808 m1808 hp => ?_)
  obtain ⟨⟨w9, hv, hw9⟩, hg, hz0, hM, hMF⟩ := hp
  subst hv
  subst g1808
  refine r_icmp_eq (tgt := 2383) hX dL_law_1811 (by decide) (fun c1811 => ?_) (fun c1811 => ?_)
  · refine r_widen (cN' := cN + 25) (sN' := sN + 7500) (by omega) (by omega) ?_
    exact K _ _ _ _ _ _ _ (hJ.fin hM hMF (hI.2.2.2.2.same (qNum_st O 4)))
  · exact absurd (hw9 h0).symm c1811
set_option maxRecDepth 20000 in
set_option maxHeartbeats 4000000 in
theorem s_B33 {E : qE} {X : qX} {Q : State → Prop} {g : qG} {m : qM} {cN sN : Nat} (hX : MC E yL_law cL_law 10 (some .boolean) 1475 603072 7182442 [] X) {b L x u i : Nat} {xs : Nat → Int32} {O : kO} {z6 z7 z8 z9 : Option Value} (hs : ScrX E X b L xs) (hL : L ≤ 2048) (hi : i + 4 ≤ L) (hI : LI x u O g m) (hu : u ≤ 6144) (hcN : cN + 25 ≤ 603072) (hsN : sN + 7500 ≤ 7182442) (K : ∀ (O' : kO) (g' : qG) (m' : qM) (z6 z7 z8 z9 : Option Value), LI x (u + 12) O' g' m' → WS E X (cN + 25) (sN + 7500) Q g' m' 2383 [some (.ref b), some (.ref x), some (.ref (x + 138)), some (.ref (x + 145)), some (.ref (x + 146)), some (.int (nI i)), z6, z7, z8, z9] []) : WS E X cN sN Q g m 1816 [some (.ref b), some (.ref x), some (.ref (x + 138)), some (.ref (x + 145)), some (.ref (x + 146)), some (.int (nI i)), z6, z7, z8, z9] [] := by
  refine r_known (fun hk => ?_)
  refine r_aload_n hX dL_law_1816 rfl ?_
  refine r_callV hX dL_law_1817 (s_X7_dustTotal E g m x O hI.1 u hI.2.2.2.2 hu) ml_L_250 rfl rfl hI.1.1.1 rfl ⟨Nat.le_of_ble_eq_true rfl, Nat.le_of_ble_eq_true rfl⟩ ⟨by omega, by omega, rfl, Nat.le_of_ble_eq_true rfl⟩ (fun v1817 g1817 m1817 hp => ?_)
  obtain ⟨h0, hv, hO1, hF1⟩ := hp
  subst hv
  have hJ := hI.lx hO1 hF1 hk
  refine r_aload_n hX dL_law_1820 rfl ?_
  refine r_callV hX dL_law_1821 (s_X8_dustTotal E g1817 m1817 (x + 138) O hJ.2.1 u hJ.2.2.2.2 hu) ml_L_253 rfl rfl hJ.2.1.1.1.1.1 rfl ⟨Nat.le_of_ble_eq_true rfl, Nat.le_of_ble_eq_true rfl⟩ ⟨by omega, by omega, rfl, Nat.le_of_ble_eq_true rfl⟩ (fun v1821 g1821 m1821 hp => ?_)
  obtain ⟨⟨w9, hv, hw9⟩, hg, hz0, hM, hMF⟩ := hp
  subst hv
  subst g1821
  refine r_icmp_eq (tgt := 2383) hX dL_law_1824 (by decide) (fun c1824 => ?_) (fun c1824 => ?_)
  · refine r_widen (cN' := cN + 25) (sN' := sN + 7500) (by omega) (by omega) ?_
    exact K _ _ _ _ _ _ _ (hJ.fin hM hMF (hI.2.2.2.2.same (qTot_st O)))
  · exact absurd (hw9 h0).symm c1824
set_option maxRecDepth 20000 in
set_option maxHeartbeats 4000000 in
theorem s_B34 {E : qE} {X : qX} {Q : State → Prop} {g : qG} {m : qM} {cN sN : Nat} (hX : MC E yL_law cL_law 10 (some .boolean) 1475 603072 7182442 [] X) {b L x u i : Nat} {xs : Nat → Int32} {O : kO} {z6 z7 z8 z9 : Option Value} (hs : ScrX E X b L xs) (hL : L ≤ 2048) (hi : i + 4 ≤ L) (hI : LI x u O g m) (hu : u ≤ 6144) (hcN : cN + 25 ≤ 603072) (hsN : sN + 7500 ≤ 7182442) (K : ∀ (O' : kO) (g' : qG) (m' : qM) (z6 z7 z8 z9 : Option Value), LI x (u + 12) O' g' m' → WS E X (cN + 25) (sN + 7500) Q g' m' 2383 [some (.ref b), some (.ref x), some (.ref (x + 138)), some (.ref (x + 145)), some (.ref (x + 146)), some (.int (nI i)), z6, z7, z8, z9] []) : WS E X cN sN Q g m 1829 [some (.ref b), some (.ref x), some (.ref (x + 138)), some (.ref (x + 145)), some (.ref (x + 146)), some (.int (nI i)), z6, z7, z8, z9] [] := by
  refine r_known (fun hk => ?_)
  refine r_aload_n hX dL_law_1829 rfl ?_
  refine r_callV hX dL_law_1830 (s_X7_dustByAccounts E g m x O hI.1 u hI.2.2.2.2 hu) ml_L_254 rfl rfl hI.1.1.1 rfl ⟨Nat.le_of_ble_eq_true rfl, Nat.le_of_ble_eq_true rfl⟩ ⟨by omega, by omega, rfl, Nat.le_of_ble_eq_true rfl⟩ (fun v1830 g1830 m1830 hp => ?_)
  obtain ⟨h0, hv, hO1, hF1⟩ := hp
  subst hv
  have hJ := hI.lx hO1 hF1 hk
  refine r_aload_n hX dL_law_1833 rfl ?_
  refine r_callV hX dL_law_1834 (s_X8_dustByAccounts E g1830 m1830 (x + 138) O hJ.2.1 u hJ.2.2.2.2 hu) ml_L_257 rfl rfl hJ.2.1.1.1.1.1 rfl ⟨Nat.le_of_ble_eq_true rfl, Nat.le_of_ble_eq_true rfl⟩ ⟨by omega, by omega, rfl, Nat.le_of_ble_eq_true rfl⟩ (fun v1834 g1834 m1834 hp => ?_)
  obtain ⟨⟨w9, hv, hw9⟩, hg, hz0, hM, hMF⟩ := hp
  subst hv
  subst g1834
  refine r_icmp_eq (tgt := 2383) hX dL_law_1837 (by decide) (fun c1837 => ?_) (fun c1837 => ?_)
  · refine r_widen (cN' := cN + 25) (sN' := sN + 7500) (by omega) (by omega) ?_
    exact K _ _ _ _ _ _ _ (hJ.fin hM hMF (hI.2.2.2.2.same (qTot_st O)))
  · exact absurd (hw9 h0).symm c1837
set_option maxRecDepth 20000 in
set_option maxHeartbeats 4000000 in
theorem s_B35 {E : qE} {X : qX} {Q : State → Prop} {g : qG} {m : qM} {cN sN : Nat} (hX : MC E yL_law cL_law 10 (some .boolean) 1475 603072 7182442 [] X) {b L x u i : Nat} {xs : Nat → Int32} {O : kO} {z6 z7 z8 z9 : Option Value} (hs : ScrX E X b L xs) (hL : L ≤ 2048) (hi : i + 4 ≤ L) (hI : LI x u O g m) (hu : u ≤ 6144) (hcN : cN + 25 ≤ 603072) (hsN : sN + 7500 ≤ 7182442) (K : ∀ (O' : kO) (g' : qG) (m' : qM) (z6 z7 z8 z9 : Option Value), LI x (u + 12) O' g' m' → WS E X (cN + 25) (sN + 7500) Q g' m' 2383 [some (.ref b), some (.ref x), some (.ref (x + 138)), some (.ref (x + 145)), some (.ref (x + 146)), some (.int (nI i)), z6, z7, z8, z9] []) : WS E X cN sN Q g m 1842 [some (.ref b), some (.ref x), some (.ref (x + 138)), some (.ref (x + 145)), some (.ref (x + 146)), some (.int (nI i)), z6, z7, z8, z9] [] := by
  refine r_known (fun hk => ?_)
  refine r_aload_n hX dL_law_1842 rfl ?_
  refine r_callV hX dL_law_1843 (s_X7_passTotal E g m x O hI.1 u hI.2.2.2.2 hu) ml_L_258 rfl rfl hI.1.1.1 rfl ⟨Nat.le_of_ble_eq_true rfl, Nat.le_of_ble_eq_true rfl⟩ ⟨by omega, by omega, rfl, Nat.le_of_ble_eq_true rfl⟩ (fun v1843 g1843 m1843 hp => ?_)
  obtain ⟨h0, hv, hO1, hF1⟩ := hp
  subst hv
  have hJ := hI.lx hO1 hF1 hk
  refine r_aload_n hX dL_law_1846 rfl ?_
  refine r_callV hX dL_law_1847 (s_X8_passTotal E g1843 m1843 (x + 138) O hJ.2.1 u hJ.2.2.2.2 hu) ml_L_261 rfl rfl hJ.2.1.1.1.1.1 rfl ⟨Nat.le_of_ble_eq_true rfl, Nat.le_of_ble_eq_true rfl⟩ ⟨by omega, by omega, rfl, Nat.le_of_ble_eq_true rfl⟩ (fun v1847 g1847 m1847 hp => ?_)
  obtain ⟨⟨w9, hv, hw9⟩, hg, hz0, hM, hMF⟩ := hp
  subst hv
  subst g1847
  refine r_icmp_eq (tgt := 2383) hX dL_law_1850 (by decide) (fun c1850 => ?_) (fun c1850 => ?_)
  · refine r_widen (cN' := cN + 25) (sN' := sN + 7500) (by omega) (by omega) ?_
    exact K _ _ _ _ _ _ _ (hJ.fin hM hMF (hI.2.2.2.2.same (qNum_st O 5)))
  · exact absurd (hw9 h0).symm c1850
set_option maxRecDepth 20000 in
set_option maxHeartbeats 4000000 in
theorem s_B36 {E : qE} {X : qX} {Q : State → Prop} {g : qG} {m : qM} {cN sN : Nat} (hX : MC E yL_law cL_law 10 (some .boolean) 1475 603072 7182442 [] X) {b L x u i : Nat} {xs : Nat → Int32} {O : kO} {z6 z7 z8 z9 : Option Value} (hs : ScrX E X b L xs) (hL : L ≤ 2048) (hi : i + 4 ≤ L) (hI : LI x u O g m) (hu : u ≤ 6144) (hcN : cN + 25 ≤ 603072) (hsN : sN + 7500 ≤ 7182442) (K : ∀ (O' : kO) (g' : qG) (m' : qM) (z6 z7 z8 z9 : Option Value), LI x (u + 12) O' g' m' → WS E X (cN + 25) (sN + 7500) Q g' m' 2383 [some (.ref b), some (.ref x), some (.ref (x + 138)), some (.ref (x + 145)), some (.ref (x + 146)), some (.int (nI i)), z6, z7, z8, z9] []) : WS E X cN sN Q g m 1855 [some (.ref b), some (.ref x), some (.ref (x + 138)), some (.ref (x + 145)), some (.ref (x + 146)), some (.int (nI i)), z6, z7, z8, z9] [] := by
  refine r_known (fun hk => ?_)
  refine r_aload_n hX dL_law_1855 rfl ?_
  refine r_callV hX dL_law_1856 (s_X7_burntTotal E g m x O hI.1 u hI.2.2.2.2 hu) ml_L_262 rfl rfl hI.1.1.1 rfl ⟨Nat.le_of_ble_eq_true rfl, Nat.le_of_ble_eq_true rfl⟩ ⟨by omega, by omega, rfl, Nat.le_of_ble_eq_true rfl⟩ (fun v1856 g1856 m1856 hp => ?_)
  obtain ⟨h0, hv, hO1, hF1⟩ := hp
  subst hv
  have hJ := hI.lx hO1 hF1 hk
  refine r_aload_n hX dL_law_1859 rfl ?_
  refine r_callV hX dL_law_1860 (s_X8_burntTotal E g1856 m1856 (x + 138) O hJ.2.1 u hJ.2.2.2.2 hu) ml_L_265 rfl rfl hJ.2.1.1.1.1.1 rfl ⟨Nat.le_of_ble_eq_true rfl, Nat.le_of_ble_eq_true rfl⟩ ⟨by omega, by omega, rfl, Nat.le_of_ble_eq_true rfl⟩ (fun v1860 g1860 m1860 hp => ?_)
  obtain ⟨⟨w9, hv, hw9⟩, hg, hz0, hM, hMF⟩ := hp
  subst hv
  subst g1860
  refine r_icmp_eq (tgt := 2383) hX dL_law_1863 (by decide) (fun c1863 => ?_) (fun c1863 => ?_)
  · refine r_widen (cN' := cN + 25) (sN' := sN + 7500) (by omega) (by omega) ?_
    exact K _ _ _ _ _ _ _ (hJ.fin hM hMF (hI.2.2.2.2.same (qNum_st O 6)))
  · exact absurd (hw9 h0).symm c1863
set_option maxRecDepth 20000 in
set_option maxHeartbeats 4000000 in
theorem s_B37 {E : qE} {X : qX} {Q : State → Prop} {g : qG} {m : qM} {cN sN : Nat} (hX : MC E yL_law cL_law 10 (some .boolean) 1475 603072 7182442 [] X) {b L x u i : Nat} {xs : Nat → Int32} {O : kO} {z6 z7 z8 z9 : Option Value} (hs : ScrX E X b L xs) (hL : L ≤ 2048) (hi : i + 4 ≤ L) (hI : LI x u O g m) (hu : u ≤ 6144) (hcN : cN + 25 ≤ 603072) (hsN : sN + 7500 ≤ 7182442) (K : ∀ (O' : kO) (g' : qG) (m' : qM) (z6 z7 z8 z9 : Option Value), LI x (u + 12) O' g' m' → WS E X (cN + 25) (sN + 7500) Q g' m' 2383 [some (.ref b), some (.ref x), some (.ref (x + 138)), some (.ref (x + 145)), some (.ref (x + 146)), some (.int (nI i)), z6, z7, z8, z9] []) : WS E X cN sN Q g m 1868 [some (.ref b), some (.ref x), some (.ref (x + 138)), some (.ref (x + 145)), some (.ref (x + 146)), some (.int (nI i)), z6, z7, z8, z9] [] := by
  refine r_known (fun hk => ?_)
  refine r_aload_n hX dL_law_1868 rfl ?_
  refine r_aload hX dL_law_1869 rfl ?_
  refine r_callH hX dL_law_1871 (s_L_meanBrightness E g m x O hI.1 u hI.2.2.2.2 hu (x + 146) hI.2.2.2.1) ml_L_266 rfl rfl ⟨Nat.le_of_ble_eq_true rfl, Nat.le_of_ble_eq_true rfl⟩ ⟨by omega, by omega, rfl, Nat.le_of_ble_eq_true rfl⟩ (fun v1 g1 m1 hp => ?_)
  obtain ⟨hv, hO1, hF1, hq1, hR5⟩ := hp
  subst hv
  have hJ := hI.lp hO1 hF1 (Or.inr rfl) hk
  refine r_istore hX dL_law_1874 (Nat.le_of_ble_eq_true rfl) rfl ?_
  refine r_aload_n hX dL_law_1876 rfl ?_
  refine r_callV hX dL_law_1877 (s_X8_meanBrightness E g1 m1 (x + 138) O hJ.2.1 u hJ.2.2.2.2 hu) ml_L_269 rfl rfl hJ.2.1.1.1.1.1 rfl ⟨Nat.le_of_ble_eq_true rfl, Nat.le_of_ble_eq_true rfl⟩ ⟨by omega, by omega, rfl, Nat.le_of_ble_eq_true rfl⟩ (fun v1877 g1877 m1877 hp => ?_)
  obtain ⟨hp, w9, hv⟩ := hp
  obtain ⟨hw9, hg, hz0, hM, hMF⟩ := hp
  subst hv
  subst g1877
  refine r_dstore hX dL_law_1880 (Nat.le_of_ble_eq_true rfl) rfl ?_
  refine r_aload_n hX dL_law_1882 rfl ?_
  refine r_callV hX dL_law_1883 (s_X8_thrown E g1 m1877 (x + 138) hM.1.1) ml_L_138 rfl rfl hM.1.1.1.1 rfl ⟨Nat.le_of_ble_eq_true rfl, Nat.le_of_ble_eq_true rfl⟩ ⟨by omega, by omega, rfl, Nat.le_of_ble_eq_true rfl⟩ (fun v1883 g1883 m1883 hp => ?_)
  obtain ⟨hv, hg, hm⟩ := hp
  subst v1883
  subst g1883
  subst m1883
  rw [hz0]
  refine r_iload hX dL_law_1886 rfl ?_
  refine r_icmp_eq (tgt := 1893) hX dL_law_1888 (by decide) (fun c1888 => ?_) (fun c1888 => ?_)
  · refine r_iload hX dL_law_1893 rfl ?_
    refine r_if_ne (tgt := 1930) hX dL_law_1895 (by decide) (fun c1895 => ?_) (fun c1895 => ?_)
    · refine r_goto (tgt := 2383) hX dL_law_1930 (by decide) ?_
      refine r_widen (cN' := cN + 25) (sN' := sN + 7500) (by omega) (by omega) ?_
      exact K _ _ _ _ _ _ _ (hJ.fin hM hMF (hI.2.2.2.2.same (qMea_st O)))
    · refine r_aload hX dL_law_1898 rfl ?_
      refine r_iconst (v := 0) hX dL_law_1900 (by decide) ?_
      have hr0 := r0_of hR5 c1895
      have e9 : w9 = qD m1 (x + 146) 0 := Value.double.inj (Option.some.inj ((hw9 hr0).trans (congrArg some (hq1 hr0))))
      refine r_daload hX dL_law_1901 hJ.2.2.2.1 (pk_in 0 1 (by decide)) ?_
      rw [show qD m1877 (x + 146) (Int32.toNatClampNeg 0) = w9 from (hMF.qD _ _).trans e9.symm]
      refine r_dload hX dL_law_1902 rfl ?_
      refine r_dcmp hX dL_law_1904 ?_
      refine r_if_eq (tgt := 1930) hX dL_law_1905 (by decide) (fun c1905 => ?_) (fun c1905 => ?_)
      · refine r_goto (tgt := 2383) hX dL_law_1930 (by decide) ?_
        refine r_widen (cN' := cN + 25) (sN' := sN + 7500) (by omega) (by omega) ?_
        exact K _ _ _ _ _ _ _ (hJ.fin hM hMF (hI.2.2.2.2.same (qMea_st O)))
      · refine r_aload hX dL_law_1908 rfl ?_
        refine r_iconst (v := 0) hX dL_law_1910 (by decide) ?_
        refine r_daload hX dL_law_1911 hJ.2.2.2.1 (pk_in 0 1 (by decide)) ?_
        rw [show qD m1877 (x + 146) (Int32.toNatClampNeg 0) = w9 from (hMF.qD _ _).trans e9.symm]
        refine r_aload hX dL_law_1912 rfl ?_
        refine r_iconst (v := 0) hX dL_law_1914 (by decide) ?_
        refine r_daload hX dL_law_1915 hJ.2.2.2.1 (pk_in 0 1 (by decide)) ?_
        rw [show qD m1877 (x + 146) (Int32.toNatClampNeg 0) = w9 from (hMF.qD _ _).trans e9.symm]
        refine r_dcmp hX dL_law_1916 ?_
        refine r_if_eq (tgt := 1928) hX dL_law_1917 (by decide) (fun c1917 => ?_) (fun c1917 => ?_)
        · exact absurd c1917 c1905
        · refine r_dload hX dL_law_1920 rfl ?_
          refine r_dload hX dL_law_1922 rfl ?_
          refine r_dcmp hX dL_law_1924 ?_
          refine r_if_ne (tgt := 1930) hX dL_law_1925 (by decide) (fun c1925 => ?_) (fun c1925 => ?_)
          · refine r_goto (tgt := 2383) hX dL_law_1930 (by decide) ?_
            refine r_widen (cN' := cN + 25) (sN' := sN + 7500) (by omega) (by omega) ?_
            exact K _ _ _ _ _ _ _ (hJ.fin hM hMF (hI.2.2.2.2.same (qMea_st O)))
          · exact absurd c1925 c1905
  · exact absurd rfl c1888
def nb64s (s : Nat) : Bool := decide (FP.f2d (FP.fdiv (FP.i2f (nI s)) 1094713344) &&& 0x7fffffffffffffff ≤ 0x7ff0000000000000)
theorem nb64s_all : (List.range 13).all (fun s => nb64s s) = true := by decide +kernel
theorem n64_share {s : Nat} (hs : s < 13) : vf_n64 (FP.f2d (FP.fdiv (FP.i2f (nI s)) 1094713344)) := by
  have h2 := List.all_eq_true.mp nb64s_all s (List.mem_range.mpr hs)
  unfold vf_n64
  unfold nb64s at h2
  exact of_decide_eq_true h2
set_option maxRecDepth 20000 in
set_option maxHeartbeats 4000000 in
theorem s_B38 {E : qE} {X : qX} {Q : State → Prop} {g : qG} {m : qM} {cN sN : Nat} (hX : MC E yL_law cL_law 10 (some .boolean) 1475 603072 7182442 [] X) {b L x u i : Nat} {xs : Nat → Int32} {O : kO} {z6 z7 z8 z9 : Option Value} (hs : ScrX E X b L xs) (hL : L ≤ 2048) (hi : i + 4 ≤ L) (hI : LI x u O g m) (hu : u ≤ 6144) (hcN : cN + 25 ≤ 603072) (hsN : sN + 7500 ≤ 7182442) (K : ∀ (O' : kO) (g' : qG) (m' : qM) (z6 z7 z8 z9 : Option Value), LI x (u + 12) O' g' m' → WS E X (cN + 25) (sN + 7500) Q g' m' 2383 [some (.ref b), some (.ref x), some (.ref (x + 138)), some (.ref (x + 145)), some (.ref (x + 146)), some (.int (nI i)), z6, z7, z8, z9] []) : WS E X cN sN Q g m 1933 [some (.ref b), some (.ref x), some (.ref (x + 138)), some (.ref (x + 145)), some (.ref (x + 146)), some (.int (nI i)), z6, z7, z8, z9] [] := by
  refine r_known (fun hk => ?_)
  refine r_aload_n hX dL_law_1933 rfl ?_
  refine r_callV hX dL_law_1934 (s_X7_dustyShare E g m x O hI.1 u hI.2.2.2.2 hu) ml_L_270 rfl rfl hI.1.1.1 rfl ⟨Nat.le_of_ble_eq_true rfl, Nat.le_of_ble_eq_true rfl⟩ ⟨by omega, by omega, rfl, Nat.le_of_ble_eq_true rfl⟩ (fun v1934 g1934 m1934 hp => ?_)
  obtain ⟨h0, hv, hO1, hF1⟩ := hp
  subst hv
  have hJ := hI.lx hO1 hF1 hk
  refine r_f2d hX dL_law_1937 (n64_share (by have := dusV_le O.1.2.2 12; omega)) ?_
  refine r_dstore hX dL_law_1938 (Nat.le_of_ble_eq_true rfl) rfl ?_
  refine r_aload_n hX dL_law_1940 rfl ?_
  refine r_callV hX dL_law_1941 (s_X8_dustyShare E g1934 m1934 (x + 138) O hJ.2.1 u hJ.2.2.2.2 hu) ml_L_274 rfl rfl hJ.2.1.1.1.1.1 rfl ⟨Nat.le_of_ble_eq_true rfl, Nat.le_of_ble_eq_true rfl⟩ ⟨by omega, by omega, rfl, Nat.le_of_ble_eq_true rfl⟩ (fun v1941 g1941 m1941 hp => ?_)
  obtain ⟨hv, hg, hz0, hM, hMF⟩ := hp
  have hv := hv rfl
  subst hv
  subst g1941
  refine r_f2d hX dL_law_1944 (n64_share (by have := dusV_le O.1.2.2 12; omega)) ?_
  refine r_dstore hX dL_law_1945 (Nat.le_of_ble_eq_true rfl) rfl ?_
  refine r_dload hX dL_law_1947 rfl ?_
  refine r_dload hX dL_law_1949 rfl ?_
  refine r_dcmp hX dL_law_1951 ?_
  refine r_if_eq (tgt := 1973) hX dL_law_1952 (by decide) (fun c1952 => ?_) (fun c1952 => ?_)
  · refine r_goto (tgt := 2383) hX dL_law_1973 (by decide) ?_
    refine r_widen (cN' := cN + 25) (sN' := sN + 7500) (by omega) (by omega) ?_
    exact K _ _ _ _ _ _ _ (hJ.fin hM hMF (hI.2.2.2.2.same (qSha_st O)))
  · refine r_dload hX dL_law_1955 rfl ?_
    refine r_dload hX dL_law_1957 rfl ?_
    refine r_dcmp hX dL_law_1959 ?_
    refine r_if_eq (tgt := 1971) hX dL_law_1960 (by decide) (fun c1960 => ?_) (fun c1960 => ?_)
    · exact absurd c1960 c1952
    · refine r_dload hX dL_law_1963 rfl ?_
      refine r_dload hX dL_law_1965 rfl ?_
      refine r_dcmp hX dL_law_1967 ?_
      refine r_if_ne (tgt := 1973) hX dL_law_1968 (by decide) (fun c1968 => ?_) (fun c1968 => ?_)
      · refine r_goto (tgt := 2383) hX dL_law_1973 (by decide) ?_
        refine r_widen (cN' := cN + 25) (sN' := sN + 7500) (by omega) (by omega) ?_
        exact K _ _ _ _ _ _ _ (hJ.fin hM hMF (hI.2.2.2.2.same (qSha_st O)))
      · exact absurd c1968 c1952
set_option maxRecDepth 20000 in
set_option maxHeartbeats 4000000 in
theorem s_B39 {E : qE} {X : qX} {Q : State → Prop} {g : qG} {m : qM} {cN sN : Nat} (hX : MC E yL_law cL_law 10 (some .boolean) 1475 603072 7182442 [] X) {b L x u i : Nat} {xs : Nat → Int32} {O : kO} {z6 z7 z8 z9 : Option Value} (hs : ScrX E X b L xs) (hL : L ≤ 2048) (hi : i + 4 ≤ L) (hI : LI x u O g m) (hu : u ≤ 6144) (hcN : cN + 25 ≤ 603072) (hsN : sN + 7500 ≤ 7182442) (K : ∀ (O' : kO) (g' : qG) (m' : qM) (z6 z7 z8 z9 : Option Value), LI x (u + 12) O' g' m' → WS E X (cN + 25) (sN + 7500) Q g' m' 2383 [some (.ref b), some (.ref x), some (.ref (x + 138)), some (.ref (x + 145)), some (.ref (x + 146)), some (.int (nI i)), z6, z7, z8, z9] []) : WS E X cN sN Q g m 1976 [some (.ref b), some (.ref x), some (.ref (x + 138)), some (.ref (x + 145)), some (.ref (x + 146)), some (.int (nI i)), z6, z7, z8, z9] [] := by
  refine r_known (fun hk => ?_)
  refine r_aload_n hX dL_law_1976 rfl ?_
  refine r_callV hX dL_law_1977 (s_X7_isConsistent E g m x O hI.1 u hI.2.2.2.2 hu) ml_L_275 rfl rfl hI.1.1.1 rfl ⟨Nat.le_of_ble_eq_true rfl, Nat.le_of_ble_eq_true rfl⟩ ⟨by omega, by omega, rfl, Nat.le_of_ble_eq_true rfl⟩ (fun v1977 g1977 m1977 hp => ?_)
  obtain ⟨h0, hv, hO1, hF1⟩ := hp
  subst hv
  have hJ := hI.lx hO1 hF1 hk
  refine r_aload_n hX dL_law_1980 rfl ?_
  refine r_callV hX dL_law_1981 (s_X8_isConsistent E g1977 m1977 (x + 138) O hJ.2.1 u hJ.2.2.2.2 hu) ml_L_279 rfl rfl hJ.2.1.1.1.1.1 rfl ⟨Nat.le_of_ble_eq_true rfl, Nat.le_of_ble_eq_true rfl⟩ ⟨by omega, by omega, rfl, Nat.le_of_ble_eq_true rfl⟩ (fun v1981 g1981 m1981 hp => ?_)
  obtain ⟨⟨w9, hv, hw9⟩, hg, hz0, hM, hMF⟩ := hp
  subst hv
  subst g1981
  refine r_icmp_eq (tgt := 2383) hX dL_law_1984 (by decide) (fun c1984 => ?_) (fun c1984 => ?_)
  · refine r_widen (cN' := cN + 25) (sN' := sN + 7500) (by omega) (by omega) ?_
    exact K _ _ _ _ _ _ _ (hJ.fin hM hMF (hI.2.2.2.2.same (qCon_st O)))
  · exact absurd (hw9 h0).symm c1984
set_option maxRecDepth 20000 in
set_option maxHeartbeats 4000000 in
theorem s_B40 {E : qE} {X : qX} {Q : State → Prop} {g : qG} {m : qM} {cN sN : Nat} (hX : MC E yL_law cL_law 10 (some .boolean) 1475 603072 7182442 [] X) {b L x u i : Nat} {xs : Nat → Int32} {O : kO} {z6 z7 z8 z9 : Option Value} (hs : ScrX E X b L xs) (hL : L ≤ 2048) (hi : i + 4 ≤ L) (hI : LI x u O g m) (hu : u ≤ 6144) (hcN : cN + 25 ≤ 603072) (hsN : sN + 7500 ≤ 7182442) (K : ∀ (O' : kO) (g' : qG) (m' : qM) (z6 z7 z8 z9 : Option Value), LI x (u + 12) O' g' m' → WS E X (cN + 25) (sN + 7500) Q g' m' 2383 [some (.ref b), some (.ref x), some (.ref (x + 138)), some (.ref (x + 145)), some (.ref (x + 146)), some (.int (nI i)), z6, z7, z8, z9] []) : WS E X cN sN Q g m 1989 [some (.ref b), some (.ref x), some (.ref (x + 138)), some (.ref (x + 145)), some (.ref (x + 146)), some (.int (nI i)), z6, z7, z8, z9] [] := by
  refine r_known (fun hk => ?_)
  refine r_aload_n hX dL_law_1989 rfl ?_
  refine r_aload_n hX dL_law_1990 rfl ?_
  refine r_iload hX dL_law_1991 rfl ?_
  refine r_iconst (v := 1) hX dL_law_1993 (by decide) ?_
  refine r_iadd hX dL_law_1994 ?_
  refine r_sld hX hs (j := i + 1) (nI_add i 1) (by omega) (by omega) dL_law_1995 ?_
  refine r_i2c hX dL_law_1996 ?_
  rw [pk_char]
  refine r_aload_n hX dL_law_1997 rfl ?_
  refine r_callH hX dL_law_1998 (s_L_append E g m x O hI.1 u hI.2.2.2.2 hu ((xs (i + 1)).toBitVec.toNat % 65536) (Nat.mod_lt _ (by decide)) (x + 145) hI.2.2.1) ml_L_280 rfl rfl ⟨Nat.le_of_ble_eq_true rfl, Nat.le_of_ble_eq_true rfl⟩ ⟨by omega, by omega, rfl, Nat.le_of_ble_eq_true rfl⟩ (fun v1 g1 m1 hp => ?_)
  obtain ⟨hv, hO1, hF1, hq1, hR5⟩ := hp
  subst hv
  have hJ := hI.lp hO1 hF1 (Or.inl rfl) hk
  refine r_istore hX dL_law_2001 (Nat.le_of_ble_eq_true rfl) rfl ?_
  refine r_aload_n hX dL_law_2003 rfl ?_
  refine r_aload_n hX dL_law_2004 rfl ?_
  refine r_iload hX dL_law_2005 rfl ?_
  refine r_iconst (v := 1) hX dL_law_2007 (by decide) ?_
  refine r_iadd hX dL_law_2008 ?_
  refine r_sld hX hs (j := i + 1) (nI_add i 1) (by omega) (by omega) dL_law_2009 ?_
  refine r_i2c hX dL_law_2010 ?_
  rw [pk_char]
  refine r_callV hX dL_law_2011 (s_X8_append E g1 m1 (x + 138) O hJ.2.1 u hJ.2.2.2.2 hu ((xs (i + 1)).toBitVec.toNat % 65536) (Nat.mod_lt _ (by decide))) ml_L_283 rfl rfl hJ.2.1.1.1.1.1 rfl ⟨Nat.le_of_ble_eq_true rfl, Nat.le_of_ble_eq_true rfl⟩ ⟨by omega, by omega, rfl, Nat.le_of_ble_eq_true rfl⟩ (fun v2011 g2011 m2011 hp => ?_)
  obtain ⟨⟨w9, hv, hw9⟩, hg, hz0, hM, hMF⟩ := hp
  subst hv
  subst g2011
  refine r_istore hX dL_law_2014 (Nat.le_of_ble_eq_true rfl) rfl ?_
  refine r_aload_n hX dL_law_2016 rfl ?_
  refine r_callV hX dL_law_2017 (s_X8_thrown E g1 m2011 (x + 138) hM.1.1) ml_L_138 rfl rfl hM.1.1.1.1 rfl ⟨Nat.le_of_ble_eq_true rfl, Nat.le_of_ble_eq_true rfl⟩ ⟨by omega, by omega, rfl, Nat.le_of_ble_eq_true rfl⟩ (fun v2017 g2017 m2017 hp => ?_)
  obtain ⟨hv, hg, hm⟩ := hp
  subst v2017
  subst g2017
  subst m2017
  rw [hz0]
  refine r_iload hX dL_law_2020 rfl ?_
  refine r_icmp_eq (tgt := 2027) hX dL_law_2022 (by decide) (fun c2022 => ?_) (fun c2022 => ?_)
  · refine r_iload hX dL_law_2027 rfl ?_
    refine r_if_ne (tgt := 2044) hX dL_law_2029 (by decide) (fun c2029 => ?_) (fun c2029 => ?_)
    · refine r_goto (tgt := 2383) hX dL_law_2044 (by decide) ?_
      refine r_widen (cN' := cN + 25) (sN' := sN + 7500) (by omega) (by omega) ?_
      exact K _ _ _ _ _ _ _ (hJ.fin hM hMF (appO_wf hI.2.2.2.2 (Nat.mod_lt _ (by decide))))
    · refine r_aload_n hX dL_law_2032 rfl ?_
      refine r_iconst (v := 0) hX dL_law_2033 (by decide) ?_
      have hr0 := r0_of hR5 c2029
      refine r_laload hX dL_law_2034 hJ.2.2.1 (pk_in 0 1 (by decide)) ?_
      rw [show qJ m2011 (x + 145) (Int32.toNatClampNeg 0) = (appO O ((xs (i + 1)).toBitVec.toNat % 65536)).2.1.toInt64 from (hMF.qJ _ _).trans (hq1 hr0)]
      refine r_iload hX dL_law_2035 rfl ?_
      rw [hw9 hr0]
      refine r_i2l hX dL_law_2037 ?_
      refine r_lcmp hX dL_law_2038 ?_
      rw [lg_self]
      refine r_if_eq (tgt := 2044) hX dL_law_2039 (by decide) (fun c2039 => ?_) (fun c2039 => ?_)
      · refine r_goto (tgt := 2383) hX dL_law_2044 (by decide) ?_
        refine r_widen (cN' := cN + 25) (sN' := sN + 7500) (by omega) (by omega) ?_
        exact K _ _ _ _ _ _ _ (hJ.fin hM hMF (appO_wf hI.2.2.2.2 (Nat.mod_lt _ (by decide))))
      · exact absurd rfl c2039
  · exact absurd rfl c2022
set_option maxRecDepth 20000 in
set_option maxHeartbeats 4000000 in
theorem s_B41 {E : qE} {X : qX} {Q : State → Prop} {g : qG} {m : qM} {cN sN : Nat} (hX : MC E yL_law cL_law 10 (some .boolean) 1475 603072 7182442 [] X) {b L x u i : Nat} {xs : Nat → Int32} {O : kO} {z6 z7 z8 z9 : Option Value} (hs : ScrX E X b L xs) (hL : L ≤ 2048) (hi : i + 4 ≤ L) (hI : LI x u O g m) (hu : u ≤ 6144) (hcN : cN + 25 ≤ 603072) (hsN : sN + 7500 ≤ 7182442) (K : ∀ (O' : kO) (g' : qG) (m' : qM) (z6 z7 z8 z9 : Option Value), LI x (u + 12) O' g' m' → WS E X (cN + 25) (sN + 7500) Q g' m' 2383 [some (.ref b), some (.ref x), some (.ref (x + 138)), some (.ref (x + 145)), some (.ref (x + 146)), some (.int (nI i)), z6, z7, z8, z9] []) : WS E X cN sN Q g m 2047 [some (.ref b), some (.ref x), some (.ref (x + 138)), some (.ref (x + 145)), some (.ref (x + 146)), some (.int (nI i)), z6, z7, z8, z9] [] := by
  refine r_known (fun hk => ?_)
  refine r_aload_n hX dL_law_2047 rfl ?_
  refine r_aload_n hX dL_law_2048 rfl ?_
  refine r_callH hX dL_law_2049 (s_L_run E g m x O hI.1 u hI.2.2.2.2 hu (x + 145) hI.2.2.1) ml_L_284 rfl rfl ⟨Nat.le_of_ble_eq_true rfl, Nat.le_of_ble_eq_true rfl⟩ ⟨by omega, by omega, rfl, Nat.le_of_ble_eq_true rfl⟩ (fun v1 g1 m1 hp => ?_)
  obtain ⟨hv, hO1, hF1, hq1, hR5⟩ := hp
  subst hv
  have hJ := hI.lp hO1 hF1 (Or.inl rfl) hk
  refine r_istore hX dL_law_2052 (Nat.le_of_ble_eq_true rfl) rfl ?_
  refine r_aload_n hX dL_law_2054 rfl ?_
  refine r_callV hX dL_law_2055 (s_X8_run E g1 m1 (x + 138) O hJ.2.1 u hJ.2.2.2.2 hu) ml_L_286 rfl rfl hJ.2.1.1.1.1.1 rfl ⟨Nat.le_of_ble_eq_true rfl, Nat.le_of_ble_eq_true rfl⟩ ⟨by omega, by omega, rfl, Nat.le_of_ble_eq_true rfl⟩ (fun v2055 g2055 m2055 hp => ?_)
  rw [← run_eq hI.2.2.2.2] at hp
  obtain ⟨⟨w9, hv, hw9⟩, hg, hz0, hM, hMF⟩ := hp
  subst hv
  subst g2055
  refine r_istore hX dL_law_2058 (Nat.le_of_ble_eq_true rfl) rfl ?_
  refine r_aload_n hX dL_law_2060 rfl ?_
  refine r_callV hX dL_law_2061 (s_X8_thrown E g1 m2055 (x + 138) hM.1.1) ml_L_138 rfl rfl hM.1.1.1.1 rfl ⟨Nat.le_of_ble_eq_true rfl, Nat.le_of_ble_eq_true rfl⟩ ⟨by omega, by omega, rfl, Nat.le_of_ble_eq_true rfl⟩ (fun v2061 g2061 m2061 hp => ?_)
  obtain ⟨hv, hg, hm⟩ := hp
  subst v2061
  subst g2061
  subst m2061
  rw [hz0]
  refine r_iload hX dL_law_2064 rfl ?_
  refine r_icmp_eq (tgt := 2071) hX dL_law_2066 (by decide) (fun c2066 => ?_) (fun c2066 => ?_)
  · refine r_iload hX dL_law_2071 rfl ?_
    refine r_if_ne (tgt := 2088) hX dL_law_2073 (by decide) (fun c2073 => ?_) (fun c2073 => ?_)
    · refine r_goto (tgt := 2383) hX dL_law_2088 (by decide) ?_
      refine r_widen (cN' := cN + 25) (sN' := sN + 7500) (by omega) (by omega) ?_
      exact K _ _ _ _ _ _ _ (hJ.fin hM hMF (runO_wf hI.2.2.2.2))
    · refine r_aload_n hX dL_law_2076 rfl ?_
      refine r_iconst (v := 0) hX dL_law_2077 (by decide) ?_
      have hr0 := r0_of hR5 c2073
      refine r_laload hX dL_law_2078 hJ.2.2.1 (pk_in 0 1 (by decide)) ?_
      rw [show qJ m2055 (x + 145) (Int32.toNatClampNeg 0) = (runO O).2.1.toInt64 from (hMF.qJ _ _).trans (hq1 hr0)]
      refine r_iload hX dL_law_2079 rfl ?_
      rw [hw9 hr0]
      refine r_i2l hX dL_law_2081 ?_
      refine r_lcmp hX dL_law_2082 ?_
      rw [lg_self]
      refine r_if_eq (tgt := 2088) hX dL_law_2083 (by decide) (fun c2083 => ?_) (fun c2083 => ?_)
      · refine r_goto (tgt := 2383) hX dL_law_2088 (by decide) ?_
        refine r_widen (cN' := cN + 25) (sN' := sN + 7500) (by omega) (by omega) ?_
        exact K _ _ _ _ _ _ _ (hJ.fin hM hMF (runO_wf hI.2.2.2.2))
      · exact absurd rfl c2083
  · exact absurd rfl c2066
set_option maxRecDepth 20000 in
set_option maxHeartbeats 4000000 in
theorem s_B42 {E : qE} {X : qX} {Q : State → Prop} {g : qG} {m : qM} {cN sN : Nat} (hX : MC E yL_law cL_law 10 (some .boolean) 1475 603072 7182442 [] X) {b L x u i : Nat} {xs : Nat → Int32} {O : kO} {z6 z7 z8 z9 : Option Value} (hs : ScrX E X b L xs) (hL : L ≤ 2048) (hi : i + 4 ≤ L) (hI : LI x u O g m) (hu : u ≤ 6144) (hcN : cN + 25 ≤ 603072) (hsN : sN + 7500 ≤ 7182442) (K : ∀ (O' : kO) (g' : qG) (m' : qM) (z6 z7 z8 z9 : Option Value), LI x (u + 12) O' g' m' → WS E X (cN + 25) (sN + 7500) Q g' m' 2383 [some (.ref b), some (.ref x), some (.ref (x + 138)), some (.ref (x + 145)), some (.ref (x + 146)), some (.int (nI i)), z6, z7, z8, z9] []) : WS E X cN sN Q g m 2091 [some (.ref b), some (.ref x), some (.ref (x + 138)), some (.ref (x + 145)), some (.ref (x + 146)), some (.int (nI i)), z6, z7, z8, z9] [] := by
  refine r_known (fun hk => ?_)
  refine r_aload_n hX dL_law_2091 rfl ?_
  refine r_aload_n hX dL_law_2092 rfl ?_
  refine r_callH hX dL_law_2093 (s_L_errorPosition E g m x O hI.1 u hI.2.2.2.2 hu (x + 145) hI.2.2.1) ml_L_287 rfl rfl ⟨Nat.le_of_ble_eq_true rfl, Nat.le_of_ble_eq_true rfl⟩ ⟨by omega, by omega, rfl, Nat.le_of_ble_eq_true rfl⟩ (fun v1 g1 m1 hp => ?_)
  obtain ⟨hv, hO1, hF1, hq1, hR5⟩ := hp
  subst hv
  have hJ := hI.lp hO1 hF1 (Or.inl rfl) hk
  refine r_istore hX dL_law_2096 (Nat.le_of_ble_eq_true rfl) rfl ?_
  refine r_aload_n hX dL_law_2098 rfl ?_
  refine r_callV hX dL_law_2099 (s_X8_errorPosition E g1 m1 (x + 138) O hJ.2.1 u hJ.2.2.2.2 hu) ml_L_289 rfl rfl hJ.2.1.1.1.1.1 rfl ⟨Nat.le_of_ble_eq_true rfl, Nat.le_of_ble_eq_true rfl⟩ ⟨by omega, by omega, rfl, Nat.le_of_ble_eq_true rfl⟩ (fun v2099 g2099 m2099 hp => ?_)
  obtain ⟨⟨w9, hv, hw9⟩, hg, hz0, hM, hMF⟩ := hp
  subst hv
  subst g2099
  refine r_istore hX dL_law_2102 (Nat.le_of_ble_eq_true rfl) rfl ?_
  refine r_aload_n hX dL_law_2104 rfl ?_
  refine r_callV hX dL_law_2105 (s_X8_thrown E g1 m2099 (x + 138) hM.1.1) ml_L_138 rfl rfl hM.1.1.1.1 rfl ⟨Nat.le_of_ble_eq_true rfl, Nat.le_of_ble_eq_true rfl⟩ ⟨by omega, by omega, rfl, Nat.le_of_ble_eq_true rfl⟩ (fun v2105 g2105 m2105 hp => ?_)
  obtain ⟨hv, hg, hm⟩ := hp
  subst v2105
  subst g2105
  subst m2105
  rw [hz0]
  refine r_iload hX dL_law_2108 rfl ?_
  refine r_icmp_eq (tgt := 2115) hX dL_law_2110 (by decide) (fun c2110 => ?_) (fun c2110 => ?_)
  · refine r_iload hX dL_law_2115 rfl ?_
    refine r_if_ne (tgt := 2132) hX dL_law_2117 (by decide) (fun c2117 => ?_) (fun c2117 => ?_)
    · refine r_goto (tgt := 2383) hX dL_law_2132 (by decide) ?_
      refine r_widen (cN' := cN + 25) (sN' := sN + 7500) (by omega) (by omega) ?_
      exact K _ _ _ _ _ _ _ (hJ.fin hM hMF (hI.2.2.2.2.same (qErr_st O)))
    · refine r_aload_n hX dL_law_2120 rfl ?_
      refine r_iconst (v := 0) hX dL_law_2121 (by decide) ?_
      have hr0 := r0_of hR5 c2117
      refine r_laload hX dL_law_2122 hJ.2.2.1 (pk_in 0 1 (by decide)) ?_
      rw [show qJ m2099 (x + 145) (Int32.toNatClampNeg 0) = (qErr O).2.1.toInt64 from (hMF.qJ _ _).trans (hq1 hr0)]
      refine r_iload hX dL_law_2123 rfl ?_
      rw [hw9 hr0]
      refine r_i2l hX dL_law_2125 ?_
      refine r_lcmp hX dL_law_2126 ?_
      rw [lg_self]
      refine r_if_eq (tgt := 2132) hX dL_law_2127 (by decide) (fun c2127 => ?_) (fun c2127 => ?_)
      · refine r_goto (tgt := 2383) hX dL_law_2132 (by decide) ?_
        refine r_widen (cN' := cN + 25) (sN' := sN + 7500) (by omega) (by omega) ?_
        exact K _ _ _ _ _ _ _ (hJ.fin hM hMF (hI.2.2.2.2.same (qErr_st O)))
      · exact absurd rfl c2127
  · exact absurd rfl c2110
set_option maxRecDepth 20000 in
set_option maxHeartbeats 4000000 in
theorem s_B43 {E : qE} {X : qX} {Q : State → Prop} {g : qG} {m : qM} {cN sN : Nat} (hX : MC E yL_law cL_law 10 (some .boolean) 1475 603072 7182442 [] X) {b L x u i : Nat} {xs : Nat → Int32} {O : kO} {z6 z7 z8 z9 : Option Value} (hs : ScrX E X b L xs) (hL : L ≤ 2048) (hi : i + 4 ≤ L) (hI : LI x u O g m) (hu : u ≤ 6144) (hcN : cN + 25 ≤ 603072) (hsN : sN + 7500 ≤ 7182442) (K : ∀ (O' : kO) (g' : qG) (m' : qM) (z6 z7 z8 z9 : Option Value), LI x (u + 12) O' g' m' → WS E X (cN + 25) (sN + 7500) Q g' m' 2383 [some (.ref b), some (.ref x), some (.ref (x + 138)), some (.ref (x + 145)), some (.ref (x + 146)), some (.int (nI i)), z6, z7, z8, z9] []) : WS E X cN sN Q g m 2135 [some (.ref b), some (.ref x), some (.ref (x + 138)), some (.ref (x + 145)), some (.ref (x + 146)), some (.int (nI i)), z6, z7, z8, z9] [] := by
  refine r_known (fun hk => ?_)
  refine r_aload_n hX dL_law_2135 rfl ?_
  refine r_aload_n hX dL_law_2136 rfl ?_
  refine r_callH hX dL_law_2137 (s_L_failedCommand E g m x O hI.1 u hI.2.2.2.2 hu (x + 145) hI.2.2.1) ml_L_290 rfl rfl ⟨Nat.le_of_ble_eq_true rfl, Nat.le_of_ble_eq_true rfl⟩ ⟨by omega, by omega, rfl, Nat.le_of_ble_eq_true rfl⟩ (fun v1 g1 m1 hp => ?_)
  obtain ⟨hv, hO1, hF1, hq1, hR5⟩ := hp
  subst hv
  have hJ := hI.lp hO1 hF1 (Or.inl rfl) hk
  refine r_istore hX dL_law_2140 (Nat.le_of_ble_eq_true rfl) rfl ?_
  refine r_aload_n hX dL_law_2142 rfl ?_
  refine r_callV hX dL_law_2143 (s_X8_failedCommand E g1 m1 (x + 138) O hJ.2.1 u hJ.2.2.2.2 hu) ml_L_292 rfl rfl hJ.2.1.1.1.1.1 rfl ⟨Nat.le_of_ble_eq_true rfl, Nat.le_of_ble_eq_true rfl⟩ ⟨by omega, by omega, rfl, Nat.le_of_ble_eq_true rfl⟩ (fun v2143 g2143 m2143 hp => ?_)
  obtain ⟨⟨w9, hv, hw9⟩, hg, hz0, hM, hMF⟩ := hp
  subst hv
  subst g2143
  refine r_istore hX dL_law_2146 (Nat.le_of_ble_eq_true rfl) rfl ?_
  refine r_aload_n hX dL_law_2148 rfl ?_
  refine r_callV hX dL_law_2149 (s_X8_thrown E g1 m2143 (x + 138) hM.1.1) ml_L_138 rfl rfl hM.1.1.1.1 rfl ⟨Nat.le_of_ble_eq_true rfl, Nat.le_of_ble_eq_true rfl⟩ ⟨by omega, by omega, rfl, Nat.le_of_ble_eq_true rfl⟩ (fun v2149 g2149 m2149 hp => ?_)
  obtain ⟨hv, hg, hm⟩ := hp
  subst v2149
  subst g2149
  subst m2149
  rw [hz0]
  refine r_iload hX dL_law_2152 rfl ?_
  refine r_icmp_eq (tgt := 2159) hX dL_law_2154 (by decide) (fun c2154 => ?_) (fun c2154 => ?_)
  · refine r_iload hX dL_law_2159 rfl ?_
    refine r_if_ne (tgt := 2176) hX dL_law_2161 (by decide) (fun c2161 => ?_) (fun c2161 => ?_)
    · refine r_goto (tgt := 2383) hX dL_law_2176 (by decide) ?_
      refine r_widen (cN' := cN + 25) (sN' := sN + 7500) (by omega) (by omega) ?_
      exact K _ _ _ _ _ _ _ (hJ.fin hM hMF (hI.2.2.2.2.same (qFail_st O)))
    · refine r_aload_n hX dL_law_2164 rfl ?_
      refine r_iconst (v := 0) hX dL_law_2165 (by decide) ?_
      have hr0 := r0_of hR5 c2161
      refine r_laload hX dL_law_2166 hJ.2.2.1 (pk_in 0 1 (by decide)) ?_
      rw [show qJ m2143 (x + 145) (Int32.toNatClampNeg 0) = (qFail O).2.1.toInt64 from (hMF.qJ _ _).trans (hq1 hr0)]
      refine r_iload hX dL_law_2167 rfl ?_
      rw [hw9 hr0]
      refine r_i2l hX dL_law_2169 ?_
      refine r_lcmp hX dL_law_2170 ?_
      rw [lg_self]
      refine r_if_eq (tgt := 2176) hX dL_law_2171 (by decide) (fun c2171 => ?_) (fun c2171 => ?_)
      · refine r_goto (tgt := 2383) hX dL_law_2176 (by decide) ?_
        refine r_widen (cN' := cN + 25) (sN' := sN + 7500) (by omega) (by omega) ?_
        exact K _ _ _ _ _ _ _ (hJ.fin hM hMF (hI.2.2.2.2.same (qFail_st O)))
      · exact absurd rfl c2171
  · exact absurd rfl c2154
set_option maxRecDepth 20000 in
set_option maxHeartbeats 4000000 in
theorem s_B44 {E : qE} {X : qX} {Q : State → Prop} {g : qG} {m : qM} {cN sN : Nat} (hX : MC E yL_law cL_law 10 (some .boolean) 1475 603072 7182442 [] X) {b L x u i : Nat} {xs : Nat → Int32} {O : kO} {z6 z7 z8 z9 : Option Value} (hs : ScrX E X b L xs) (hL : L ≤ 2048) (hi : i + 4 ≤ L) (hI : LI x u O g m) (hu : u ≤ 6144) (hcN : cN + 25 ≤ 603072) (hsN : sN + 7500 ≤ 7182442) (K : ∀ (O' : kO) (g' : qG) (m' : qM) (z6 z7 z8 z9 : Option Value), LI x (u + 12) O' g' m' → WS E X (cN + 25) (sN + 7500) Q g' m' 2383 [some (.ref b), some (.ref x), some (.ref (x + 138)), some (.ref (x + 145)), some (.ref (x + 146)), some (.int (nI i)), z6, z7, z8, z9] []) : WS E X cN sN Q g m 2179 [some (.ref b), some (.ref x), some (.ref (x + 138)), some (.ref (x + 145)), some (.ref (x + 146)), some (.int (nI i)), z6, z7, z8, z9] [] := by
  refine r_known (fun hk => ?_)
  refine r_aload_n hX dL_law_2179 rfl ?_
  refine r_aload_n hX dL_law_2180 rfl ?_
  refine r_iload hX dL_law_2181 rfl ?_
  refine r_iconst (v := 1) hX dL_law_2183 (by decide) ?_
  refine r_iadd hX dL_law_2184 ?_
  refine r_sld hX hs (j := i + 1) (nI_add i 1) (by omega) (by omega) dL_law_2185 ?_
  refine r_aload_n hX dL_law_2186 rfl ?_
  refine r_callH hX dL_law_2187 (s_L_writeComet E g m x O hI.1 u hI.2.2.2.2 hu (xs (i + 1)) (x + 145) hI.2.2.1) ml_L_293 rfl rfl ⟨Nat.le_of_ble_eq_true rfl, Nat.le_of_ble_eq_true rfl⟩ ⟨by omega, by omega, rfl, Nat.le_of_ble_eq_true rfl⟩ (fun v1 g1 m1 hp => ?_)
  obtain ⟨hv, hO1, hF1, hq1, hR5⟩ := hp
  subst hv
  have hJ := hI.lp hO1 hF1 (Or.inl rfl) hk
  refine r_istore hX dL_law_2190 (Nat.le_of_ble_eq_true rfl) rfl ?_
  refine r_aload_n hX dL_law_2192 rfl ?_
  refine r_aload_n hX dL_law_2193 rfl ?_
  refine r_iload hX dL_law_2194 rfl ?_
  refine r_iconst (v := 1) hX dL_law_2196 (by decide) ?_
  refine r_iadd hX dL_law_2197 ?_
  refine r_sld hX hs (j := i + 1) (nI_add i 1) (by omega) (by omega) dL_law_2198 ?_
  refine r_callV hX dL_law_2199 (s_X8_writeComet E g1 m1 (x + 138) O hJ.2.1 u hJ.2.2.2.2 hu (xs (i + 1))) ml_L_295 rfl rfl hJ.2.1.1.1.1.1 rfl ⟨Nat.le_of_ble_eq_true rfl, Nat.le_of_ble_eq_true rfl⟩ ⟨by omega, by omega, rfl, Nat.le_of_ble_eq_true rfl⟩ (fun v2199 g2199 m2199 hp => ?_)
  obtain ⟨⟨w9, hv, hw9⟩, hg, hz0, hM, hMF⟩ := hp
  subst hv
  subst g2199
  refine r_istore hX dL_law_2202 (Nat.le_of_ble_eq_true rfl) rfl ?_
  refine r_aload_n hX dL_law_2204 rfl ?_
  refine r_callV hX dL_law_2205 (s_X8_thrown E g1 m2199 (x + 138) hM.1.1) ml_L_138 rfl rfl hM.1.1.1.1 rfl ⟨Nat.le_of_ble_eq_true rfl, Nat.le_of_ble_eq_true rfl⟩ ⟨by omega, by omega, rfl, Nat.le_of_ble_eq_true rfl⟩ (fun v2205 g2205 m2205 hp => ?_)
  obtain ⟨hv, hg, hm⟩ := hp
  subst v2205
  subst g2205
  subst m2205
  rw [hz0]
  refine r_iload hX dL_law_2208 rfl ?_
  refine r_icmp_eq (tgt := 2215) hX dL_law_2210 (by decide) (fun c2210 => ?_) (fun c2210 => ?_)
  · refine r_iload hX dL_law_2215 rfl ?_
    refine r_if_ne (tgt := 2232) hX dL_law_2217 (by decide) (fun c2217 => ?_) (fun c2217 => ?_)
    · refine r_goto (tgt := 2383) hX dL_law_2232 (by decide) ?_
      refine r_widen (cN' := cN + 25) (sN' := sN + 7500) (by omega) (by omega) ?_
      exact K _ _ _ _ _ _ _ (hJ.fin hM hMF (wcO_wf hI.2.2.2.2 (xs (i + 1))))
    · refine r_aload_n hX dL_law_2220 rfl ?_
      refine r_iconst (v := 0) hX dL_law_2221 (by decide) ?_
      have hr0 := r0_of hR5 c2217
      refine r_laload hX dL_law_2222 hJ.2.2.1 (pk_in 0 1 (by decide)) ?_
      rw [show qJ m2199 (x + 145) (Int32.toNatClampNeg 0) = (wcO O (xs (i + 1))).2.1.toInt64 from (hMF.qJ _ _).trans (hq1 hr0)]
      refine r_iload hX dL_law_2223 rfl ?_
      rw [hw9 hr0]
      refine r_i2l hX dL_law_2225 ?_
      refine r_lcmp hX dL_law_2226 ?_
      rw [lg_self]
      refine r_if_eq (tgt := 2232) hX dL_law_2227 (by decide) (fun c2227 => ?_) (fun c2227 => ?_)
      · refine r_goto (tgt := 2383) hX dL_law_2232 (by decide) ?_
        refine r_widen (cN' := cN + 25) (sN' := sN + 7500) (by omega) (by omega) ?_
        exact K _ _ _ _ _ _ _ (hJ.fin hM hMF (wcO_wf hI.2.2.2.2 (xs (i + 1))))
      · exact absurd rfl c2227
  · exact absurd rfl c2210
set_option maxRecDepth 20000 in
set_option maxHeartbeats 4000000 in
theorem s_B45 {E : qE} {X : qX} {Q : State → Prop} {g : qG} {m : qM} {cN sN : Nat} (hX : MC E yL_law cL_law 10 (some .boolean) 1475 603072 7182442 [] X) {b L x u i : Nat} {xs : Nat → Int32} {O : kO} {z6 z7 z8 z9 : Option Value} (hs : ScrX E X b L xs) (hL : L ≤ 2048) (hi : i + 4 ≤ L) (hI : LI x u O g m) (hu : u ≤ 6144) (hcN : cN + 25 ≤ 603072) (hsN : sN + 7500 ≤ 7182442) (K : ∀ (O' : kO) (g' : qG) (m' : qM) (z6 z7 z8 z9 : Option Value), LI x (u + 12) O' g' m' → WS E X (cN + 25) (sN + 7500) Q g' m' 2383 [some (.ref b), some (.ref x), some (.ref (x + 138)), some (.ref (x + 145)), some (.ref (x + 146)), some (.int (nI i)), z6, z7, z8, z9] []) : WS E X cN sN Q g m 2235 [some (.ref b), some (.ref x), some (.ref (x + 138)), some (.ref (x + 145)), some (.ref (x + 146)), some (.int (nI i)), z6, z7, z8, z9] [] := by
  refine r_known (fun hk => ?_)
  refine r_aload_n hX dL_law_2235 rfl ?_
  refine r_callV hX dL_law_2236 (s_X7_writeRing E g m x O hI.1 u hI.2.2.2.2 hu) ml_L_296 rfl rfl hI.1.1.1 rfl ⟨Nat.le_of_ble_eq_true rfl, Nat.le_of_ble_eq_true rfl⟩ ⟨by omega, by omega, rfl, Nat.le_of_ble_eq_true rfl⟩ (fun v2236 g2236 m2236 hp => ?_)
  obtain ⟨h0, hv, hO1, hF1⟩ := hp
  subst hv
  have hJ := hI.lx hO1 hF1 hk
  refine r_aload_n hX dL_law_2239 rfl ?_
  refine r_callV hX dL_law_2240 (s_X8_writeRing E g2236 m2236 (x + 138) O hJ.2.1 u hJ.2.2.2.2 hu) ml_L_299 rfl rfl hJ.2.1.1.1.1.1 rfl ⟨Nat.le_of_ble_eq_true rfl, Nat.le_of_ble_eq_true rfl⟩ ⟨by omega, by omega, rfl, Nat.le_of_ble_eq_true rfl⟩ (fun v2240 g2240 m2240 hp => ?_)
  obtain ⟨⟨w9, hv, hw9⟩, hg, hz0, hM, hMF⟩ := hp
  subst hv
  subst g2240
  refine r_icmp_eq (tgt := 2383) hX dL_law_2243 (by decide) (fun c2243 => ?_) (fun c2243 => ?_)
  · refine r_widen (cN' := cN + 25) (sN' := sN + 7500) (by omega) (by omega) ?_
    exact K _ _ _ _ _ _ _ (hJ.fin hM hMF (wrO_wf hI.2.2.2.2 hu))
  · exact absurd (hw9 h0).symm c2243
set_option maxRecDepth 20000 in
set_option maxHeartbeats 4000000 in
theorem s_B46 {E : qE} {X : qX} {Q : State → Prop} {g : qG} {m : qM} {cN sN : Nat} (hX : MC E yL_law cL_law 10 (some .boolean) 1475 603072 7182442 [] X) {b L x u i : Nat} {xs : Nat → Int32} {O : kO} {z6 z7 z8 z9 : Option Value} (hs : ScrX E X b L xs) (hL : L ≤ 2048) (hi : i + 4 ≤ L) (hI : LI x u O g m) (hu : u ≤ 6144) (hcN : cN + 25 ≤ 603072) (hsN : sN + 7500 ≤ 7182442) (K : ∀ (O' : kO) (g' : qG) (m' : qM) (z6 z7 z8 z9 : Option Value), LI x (u + 12) O' g' m' → WS E X (cN + 25) (sN + 7500) Q g' m' 2383 [some (.ref b), some (.ref x), some (.ref (x + 138)), some (.ref (x + 145)), some (.ref (x + 146)), some (.int (nI i)), z6, z7, z8, z9] []) : WS E X cN sN Q g m 2248 [some (.ref b), some (.ref x), some (.ref (x + 138)), some (.ref (x + 145)), some (.ref (x + 146)), some (.int (nI i)), z6, z7, z8, z9] [] := by
  refine r_known (fun hk => ?_)
  refine r_aload_n hX dL_law_2248 rfl ?_
  refine r_aload_n hX dL_law_2249 rfl ?_
  refine r_iload hX dL_law_2250 rfl ?_
  refine r_iconst (v := 1) hX dL_law_2252 (by decide) ?_
  refine r_iadd hX dL_law_2253 ?_
  refine r_sld hX hs (j := i + 1) (nI_add i 1) (by omega) (by omega) dL_law_2254 ?_
  refine r_aload_n hX dL_law_2255 rfl ?_
  refine r_callH hX dL_law_2256 (s_L_outputAt E g m x O hI.1 u hI.2.2.2.2 hu (xs (i + 1)) (x + 145) hI.2.2.1) ml_L_300 rfl rfl ⟨Nat.le_of_ble_eq_true rfl, Nat.le_of_ble_eq_true rfl⟩ ⟨by omega, by omega, rfl, Nat.le_of_ble_eq_true rfl⟩ (fun v1 g1 m1 hp => ?_)
  obtain ⟨hv, hO1, hF1, hq1, hR5⟩ := hp
  subst hv
  have hJ := hI.lp hO1 hF1 (Or.inl rfl) hk
  refine r_istore hX dL_law_2259 (Nat.le_of_ble_eq_true rfl) rfl ?_
  refine r_aload_n hX dL_law_2261 rfl ?_
  refine r_aload_n hX dL_law_2262 rfl ?_
  refine r_iload hX dL_law_2263 rfl ?_
  refine r_iconst (v := 1) hX dL_law_2265 (by decide) ?_
  refine r_iadd hX dL_law_2266 ?_
  refine r_sld hX hs (j := i + 1) (nI_add i 1) (by omega) (by omega) dL_law_2267 ?_
  refine r_callV hX dL_law_2268 (s_X8_outputAt E g1 m1 (x + 138) O hJ.2.1 u hJ.2.2.2.2 hu (xs (i + 1))) ml_L_302 rfl rfl hJ.2.1.1.1.1.1 rfl ⟨Nat.le_of_ble_eq_true rfl, Nat.le_of_ble_eq_true rfl⟩ ⟨by omega, by omega, rfl, Nat.le_of_ble_eq_true rfl⟩ (fun v2268 g2268 m2268 hp => ?_)
  obtain ⟨⟨w9, hv, hw9⟩, hg, hz0, hM, hMF⟩ := hp
  subst hv
  subst g2268
  refine r_istore hX dL_law_2271 (Nat.le_of_ble_eq_true rfl) rfl ?_
  refine r_aload_n hX dL_law_2273 rfl ?_
  refine r_callV hX dL_law_2274 (s_X8_thrown E g1 m2268 (x + 138) hM.1.1) ml_L_138 rfl rfl hM.1.1.1.1 rfl ⟨Nat.le_of_ble_eq_true rfl, Nat.le_of_ble_eq_true rfl⟩ ⟨by omega, by omega, rfl, Nat.le_of_ble_eq_true rfl⟩ (fun v2274 g2274 m2274 hp => ?_)
  obtain ⟨hv, hg, hm⟩ := hp
  subst v2274
  subst g2274
  subst m2274
  rw [hz0]
  refine r_iload hX dL_law_2277 rfl ?_
  refine r_icmp_eq (tgt := 2284) hX dL_law_2279 (by decide) (fun c2279 => ?_) (fun c2279 => ?_)
  · refine r_iload hX dL_law_2284 rfl ?_
    refine r_if_ne (tgt := 2301) hX dL_law_2286 (by decide) (fun c2286 => ?_) (fun c2286 => ?_)
    · refine r_goto (tgt := 2383) hX dL_law_2301 (by decide) ?_
      refine r_widen (cN' := cN + 25) (sN' := sN + 7500) (by omega) (by omega) ?_
      exact K _ _ _ _ _ _ _ (hJ.fin hM hMF (hI.2.2.2.2.same (qOut_st O (xs (i + 1)))))
    · refine r_aload_n hX dL_law_2289 rfl ?_
      refine r_iconst (v := 0) hX dL_law_2290 (by decide) ?_
      have hr0 := r0_of hR5 c2286
      refine r_laload hX dL_law_2291 hJ.2.2.1 (pk_in 0 1 (by decide)) ?_
      rw [show qJ m2268 (x + 145) (Int32.toNatClampNeg 0) = (qOut O (xs (i + 1))).2.1.toInt64 from (hMF.qJ _ _).trans (hq1 hr0)]
      refine r_iload hX dL_law_2292 rfl ?_
      rw [hw9 hr0]
      refine r_i2l hX dL_law_2294 ?_
      refine r_lcmp hX dL_law_2295 ?_
      rw [lg_self]
      refine r_if_eq (tgt := 2301) hX dL_law_2296 (by decide) (fun c2296 => ?_) (fun c2296 => ?_)
      · refine r_goto (tgt := 2383) hX dL_law_2301 (by decide) ?_
        refine r_widen (cN' := cN + 25) (sN' := sN + 7500) (by omega) (by omega) ?_
        exact K _ _ _ _ _ _ _ (hJ.fin hM hMF (hI.2.2.2.2.same (qOut_st O (xs (i + 1)))))
      · exact absurd rfl c2296
  · exact absurd rfl c2279
set_option maxRecDepth 20000 in
set_option maxHeartbeats 4000000 in
theorem s_B47 {E : qE} {X : qX} {Q : State → Prop} {g : qG} {m : qM} {cN sN : Nat} (hX : MC E yL_law cL_law 10 (some .boolean) 1475 603072 7182442 [] X) {b L x u i : Nat} {xs : Nat → Int32} {O : kO} {z6 z7 z8 z9 : Option Value} (hs : ScrX E X b L xs) (hL : L ≤ 2048) (hi : i + 4 ≤ L) (hI : LI x u O g m) (hu : u ≤ 6144) (hcN : cN + 25 ≤ 603072) (hsN : sN + 7500 ≤ 7182442) (K : ∀ (O' : kO) (g' : qG) (m' : qM) (z6 z7 z8 z9 : Option Value), LI x (u + 12) O' g' m' → WS E X (cN + 25) (sN + 7500) Q g' m' 2383 [some (.ref b), some (.ref x), some (.ref (x + 138)), some (.ref (x + 145)), some (.ref (x + 146)), some (.int (nI i)), z6, z7, z8, z9] []) : WS E X cN sN Q g m 2304 [some (.ref b), some (.ref x), some (.ref (x + 138)), some (.ref (x + 145)), some (.ref (x + 146)), some (.int (nI i)), z6, z7, z8, z9] [] := by
  refine r_known (fun hk => ?_)
  refine r_aload_n hX dL_law_2304 rfl ?_
  refine r_aload_n hX dL_law_2305 rfl ?_
  refine r_callH hX dL_law_2306 (s_L_undo E g m x O hI.1 u hI.2.2.2.2 hu (x + 145) hI.2.2.1) ml_L_303 rfl rfl ⟨Nat.le_of_ble_eq_true rfl, Nat.le_of_ble_eq_true rfl⟩ ⟨by omega, by omega, rfl, Nat.le_of_ble_eq_true rfl⟩ (fun v1 g1 m1 hp => ?_)
  obtain ⟨hv, hO1, hF1, hq1, hR5⟩ := hp
  subst hv
  have hJ := hI.lp hO1 hF1 (Or.inl rfl) hk
  refine r_istore hX dL_law_2309 (Nat.le_of_ble_eq_true rfl) rfl ?_
  refine r_aload_n hX dL_law_2311 rfl ?_
  refine r_callV hX dL_law_2312 (s_X8_undo E g1 m1 (x + 138) O hJ.2.1 u hJ.2.2.2.2 hu) ml_L_305 rfl rfl hJ.2.1.1.1.1.1 rfl ⟨Nat.le_of_ble_eq_true rfl, Nat.le_of_ble_eq_true rfl⟩ ⟨by omega, by omega, rfl, Nat.le_of_ble_eq_true rfl⟩ (fun v2312 g2312 m2312 hp => ?_)
  obtain ⟨⟨w9, hv, hw9⟩, hg, hz0, hM, hMF⟩ := hp
  subst hv
  subst g2312
  refine r_istore hX dL_law_2315 (Nat.le_of_ble_eq_true rfl) rfl ?_
  refine r_aload_n hX dL_law_2317 rfl ?_
  refine r_callV hX dL_law_2318 (s_X8_thrown E g1 m2312 (x + 138) hM.1.1) ml_L_138 rfl rfl hM.1.1.1.1 rfl ⟨Nat.le_of_ble_eq_true rfl, Nat.le_of_ble_eq_true rfl⟩ ⟨by omega, by omega, rfl, Nat.le_of_ble_eq_true rfl⟩ (fun v2318 g2318 m2318 hp => ?_)
  obtain ⟨hv, hg, hm⟩ := hp
  subst v2318
  subst g2318
  subst m2318
  rw [hz0]
  refine r_iload hX dL_law_2321 rfl ?_
  refine r_icmp_eq (tgt := 2328) hX dL_law_2323 (by decide) (fun c2323 => ?_) (fun c2323 => ?_)
  · refine r_iload hX dL_law_2328 rfl ?_
    refine r_if_ne (tgt := 2345) hX dL_law_2330 (by decide) (fun c2330 => ?_) (fun c2330 => ?_)
    · refine r_goto (tgt := 2383) hX dL_law_2345 (by decide) ?_
      refine r_widen (cN' := cN + 25) (sN' := sN + 7500) (by omega) (by omega) ?_
      exact K _ _ _ _ _ _ _ (hJ.fin hM hMF (undoO_wf hI.2.2.2.2))
    · refine r_aload_n hX dL_law_2333 rfl ?_
      refine r_iconst (v := 0) hX dL_law_2334 (by decide) ?_
      have hr0 := r0_of hR5 c2330
      refine r_laload hX dL_law_2335 hJ.2.2.1 (pk_in 0 1 (by decide)) ?_
      rw [show qJ m2312 (x + 145) (Int32.toNatClampNeg 0) = (undoO O).2.1.toInt64 from (hMF.qJ _ _).trans (hq1 hr0)]
      refine r_iload hX dL_law_2336 rfl ?_
      rw [hw9 hr0]
      refine r_i2l hX dL_law_2338 ?_
      refine r_lcmp hX dL_law_2339 ?_
      rw [lg_self]
      refine r_if_eq (tgt := 2345) hX dL_law_2340 (by decide) (fun c2340 => ?_) (fun c2340 => ?_)
      · refine r_goto (tgt := 2383) hX dL_law_2345 (by decide) ?_
        refine r_widen (cN' := cN + 25) (sN' := sN + 7500) (by omega) (by omega) ?_
        exact K _ _ _ _ _ _ _ (hJ.fin hM hMF (undoO_wf hI.2.2.2.2))
      · exact absurd rfl c2340
  · exact absurd rfl c2323
set_option maxRecDepth 20000 in
set_option maxHeartbeats 4000000 in
theorem s_B48 {E : qE} {X : qX} {Q : State → Prop} {g : qG} {m : qM} {cN sN : Nat} (hX : MC E yL_law cL_law 10 (some .boolean) 1475 603072 7182442 [] X) {b L x u i : Nat} {xs : Nat → Int32} {O : kO} {z6 z7 z8 z9 : Option Value} (hs : ScrX E X b L xs) (hL : L ≤ 2048) (hi : i + 4 ≤ L) (hI : LI x u O g m) (hu : u ≤ 6144) (hcN : cN + 25 ≤ 603072) (hsN : sN + 7500 ≤ 7182442) (K : ∀ (O' : kO) (g' : qG) (m' : qM) (z6 z7 z8 z9 : Option Value), LI x (u + 12) O' g' m' → WS E X (cN + 25) (sN + 7500) Q g' m' 2383 [some (.ref b), some (.ref x), some (.ref (x + 138)), some (.ref (x + 145)), some (.ref (x + 146)), some (.int (nI i)), z6, z7, z8, z9] []) : WS E X cN sN Q g m 2348 [some (.ref b), some (.ref x), some (.ref (x + 138)), some (.ref (x + 145)), some (.ref (x + 146)), some (.int (nI i)), z6, z7, z8, z9] [] := by
  refine r_known (fun hk => ?_)
  refine r_aload_n hX dL_law_2348 rfl ?_
  refine r_callV hX dL_law_2349 (s_X7_save E g m x O hI.1 u hI.2.2.2.2 hu) ml_L_306 rfl rfl hI.1.1.1 rfl ⟨Nat.le_of_ble_eq_true rfl, Nat.le_of_ble_eq_true rfl⟩ ⟨by omega, by omega, rfl, Nat.le_of_ble_eq_true rfl⟩ (fun v2349 g2349 m2349 hp => ?_)
  obtain ⟨h0, hv, hO1, hF1⟩ := hp
  subst hv
  have hJ := hI.lx hO1 hF1 hk
  refine r_aload_n hX dL_law_2352 rfl ?_
  refine r_callV hX dL_law_2353 (s_X8_save E g2349 m2349 (x + 138) O hJ.2.1 u hJ.2.2.2.2 hu) ml_L_309 rfl rfl hJ.2.1.1.1.1.1 rfl ⟨Nat.le_of_ble_eq_true rfl, Nat.le_of_ble_eq_true rfl⟩ ⟨by omega, by omega, rfl, Nat.le_of_ble_eq_true rfl⟩ (fun v2353 g2353 m2353 hp => ?_)
  obtain ⟨hv, hg, hz0, hM, hMF⟩ := hp
  subst hv
  subst g2353
  refine r_goto (tgt := 2383) hX dL_law_2356 (by decide) ?_
  refine r_widen (cN' := cN + 25) (sN' := sN + 7500) (by omega) (by omega) ?_
  exact K _ _ _ _ _ _ _ (hJ.fin hM hMF (saveO_wf hI.2.2.2.2))
set_option maxRecDepth 20000 in
set_option maxHeartbeats 4000000 in
theorem s_B49 {E : qE} {X : qX} {Q : State → Prop} {g : qG} {m : qM} {cN sN : Nat} (hX : MC E yL_law cL_law 10 (some .boolean) 1475 603072 7182442 [] X) {b L x u i : Nat} {xs : Nat → Int32} {O : kO} {z6 z7 z8 z9 : Option Value} (hs : ScrX E X b L xs) (hL : L ≤ 2048) (hi : i + 4 ≤ L) (hI : LI x u O g m) (hu : u ≤ 6144) (hcN : cN + 25 ≤ 603072) (hsN : sN + 7500 ≤ 7182442) (K : ∀ (O' : kO) (g' : qG) (m' : qM) (z6 z7 z8 z9 : Option Value), LI x (u + 12) O' g' m' → WS E X (cN + 25) (sN + 7500) Q g' m' 2383 [some (.ref b), some (.ref x), some (.ref (x + 138)), some (.ref (x + 145)), some (.ref (x + 146)), some (.int (nI i)), z6, z7, z8, z9] []) : WS E X cN sN Q g m 2359 [some (.ref b), some (.ref x), some (.ref (x + 138)), some (.ref (x + 145)), some (.ref (x + 146)), some (.int (nI i)), z6, z7, z8, z9] [] := by
  refine r_known (fun hk => ?_)
  refine r_aload_n hX dL_law_2359 rfl ?_
  refine r_callH hX dL_law_2360 (s_L_restore E g m x O hI.1 u hI.2.2.2.2 hu ) ml_L_310 rfl rfl ⟨Nat.le_of_ble_eq_true rfl, Nat.le_of_ble_eq_true rfl⟩ ⟨by omega, by omega, rfl, Nat.le_of_ble_eq_true rfl⟩ (fun v1 g1 m1 hp => ?_)
  obtain ⟨hv, hO1, hF1, hR5⟩ := hp
  subst hv
  have hJ := hI.lx hO1 hF1 hk
  refine r_istore hX dL_law_2363 (Nat.le_of_ble_eq_true rfl) rfl ?_
  refine r_aload_n hX dL_law_2365 rfl ?_
  refine r_callV hX dL_law_2366 (s_X8_restore E g1 m1 (x + 138) O hJ.2.1 u hJ.2.2.2.2 hu) ml_L_313 rfl rfl hJ.2.1.1.1.1.1 rfl ⟨Nat.le_of_ble_eq_true rfl, Nat.le_of_ble_eq_true rfl⟩ ⟨by omega, by omega, rfl, Nat.le_of_ble_eq_true rfl⟩ (fun v2366 g2366 m2366 hp => ?_)
  obtain ⟨hv, hg, hz0, hM, hMF⟩ := hp
  subst hv
  subst g2366
  refine r_aload_n hX dL_law_2369 rfl ?_
  refine r_callV hX dL_law_2370 (s_X8_thrown E g1 m2366 (x + 138) hM.1.1) ml_L_138 rfl rfl hM.1.1.1.1 rfl ⟨Nat.le_of_ble_eq_true rfl, Nat.le_of_ble_eq_true rfl⟩ ⟨by omega, by omega, rfl, Nat.le_of_ble_eq_true rfl⟩ (fun v2370 g2370 m2370 hp => ?_)
  obtain ⟨hv, hg, hm⟩ := hp
  subst v2370
  subst g2370
  subst m2370
  rw [hz0]
  refine r_iload hX dL_law_2373 rfl ?_
  refine r_icmp_eq (tgt := 2380) hX dL_law_2375 (by decide) (fun c2375 => ?_) (fun c2375 => ?_)
  · refine r_goto (tgt := 2383) hX dL_law_2380 (by decide) ?_
    refine r_widen (cN' := cN + 25) (sN' := sN + 7500) (by omega) (by omega) ?_
    exact K _ _ _ _ _ _ _ (hJ.fin hM hMF (restO_wf hI.2.2.2.2))
  · exact absurd rfl c2375
