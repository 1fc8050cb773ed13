section LWC
variable {p : Program} {l : Launch} {e : Env} {s : State} {m : MethodId} {below : List Frame} {meth : Method} {c : Code} {D : va_G} {cI cC cZ cN : ClassId} {ts : Nat → Nat} {b L x0 m0 : Nat} {xs : Nat → Int32}
set_option maxHeartbeats 4000000 in
set_option maxRecDepth 100000 in
theorem lwc_now (hC : lw_C p s m meth c b L xs D cI cC cZ cN ts) {i : Nat} (hi : i + 7 ≤ L) {H : Heap} {locs : List Loc} (hJ : lw_I D cI cC cZ cN x0 m0 s H locs) {ls : Array Slot} (hl : lv_has ls 4 [(0, .ref b), (1, .ref x0), (2, .ref m0), (3, .int (nI i))]) (kk : ∀ (H : Heap) (locs : List Loc), lw_I D cI cC cZ cN x0 m0 s H locs → W p l e room_1 s m #[Value.ref b] below meth c H locs 94 8033 (lw_Z below #[Value.ref b] s) (F0 m 974 ls [])) : W p l e room_1 s m #[Value.ref b] below meth c H locs 94 8033 (lw_Z below #[Value.ref b] s) (F0 m 312 ls []) := by
  obtain ⟨⟨hx, hb, hr, hml, hown, -, hX, hbl, hlocks, hgv⟩, hL, hK, hN, hZ, hts⟩ := hC
  have hown : s.vm.findClass RL = some m.cls := hown
  have hbA : ¬ lw_A s b := Nat.not_le.mpr hbl
  obtain ⟨wX, wM, hI, hPX, hPM, hDX, hDM, hdis, hS⟩ := hJ
  obtain ⟨rv, PX, PM, ⟨v, rfl⟩, cX, cM, hnext⟩ := stp_now (l := l) (D := D) (ts := ts) hI (hDX.weaken (fun _ _ _ _ => trivial)) (hDM.weaken (fun _ _ _ _ => trivial)) (xs (nI (i + 1)).toNatClampNeg)
  obtain ⟨fX, heX⟩ := XInv.hx hI
  obtain ⟨fM, heM⟩ := XInv.hm hI
  refine lv_aload_n hx hb dL_law_312 rfl (lv_at hl 1 rfl) ?_
  refine lv_aload_n hx hb dL_law_313 rfl (lv_at hl 0 rfl) ?_
  refine lv_iload_n hx hb dL_law_314 rfl (lv_at hl 3 rfl) ?_
  refine lv_iconst (v := 1) hx hb dL_law_315 (by decide) ?_
  refine lv_iadd hx hb dL_law_316 ?_
  refine ly_eqi (show nI i + 1 = nI (i + 1) from ly_add rfl rfl) ?_
  refine va_sld hx hb hX hbl hbA hS (vp_in_nI (by omega) (by omega)) dL_law_317 ?_
  refine lw_m2 (va_runV (As := [.int (xs (nI (i + 1)).toNatClampNeg)]) (rest := []) ⟨hx, hb, hml, hown, hts⟩ cX (cwV 1 hts gL_law_X6_now rfl rfl rfl (by decide +kernel) ⟨Nat.le_of_ble_eq_true rfl, Nat.le_of_ble_eq_true rfl⟩) (ly_pvX (ly_pv hK hN hPX 0 6 rfl heX rfl) (hZ.at hS (fun q ⟨k, e, hq⟩ => hDX.2 k (q, e) hq))) rfl rfl hl.1 rfl (lv_room (Nat.le_of_ble_eq_true rfl)) dL_law_318 ⟨Nat.le_of_ble_eq_true rfl, Nat.le_of_ble_eq_true rfl⟩) hPM hDX (fun q h1 h2 => hdis q h2 h1) hS ?_
  rintro _ w1 H locs ⟨rfl, hpx⟩ ha1 hPX hPM hS
  refine W.eq (g2 := F0 m 321 ls [.int v]) rfl ?_
  refine lv_aload_n hx hb dL_law_321 rfl (lv_at hl 2 rfl) ?_
  refine lv_aload_n hx hb dL_law_322 rfl (lv_at hl 0 rfl) ?_
  refine lv_iload_n hx hb dL_law_323 rfl (lv_at hl 3 rfl) ?_
  refine lv_iconst (v := 1) hx hb dL_law_324 (by decide) ?_
  refine lv_iadd hx hb dL_law_325 ?_
  refine ly_eqi (show nI i + 1 = nI (i + 1) from ly_add rfl rfl) ?_
  refine va_sld hx hb hX hbl hbA hS (vp_in_nI (by omega) (by omega)) dL_law_326 ?_
  refine lw_m2 (va_runV (As := [.int (xs (nI (i + 1)).toNatClampNeg)]) (rest := [.int v]) ⟨hx, hb, hml, hown, hts⟩ cM (cwV 1 hts gL_law_X7_now rfl rfl rfl (by decide +kernel) ⟨Nat.le_of_ble_eq_true rfl, Nat.le_of_ble_eq_true rfl⟩) (ly_pv hK hN hPM 0 7 rfl heM rfl) rfl rfl hl.1 rfl (lv_room (Nat.le_of_ble_eq_true rfl)) dL_law_327 ⟨Nat.le_of_ble_eq_true rfl, Nat.le_of_ble_eq_true rfl⟩) hPX hDM (fun q h1 h2 => hdis q (ly_in_map ha1 h1) h2) hS ?_
  rintro _ w2 H locs ⟨rfl, hpm⟩ ha2 hPM hPX hS
  refine W.eq (g2 := F0 m 330 ls [.int v, .int v]) rfl ?_
  refine lv_icmp_eq (tgt := 974) hx hb dL_law_330 (by decide) (fun _ => ?_) (fun h_9 => absurd rfl h_9)
  obtain ⟨w3, hls, hI3⟩ := hnext w1 w2 hpx hpm
  exact kk H locs (lw_fin hI3 hls ha1 ha2 hPX hPM hDX hDM hdis hS)
set_option maxHeartbeats 4000000 in
set_option maxRecDepth 100000 in
theorem lwc_lends (hC : lw_C p s m meth c b L xs D cI cC cZ cN ts) {i : Nat} (hi : i + 7 ≤ L) {H : Heap} {locs : List Loc} (hJ : lw_I D cI cC cZ cN x0 m0 s H locs) {ls : Array Slot} (hl : lv_has ls 4 [(0, .ref b), (1, .ref x0), (2, .ref m0), (3, .int (nI i))]) (kk : ∀ (H : Heap) (locs : List Loc), lw_I D cI cC cZ cN x0 m0 s H locs → W p l e room_1 s m #[Value.ref b] below meth c H locs 94 8033 (lw_Z below #[Value.ref b] s) (F0 m 974 ls [])) : W p l e room_1 s m #[Value.ref b] below meth c H locs 94 8033 (lw_Z below #[Value.ref b] s) (F0 m 335 ls []) := by
  obtain ⟨⟨hx, hb, hr, hml, hown, -, hX, hbl, hlocks, hgv⟩, hL, hK, hN, hZ, hts⟩ := hC
  have hown : s.vm.findClass RL = some m.cls := hown
  have hbA : ¬ lw_A s b := Nat.not_le.mpr hbl
  obtain ⟨wX, wM, hI, hPX, hPM, hDX, hDM, hdis, hS⟩ := hJ
  obtain ⟨rv, PX, PM, ⟨v, rfl⟩, cX, cM, hnext⟩ := stp_lends (l := l) (D := D) (ts := ts) hI (hDX.weaken (fun _ _ _ _ => trivial)) (hDM.weaken (fun _ _ _ _ => trivial)) (xs (nI (i + 1)).toNatClampNeg) (xs (nI (i + 2)).toNatClampNeg)
  obtain ⟨fX, heX⟩ := XInv.hx hI
  obtain ⟨fM, heM⟩ := XInv.hm hI
  refine lv_aload_n hx hb dL_law_335 rfl (lv_at hl 1 rfl) ?_
  refine lv_aload_n hx hb dL_law_336 rfl (lv_at hl 0 rfl) ?_
  refine lv_iload_n hx hb dL_law_337 rfl (lv_at hl 3 rfl) ?_
  refine lv_iconst (v := 1) hx hb dL_law_338 (by decide) ?_
  refine lv_iadd hx hb dL_law_339 ?_
  refine ly_eqi (show nI i + 1 = nI (i + 1) from ly_add rfl rfl) ?_
  refine va_sld hx hb hX hbl hbA hS (vp_in_nI (by omega) (by omega)) dL_law_340 ?_
  refine lv_aload_n hx hb dL_law_341 rfl (lv_at hl 0 rfl) ?_
  refine lv_iload_n hx hb dL_law_342 rfl (lv_at hl 3 rfl) ?_
  refine lv_iconst (v := 2) hx hb dL_law_343 (by decide) ?_
  refine lv_iadd hx hb dL_law_344 ?_
  refine ly_eqi (show nI i + 2 = nI (i + 2) from ly_add rfl rfl) ?_
  refine va_sld hx hb hX hbl hbA hS (vp_in_nI (by omega) (by omega)) dL_law_345 ?_
  refine lw_m2 (va_runV (As := [.int (xs (nI (i + 1)).toNatClampNeg), .int (xs (nI (i + 2)).toNatClampNeg)]) (rest := []) ⟨hx, hb, hml, hown, hts⟩ cX (cwV 2 hts gL_law_X6_lends rfl rfl rfl (by decide +kernel) ⟨Nat.le_of_ble_eq_true rfl, Nat.le_of_ble_eq_true rfl⟩) (ly_pvX (ly_pv hK hN hPX 0 6 rfl heX rfl) (hZ.at hS (fun q ⟨k, e, hq⟩ => hDX.2 k (q, e) hq))) rfl rfl hl.1 rfl (lv_room (Nat.le_of_ble_eq_true rfl)) dL_law_346 ⟨Nat.le_of_ble_eq_true rfl, Nat.le_of_ble_eq_true rfl⟩) hPM hDX (fun q h1 h2 => hdis q h2 h1) hS ?_
  rintro _ w1 H locs ⟨rfl, hpx⟩ ha1 hPX hPM hS
  refine W.eq (g2 := F0 m 349 ls [.int v]) rfl ?_
  refine lv_aload_n hx hb dL_law_349 rfl (lv_at hl 2 rfl) ?_
  refine lv_aload_n hx hb dL_law_350 rfl (lv_at hl 0 rfl) ?_
  refine lv_iload_n hx hb dL_law_351 rfl (lv_at hl 3 rfl) ?_
  refine lv_iconst (v := 1) hx hb dL_law_352 (by decide) ?_
  refine lv_iadd hx hb dL_law_353 ?_
  refine ly_eqi (show nI i + 1 = nI (i + 1) from ly_add rfl rfl) ?_
  refine va_sld hx hb hX hbl hbA hS (vp_in_nI (by omega) (by omega)) dL_law_354 ?_
  refine lv_aload_n hx hb dL_law_355 rfl (lv_at hl 0 rfl) ?_
  refine lv_iload_n hx hb dL_law_356 rfl (lv_at hl 3 rfl) ?_
  refine lv_iconst (v := 2) hx hb dL_law_357 (by decide) ?_
  refine lv_iadd hx hb dL_law_358 ?_
  refine ly_eqi (show nI i + 2 = nI (i + 2) from ly_add rfl rfl) ?_
  refine va_sld hx hb hX hbl hbA hS (vp_in_nI (by omega) (by omega)) dL_law_359 ?_
  refine lw_m2 (va_runV (As := [.int (xs (nI (i + 1)).toNatClampNeg), .int (xs (nI (i + 2)).toNatClampNeg)]) (rest := [.int v]) ⟨hx, hb, hml, hown, hts⟩ cM (cwV 2 hts gL_law_X7_lends rfl rfl rfl (by decide +kernel) ⟨Nat.le_of_ble_eq_true rfl, Nat.le_of_ble_eq_true rfl⟩) (ly_pv hK hN hPM 0 7 rfl heM rfl) rfl rfl hl.1 rfl (lv_room (Nat.le_of_ble_eq_true rfl)) dL_law_360 ⟨Nat.le_of_ble_eq_true rfl, Nat.le_of_ble_eq_true rfl⟩) hPX hDM (fun q h1 h2 => hdis q (ly_in_map ha1 h1) h2) hS ?_
  rintro _ w2 H locs ⟨rfl, hpm⟩ ha2 hPM hPX hS
  refine W.eq (g2 := F0 m 363 ls [.int v, .int v]) rfl ?_
  refine lv_icmp_eq (tgt := 974) hx hb dL_law_363 (by decide) (fun _ => ?_) (fun h_9 => absurd rfl h_9)
  obtain ⟨w3, hls, hI3⟩ := hnext w1 w2 hpx hpm
  exact kk H locs (lw_fin hI3 hls ha1 ha2 hPX hPM hDX hDM hdis hS)
set_option maxHeartbeats 4000000 in
set_option maxRecDepth 100000 in
theorem lwc_walks (hC : lw_C p s m meth c b L xs D cI cC cZ cN ts) {i : Nat} (hi : i + 7 ≤ L) {H : Heap} {locs : List Loc} (hJ : lw_I D cI cC cZ cN x0 m0 s H locs) {ls : Array Slot} (hl : lv_has ls 4 [(0, .ref b), (1, .ref x0), (2, .ref m0), (3, .int (nI i))]) (kk : ∀ (H : Heap) (locs : List Loc), lw_I D cI cC cZ cN x0 m0 s H locs → W p l e room_1 s m #[Value.ref b] below meth c H locs 94 8033 (lw_Z below #[Value.ref b] s) (F0 m 974 ls [])) : W p l e room_1 s m #[Value.ref b] below meth c H locs 94 8033 (lw_Z below #[Value.ref b] s) (F0 m 368 ls []) := by
  obtain ⟨⟨hx, hb, hr, hml, hown, -, hX, hbl, hlocks, hgv⟩, hL, hK, hN, hZ, hts⟩ := hC
  have hown : s.vm.findClass RL = some m.cls := hown
  have hbA : ¬ lw_A s b := Nat.not_le.mpr hbl
  obtain ⟨wX, wM, hI, hPX, hPM, hDX, hDM, hdis, hS⟩ := hJ
  obtain ⟨rv, PX, PM, ⟨v, rfl⟩, cX, cM, hnext⟩ := stp_walks (l := l) (D := D) (ts := ts) hI (hDX.weaken (fun _ _ _ _ => trivial)) (hDM.weaken (fun _ _ _ _ => trivial)) (xs (nI (i + 1)).toNatClampNeg) (xs (nI (i + 2)).toNatClampNeg) (xs (nI (i + 3)).toNatClampNeg)
  obtain ⟨fX, heX⟩ := XInv.hx hI
  obtain ⟨fM, heM⟩ := XInv.hm hI
  refine lv_aload_n hx hb dL_law_368 rfl (lv_at hl 1 rfl) ?_
  refine lv_aload_n hx hb dL_law_369 rfl (lv_at hl 0 rfl) ?_
  refine lv_iload_n hx hb dL_law_370 rfl (lv_at hl 3 rfl) ?_
  refine lv_iconst (v := 1) hx hb dL_law_371 (by decide) ?_
  refine lv_iadd hx hb dL_law_372 ?_
  refine ly_eqi (show nI i + 1 = nI (i + 1) from ly_add rfl rfl) ?_
  refine va_sld hx hb hX hbl hbA hS (vp_in_nI (by omega) (by omega)) dL_law_373 ?_
  refine lv_aload_n hx hb dL_law_374 rfl (lv_at hl 0 rfl) ?_
  refine lv_iload_n hx hb dL_law_375 rfl (lv_at hl 3 rfl) ?_
  refine lv_iconst (v := 2) hx hb dL_law_376 (by decide) ?_
  refine lv_iadd hx hb dL_law_377 ?_
  refine ly_eqi (show nI i + 2 = nI (i + 2) from ly_add rfl rfl) ?_
  refine va_sld hx hb hX hbl hbA hS (vp_in_nI (by omega) (by omega)) dL_law_378 ?_
  refine lv_aload_n hx hb dL_law_379 rfl (lv_at hl 0 rfl) ?_
  refine lv_iload_n hx hb dL_law_380 rfl (lv_at hl 3 rfl) ?_
  refine lv_iconst (v := 3) hx hb dL_law_381 (by decide) ?_
  refine lv_iadd hx hb dL_law_382 ?_
  refine ly_eqi (show nI i + 3 = nI (i + 3) from ly_add rfl rfl) ?_
  refine va_sld hx hb hX hbl hbA hS (vp_in_nI (by omega) (by omega)) dL_law_383 ?_
  refine lw_m2 (va_runV (As := [.int (xs (nI (i + 1)).toNatClampNeg), .int (xs (nI (i + 2)).toNatClampNeg), .int (xs (nI (i + 3)).toNatClampNeg)]) (rest := []) ⟨hx, hb, hml, hown, hts⟩ cX (cwV 3 hts gL_law_X6_walks rfl rfl rfl (by decide +kernel) ⟨Nat.le_of_ble_eq_true rfl, Nat.le_of_ble_eq_true rfl⟩) (ly_pvX (ly_pv hK hN hPX 0 6 rfl heX rfl) (hZ.at hS (fun q ⟨k, e, hq⟩ => hDX.2 k (q, e) hq))) rfl rfl hl.1 rfl (lv_room (Nat.le_of_ble_eq_true rfl)) dL_law_384 ⟨Nat.le_of_ble_eq_true rfl, Nat.le_of_ble_eq_true rfl⟩) hPM hDX (fun q h1 h2 => hdis q h2 h1) hS ?_
  rintro _ w1 H locs ⟨rfl, hpx⟩ ha1 hPX hPM hS
  refine W.eq (g2 := F0 m 387 ls [.int v]) rfl ?_
  refine lv_aload_n hx hb dL_law_387 rfl (lv_at hl 2 rfl) ?_
  refine lv_aload_n hx hb dL_law_388 rfl (lv_at hl 0 rfl) ?_
  refine lv_iload_n hx hb dL_law_389 rfl (lv_at hl 3 rfl) ?_
  refine lv_iconst (v := 1) hx hb dL_law_390 (by decide) ?_
  refine lv_iadd hx hb dL_law_391 ?_
  refine ly_eqi (show nI i + 1 = nI (i + 1) from ly_add rfl rfl) ?_
  refine va_sld hx hb hX hbl hbA hS (vp_in_nI (by omega) (by omega)) dL_law_392 ?_
  refine lv_aload_n hx hb dL_law_393 rfl (lv_at hl 0 rfl) ?_
  refine lv_iload_n hx hb dL_law_394 rfl (lv_at hl 3 rfl) ?_
  refine lv_iconst (v := 2) hx hb dL_law_395 (by decide) ?_
  refine lv_iadd hx hb dL_law_396 ?_
  refine ly_eqi (show nI i + 2 = nI (i + 2) from ly_add rfl rfl) ?_
  refine va_sld hx hb hX hbl hbA hS (vp_in_nI (by omega) (by omega)) dL_law_397 ?_
  refine lv_aload_n hx hb dL_law_398 rfl (lv_at hl 0 rfl) ?_
  refine lv_iload_n hx hb dL_law_399 rfl (lv_at hl 3 rfl) ?_
  refine lv_iconst (v := 3) hx hb dL_law_400 (by decide) ?_
  refine lv_iadd hx hb dL_law_401 ?_
  refine ly_eqi (show nI i + 3 = nI (i + 3) from ly_add rfl rfl) ?_
  refine va_sld hx hb hX hbl hbA hS (vp_in_nI (by omega) (by omega)) dL_law_402 ?_
  refine lw_m2 (va_runV (As := [.int (xs (nI (i + 1)).toNatClampNeg), .int (xs (nI (i + 2)).toNatClampNeg), .int (xs (nI (i + 3)).toNatClampNeg)]) (rest := [.int v]) ⟨hx, hb, hml, hown, hts⟩ cM (cwV 3 hts gL_law_X7_walks rfl rfl rfl (by decide +kernel) ⟨Nat.le_of_ble_eq_true rfl, Nat.le_of_ble_eq_true rfl⟩) (ly_pv hK hN hPM 0 7 rfl heM rfl) rfl rfl hl.1 rfl (lv_room (Nat.le_of_ble_eq_true rfl)) dL_law_403 ⟨Nat.le_of_ble_eq_true rfl, Nat.le_of_ble_eq_true rfl⟩) hPX hDM (fun q h1 h2 => hdis q (ly_in_map ha1 h1) h2) hS ?_
  rintro _ w2 H locs ⟨rfl, hpm⟩ ha2 hPM hPX hS
  refine W.eq (g2 := F0 m 406 ls [.int v, .int v]) rfl ?_
  refine lv_icmp_eq (tgt := 974) hx hb dL_law_406 (by decide) (fun _ => ?_) (fun h_9 => absurd rfl h_9)
  obtain ⟨w3, hls, hI3⟩ := hnext w1 w2 hpx hpm
  exact kk H locs (lw_fin hI3 hls ha1 ha2 hPX hPM hDX hDM hdis hS)
set_option maxHeartbeats 4000000 in
set_option maxRecDepth 100000 in
theorem lwc_brings (hC : lw_C p s m meth c b L xs D cI cC cZ cN ts) {i : Nat} (hi : i + 7 ≤ L) {H : Heap} {locs : List Loc} (hJ : lw_I D cI cC cZ cN x0 m0 s H locs) {ls : Array Slot} (hl : lv_has ls 4 [(0, .ref b), (1, .ref x0), (2, .ref m0), (3, .int (nI i))]) (kk : ∀ (H : Heap) (locs : List Loc), lw_I D cI cC cZ cN x0 m0 s H locs → W p l e room_1 s m #[Value.ref b] below meth c H locs 94 8033 (lw_Z below #[Value.ref b] s) (F0 m 974 ls [])) : W p l e room_1 s m #[Value.ref b] below meth c H locs 94 8033 (lw_Z below #[Value.ref b] s) (F0 m 411 ls []) := by
  obtain ⟨⟨hx, hb, hr, hml, hown, -, hX, hbl, hlocks, hgv⟩, hL, hK, hN, hZ, hts⟩ := hC
  have hown : s.vm.findClass RL = some m.cls := hown
  have hbA : ¬ lw_A s b := Nat.not_le.mpr hbl
  obtain ⟨wX, wM, hI, hPX, hPM, hDX, hDM, hdis, hS⟩ := hJ
  obtain ⟨rv, PX, PM, ⟨v, rfl⟩, cX, cM, hnext⟩ := stp_brings (l := l) (D := D) (ts := ts) hI (hDX.weaken (fun _ _ _ _ => trivial)) (hDM.weaken (fun _ _ _ _ => trivial)) (xs (nI (i + 1)).toNatClampNeg)
  obtain ⟨fX, heX⟩ := XInv.hx hI
  obtain ⟨fM, heM⟩ := XInv.hm hI
  refine lv_aload_n hx hb dL_law_411 rfl (lv_at hl 1 rfl) ?_
  refine lv_aload_n hx hb dL_law_412 rfl (lv_at hl 0 rfl) ?_
  refine lv_iload_n hx hb dL_law_413 rfl (lv_at hl 3 rfl) ?_
  refine lv_iconst (v := 1) hx hb dL_law_414 (by decide) ?_
  refine lv_iadd hx hb dL_law_415 ?_
  refine ly_eqi (show nI i + 1 = nI (i + 1) from ly_add rfl rfl) ?_
  refine va_sld hx hb hX hbl hbA hS (vp_in_nI (by omega) (by omega)) dL_law_416 ?_
  refine lw_m2 (va_runV (As := [.int (xs (nI (i + 1)).toNatClampNeg)]) (rest := []) ⟨hx, hb, hml, hown, hts⟩ cX (cwV 1 hts gL_law_X6_brings rfl rfl rfl (by decide +kernel) ⟨Nat.le_of_ble_eq_true rfl, Nat.le_of_ble_eq_true rfl⟩) (ly_pvX (ly_pv hK hN hPX 0 6 rfl heX rfl) (hZ.at hS (fun q ⟨k, e, hq⟩ => hDX.2 k (q, e) hq))) rfl rfl hl.1 rfl (lv_room (Nat.le_of_ble_eq_true rfl)) dL_law_417 ⟨Nat.le_of_ble_eq_true rfl, Nat.le_of_ble_eq_true rfl⟩) hPM hDX (fun q h1 h2 => hdis q h2 h1) hS ?_
  rintro _ w1 H locs ⟨rfl, hpx⟩ ha1 hPX hPM hS
  refine W.eq (g2 := F0 m 420 ls [.int v]) rfl ?_
  refine lv_aload_n hx hb dL_law_420 rfl (lv_at hl 2 rfl) ?_
  refine lv_aload_n hx hb dL_law_421 rfl (lv_at hl 0 rfl) ?_
  refine lv_iload_n hx hb dL_law_422 rfl (lv_at hl 3 rfl) ?_
  refine lv_iconst (v := 1) hx hb dL_law_423 (by decide) ?_
  refine lv_iadd hx hb dL_law_424 ?_
  refine ly_eqi (show nI i + 1 = nI (i + 1) from ly_add rfl rfl) ?_
  refine va_sld hx hb hX hbl hbA hS (vp_in_nI (by omega) (by omega)) dL_law_425 ?_
  refine lw_m2 (va_runV (As := [.int (xs (nI (i + 1)).toNatClampNeg)]) (rest := [.int v]) ⟨hx, hb, hml, hown, hts⟩ cM (cwV 1 hts gL_law_X7_brings rfl rfl rfl (by decide +kernel) ⟨Nat.le_of_ble_eq_true rfl, Nat.le_of_ble_eq_true rfl⟩) (ly_pv hK hN hPM 0 7 rfl heM rfl) rfl rfl hl.1 rfl (lv_room (Nat.le_of_ble_eq_true rfl)) dL_law_426 ⟨Nat.le_of_ble_eq_true rfl, Nat.le_of_ble_eq_true rfl⟩) hPX hDM (fun q h1 h2 => hdis q (ly_in_map ha1 h1) h2) hS ?_
  rintro _ w2 H locs ⟨rfl, hpm⟩ ha2 hPM hPX hS
  refine W.eq (g2 := F0 m 429 ls [.int v, .int v]) rfl ?_
  refine lv_icmp_eq (tgt := 974) hx hb dL_law_429 (by decide) (fun _ => ?_) (fun h_9 => absurd rfl h_9)
  obtain ⟨w3, hls, hI3⟩ := hnext w1 w2 hpx hpm
  exact kk H locs (lw_fin hI3 hls ha1 ha2 hPX hPM hDX hDM hdis hS)
set_option maxHeartbeats 4000000 in
set_option maxRecDepth 100000 in
theorem lwc_pledges (hC : lw_C p s m meth c b L xs D cI cC cZ cN ts) {i : Nat} (hi : i + 7 ≤ L) {H : Heap} {locs : List Loc} (hJ : lw_I D cI cC cZ cN x0 m0 s H locs) {ls : Array Slot} (hl : lv_has ls 4 [(0, .ref b), (1, .ref x0), (2, .ref m0), (3, .int (nI i))]) (kk : ∀ (H : Heap) (locs : List Loc), lw_I D cI cC cZ cN x0 m0 s H locs → W p l e room_1 s m #[Value.ref b] below meth c H locs 94 8033 (lw_Z below #[Value.ref b] s) (F0 m 974 ls [])) : W p l e room_1 s m #[Value.ref b] below meth c H locs 94 8033 (lw_Z below #[Value.ref b] s) (F0 m 434 ls []) := by
  obtain ⟨⟨hx, hb, hr, hml, hown, -, hX, hbl, hlocks, hgv⟩, hL, hK, hN, hZ, hts⟩ := hC
  have hown : s.vm.findClass RL = some m.cls := hown
  have hbA : ¬ lw_A s b := Nat.not_le.mpr hbl
  obtain ⟨wX, wM, hI, hPX, hPM, hDX, hDM, hdis, hS⟩ := hJ
  obtain ⟨rv, PX, PM, ⟨v, rfl⟩, cX, cM, hnext⟩ := stp_pledges (l := l) (D := D) (ts := ts) hI (hDX.weaken (fun _ _ _ _ => trivial)) (hDM.weaken (fun _ _ _ _ => trivial)) (xs (nI (i + 1)).toNatClampNeg) (xs (nI (i + 2)).toNatClampNeg)
  obtain ⟨fX, heX⟩ := XInv.hx hI
  obtain ⟨fM, heM⟩ := XInv.hm hI
  refine lv_aload_n hx hb dL_law_434 rfl (lv_at hl 1 rfl) ?_
  refine lv_aload_n hx hb dL_law_435 rfl (lv_at hl 0 rfl) ?_
  refine lv_iload_n hx hb dL_law_436 rfl (lv_at hl 3 rfl) ?_
  refine lv_iconst (v := 1) hx hb dL_law_437 (by decide) ?_
  refine lv_iadd hx hb dL_law_438 ?_
  refine ly_eqi (show nI i + 1 = nI (i + 1) from ly_add rfl rfl) ?_
  refine va_sld hx hb hX hbl hbA hS (vp_in_nI (by omega) (by omega)) dL_law_439 ?_
  refine lv_aload_n hx hb dL_law_440 rfl (lv_at hl 0 rfl) ?_
  refine lv_iload_n hx hb dL_law_441 rfl (lv_at hl 3 rfl) ?_
  refine lv_iconst (v := 2) hx hb dL_law_442 (by decide) ?_
  refine lv_iadd hx hb dL_law_443 ?_
  refine ly_eqi (show nI i + 2 = nI (i + 2) from ly_add rfl rfl) ?_
  refine va_sld hx hb hX hbl hbA hS (vp_in_nI (by omega) (by omega)) dL_law_444 ?_
  refine lw_m2 (va_runV (As := [.int (xs (nI (i + 1)).toNatClampNeg), .int (xs (nI (i + 2)).toNatClampNeg)]) (rest := []) ⟨hx, hb, hml, hown, hts⟩ cX (cwV 2 hts gL_law_X6_pledges rfl rfl rfl (by decide +kernel) ⟨Nat.le_of_ble_eq_true rfl, Nat.le_of_ble_eq_true rfl⟩) (ly_pvX (ly_pv hK hN hPX 0 6 rfl heX rfl) (hZ.at hS (fun q ⟨k, e, hq⟩ => hDX.2 k (q, e) hq))) rfl rfl hl.1 rfl (lv_room (Nat.le_of_ble_eq_true rfl)) dL_law_445 ⟨Nat.le_of_ble_eq_true rfl, Nat.le_of_ble_eq_true rfl⟩) hPM hDX (fun q h1 h2 => hdis q h2 h1) hS ?_
  rintro _ w1 H locs ⟨rfl, hpx⟩ ha1 hPX hPM hS
  refine W.eq (g2 := F0 m 448 ls [.int v]) rfl ?_
  refine lv_aload_n hx hb dL_law_448 rfl (lv_at hl 2 rfl) ?_
  refine lv_aload_n hx hb dL_law_449 rfl (lv_at hl 0 rfl) ?_
  refine lv_iload_n hx hb dL_law_450 rfl (lv_at hl 3 rfl) ?_
  refine lv_iconst (v := 1) hx hb dL_law_451 (by decide) ?_
  refine lv_iadd hx hb dL_law_452 ?_
  refine ly_eqi (show nI i + 1 = nI (i + 1) from ly_add rfl rfl) ?_
  refine va_sld hx hb hX hbl hbA hS (vp_in_nI (by omega) (by omega)) dL_law_453 ?_
  refine lv_aload_n hx hb dL_law_454 rfl (lv_at hl 0 rfl) ?_
  refine lv_iload_n hx hb dL_law_455 rfl (lv_at hl 3 rfl) ?_
  refine lv_iconst (v := 2) hx hb dL_law_456 (by decide) ?_
  refine lv_iadd hx hb dL_law_457 ?_
  refine ly_eqi (show nI i + 2 = nI (i + 2) from ly_add rfl rfl) ?_
  refine va_sld hx hb hX hbl hbA hS (vp_in_nI (by omega) (by omega)) dL_law_458 ?_
  refine lw_m2 (va_runV (As := [.int (xs (nI (i + 1)).toNatClampNeg), .int (xs (nI (i + 2)).toNatClampNeg)]) (rest := [.int v]) ⟨hx, hb, hml, hown, hts⟩ cM (cwV 2 hts gL_law_X7_pledges rfl rfl rfl (by decide +kernel) ⟨Nat.le_of_ble_eq_true rfl, Nat.le_of_ble_eq_true rfl⟩) (ly_pv hK hN hPM 0 7 rfl heM rfl) rfl rfl hl.1 rfl (lv_room (Nat.le_of_ble_eq_true rfl)) dL_law_459 ⟨Nat.le_of_ble_eq_true rfl, Nat.le_of_ble_eq_true rfl⟩) hPX hDM (fun q h1 h2 => hdis q (ly_in_map ha1 h1) h2) hS ?_
  rintro _ w2 H locs ⟨rfl, hpm⟩ ha2 hPM hPX hS
  refine W.eq (g2 := F0 m 462 ls [.int v, .int v]) rfl ?_
  refine lv_icmp_eq (tgt := 974) hx hb dL_law_462 (by decide) (fun _ => ?_) (fun h_9 => absurd rfl h_9)
  obtain ⟨w3, hls, hI3⟩ := hnext w1 w2 hpx hpm
  exact kk H locs (lw_fin hI3 hls ha1 ha2 hPX hPM hDX hDM hdis hS)
set_option maxHeartbeats 4000000 in
set_option maxRecDepth 100000 in
theorem lwc_bell (hC : lw_C p s m meth c b L xs D cI cC cZ cN ts) {i : Nat} (hi : i + 7 ≤ L) {H : Heap} {locs : List Loc} (hJ : lw_I D cI cC cZ cN x0 m0 s H locs) {ls : Array Slot} (hl : lv_has ls 4 [(0, .ref b), (1, .ref x0), (2, .ref m0), (3, .int (nI i))]) (kk : ∀ (H : Heap) (locs : List Loc), lw_I D cI cC cZ cN x0 m0 s H locs → W p l e room_1 s m #[Value.ref b] below meth c H locs 94 8033 (lw_Z below #[Value.ref b] s) (F0 m 974 ls [])) : W p l e room_1 s m #[Value.ref b] below meth c H locs 94 8033 (lw_Z below #[Value.ref b] s) (F0 m 467 ls []) := by
  obtain ⟨⟨hx, hb, hr, hml, hown, -, hX, hbl, hlocks, hgv⟩, hL, hK, hN, hZ, hts⟩ := hC
  have hown : s.vm.findClass RL = some m.cls := hown
  have hbA : ¬ lw_A s b := Nat.not_le.mpr hbl
  obtain ⟨wX, wM, hI, hPX, hPM, hDX, hDM, hdis, hS⟩ := hJ
  obtain ⟨rv, PX, PM, ⟨v, rfl⟩, cX, cM, hnext⟩ := stp_bell (l := l) (D := D) (ts := ts) hI (hDX.weaken (fun _ _ _ _ => trivial)) (hDM.weaken (fun _ _ _ _ => trivial))
  obtain ⟨fX, heX⟩ := XInv.hx hI
  obtain ⟨fM, heM⟩ := XInv.hm hI
  refine lv_aload_n hx hb dL_law_467 rfl (lv_at hl 1 rfl) ?_
  refine lw_m2 (va_runV (As := []) (rest := []) ⟨hx, hb, hml, hown, hts⟩ cX (cwV 0 hts gL_law_X6_bell rfl rfl rfl (by decide +kernel) ⟨Nat.le_of_ble_eq_true rfl, Nat.le_of_ble_eq_true rfl⟩) (ly_pvX (ly_pv hK hN hPX 0 6 rfl heX rfl) (hZ.at hS (fun q ⟨k, e, hq⟩ => hDX.2 k (q, e) hq))) rfl rfl hl.1 rfl (lv_room (Nat.le_of_ble_eq_true rfl)) dL_law_468 ⟨Nat.le_of_ble_eq_true rfl, Nat.le_of_ble_eq_true rfl⟩) hPM hDX (fun q h1 h2 => hdis q h2 h1) hS ?_
  rintro _ w1 H locs ⟨rfl, hpx⟩ ha1 hPX hPM hS
  refine W.eq (g2 := F0 m 471 ls [.int v]) rfl ?_
  refine lv_aload_n hx hb dL_law_471 rfl (lv_at hl 2 rfl) ?_
  refine lw_m2 (va_runV (As := []) (rest := [.int v]) ⟨hx, hb, hml, hown, hts⟩ cM (cwV 0 hts gL_law_X7_bell rfl rfl rfl (by decide +kernel) ⟨Nat.le_of_ble_eq_true rfl, Nat.le_of_ble_eq_true rfl⟩) (ly_pv hK hN hPM 0 7 rfl heM rfl) rfl rfl hl.1 rfl (lv_room (Nat.le_of_ble_eq_true rfl)) dL_law_472 ⟨Nat.le_of_ble_eq_true rfl, Nat.le_of_ble_eq_true rfl⟩) hPX hDM (fun q h1 h2 => hdis q (ly_in_map ha1 h1) h2) hS ?_
  rintro _ w2 H locs ⟨rfl, hpm⟩ ha2 hPM hPX hS
  refine W.eq (g2 := F0 m 475 ls [.int v, .int v]) rfl ?_
  refine lv_icmp_eq (tgt := 974) hx hb dL_law_475 (by decide) (fun _ => ?_) (fun h_9 => absurd rfl h_9)
  obtain ⟨w3, hls, hI3⟩ := hnext w1 w2 hpx hpm
  exact kk H locs (lw_fin hI3 hls ha1 ha2 hPX hPM hDX hDM hdis hS)
end LWC
