section LWC
variable {p : Program} {l : Launch} {e : Env} {s : State} {m : MethodId} {below : List Frame} {meth : Method} {c : Code} {D : va_G} {cI cC cZ cN : ClassId} {ts : Nat → Nat} {b L x0 m0 : Nat} {xs : Nat → Int32}
set_option maxHeartbeats 4000000 in
set_option maxRecDepth 100000 in
theorem lwc_undo (hC : lw_C p s m meth c b L xs D cI cC cZ cN ts) {i : Nat} (hi : i + 7 ≤ L) {H : Heap} {locs : List Loc} (hJ : lw_I D cI cC cZ cN x0 m0 s H locs) {ls : Array Slot} (hl : lv_has ls 4 [(0, .ref b), (1, .ref x0), (2, .ref m0), (3, .int (nI i))]) (kk : ∀ (H : Heap) (locs : List Loc), lw_I D cI cC cZ cN x0 m0 s H locs → W p l e room_1 s m #[Value.ref b] below meth c H locs 94 8033 (lw_Z below #[Value.ref b] s) (F0 m 974 ls [])) : W p l e room_1 s m #[Value.ref b] below meth c H locs 94 8033 (lw_Z below #[Value.ref b] s) (F0 m 480 ls []) := by
  obtain ⟨⟨hx, hb, hr, hml, hown, -, hX, hbl, hlocks, hgv⟩, hL, hK, hN, hZ, hts⟩ := hC
  have hown : s.vm.findClass RL = some m.cls := hown
  have hbA : ¬ lw_A s b := Nat.not_le.mpr hbl
  obtain ⟨wX, wM, hI, hPX, hPM, hDX, hDM, hdis, hS⟩ := hJ
  obtain ⟨rv, PX, PM, ⟨v, rfl⟩, cX, cM, hnext⟩ := stp_undo (l := l) (D := D) (ts := ts) hI (hDX.weaken (fun _ _ _ _ => trivial)) (hDM.weaken (fun _ _ _ _ => trivial))
  obtain ⟨fX, heX⟩ := XInv.hx hI
  obtain ⟨fM, heM⟩ := XInv.hm hI
  refine lv_aload_n hx hb dL_law_480 rfl (lv_at hl 1 rfl) ?_
  refine lw_m2 (va_runV (As := []) (rest := []) ⟨hx, hb, hml, hown, hts⟩ cX (cwV 0 hts gL_law_X6_undo rfl rfl rfl (by decide +kernel) ⟨Nat.le_of_ble_eq_true rfl, Nat.le_of_ble_eq_true rfl⟩) (ly_pvX (ly_pv hK hN hPX 0 6 rfl heX rfl) (hZ.at hS (fun q ⟨k, e, hq⟩ => hDX.2 k (q, e) hq))) rfl rfl hl.1 rfl (lv_room (Nat.le_of_ble_eq_true rfl)) dL_law_481 ⟨Nat.le_of_ble_eq_true rfl, Nat.le_of_ble_eq_true rfl⟩) hPM hDX (fun q h1 h2 => hdis q h2 h1) hS ?_
  rintro _ w1 H locs ⟨rfl, hpx⟩ ha1 hPX hPM hS
  refine W.eq (g2 := F0 m 484 ls [.int v]) rfl ?_
  refine lv_aload_n hx hb dL_law_484 rfl (lv_at hl 2 rfl) ?_
  refine lw_m2 (va_runV (As := []) (rest := [.int v]) ⟨hx, hb, hml, hown, hts⟩ cM (cwV 0 hts gL_law_X7_undo rfl rfl rfl (by decide +kernel) ⟨Nat.le_of_ble_eq_true rfl, Nat.le_of_ble_eq_true rfl⟩) (ly_pv hK hN hPM 0 7 rfl heM rfl) rfl rfl hl.1 rfl (lv_room (Nat.le_of_ble_eq_true rfl)) dL_law_485 ⟨Nat.le_of_ble_eq_true rfl, Nat.le_of_ble_eq_true rfl⟩) hPX hDM (fun q h1 h2 => hdis q (ly_in_map ha1 h1) h2) hS ?_
  rintro _ w2 H locs ⟨rfl, hpm⟩ ha2 hPM hPX hS
  refine W.eq (g2 := F0 m 488 ls [.int v, .int v]) rfl ?_
  refine lv_icmp_eq (tgt := 974) hx hb dL_law_488 (by decide) (fun _ => ?_) (fun h_9 => absurd rfl h_9)
  obtain ⟨w3, hls, hI3⟩ := hnext w1 w2 hpx hpm
  exact kk H locs (lw_fin hI3 hls ha1 ha2 hPX hPM hDX hDM hdis hS)
set_option maxHeartbeats 4000000 in
set_option maxRecDepth 100000 in
theorem lwc_canGo (hC : lw_C p s m meth c b L xs D cI cC cZ cN ts) {i : Nat} (hi : i + 7 ≤ L) {H : Heap} {locs : List Loc} (hJ : lw_I D cI cC cZ cN x0 m0 s H locs) {ls : Array Slot} (hl : lv_has ls 4 [(0, .ref b), (1, .ref x0), (2, .ref m0), (3, .int (nI i))]) (kk : ∀ (H : Heap) (locs : List Loc), lw_I D cI cC cZ cN x0 m0 s H locs → W p l e room_1 s m #[Value.ref b] below meth c H locs 94 8033 (lw_Z below #[Value.ref b] s) (F0 m 974 ls [])) : W p l e room_1 s m #[Value.ref b] below meth c H locs 94 8033 (lw_Z below #[Value.ref b] s) (F0 m 493 ls []) := by
  obtain ⟨⟨hx, hb, hr, hml, hown, -, hX, hbl, hlocks, hgv⟩, hL, hK, hN, hZ, hts⟩ := hC
  have hown : s.vm.findClass RL = some m.cls := hown
  have hbA : ¬ lw_A s b := Nat.not_le.mpr hbl
  obtain ⟨wX, wM, hI, hPX, hPM, hDX, hDM, hdis, hS⟩ := hJ
  obtain ⟨rv, PX, PM, ⟨v, rfl⟩, cX, cM, hnext⟩ := stp_canGo (l := l) (D := D) (ts := ts) hI (hDX.weaken (fun _ _ _ _ => trivial)) (hDM.weaken (fun _ _ _ _ => trivial)) (xs (nI (i + 1)).toNatClampNeg) (xs (nI (i + 2)).toNatClampNeg)
  obtain ⟨fX, heX⟩ := XInv.hx hI
  obtain ⟨fM, heM⟩ := XInv.hm hI
  refine lv_aload_n hx hb dL_law_493 rfl (lv_at hl 1 rfl) ?_
  refine lv_aload_n hx hb dL_law_494 rfl (lv_at hl 0 rfl) ?_
  refine lv_iload_n hx hb dL_law_495 rfl (lv_at hl 3 rfl) ?_
  refine lv_iconst (v := 1) hx hb dL_law_496 (by decide) ?_
  refine lv_iadd hx hb dL_law_497 ?_
  refine ly_eqi (show nI i + 1 = nI (i + 1) from ly_add rfl rfl) ?_
  refine va_sld hx hb hX hbl hbA hS (vp_in_nI (by omega) (by omega)) dL_law_498 ?_
  refine lv_aload_n hx hb dL_law_499 rfl (lv_at hl 0 rfl) ?_
  refine lv_iload_n hx hb dL_law_500 rfl (lv_at hl 3 rfl) ?_
  refine lv_iconst (v := 2) hx hb dL_law_501 (by decide) ?_
  refine lv_iadd hx hb dL_law_502 ?_
  refine ly_eqi (show nI i + 2 = nI (i + 2) from ly_add rfl rfl) ?_
  refine va_sld hx hb hX hbl hbA hS (vp_in_nI (by omega) (by omega)) dL_law_503 ?_
  refine lw_m2 (va_runV (As := [.int (xs (nI (i + 1)).toNatClampNeg), .int (xs (nI (i + 2)).toNatClampNeg)]) (rest := []) ⟨hx, hb, hml, hown, hts⟩ cX (cwV 2 hts gL_law_X6_canGo rfl rfl rfl (by decide +kernel) ⟨Nat.le_of_ble_eq_true rfl, Nat.le_of_ble_eq_true rfl⟩) (ly_pvX (ly_pv hK hN hPX 0 6 rfl heX rfl) (hZ.at hS (fun q ⟨k, e, hq⟩ => hDX.2 k (q, e) hq))) rfl rfl hl.1 rfl (lv_room (Nat.le_of_ble_eq_true rfl)) dL_law_504 ⟨Nat.le_of_ble_eq_true rfl, Nat.le_of_ble_eq_true rfl⟩) hPM hDX (fun q h1 h2 => hdis q h2 h1) hS ?_
  rintro _ w1 H locs ⟨rfl, hpx⟩ ha1 hPX hPM hS
  refine W.eq (g2 := F0 m 507 ls [.int v]) rfl ?_
  refine lv_aload_n hx hb dL_law_507 rfl (lv_at hl 2 rfl) ?_
  refine lv_aload_n hx hb dL_law_508 rfl (lv_at hl 0 rfl) ?_
  refine lv_iload_n hx hb dL_law_509 rfl (lv_at hl 3 rfl) ?_
  refine lv_iconst (v := 1) hx hb dL_law_510 (by decide) ?_
  refine lv_iadd hx hb dL_law_511 ?_
  refine ly_eqi (show nI i + 1 = nI (i + 1) from ly_add rfl rfl) ?_
  refine va_sld hx hb hX hbl hbA hS (vp_in_nI (by omega) (by omega)) dL_law_512 ?_
  refine lv_aload_n hx hb dL_law_513 rfl (lv_at hl 0 rfl) ?_
  refine lv_iload_n hx hb dL_law_514 rfl (lv_at hl 3 rfl) ?_
  refine lv_iconst (v := 2) hx hb dL_law_515 (by decide) ?_
  refine lv_iadd hx hb dL_law_516 ?_
  refine ly_eqi (show nI i + 2 = nI (i + 2) from ly_add rfl rfl) ?_
  refine va_sld hx hb hX hbl hbA hS (vp_in_nI (by omega) (by omega)) dL_law_517 ?_
  refine lw_m2 (va_runV (As := [.int (xs (nI (i + 1)).toNatClampNeg), .int (xs (nI (i + 2)).toNatClampNeg)]) (rest := [.int v]) ⟨hx, hb, hml, hown, hts⟩ cM (cwV 2 hts gL_law_X7_canGo rfl rfl rfl (by decide +kernel) ⟨Nat.le_of_ble_eq_true rfl, Nat.le_of_ble_eq_true rfl⟩) (ly_pv hK hN hPM 0 7 rfl heM rfl) rfl rfl hl.1 rfl (lv_room (Nat.le_of_ble_eq_true rfl)) dL_law_518 ⟨Nat.le_of_ble_eq_true rfl, Nat.le_of_ble_eq_true rfl⟩) hPX hDM (fun q h1 h2 => hdis q (ly_in_map ha1 h1) h2) hS ?_
  rintro _ w2 H locs ⟨rfl, hpm⟩ ha2 hPM hPX hS
  refine W.eq (g2 := F0 m 521 ls [.int v, .int v]) rfl ?_
  refine lv_icmp_eq (tgt := 974) hx hb dL_law_521 (by decide) (fun _ => ?_) (fun h_9 => absurd rfl h_9)
  obtain ⟨w3, hls, hI3⟩ := hnext w1 w2 hpx hpm
  exact kk H locs (lw_fin hI3 hls ha1 ha2 hPX hPM hDX hDM hdis hS)
set_option maxHeartbeats 4000000 in
set_option maxRecDepth 100000 in
theorem lwc_lending (hC : lw_C p s m meth c b L xs D cI cC cZ cN ts) {i : Nat} (hi : i + 7 ≤ L) {H : Heap} {locs : List Loc} (hJ : lw_I D cI cC cZ cN x0 m0 s H locs) {ls : Array Slot} (hl : lv_has ls 4 [(0, .ref b), (1, .ref x0), (2, .ref m0), (3, .int (nI i))]) (kk : ∀ (H : Heap) (locs : List Loc), lw_I D cI cC cZ cN x0 m0 s H locs → W p l e room_1 s m #[Value.ref b] below meth c H locs 94 8033 (lw_Z below #[Value.ref b] s) (F0 m 974 ls [])) : W p l e room_1 s m #[Value.ref b] below meth c H locs 94 8033 (lw_Z below #[Value.ref b] s) (F0 m 526 ls []) := by
  obtain ⟨⟨hx, hb, hr, hml, hown, -, hX, hbl, hlocks, hgv⟩, hL, hK, hN, hZ, hts⟩ := hC
  have hown : s.vm.findClass RL = some m.cls := hown
  have hbA : ¬ lw_A s b := Nat.not_le.mpr hbl
  obtain ⟨wX, wM, hI, hPX, hPM, hDX, hDM, hdis, hS⟩ := hJ
  obtain ⟨rv, PX, PM, ⟨v, rfl⟩, cX, cM, hnext⟩ := stp_lending (l := l) (D := D) (ts := ts) hI (hDX.weaken (fun _ _ _ _ => trivial)) (hDM.weaken (fun _ _ _ _ => trivial)) (xs (nI (i + 1)).toNatClampNeg)
  obtain ⟨fX, heX⟩ := XInv.hx hI
  obtain ⟨fM, heM⟩ := XInv.hm hI
  refine lv_aload_n hx hb dL_law_526 rfl (lv_at hl 1 rfl) ?_
  refine lv_aload_n hx hb dL_law_527 rfl (lv_at hl 0 rfl) ?_
  refine lv_iload_n hx hb dL_law_528 rfl (lv_at hl 3 rfl) ?_
  refine lv_iconst (v := 1) hx hb dL_law_529 (by decide) ?_
  refine lv_iadd hx hb dL_law_530 ?_
  refine ly_eqi (show nI i + 1 = nI (i + 1) from ly_add rfl rfl) ?_
  refine va_sld hx hb hX hbl hbA hS (vp_in_nI (by omega) (by omega)) dL_law_531 ?_
  refine lw_m2 (va_runV (As := [.int (xs (nI (i + 1)).toNatClampNeg)]) (rest := []) ⟨hx, hb, hml, hown, hts⟩ cX (cwV 1 hts gL_law_X6_lending rfl rfl rfl (by decide +kernel) ⟨Nat.le_of_ble_eq_true rfl, Nat.le_of_ble_eq_true rfl⟩) (ly_pvX (ly_pv hK hN hPX 0 6 rfl heX rfl) (hZ.at hS (fun q ⟨k, e, hq⟩ => hDX.2 k (q, e) hq))) rfl rfl hl.1 rfl (lv_room (Nat.le_of_ble_eq_true rfl)) dL_law_532 ⟨Nat.le_of_ble_eq_true rfl, Nat.le_of_ble_eq_true rfl⟩) hPM hDX (fun q h1 h2 => hdis q h2 h1) hS ?_
  rintro _ w1 H locs ⟨rfl, hpx⟩ ha1 hPX hPM hS
  refine W.eq (g2 := F0 m 535 ls [.int v]) rfl ?_
  refine lv_aload_n hx hb dL_law_535 rfl (lv_at hl 2 rfl) ?_
  refine lv_aload_n hx hb dL_law_536 rfl (lv_at hl 0 rfl) ?_
  refine lv_iload_n hx hb dL_law_537 rfl (lv_at hl 3 rfl) ?_
  refine lv_iconst (v := 1) hx hb dL_law_538 (by decide) ?_
  refine lv_iadd hx hb dL_law_539 ?_
  refine ly_eqi (show nI i + 1 = nI (i + 1) from ly_add rfl rfl) ?_
  refine va_sld hx hb hX hbl hbA hS (vp_in_nI (by omega) (by omega)) dL_law_540 ?_
  refine lw_m2 (va_runV (As := [.int (xs (nI (i + 1)).toNatClampNeg)]) (rest := [.int v]) ⟨hx, hb, hml, hown, hts⟩ cM (cwV 1 hts gL_law_X7_lending rfl rfl rfl (by decide +kernel) ⟨Nat.le_of_ble_eq_true rfl, Nat.le_of_ble_eq_true rfl⟩) (ly_pv hK hN hPM 0 7 rfl heM rfl) rfl rfl hl.1 rfl (lv_room (Nat.le_of_ble_eq_true rfl)) dL_law_541 ⟨Nat.le_of_ble_eq_true rfl, Nat.le_of_ble_eq_true rfl⟩) hPX hDM (fun q h1 h2 => hdis q (ly_in_map ha1 h1) h2) hS ?_
  rintro _ w2 H locs ⟨rfl, hpm⟩ ha2 hPM hPX hS
  refine W.eq (g2 := F0 m 544 ls [.int v, .int v]) rfl ?_
  refine lv_icmp_eq (tgt := 974) hx hb dL_law_544 (by decide) (fun _ => ?_) (fun h_9 => absurd rfl h_9)
  obtain ⟨w3, hls, hI3⟩ := hnext w1 w2 hpx hpm
  exact kk H locs (lw_fin hI3 hls ha1 ha2 hPX hPM hDX hDM hdis hS)
set_option maxHeartbeats 4000000 in
set_option maxRecDepth 100000 in
theorem lwc_kneeFor (hC : lw_C p s m meth c b L xs D cI cC cZ cN ts) {i : Nat} (hi : i + 7 ≤ L) {H : Heap} {locs : List Loc} (hJ : lw_I D cI cC cZ cN x0 m0 s H locs) {ls : Array Slot} (hl : lv_has ls 4 [(0, .ref b), (1, .ref x0), (2, .ref m0), (3, .int (nI i))]) (kk : ∀ (H : Heap) (locs : List Loc), lw_I D cI cC cZ cN x0 m0 s H locs → W p l e room_1 s m #[Value.ref b] below meth c H locs 94 8033 (lw_Z below #[Value.ref b] s) (F0 m 974 ls [])) : W p l e room_1 s m #[Value.ref b] below meth c H locs 94 8033 (lw_Z below #[Value.ref b] s) (F0 m 549 ls []) := by
  obtain ⟨⟨hx, hb, hr, hml, hown, -, hX, hbl, hlocks, hgv⟩, hL, hK, hN, hZ, hts⟩ := hC
  have hown : s.vm.findClass RL = some m.cls := hown
  have hbA : ¬ lw_A s b := Nat.not_le.mpr hbl
  obtain ⟨wX, wM, hI, hPX, hPM, hDX, hDM, hdis, hS⟩ := hJ
  obtain ⟨rv, PX, PM, ⟨v, rfl⟩, cX, cM, hnext⟩ := stp_kneeFor (l := l) (D := D) (ts := ts) hI (hDX.weaken (fun _ _ _ _ => trivial)) (hDM.weaken (fun _ _ _ _ => trivial)) (xs (nI (i + 1)).toNatClampNeg) (xs (nI (i + 2)).toNatClampNeg) (xs (nI (i + 3)).toNatClampNeg)
  obtain ⟨fX, heX⟩ := XInv.hx hI
  obtain ⟨fM, heM⟩ := XInv.hm hI
  refine lv_aload_n hx hb dL_law_549 rfl (lv_at hl 1 rfl) ?_
  refine lv_aload_n hx hb dL_law_550 rfl (lv_at hl 0 rfl) ?_
  refine lv_iload_n hx hb dL_law_551 rfl (lv_at hl 3 rfl) ?_
  refine lv_iconst (v := 1) hx hb dL_law_552 (by decide) ?_
  refine lv_iadd hx hb dL_law_553 ?_
  refine ly_eqi (show nI i + 1 = nI (i + 1) from ly_add rfl rfl) ?_
  refine va_sld hx hb hX hbl hbA hS (vp_in_nI (by omega) (by omega)) dL_law_554 ?_
  refine lv_aload_n hx hb dL_law_555 rfl (lv_at hl 0 rfl) ?_
  refine lv_iload_n hx hb dL_law_556 rfl (lv_at hl 3 rfl) ?_
  refine lv_iconst (v := 2) hx hb dL_law_557 (by decide) ?_
  refine lv_iadd hx hb dL_law_558 ?_
  refine ly_eqi (show nI i + 2 = nI (i + 2) from ly_add rfl rfl) ?_
  refine va_sld hx hb hX hbl hbA hS (vp_in_nI (by omega) (by omega)) dL_law_559 ?_
  refine lv_aload_n hx hb dL_law_560 rfl (lv_at hl 0 rfl) ?_
  refine lv_iload_n hx hb dL_law_561 rfl (lv_at hl 3 rfl) ?_
  refine lv_iconst (v := 3) hx hb dL_law_562 (by decide) ?_
  refine lv_iadd hx hb dL_law_563 ?_
  refine ly_eqi (show nI i + 3 = nI (i + 3) from ly_add rfl rfl) ?_
  refine va_sld hx hb hX hbl hbA hS (vp_in_nI (by omega) (by omega)) dL_law_564 ?_
  refine lw_m2 (va_runV (As := [.int (xs (nI (i + 1)).toNatClampNeg), .int (xs (nI (i + 2)).toNatClampNeg), .int (xs (nI (i + 3)).toNatClampNeg)]) (rest := []) ⟨hx, hb, hml, hown, hts⟩ cX (cwV 3 hts gL_law_X6_kneeFor rfl rfl rfl (by decide +kernel) ⟨Nat.le_of_ble_eq_true rfl, Nat.le_of_ble_eq_true rfl⟩) (ly_pvX (ly_pv hK hN hPX 0 6 rfl heX rfl) (hZ.at hS (fun q ⟨k, e, hq⟩ => hDX.2 k (q, e) hq))) rfl rfl hl.1 rfl (lv_room (Nat.le_of_ble_eq_true rfl)) dL_law_565 ⟨Nat.le_of_ble_eq_true rfl, Nat.le_of_ble_eq_true rfl⟩) hPM hDX (fun q h1 h2 => hdis q h2 h1) hS ?_
  rintro _ w1 H locs ⟨rfl, hpx⟩ ha1 hPX hPM hS
  refine W.eq (g2 := F0 m 568 ls [.int v]) rfl ?_
  refine lv_aload_n hx hb dL_law_568 rfl (lv_at hl 2 rfl) ?_
  refine lv_aload_n hx hb dL_law_569 rfl (lv_at hl 0 rfl) ?_
  refine lv_iload_n hx hb dL_law_570 rfl (lv_at hl 3 rfl) ?_
  refine lv_iconst (v := 1) hx hb dL_law_571 (by decide) ?_
  refine lv_iadd hx hb dL_law_572 ?_
  refine ly_eqi (show nI i + 1 = nI (i + 1) from ly_add rfl rfl) ?_
  refine va_sld hx hb hX hbl hbA hS (vp_in_nI (by omega) (by omega)) dL_law_573 ?_
  refine lv_aload_n hx hb dL_law_574 rfl (lv_at hl 0 rfl) ?_
  refine lv_iload_n hx hb dL_law_575 rfl (lv_at hl 3 rfl) ?_
  refine lv_iconst (v := 2) hx hb dL_law_576 (by decide) ?_
  refine lv_iadd hx hb dL_law_577 ?_
  refine ly_eqi (show nI i + 2 = nI (i + 2) from ly_add rfl rfl) ?_
  refine va_sld hx hb hX hbl hbA hS (vp_in_nI (by omega) (by omega)) dL_law_578 ?_
  refine lv_aload_n hx hb dL_law_579 rfl (lv_at hl 0 rfl) ?_
  refine lv_iload_n hx hb dL_law_580 rfl (lv_at hl 3 rfl) ?_
  refine lv_iconst (v := 3) hx hb dL_law_581 (by decide) ?_
  refine lv_iadd hx hb dL_law_582 ?_
  refine ly_eqi (show nI i + 3 = nI (i + 3) from ly_add rfl rfl) ?_
  refine va_sld hx hb hX hbl hbA hS (vp_in_nI (by omega) (by omega)) dL_law_583 ?_
  refine lw_m2 (va_runV (As := [.int (xs (nI (i + 1)).toNatClampNeg), .int (xs (nI (i + 2)).toNatClampNeg), .int (xs (nI (i + 3)).toNatClampNeg)]) (rest := [.int v]) ⟨hx, hb, hml, hown, hts⟩ cM (cwV 3 hts gL_law_X7_kneeFor rfl rfl rfl (by decide +kernel) ⟨Nat.le_of_ble_eq_true rfl, Nat.le_of_ble_eq_true rfl⟩) (ly_pv hK hN hPM 0 7 rfl heM rfl) rfl rfl hl.1 rfl (lv_room (Nat.le_of_ble_eq_true rfl)) dL_law_584 ⟨Nat.le_of_ble_eq_true rfl, Nat.le_of_ble_eq_true rfl⟩) hPX hDM (fun q h1 h2 => hdis q (ly_in_map ha1 h1) h2) hS ?_
  rintro _ w2 H locs ⟨rfl, hpm⟩ ha2 hPM hPX hS
  refine W.eq (g2 := F0 m 587 ls [.int v, .int v]) rfl ?_
  refine lv_icmp_eq (tgt := 974) hx hb dL_law_587 (by decide) (fun _ => ?_) (fun h_9 => absurd rfl h_9)
  obtain ⟨w3, hls, hI3⟩ := hnext w1 w2 hpx hpm
  exact kk H locs (lw_fin hI3 hls ha1 ha2 hPX hPM hDX hDM hdis hS)
set_option maxHeartbeats 4000000 in
set_option maxRecDepth 100000 in
theorem lwc_most (hC : lw_C p s m meth c b L xs D cI cC cZ cN ts) {i : Nat} (hi : i + 7 ≤ L) {H : Heap} {locs : List Loc} (hJ : lw_I D cI cC cZ cN x0 m0 s H locs) {ls : Array Slot} (hl : lv_has ls 4 [(0, .ref b), (1, .ref x0), (2, .ref m0), (3, .int (nI i))]) (kk : ∀ (H : Heap) (locs : List Loc), lw_I D cI cC cZ cN x0 m0 s H locs → W p l e room_1 s m #[Value.ref b] below meth c H locs 94 8033 (lw_Z below #[Value.ref b] s) (F0 m 974 ls [])) : W p l e room_1 s m #[Value.ref b] below meth c H locs 94 8033 (lw_Z below #[Value.ref b] s) (F0 m 592 ls []) := by
  obtain ⟨⟨hx, hb, hr, hml, hown, -, hX, hbl, hlocks, hgv⟩, hL, hK, hN, hZ, hts⟩ := hC
  have hown : s.vm.findClass RL = some m.cls := hown
  have hbA : ¬ lw_A s b := Nat.not_le.mpr hbl
  obtain ⟨wX, wM, hI, hPX, hPM, hDX, hDM, hdis, hS⟩ := hJ
  obtain ⟨rv, PX, PM, ⟨v, rfl⟩, cX, cM, hnext⟩ := stp_most (l := l) (D := D) (ts := ts) hI (hDX.weaken (fun _ _ _ _ => trivial)) (hDM.weaken (fun _ _ _ _ => trivial)) (xs (nI (i + 1)).toNatClampNeg)
  obtain ⟨fX, heX⟩ := XInv.hx hI
  obtain ⟨fM, heM⟩ := XInv.hm hI
  refine lv_aload_n hx hb dL_law_592 rfl (lv_at hl 1 rfl) ?_
  refine lv_aload_n hx hb dL_law_593 rfl (lv_at hl 0 rfl) ?_
  refine lv_iload_n hx hb dL_law_594 rfl (lv_at hl 3 rfl) ?_
  refine lv_iconst (v := 1) hx hb dL_law_595 (by decide) ?_
  refine lv_iadd hx hb dL_law_596 ?_
  refine ly_eqi (show nI i + 1 = nI (i + 1) from ly_add rfl rfl) ?_
  refine va_sld hx hb hX hbl hbA hS (vp_in_nI (by omega) (by omega)) dL_law_597 ?_
  refine lw_m2 (va_runV (As := [.int (xs (nI (i + 1)).toNatClampNeg)]) (rest := []) ⟨hx, hb, hml, hown, hts⟩ cX (cwV 1 hts gL_law_X6_most rfl rfl rfl (by decide +kernel) ⟨Nat.le_of_ble_eq_true rfl, Nat.le_of_ble_eq_true rfl⟩) (ly_pvX (ly_pv hK hN hPX 0 6 rfl heX rfl) (hZ.at hS (fun q ⟨k, e, hq⟩ => hDX.2 k (q, e) hq))) rfl rfl hl.1 rfl (lv_room (Nat.le_of_ble_eq_true rfl)) dL_law_598 ⟨Nat.le_of_ble_eq_true rfl, Nat.le_of_ble_eq_true rfl⟩) hPM hDX (fun q h1 h2 => hdis q h2 h1) hS ?_
  rintro _ w1 H locs ⟨rfl, hpx⟩ ha1 hPX hPM hS
  refine W.eq (g2 := F0 m 601 ls [.int v]) rfl ?_
  refine lv_aload_n hx hb dL_law_601 rfl (lv_at hl 2 rfl) ?_
  refine lv_aload_n hx hb dL_law_602 rfl (lv_at hl 0 rfl) ?_
  refine lv_iload_n hx hb dL_law_603 rfl (lv_at hl 3 rfl) ?_
  refine lv_iconst (v := 1) hx hb dL_law_604 (by decide) ?_
  refine lv_iadd hx hb dL_law_605 ?_
  refine ly_eqi (show nI i + 1 = nI (i + 1) from ly_add rfl rfl) ?_
  refine va_sld hx hb hX hbl hbA hS (vp_in_nI (by omega) (by omega)) dL_law_606 ?_
  refine lw_m2 (va_runV (As := [.int (xs (nI (i + 1)).toNatClampNeg)]) (rest := [.int v]) ⟨hx, hb, hml, hown, hts⟩ cM (cwV 1 hts gL_law_X7_most rfl rfl rfl (by decide +kernel) ⟨Nat.le_of_ble_eq_true rfl, Nat.le_of_ble_eq_true rfl⟩) (ly_pv hK hN hPM 0 7 rfl heM rfl) rfl rfl hl.1 rfl (lv_room (Nat.le_of_ble_eq_true rfl)) dL_law_607 ⟨Nat.le_of_ble_eq_true rfl, Nat.le_of_ble_eq_true rfl⟩) hPX hDM (fun q h1 h2 => hdis q (ly_in_map ha1 h1) h2) hS ?_
  rintro _ w2 H locs ⟨rfl, hpm⟩ ha2 hPM hPX hS
  refine W.eq (g2 := F0 m 610 ls [.int v, .int v]) rfl ?_
  refine lv_icmp_eq (tgt := 974) hx hb dL_law_610 (by decide) (fun _ => ?_) (fun h_9 => absurd rfl h_9)
  obtain ⟨w3, hls, hI3⟩ := hnext w1 w2 hpx hpm
  exact kk H locs (lw_fin hI3 hls ha1 ha2 hPX hPM hDX hDM hdis hS)
set_option maxHeartbeats 4000000 in
set_option maxRecDepth 100000 in
theorem lwc_span (hC : lw_C p s m meth c b L xs D cI cC cZ cN ts) {i : Nat} (hi : i + 7 ≤ L) {H : Heap} {locs : List Loc} (hJ : lw_I D cI cC cZ cN x0 m0 s H locs) {ls : Array Slot} (hl : lv_has ls 4 [(0, .ref b), (1, .ref x0), (2, .ref m0), (3, .int (nI i))]) (kk : ∀ (H : Heap) (locs : List Loc), lw_I D cI cC cZ cN x0 m0 s H locs → W p l e room_1 s m #[Value.ref b] below meth c H locs 94 8033 (lw_Z below #[Value.ref b] s) (F0 m 974 ls [])) : W p l e room_1 s m #[Value.ref b] below meth c H locs 94 8033 (lw_Z below #[Value.ref b] s) (F0 m 615 ls []) := by
  obtain ⟨⟨hx, hb, hr, hml, hown, -, hX, hbl, hlocks, hgv⟩, hL, hK, hN, hZ, hts⟩ := hC
  have hown : s.vm.findClass RL = some m.cls := hown
  have hbA : ¬ lw_A s b := Nat.not_le.mpr hbl
  obtain ⟨wX, wM, hI, hPX, hPM, hDX, hDM, hdis, hS⟩ := hJ
  obtain ⟨rv, PX, PM, ⟨v, rfl⟩, cX, cM, hnext⟩ := stp_span (l := l) (D := D) (ts := ts) hI (hDX.weaken (fun _ _ _ _ => trivial)) (hDM.weaken (fun _ _ _ _ => trivial)) (xs (nI (i + 1)).toNatClampNeg) (xs (nI (i + 2)).toNatClampNeg)
  obtain ⟨fX, heX⟩ := XInv.hx hI
  obtain ⟨fM, heM⟩ := XInv.hm hI
  refine lv_aload_n hx hb dL_law_615 rfl (lv_at hl 1 rfl) ?_
  refine lv_aload_n hx hb dL_law_616 rfl (lv_at hl 0 rfl) ?_
  refine lv_iload_n hx hb dL_law_617 rfl (lv_at hl 3 rfl) ?_
  refine lv_iconst (v := 1) hx hb dL_law_618 (by decide) ?_
  refine lv_iadd hx hb dL_law_619 ?_
  refine ly_eqi (show nI i + 1 = nI (i + 1) from ly_add rfl rfl) ?_
  refine va_sld hx hb hX hbl hbA hS (vp_in_nI (by omega) (by omega)) dL_law_620 ?_
  refine lv_aload_n hx hb dL_law_621 rfl (lv_at hl 0 rfl) ?_
  refine lv_iload_n hx hb dL_law_622 rfl (lv_at hl 3 rfl) ?_
  refine lv_iconst (v := 2) hx hb dL_law_623 (by decide) ?_
  refine lv_iadd hx hb dL_law_624 ?_
  refine ly_eqi (show nI i + 2 = nI (i + 2) from ly_add rfl rfl) ?_
  refine va_sld hx hb hX hbl hbA hS (vp_in_nI (by omega) (by omega)) dL_law_625 ?_
  refine lw_m2 (va_runV (As := [.int (xs (nI (i + 1)).toNatClampNeg), .int (xs (nI (i + 2)).toNatClampNeg)]) (rest := []) ⟨hx, hb, hml, hown, hts⟩ cX (cwV 2 hts gL_law_X6_span rfl rfl rfl (by decide +kernel) ⟨Nat.le_of_ble_eq_true rfl, Nat.le_of_ble_eq_true rfl⟩) (ly_pvX (ly_pv hK hN hPX 0 6 rfl heX rfl) (hZ.at hS (fun q ⟨k, e, hq⟩ => hDX.2 k (q, e) hq))) rfl rfl hl.1 rfl (lv_room (Nat.le_of_ble_eq_true rfl)) dL_law_626 ⟨Nat.le_of_ble_eq_true rfl, Nat.le_of_ble_eq_true rfl⟩) hPM hDX (fun q h1 h2 => hdis q h2 h1) hS ?_
  rintro _ w1 H locs ⟨rfl, hpx⟩ ha1 hPX hPM hS
  refine W.eq (g2 := F0 m 629 ls [.int v]) rfl ?_
  refine lv_aload_n hx hb dL_law_629 rfl (lv_at hl 2 rfl) ?_
  refine lv_aload_n hx hb dL_law_630 rfl (lv_at hl 0 rfl) ?_
  refine lv_iload_n hx hb dL_law_631 rfl (lv_at hl 3 rfl) ?_
  refine lv_iconst (v := 1) hx hb dL_law_632 (by decide) ?_
  refine lv_iadd hx hb dL_law_633 ?_
  refine ly_eqi (show nI i + 1 = nI (i + 1) from ly_add rfl rfl) ?_
  refine va_sld hx hb hX hbl hbA hS (vp_in_nI (by omega) (by omega)) dL_law_634 ?_
  refine lv_aload_n hx hb dL_law_635 rfl (lv_at hl 0 rfl) ?_
  refine lv_iload_n hx hb dL_law_636 rfl (lv_at hl 3 rfl) ?_
  refine lv_iconst (v := 2) hx hb dL_law_637 (by decide) ?_
  refine lv_iadd hx hb dL_law_638 ?_
  refine ly_eqi (show nI i + 2 = nI (i + 2) from ly_add rfl rfl) ?_
  refine va_sld hx hb hX hbl hbA hS (vp_in_nI (by omega) (by omega)) dL_law_639 ?_
  refine lw_m2 (va_runV (As := [.int (xs (nI (i + 1)).toNatClampNeg), .int (xs (nI (i + 2)).toNatClampNeg)]) (rest := [.int v]) ⟨hx, hb, hml, hown, hts⟩ cM (cwV 2 hts gL_law_X7_span rfl rfl rfl (by decide +kernel) ⟨Nat.le_of_ble_eq_true rfl, Nat.le_of_ble_eq_true rfl⟩) (ly_pv hK hN hPM 0 7 rfl heM rfl) rfl rfl hl.1 rfl (lv_room (Nat.le_of_ble_eq_true rfl)) dL_law_640 ⟨Nat.le_of_ble_eq_true rfl, Nat.le_of_ble_eq_true rfl⟩) hPX hDM (fun q h1 h2 => hdis q (ly_in_map ha1 h1) h2) hS ?_
  rintro _ w2 H locs ⟨rfl, hpm⟩ ha2 hPM hPX hS
  refine W.eq (g2 := F0 m 643 ls [.int v, .int v]) rfl ?_
  refine lv_icmp_eq (tgt := 974) hx hb dL_law_643 (by decide) (fun _ => ?_) (fun h_9 => absurd rfl h_9)
  obtain ⟨w3, hls, hI3⟩ := hnext w1 w2 hpx hpm
  exact kk H locs (lw_fin hI3 hls ha1 ha2 hPX hPM hDX hDM hdis hS)
end LWC
