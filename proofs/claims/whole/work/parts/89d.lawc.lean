section LWC
variable {p : Program} {l : Launch} {e : Env} {s : State} {m : MethodId} {below : List Frame} {meth : Method} {c : Code} {D : va_G} {cI cC cZ cN : ClassId} {ts : Nat → Nat} {b L x0 m0 : Nat} {xs : Nat → Int32}
set_option maxHeartbeats 4000000 in
set_option maxRecDepth 100000 in
theorem lwc_gives (hC : lw_C p s m meth c b L xs D cI cC cZ cN ts) {i : Nat} (hi : i + 7 ≤ L) {H : Heap} {locs : List Loc} (hJ : lw_I D cI cC cZ cN x0 m0 s H locs) {ls : Array Slot} (hl : lv_has ls 4 [(0, .ref b), (1, .ref x0), (2, .ref m0), (3, .int (nI i))]) (kk : ∀ (H : Heap) (locs : List Loc), lw_I D cI cC cZ cN x0 m0 s H locs → W p l e room_1 s m #[Value.ref b] below meth c H locs 94 8033 (lw_Z below #[Value.ref b] s) (F0 m 974 ls [])) : W p l e room_1 s m #[Value.ref b] below meth c H locs 94 8033 (lw_Z below #[Value.ref b] s) (F0 m 648 ls []) := by
  obtain ⟨⟨hx, hb, hr, hml, hown, -, hX, hbl, hlocks, hgv⟩, hL, hK, hN, hZ, hts⟩ := hC
  have hown : s.vm.findClass RL = some m.cls := hown
  have hbA : ¬ lw_A s b := Nat.not_le.mpr hbl
  obtain ⟨wX, wM, hI, hPX, hPM, hDX, hDM, hdis, hS⟩ := hJ
  obtain ⟨rv, PX, PM, ⟨v, rfl⟩, cX, cM, hnext⟩ := stp_gives (l := l) (D := D) (ts := ts) hI (hDX.weaken (fun _ _ _ _ => trivial)) (hDM.weaken (fun _ _ _ _ => trivial)) (xs (nI (i + 1)).toNatClampNeg) (xs (nI (i + 2)).toNatClampNeg) (xs (nI (i + 3)).toNatClampNeg) (xs (nI (i + 4)).toNatClampNeg) (xs (nI (i + 5)).toNatClampNeg) (xs (nI (i + 6)).toNatClampNeg)
  obtain ⟨fX, heX⟩ := XInv.hx hI
  obtain ⟨fM, heM⟩ := XInv.hm hI
  refine lv_aload_n hx hb dL_law_648 rfl (lv_at hl 1 rfl) ?_
  refine lv_aload_n hx hb dL_law_649 rfl (lv_at hl 0 rfl) ?_
  refine lv_iload_n hx hb dL_law_650 rfl (lv_at hl 3 rfl) ?_
  refine lv_iconst (v := 1) hx hb dL_law_651 (by decide) ?_
  refine lv_iadd hx hb dL_law_652 ?_
  refine ly_eqi (show nI i + 1 = nI (i + 1) from ly_add rfl rfl) ?_
  refine va_sld hx hb hX hbl hbA hS (vp_in_nI (by omega) (by omega)) dL_law_653 ?_
  refine lv_aload_n hx hb dL_law_654 rfl (lv_at hl 0 rfl) ?_
  refine lv_iload_n hx hb dL_law_655 rfl (lv_at hl 3 rfl) ?_
  refine lv_iconst (v := 2) hx hb dL_law_656 (by decide) ?_
  refine lv_iadd hx hb dL_law_657 ?_
  refine ly_eqi (show nI i + 2 = nI (i + 2) from ly_add rfl rfl) ?_
  refine va_sld hx hb hX hbl hbA hS (vp_in_nI (by omega) (by omega)) dL_law_658 ?_
  refine lv_aload_n hx hb dL_law_659 rfl (lv_at hl 0 rfl) ?_
  refine lv_iload_n hx hb dL_law_660 rfl (lv_at hl 3 rfl) ?_
  refine lv_iconst (v := 3) hx hb dL_law_661 (by decide) ?_
  refine lv_iadd hx hb dL_law_662 ?_
  refine ly_eqi (show nI i + 3 = nI (i + 3) from ly_add rfl rfl) ?_
  refine va_sld hx hb hX hbl hbA hS (vp_in_nI (by omega) (by omega)) dL_law_663 ?_
  refine lv_aload_n hx hb dL_law_664 rfl (lv_at hl 0 rfl) ?_
  refine lv_iload_n hx hb dL_law_665 rfl (lv_at hl 3 rfl) ?_
  refine lv_iconst (v := 4) hx hb dL_law_666 (by decide) ?_
  refine lv_iadd hx hb dL_law_667 ?_
  refine ly_eqi (show nI i + 4 = nI (i + 4) from ly_add rfl rfl) ?_
  refine va_sld hx hb hX hbl hbA hS (vp_in_nI (by omega) (by omega)) dL_law_668 ?_
  refine lv_aload_n hx hb dL_law_669 rfl (lv_at hl 0 rfl) ?_
  refine lv_iload_n hx hb dL_law_670 rfl (lv_at hl 3 rfl) ?_
  refine lv_iconst (v := 5) hx hb dL_law_671 (by decide) ?_
  refine lv_iadd hx hb dL_law_672 ?_
  refine ly_eqi (show nI i + 5 = nI (i + 5) from ly_add rfl rfl) ?_
  refine va_sld hx hb hX hbl hbA hS (vp_in_nI (by omega) (by omega)) dL_law_673 ?_
  refine lv_aload_n hx hb dL_law_674 rfl (lv_at hl 0 rfl) ?_
  refine lv_iload_n hx hb dL_law_675 rfl (lv_at hl 3 rfl) ?_
  refine lv_bipush (v := 6) hx hb dL_law_676 (by decide) ?_
  refine lv_iadd hx hb dL_law_678 ?_
  refine ly_eqi (show nI i + 6 = nI (i + 6) from ly_add rfl rfl) ?_
  refine va_sld hx hb hX hbl hbA hS (vp_in_nI (by omega) (by omega)) dL_law_679 ?_
  refine lw_m2 (va_runV (As := [.int (xs (nI (i + 1)).toNatClampNeg), .int (xs (nI (i + 2)).toNatClampNeg), .int (xs (nI (i + 3)).toNatClampNeg), .int (xs (nI (i + 4)).toNatClampNeg), .int (xs (nI (i + 5)).toNatClampNeg), .int (xs (nI (i + 6)).toNatClampNeg)]) (rest := []) ⟨hx, hb, hml, hown, hts⟩ cX (cwV 6 hts gL_law_X6_gives rfl rfl rfl (by decide +kernel) ⟨Nat.le_of_ble_eq_true rfl, Nat.le_of_ble_eq_true rfl⟩) (ly_pvX (ly_pv hK hN hPX 0 6 rfl heX rfl) (hZ.at hS (fun q ⟨k, e, hq⟩ => hDX.2 k (q, e) hq))) rfl rfl hl.1 rfl (lv_room (Nat.le_of_ble_eq_true rfl)) dL_law_680 ⟨Nat.le_of_ble_eq_true rfl, Nat.le_of_ble_eq_true rfl⟩) hPM hDX (fun q h1 h2 => hdis q h2 h1) hS ?_
  rintro _ w1 H locs ⟨rfl, hpx⟩ ha1 hPX hPM hS
  refine W.eq (g2 := F0 m 683 ls [.int v]) rfl ?_
  refine lv_aload_n hx hb dL_law_683 rfl (lv_at hl 2 rfl) ?_
  refine lv_aload_n hx hb dL_law_684 rfl (lv_at hl 0 rfl) ?_
  refine lv_iload_n hx hb dL_law_685 rfl (lv_at hl 3 rfl) ?_
  refine lv_iconst (v := 1) hx hb dL_law_686 (by decide) ?_
  refine lv_iadd hx hb dL_law_687 ?_
  refine ly_eqi (show nI i + 1 = nI (i + 1) from ly_add rfl rfl) ?_
  refine va_sld hx hb hX hbl hbA hS (vp_in_nI (by omega) (by omega)) dL_law_688 ?_
  refine lv_aload_n hx hb dL_law_689 rfl (lv_at hl 0 rfl) ?_
  refine lv_iload_n hx hb dL_law_690 rfl (lv_at hl 3 rfl) ?_
  refine lv_iconst (v := 2) hx hb dL_law_691 (by decide) ?_
  refine lv_iadd hx hb dL_law_692 ?_
  refine ly_eqi (show nI i + 2 = nI (i + 2) from ly_add rfl rfl) ?_
  refine va_sld hx hb hX hbl hbA hS (vp_in_nI (by omega) (by omega)) dL_law_693 ?_
  refine lv_aload_n hx hb dL_law_694 rfl (lv_at hl 0 rfl) ?_
  refine lv_iload_n hx hb dL_law_695 rfl (lv_at hl 3 rfl) ?_
  refine lv_iconst (v := 3) hx hb dL_law_696 (by decide) ?_
  refine lv_iadd hx hb dL_law_697 ?_
  refine ly_eqi (show nI i + 3 = nI (i + 3) from ly_add rfl rfl) ?_
  refine va_sld hx hb hX hbl hbA hS (vp_in_nI (by omega) (by omega)) dL_law_698 ?_
  refine lv_aload_n hx hb dL_law_699 rfl (lv_at hl 0 rfl) ?_
  refine lv_iload_n hx hb dL_law_700 rfl (lv_at hl 3 rfl) ?_
  refine lv_iconst (v := 4) hx hb dL_law_701 (by decide) ?_
  refine lv_iadd hx hb dL_law_702 ?_
  refine ly_eqi (show nI i + 4 = nI (i + 4) from ly_add rfl rfl) ?_
  refine va_sld hx hb hX hbl hbA hS (vp_in_nI (by omega) (by omega)) dL_law_703 ?_
  refine lv_aload_n hx hb dL_law_704 rfl (lv_at hl 0 rfl) ?_
  refine lv_iload_n hx hb dL_law_705 rfl (lv_at hl 3 rfl) ?_
  refine lv_iconst (v := 5) hx hb dL_law_706 (by decide) ?_
  refine lv_iadd hx hb dL_law_707 ?_
  refine ly_eqi (show nI i + 5 = nI (i + 5) from ly_add rfl rfl) ?_
  refine va_sld hx hb hX hbl hbA hS (vp_in_nI (by omega) (by omega)) dL_law_708 ?_
  refine lv_aload_n hx hb dL_law_709 rfl (lv_at hl 0 rfl) ?_
  refine lv_iload_n hx hb dL_law_710 rfl (lv_at hl 3 rfl) ?_
  refine lv_bipush (v := 6) hx hb dL_law_711 (by decide) ?_
  refine lv_iadd hx hb dL_law_713 ?_
  refine ly_eqi (show nI i + 6 = nI (i + 6) from ly_add rfl rfl) ?_
  refine va_sld hx hb hX hbl hbA hS (vp_in_nI (by omega) (by omega)) dL_law_714 ?_
  refine lw_m2 (va_runV (As := [.int (xs (nI (i + 1)).toNatClampNeg), .int (xs (nI (i + 2)).toNatClampNeg), .int (xs (nI (i + 3)).toNatClampNeg), .int (xs (nI (i + 4)).toNatClampNeg), .int (xs (nI (i + 5)).toNatClampNeg), .int (xs (nI (i + 6)).toNatClampNeg)]) (rest := [.int v]) ⟨hx, hb, hml, hown, hts⟩ cM (cwV 6 hts gL_law_X7_gives rfl rfl rfl (by decide +kernel) ⟨Nat.le_of_ble_eq_true rfl, Nat.le_of_ble_eq_true rfl⟩) (ly_pv hK hN hPM 0 7 rfl heM rfl) rfl rfl hl.1 rfl (lv_room (Nat.le_of_ble_eq_true rfl)) dL_law_715 ⟨Nat.le_of_ble_eq_true rfl, Nat.le_of_ble_eq_true rfl⟩) hPX hDM (fun q h1 h2 => hdis q (ly_in_map ha1 h1) h2) hS ?_
  rintro _ w2 H locs ⟨rfl, hpm⟩ ha2 hPM hPX hS
  refine W.eq (g2 := F0 m 718 ls [.int v, .int v]) rfl ?_
  refine lv_icmp_eq (tgt := 974) hx hb dL_law_718 (by decide) (fun _ => ?_) (fun h_9 => absurd rfl h_9)
  obtain ⟨w3, hls, hI3⟩ := hnext w1 w2 hpx hpm
  exact kk H locs (lw_fin hI3 hls ha1 ha2 hPX hPM hDX hDM hdis hS)
set_option maxHeartbeats 4000000 in
set_option maxRecDepth 100000 in
theorem lwc_tells (hC : lw_C p s m meth c b L xs D cI cC cZ cN ts) {i : Nat} (hi : i + 7 ≤ L) {H : Heap} {locs : List Loc} (hJ : lw_I D cI cC cZ cN x0 m0 s H locs) {ls : Array Slot} (hl : lv_has ls 4 [(0, .ref b), (1, .ref x0), (2, .ref m0), (3, .int (nI i))]) (kk : ∀ (H : Heap) (locs : List Loc), lw_I D cI cC cZ cN x0 m0 s H locs → W p l e room_1 s m #[Value.ref b] below meth c H locs 94 8033 (lw_Z below #[Value.ref b] s) (F0 m 974 ls [])) : W p l e room_1 s m #[Value.ref b] below meth c H locs 94 8033 (lw_Z below #[Value.ref b] s) (F0 m 723 ls []) := by
  obtain ⟨⟨hx, hb, hr, hml, hown, -, hX, hbl, hlocks, hgv⟩, hL, hK, hN, hZ, hts⟩ := hC
  have hown : s.vm.findClass RL = some m.cls := hown
  have hbA : ¬ lw_A s b := Nat.not_le.mpr hbl
  obtain ⟨wX, wM, hI, hPX, hPM, hDX, hDM, hdis, hS⟩ := hJ
  obtain ⟨rv, PX, PM, ⟨v, rfl⟩, cX, cM, hnext⟩ := stp_tells (l := l) (D := D) (ts := ts) hI (hDX.weaken (fun _ _ _ _ => trivial)) (hDM.weaken (fun _ _ _ _ => trivial)) (xs (nI (i + 1)).toNatClampNeg) (xs (nI (i + 2)).toNatClampNeg) (xs (nI (i + 3)).toNatClampNeg)
  obtain ⟨fX, heX⟩ := XInv.hx hI
  obtain ⟨fM, heM⟩ := XInv.hm hI
  refine lv_aload_n hx hb dL_law_723 rfl (lv_at hl 1 rfl) ?_
  refine lv_aload_n hx hb dL_law_724 rfl (lv_at hl 0 rfl) ?_
  refine lv_iload_n hx hb dL_law_725 rfl (lv_at hl 3 rfl) ?_
  refine lv_iconst (v := 1) hx hb dL_law_726 (by decide) ?_
  refine lv_iadd hx hb dL_law_727 ?_
  refine ly_eqi (show nI i + 1 = nI (i + 1) from ly_add rfl rfl) ?_
  refine va_sld hx hb hX hbl hbA hS (vp_in_nI (by omega) (by omega)) dL_law_728 ?_
  refine lv_aload_n hx hb dL_law_729 rfl (lv_at hl 0 rfl) ?_
  refine lv_iload_n hx hb dL_law_730 rfl (lv_at hl 3 rfl) ?_
  refine lv_iconst (v := 2) hx hb dL_law_731 (by decide) ?_
  refine lv_iadd hx hb dL_law_732 ?_
  refine ly_eqi (show nI i + 2 = nI (i + 2) from ly_add rfl rfl) ?_
  refine va_sld hx hb hX hbl hbA hS (vp_in_nI (by omega) (by omega)) dL_law_733 ?_
  refine lv_aload_n hx hb dL_law_734 rfl (lv_at hl 0 rfl) ?_
  refine lv_iload_n hx hb dL_law_735 rfl (lv_at hl 3 rfl) ?_
  refine lv_iconst (v := 3) hx hb dL_law_736 (by decide) ?_
  refine lv_iadd hx hb dL_law_737 ?_
  refine ly_eqi (show nI i + 3 = nI (i + 3) from ly_add rfl rfl) ?_
  refine va_sld hx hb hX hbl hbA hS (vp_in_nI (by omega) (by omega)) dL_law_738 ?_
  refine lw_m2 (va_runV (As := [.int (xs (nI (i + 1)).toNatClampNeg), .int (xs (nI (i + 2)).toNatClampNeg), .int (xs (nI (i + 3)).toNatClampNeg)]) (rest := []) ⟨hx, hb, hml, hown, hts⟩ cX (cwV 3 hts gL_law_X6_tells rfl rfl rfl (by decide +kernel) ⟨Nat.le_of_ble_eq_true rfl, Nat.le_of_ble_eq_true rfl⟩) (ly_pvX (ly_pv hK hN hPX 0 6 rfl heX rfl) (hZ.at hS (fun q ⟨k, e, hq⟩ => hDX.2 k (q, e) hq))) rfl rfl hl.1 rfl (lv_room (Nat.le_of_ble_eq_true rfl)) dL_law_739 ⟨Nat.le_of_ble_eq_true rfl, Nat.le_of_ble_eq_true rfl⟩) hPM hDX (fun q h1 h2 => hdis q h2 h1) hS ?_
  rintro _ w1 H locs ⟨rfl, hpx⟩ ha1 hPX hPM hS
  refine W.eq (g2 := F0 m 742 ls [.int v]) rfl ?_
  refine lv_aload_n hx hb dL_law_742 rfl (lv_at hl 2 rfl) ?_
  refine lv_aload_n hx hb dL_law_743 rfl (lv_at hl 0 rfl) ?_
  refine lv_iload_n hx hb dL_law_744 rfl (lv_at hl 3 rfl) ?_
  refine lv_iconst (v := 1) hx hb dL_law_745 (by decide) ?_
  refine lv_iadd hx hb dL_law_746 ?_
  refine ly_eqi (show nI i + 1 = nI (i + 1) from ly_add rfl rfl) ?_
  refine va_sld hx hb hX hbl hbA hS (vp_in_nI (by omega) (by omega)) dL_law_747 ?_
  refine lv_aload_n hx hb dL_law_748 rfl (lv_at hl 0 rfl) ?_
  refine lv_iload_n hx hb dL_law_749 rfl (lv_at hl 3 rfl) ?_
  refine lv_iconst (v := 2) hx hb dL_law_750 (by decide) ?_
  refine lv_iadd hx hb dL_law_751 ?_
  refine ly_eqi (show nI i + 2 = nI (i + 2) from ly_add rfl rfl) ?_
  refine va_sld hx hb hX hbl hbA hS (vp_in_nI (by omega) (by omega)) dL_law_752 ?_
  refine lv_aload_n hx hb dL_law_753 rfl (lv_at hl 0 rfl) ?_
  refine lv_iload_n hx hb dL_law_754 rfl (lv_at hl 3 rfl) ?_
  refine lv_iconst (v := 3) hx hb dL_law_755 (by decide) ?_
  refine lv_iadd hx hb dL_law_756 ?_
  refine ly_eqi (show nI i + 3 = nI (i + 3) from ly_add rfl rfl) ?_
  refine va_sld hx hb hX hbl hbA hS (vp_in_nI (by omega) (by omega)) dL_law_757 ?_
  refine lw_m2 (va_runV (As := [.int (xs (nI (i + 1)).toNatClampNeg), .int (xs (nI (i + 2)).toNatClampNeg), .int (xs (nI (i + 3)).toNatClampNeg)]) (rest := [.int v]) ⟨hx, hb, hml, hown, hts⟩ cM (cwV 3 hts gL_law_X7_tells rfl rfl rfl (by decide +kernel) ⟨Nat.le_of_ble_eq_true rfl, Nat.le_of_ble_eq_true rfl⟩) (ly_pv hK hN hPM 0 7 rfl heM rfl) rfl rfl hl.1 rfl (lv_room (Nat.le_of_ble_eq_true rfl)) dL_law_758 ⟨Nat.le_of_ble_eq_true rfl, Nat.le_of_ble_eq_true rfl⟩) hPX hDM (fun q h1 h2 => hdis q (ly_in_map ha1 h1) h2) hS ?_
  rintro _ w2 H locs ⟨rfl, hpm⟩ ha2 hPM hPX hS
  refine W.eq (g2 := F0 m 761 ls [.int v, .int v]) rfl ?_
  refine lv_icmp_eq (tgt := 974) hx hb dL_law_761 (by decide) (fun _ => ?_) (fun h_9 => absurd rfl h_9)
  obtain ⟨w3, hls, hI3⟩ := hnext w1 w2 hpx hpm
  exact kk H locs (lw_fin hI3 hls ha1 ha2 hPX hPM hDX hDM hdis hS)
set_option maxHeartbeats 4000000 in
set_option maxRecDepth 100000 in
theorem lwc_downhill (hC : lw_C p s m meth c b L xs D cI cC cZ cN ts) {i : Nat} (hi : i + 7 ≤ L) {H : Heap} {locs : List Loc} (hJ : lw_I D cI cC cZ cN x0 m0 s H locs) {ls : Array Slot} (hl : lv_has ls 4 [(0, .ref b), (1, .ref x0), (2, .ref m0), (3, .int (nI i))]) (kk : ∀ (H : Heap) (locs : List Loc), lw_I D cI cC cZ cN x0 m0 s H locs → W p l e room_1 s m #[Value.ref b] below meth c H locs 94 8033 (lw_Z below #[Value.ref b] s) (F0 m 974 ls [])) : W p l e room_1 s m #[Value.ref b] below meth c H locs 94 8033 (lw_Z below #[Value.ref b] s) (F0 m 766 ls []) := by
  obtain ⟨⟨hx, hb, hr, hml, hown, -, hX, hbl, hlocks, hgv⟩, hL, hK, hN, hZ, hts⟩ := hC
  have hown : s.vm.findClass RL = some m.cls := hown
  have hbA : ¬ lw_A s b := Nat.not_le.mpr hbl
  obtain ⟨wX, wM, hI, hPX, hPM, hDX, hDM, hdis, hS⟩ := hJ
  obtain ⟨rv, PX, PM, ⟨v, rfl⟩, cX, cM, hnext⟩ := stp_downhill (l := l) (D := D) (ts := ts) hI (hDX.weaken (fun _ _ _ _ => trivial)) (hDM.weaken (fun _ _ _ _ => trivial)) (xs (nI (i + 1)).toNatClampNeg)
  obtain ⟨fX, heX⟩ := XInv.hx hI
  obtain ⟨fM, heM⟩ := XInv.hm hI
  refine lv_aload_n hx hb dL_law_766 rfl (lv_at hl 1 rfl) ?_
  refine lv_aload_n hx hb dL_law_767 rfl (lv_at hl 0 rfl) ?_
  refine lv_iload_n hx hb dL_law_768 rfl (lv_at hl 3 rfl) ?_
  refine lv_iconst (v := 1) hx hb dL_law_769 (by decide) ?_
  refine lv_iadd hx hb dL_law_770 ?_
  refine ly_eqi (show nI i + 1 = nI (i + 1) from ly_add rfl rfl) ?_
  refine va_sld hx hb hX hbl hbA hS (vp_in_nI (by omega) (by omega)) dL_law_771 ?_
  refine lw_m2 (va_runV (As := [.int (xs (nI (i + 1)).toNatClampNeg)]) (rest := []) ⟨hx, hb, hml, hown, hts⟩ cX (cwV 1 hts gL_law_X6_downhill rfl rfl rfl (by decide +kernel) ⟨Nat.le_of_ble_eq_true rfl, Nat.le_of_ble_eq_true rfl⟩) (ly_pvX (ly_pv hK hN hPX 0 6 rfl heX rfl) (hZ.at hS (fun q ⟨k, e, hq⟩ => hDX.2 k (q, e) hq))) rfl rfl hl.1 rfl (lv_room (Nat.le_of_ble_eq_true rfl)) dL_law_772 ⟨Nat.le_of_ble_eq_true rfl, Nat.le_of_ble_eq_true rfl⟩) hPM hDX (fun q h1 h2 => hdis q h2 h1) hS ?_
  rintro _ w1 H locs ⟨rfl, hpx⟩ ha1 hPX hPM hS
  refine W.eq (g2 := F0 m 775 ls [.int v]) rfl ?_
  refine lv_aload_n hx hb dL_law_775 rfl (lv_at hl 2 rfl) ?_
  refine lv_aload_n hx hb dL_law_776 rfl (lv_at hl 0 rfl) ?_
  refine lv_iload_n hx hb dL_law_777 rfl (lv_at hl 3 rfl) ?_
  refine lv_iconst (v := 1) hx hb dL_law_778 (by decide) ?_
  refine lv_iadd hx hb dL_law_779 ?_
  refine ly_eqi (show nI i + 1 = nI (i + 1) from ly_add rfl rfl) ?_
  refine va_sld hx hb hX hbl hbA hS (vp_in_nI (by omega) (by omega)) dL_law_780 ?_
  refine lw_m2 (va_runV (As := [.int (xs (nI (i + 1)).toNatClampNeg)]) (rest := [.int v]) ⟨hx, hb, hml, hown, hts⟩ cM (cwV 1 hts gL_law_X7_downhill rfl rfl rfl (by decide +kernel) ⟨Nat.le_of_ble_eq_true rfl, Nat.le_of_ble_eq_true rfl⟩) (ly_pv hK hN hPM 0 7 rfl heM rfl) rfl rfl hl.1 rfl (lv_room (Nat.le_of_ble_eq_true rfl)) dL_law_781 ⟨Nat.le_of_ble_eq_true rfl, Nat.le_of_ble_eq_true rfl⟩) hPX hDM (fun q h1 h2 => hdis q (ly_in_map ha1 h1) h2) hS ?_
  rintro _ w2 H locs ⟨rfl, hpm⟩ ha2 hPM hPX hS
  refine W.eq (g2 := F0 m 784 ls [.int v, .int v]) rfl ?_
  refine lv_icmp_eq (tgt := 974) hx hb dL_law_784 (by decide) (fun _ => ?_) (fun h_9 => absurd rfl h_9)
  obtain ⟨w3, hls, hI3⟩ := hnext w1 w2 hpx hpm
  exact kk H locs (lw_fin hI3 hls ha1 ha2 hPX hPM hDX hDM hdis hS)
set_option maxHeartbeats 4000000 in
set_option maxRecDepth 100000 in
theorem lwc_felt (hC : lw_C p s m meth c b L xs D cI cC cZ cN ts) {i : Nat} (hi : i + 7 ≤ L) {H : Heap} {locs : List Loc} (hJ : lw_I D cI cC cZ cN x0 m0 s H locs) {ls : Array Slot} (hl : lv_has ls 4 [(0, .ref b), (1, .ref x0), (2, .ref m0), (3, .int (nI i))]) (kk : ∀ (H : Heap) (locs : List Loc), lw_I D cI cC cZ cN x0 m0 s H locs → W p l e room_1 s m #[Value.ref b] below meth c H locs 94 8033 (lw_Z below #[Value.ref b] s) (F0 m 974 ls [])) : W p l e room_1 s m #[Value.ref b] below meth c H locs 94 8033 (lw_Z below #[Value.ref b] s) (F0 m 789 ls []) := by
  obtain ⟨⟨hx, hb, hr, hml, hown, -, hX, hbl, hlocks, hgv⟩, hL, hK, hN, hZ, hts⟩ := hC
  have hown : s.vm.findClass RL = some m.cls := hown
  have hbA : ¬ lw_A s b := Nat.not_le.mpr hbl
  obtain ⟨wX, wM, hI, hPX, hPM, hDX, hDM, hdis, hS⟩ := hJ
  obtain ⟨rv, PX, PM, ⟨v, rfl⟩, cX, cM, hnext⟩ := stp_felt (l := l) (D := D) (ts := ts) hI (hDX.weaken (fun _ _ _ _ => trivial)) (hDM.weaken (fun _ _ _ _ => trivial)) (xs (nI (i + 1)).toNatClampNeg) (xs (nI (i + 2)).toNatClampNeg)
  obtain ⟨fX, heX⟩ := XInv.hx hI
  obtain ⟨fM, heM⟩ := XInv.hm hI
  refine lv_aload_n hx hb dL_law_789 rfl (lv_at hl 1 rfl) ?_
  refine lv_aload_n hx hb dL_law_790 rfl (lv_at hl 0 rfl) ?_
  refine lv_iload_n hx hb dL_law_791 rfl (lv_at hl 3 rfl) ?_
  refine lv_iconst (v := 1) hx hb dL_law_792 (by decide) ?_
  refine lv_iadd hx hb dL_law_793 ?_
  refine ly_eqi (show nI i + 1 = nI (i + 1) from ly_add rfl rfl) ?_
  refine va_sld hx hb hX hbl hbA hS (vp_in_nI (by omega) (by omega)) dL_law_794 ?_
  refine lv_aload_n hx hb dL_law_795 rfl (lv_at hl 0 rfl) ?_
  refine lv_iload_n hx hb dL_law_796 rfl (lv_at hl 3 rfl) ?_
  refine lv_iconst (v := 2) hx hb dL_law_797 (by decide) ?_
  refine lv_iadd hx hb dL_law_798 ?_
  refine ly_eqi (show nI i + 2 = nI (i + 2) from ly_add rfl rfl) ?_
  refine va_sld hx hb hX hbl hbA hS (vp_in_nI (by omega) (by omega)) dL_law_799 ?_
  refine lw_m2 (va_runV (As := [.int (xs (nI (i + 1)).toNatClampNeg), .int (xs (nI (i + 2)).toNatClampNeg)]) (rest := []) ⟨hx, hb, hml, hown, hts⟩ cX (cwV 2 hts gL_law_X6_felt rfl rfl rfl (by decide +kernel) ⟨Nat.le_of_ble_eq_true rfl, Nat.le_of_ble_eq_true rfl⟩) (ly_pvX (ly_pv hK hN hPX 0 6 rfl heX rfl) (hZ.at hS (fun q ⟨k, e, hq⟩ => hDX.2 k (q, e) hq))) rfl rfl hl.1 rfl (lv_room (Nat.le_of_ble_eq_true rfl)) dL_law_800 ⟨Nat.le_of_ble_eq_true rfl, Nat.le_of_ble_eq_true rfl⟩) hPM hDX (fun q h1 h2 => hdis q h2 h1) hS ?_
  rintro _ w1 H locs ⟨rfl, hpx⟩ ha1 hPX hPM hS
  refine W.eq (g2 := F0 m 803 ls [.int v]) rfl ?_
  refine lv_aload_n hx hb dL_law_803 rfl (lv_at hl 2 rfl) ?_
  refine lv_aload_n hx hb dL_law_804 rfl (lv_at hl 0 rfl) ?_
  refine lv_iload_n hx hb dL_law_805 rfl (lv_at hl 3 rfl) ?_
  refine lv_iconst (v := 1) hx hb dL_law_806 (by decide) ?_
  refine lv_iadd hx hb dL_law_807 ?_
  refine ly_eqi (show nI i + 1 = nI (i + 1) from ly_add rfl rfl) ?_
  refine va_sld hx hb hX hbl hbA hS (vp_in_nI (by omega) (by omega)) dL_law_808 ?_
  refine lv_aload_n hx hb dL_law_809 rfl (lv_at hl 0 rfl) ?_
  refine lv_iload_n hx hb dL_law_810 rfl (lv_at hl 3 rfl) ?_
  refine lv_iconst (v := 2) hx hb dL_law_811 (by decide) ?_
  refine lv_iadd hx hb dL_law_812 ?_
  refine ly_eqi (show nI i + 2 = nI (i + 2) from ly_add rfl rfl) ?_
  refine va_sld hx hb hX hbl hbA hS (vp_in_nI (by omega) (by omega)) dL_law_813 ?_
  refine lw_m2 (va_runV (As := [.int (xs (nI (i + 1)).toNatClampNeg), .int (xs (nI (i + 2)).toNatClampNeg)]) (rest := [.int v]) ⟨hx, hb, hml, hown, hts⟩ cM (cwV 2 hts gL_law_X7_felt rfl rfl rfl (by decide +kernel) ⟨Nat.le_of_ble_eq_true rfl, Nat.le_of_ble_eq_true rfl⟩) (ly_pv hK hN hPM 0 7 rfl heM rfl) rfl rfl hl.1 rfl (lv_room (Nat.le_of_ble_eq_true rfl)) dL_law_814 ⟨Nat.le_of_ble_eq_true rfl, Nat.le_of_ble_eq_true rfl⟩) hPX hDM (fun q h1 h2 => hdis q (ly_in_map ha1 h1) h2) hS ?_
  rintro _ w2 H locs ⟨rfl, hpm⟩ ha2 hPM hPX hS
  refine W.eq (g2 := F0 m 817 ls [.int v, .int v]) rfl ?_
  refine lv_icmp_eq (tgt := 974) hx hb dL_law_817 (by decide) (fun _ => ?_) (fun h_9 => absurd rfl h_9)
  obtain ⟨w3, hls, hI3⟩ := hnext w1 w2 hpx hpm
  exact kk H locs (lw_fin hI3 hls ha1 ha2 hPX hPM hDX hDM hdis hS)
set_option maxHeartbeats 4000000 in
set_option maxRecDepth 100000 in
theorem lwc_rain (hC : lw_C p s m meth c b L xs D cI cC cZ cN ts) {i : Nat} (hi : i + 7 ≤ L) {H : Heap} {locs : List Loc} (hJ : lw_I D cI cC cZ cN x0 m0 s H locs) {ls : Array Slot} (hl : lv_has ls 4 [(0, .ref b), (1, .ref x0), (2, .ref m0), (3, .int (nI i))]) (kk : ∀ (H : Heap) (locs : List Loc), lw_I D cI cC cZ cN x0 m0 s H locs → W p l e room_1 s m #[Value.ref b] below meth c H locs 94 8033 (lw_Z below #[Value.ref b] s) (F0 m 974 ls [])) : W p l e room_1 s m #[Value.ref b] below meth c H locs 94 8033 (lw_Z below #[Value.ref b] s) (F0 m 822 ls []) := by
  obtain ⟨⟨hx, hb, hr, hml, hown, -, hX, hbl, hlocks, hgv⟩, hL, hK, hN, hZ, hts⟩ := hC
  have hown : s.vm.findClass RL = some m.cls := hown
  have hbA : ¬ lw_A s b := Nat.not_le.mpr hbl
  obtain ⟨wX, wM, hI, hPX, hPM, hDX, hDM, hdis, hS⟩ := hJ
  obtain ⟨rv, PX, PM, ⟨v, rfl⟩, cX, cM, hnext⟩ := stp_rain (l := l) (D := D) (ts := ts) hI (hDX.weaken (fun _ _ _ _ => trivial)) (hDM.weaken (fun _ _ _ _ => trivial)) (xs (nI (i + 1)).toNatClampNeg)
  obtain ⟨fX, heX⟩ := XInv.hx hI
  obtain ⟨fM, heM⟩ := XInv.hm hI
  refine lv_aload_n hx hb dL_law_822 rfl (lv_at hl 1 rfl) ?_
  refine lv_aload_n hx hb dL_law_823 rfl (lv_at hl 0 rfl) ?_
  refine lv_iload_n hx hb dL_law_824 rfl (lv_at hl 3 rfl) ?_
  refine lv_iconst (v := 1) hx hb dL_law_825 (by decide) ?_
  refine lv_iadd hx hb dL_law_826 ?_
  refine ly_eqi (show nI i + 1 = nI (i + 1) from ly_add rfl rfl) ?_
  refine va_sld hx hb hX hbl hbA hS (vp_in_nI (by omega) (by omega)) dL_law_827 ?_
  refine lw_m2 (va_runV (As := [.int (xs (nI (i + 1)).toNatClampNeg)]) (rest := []) ⟨hx, hb, hml, hown, hts⟩ cX (cwV 1 hts gL_law_X6_rain rfl rfl rfl (by decide +kernel) ⟨Nat.le_of_ble_eq_true rfl, Nat.le_of_ble_eq_true rfl⟩) (ly_pvX (ly_pv hK hN hPX 0 6 rfl heX rfl) (hZ.at hS (fun q ⟨k, e, hq⟩ => hDX.2 k (q, e) hq))) rfl rfl hl.1 rfl (lv_room (Nat.le_of_ble_eq_true rfl)) dL_law_828 ⟨Nat.le_of_ble_eq_true rfl, Nat.le_of_ble_eq_true rfl⟩) hPM hDX (fun q h1 h2 => hdis q h2 h1) hS ?_
  rintro _ w1 H locs ⟨rfl, hpx⟩ ha1 hPX hPM hS
  refine W.eq (g2 := F0 m 831 ls [.int v]) rfl ?_
  refine lv_aload_n hx hb dL_law_831 rfl (lv_at hl 2 rfl) ?_
  refine lv_aload_n hx hb dL_law_832 rfl (lv_at hl 0 rfl) ?_
  refine lv_iload_n hx hb dL_law_833 rfl (lv_at hl 3 rfl) ?_
  refine lv_iconst (v := 1) hx hb dL_law_834 (by decide) ?_
  refine lv_iadd hx hb dL_law_835 ?_
  refine ly_eqi (show nI i + 1 = nI (i + 1) from ly_add rfl rfl) ?_
  refine va_sld hx hb hX hbl hbA hS (vp_in_nI (by omega) (by omega)) dL_law_836 ?_
  refine lw_m2 (va_runV (As := [.int (xs (nI (i + 1)).toNatClampNeg)]) (rest := [.int v]) ⟨hx, hb, hml, hown, hts⟩ cM (cwV 1 hts gL_law_X7_rain rfl rfl rfl (by decide +kernel) ⟨Nat.le_of_ble_eq_true rfl, Nat.le_of_ble_eq_true rfl⟩) (ly_pv hK hN hPM 0 7 rfl heM rfl) rfl rfl hl.1 rfl (lv_room (Nat.le_of_ble_eq_true rfl)) dL_law_837 ⟨Nat.le_of_ble_eq_true rfl, Nat.le_of_ble_eq_true rfl⟩) hPX hDM (fun q h1 h2 => hdis q (ly_in_map ha1 h1) h2) hS ?_
  rintro _ w2 H locs ⟨rfl, hpm⟩ ha2 hPM hPX hS
  refine W.eq (g2 := F0 m 840 ls [.int v, .int v]) rfl ?_
  refine lv_icmp_eq (tgt := 974) hx hb dL_law_840 (by decide) (fun _ => ?_) (fun h_9 => absurd rfl h_9)
  obtain ⟨w3, hls, hI3⟩ := hnext w1 w2 hpx hpm
  exact kk H locs (lw_fin hI3 hls ha1 ha2 hPX hPM hDX hDM hdis hS)
set_option maxHeartbeats 4000000 in
set_option maxRecDepth 100000 in
theorem lwc_forget (hC : lw_C p s m meth c b L xs D cI cC cZ cN ts) {i : Nat} (hi : i + 7 ≤ L) {H : Heap} {locs : List Loc} (hJ : lw_I D cI cC cZ cN x0 m0 s H locs) {ls : Array Slot} (hl : lv_has ls 4 [(0, .ref b), (1, .ref x0), (2, .ref m0), (3, .int (nI i))]) (kk : ∀ (H : Heap) (locs : List Loc), lw_I D cI cC cZ cN x0 m0 s H locs → W p l e room_1 s m #[Value.ref b] below meth c H locs 94 8033 (lw_Z below #[Value.ref b] s) (F0 m 974 ls [])) : W p l e room_1 s m #[Value.ref b] below meth c H locs 94 8033 (lw_Z below #[Value.ref b] s) (F0 m 845 ls []) := by
  obtain ⟨⟨hx, hb, hr, hml, hown, -, hX, hbl, hlocks, hgv⟩, hL, hK, hN, hZ, hts⟩ := hC
  have hown : s.vm.findClass RL = some m.cls := hown
  have hbA : ¬ lw_A s b := Nat.not_le.mpr hbl
  obtain ⟨wX, wM, hI, hPX, hPM, hDX, hDM, hdis, hS⟩ := hJ
  obtain ⟨rv, PX, PM, ⟨v, rfl⟩, cX, cM, hnext⟩ := stp_forget (l := l) (D := D) (ts := ts) hI (hDX.weaken (fun _ _ _ _ => trivial)) (hDM.weaken (fun _ _ _ _ => trivial))
  obtain ⟨fX, heX⟩ := XInv.hx hI
  obtain ⟨fM, heM⟩ := XInv.hm hI
  refine lv_aload_n hx hb dL_law_845 rfl (lv_at hl 1 rfl) ?_
  refine lw_m2 (va_runV (As := []) (rest := []) ⟨hx, hb, hml, hown, hts⟩ cX (cwV 0 hts gL_law_X6_forget rfl rfl rfl (by decide +kernel) ⟨Nat.le_of_ble_eq_true rfl, Nat.le_of_ble_eq_true rfl⟩) (ly_pvX (ly_pv hK hN hPX 0 6 rfl heX rfl) (hZ.at hS (fun q ⟨k, e, hq⟩ => hDX.2 k (q, e) hq))) rfl rfl hl.1 rfl (lv_room (Nat.le_of_ble_eq_true rfl)) dL_law_846 ⟨Nat.le_of_ble_eq_true rfl, Nat.le_of_ble_eq_true rfl⟩) hPM hDX (fun q h1 h2 => hdis q h2 h1) hS ?_
  rintro _ w1 H locs ⟨rfl, hpx⟩ ha1 hPX hPM hS
  refine W.eq (g2 := F0 m 849 ls [.int v]) rfl ?_
  refine lv_aload_n hx hb dL_law_849 rfl (lv_at hl 2 rfl) ?_
  refine lw_m2 (va_runV (As := []) (rest := [.int v]) ⟨hx, hb, hml, hown, hts⟩ cM (cwV 0 hts gL_law_X7_forget rfl rfl rfl (by decide +kernel) ⟨Nat.le_of_ble_eq_true rfl, Nat.le_of_ble_eq_true rfl⟩) (ly_pv hK hN hPM 0 7 rfl heM rfl) rfl rfl hl.1 rfl (lv_room (Nat.le_of_ble_eq_true rfl)) dL_law_850 ⟨Nat.le_of_ble_eq_true rfl, Nat.le_of_ble_eq_true rfl⟩) hPX hDM (fun q h1 h2 => hdis q (ly_in_map ha1 h1) h2) hS ?_
  rintro _ w2 H locs ⟨rfl, hpm⟩ ha2 hPM hPX hS
  refine W.eq (g2 := F0 m 853 ls [.int v, .int v]) rfl ?_
  refine lv_icmp_eq (tgt := 974) hx hb dL_law_853 (by decide) (fun _ => ?_) (fun h_9 => absurd rfl h_9)
  obtain ⟨w3, hls, hI3⟩ := hnext w1 w2 hpx hpm
  exact kk H locs (lw_fin hI3 hls ha1 ha2 hPX hPM hDX hDM hdis hS)
end LWC
