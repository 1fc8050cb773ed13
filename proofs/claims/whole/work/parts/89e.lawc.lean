section LWC
variable {p : Program} {l : Launch} {e : Env} {s : State} {m : MethodId} {below : List Frame} {meth : Method} {c : Code} {D : va_G} {cI cC cZ cN : ClassId} {ts : Nat → Nat} {b L x0 m0 : Nat} {xs : Nat → Int32}
set_option maxHeartbeats 4000000 in
set_option maxRecDepth 100000 in
theorem lwc_rate (hC : lw_C p s m meth c b L xs D cI cC cZ cN ts) {i : Nat} (hi : i + 7 ≤ L) {H : Heap} {locs : List Loc} (hJ : lw_I D cI cC cZ cN x0 m0 s H locs) {ls : Array Slot} (hl : lv_has ls 4 [(0, .ref b), (1, .ref x0), (2, .ref m0), (3, .int (nI i))]) (kk : ∀ (H : Heap) (locs : List Loc), lw_I D cI cC cZ cN x0 m0 s H locs → W p l e room_1 s m #[Value.ref b] below meth c H locs 94 8033 (lw_Z below #[Value.ref b] s) (F0 m 974 ls [])) : W p l e room_1 s m #[Value.ref b] below meth c H locs 94 8033 (lw_Z below #[Value.ref b] s) (F0 m 858 ls []) := by
  obtain ⟨⟨hx, hb, hr, hml, hown, -, hX, hbl, hlocks, hgv⟩, hL, hK, hN, hZ, hts⟩ := hC
  have hown : s.vm.findClass RL = some m.cls := hown
  have hbA : ¬ lw_A s b := Nat.not_le.mpr hbl
  obtain ⟨wX, wM, hI, hPX, hPM, hDX, hDM, hdis, hS⟩ := hJ
  obtain ⟨rv, PX, PM, ⟨v, rfl⟩, cX, cM, hnext⟩ := stp_rate (l := l) (D := D) (ts := ts) hI (hDX.weaken (fun _ _ _ _ => trivial)) (hDM.weaken (fun _ _ _ _ => trivial)) (xs (nI (i + 1)).toNatClampNeg) (xs (nI (i + 2)).toNatClampNeg)
  obtain ⟨fX, heX⟩ := XInv.hx hI
  obtain ⟨fM, heM⟩ := XInv.hm hI
  refine lv_aload_n hx hb dL_law_858 rfl (lv_at hl 1 rfl) ?_
  refine lv_aload_n hx hb dL_law_859 rfl (lv_at hl 0 rfl) ?_
  refine lv_iload_n hx hb dL_law_860 rfl (lv_at hl 3 rfl) ?_
  refine lv_iconst (v := 1) hx hb dL_law_861 (by decide) ?_
  refine lv_iadd hx hb dL_law_862 ?_
  refine ly_eqi (show nI i + 1 = nI (i + 1) from ly_add rfl rfl) ?_
  refine va_sld hx hb hX hbl hbA hS (vp_in_nI (by omega) (by omega)) dL_law_863 ?_
  refine lv_aload_n hx hb dL_law_864 rfl (lv_at hl 0 rfl) ?_
  refine lv_iload_n hx hb dL_law_865 rfl (lv_at hl 3 rfl) ?_
  refine lv_iconst (v := 2) hx hb dL_law_866 (by decide) ?_
  refine lv_iadd hx hb dL_law_867 ?_
  refine ly_eqi (show nI i + 2 = nI (i + 2) from ly_add rfl rfl) ?_
  refine va_sld hx hb hX hbl hbA hS (vp_in_nI (by omega) (by omega)) dL_law_868 ?_
  refine lw_m2 (va_runV (As := [.int (xs (nI (i + 1)).toNatClampNeg), .int (xs (nI (i + 2)).toNatClampNeg)]) (rest := []) ⟨hx, hb, hml, hown, hts⟩ cX (cwV 2 hts gL_law_X6_rate rfl rfl rfl (by decide +kernel) ⟨Nat.le_of_ble_eq_true rfl, Nat.le_of_ble_eq_true rfl⟩) (ly_pvX (ly_pv hK hN hPX 0 6 rfl heX rfl) (hZ.at hS (fun q ⟨k, e, hq⟩ => hDX.2 k (q, e) hq))) rfl rfl hl.1 rfl (lv_room (Nat.le_of_ble_eq_true rfl)) dL_law_869 ⟨Nat.le_of_ble_eq_true rfl, Nat.le_of_ble_eq_true rfl⟩) hPM hDX (fun q h1 h2 => hdis q h2 h1) hS ?_
  rintro _ w1 H locs ⟨rfl, hpx⟩ ha1 hPX hPM hS
  refine W.eq (g2 := F0 m 872 ls [.int v]) rfl ?_
  refine lv_aload_n hx hb dL_law_872 rfl (lv_at hl 2 rfl) ?_
  refine lv_aload_n hx hb dL_law_873 rfl (lv_at hl 0 rfl) ?_
  refine lv_iload_n hx hb dL_law_874 rfl (lv_at hl 3 rfl) ?_
  refine lv_iconst (v := 1) hx hb dL_law_875 (by decide) ?_
  refine lv_iadd hx hb dL_law_876 ?_
  refine ly_eqi (show nI i + 1 = nI (i + 1) from ly_add rfl rfl) ?_
  refine va_sld hx hb hX hbl hbA hS (vp_in_nI (by omega) (by omega)) dL_law_877 ?_
  refine lv_aload_n hx hb dL_law_878 rfl (lv_at hl 0 rfl) ?_
  refine lv_iload_n hx hb dL_law_879 rfl (lv_at hl 3 rfl) ?_
  refine lv_iconst (v := 2) hx hb dL_law_880 (by decide) ?_
  refine lv_iadd hx hb dL_law_881 ?_
  refine ly_eqi (show nI i + 2 = nI (i + 2) from ly_add rfl rfl) ?_
  refine va_sld hx hb hX hbl hbA hS (vp_in_nI (by omega) (by omega)) dL_law_882 ?_
  refine lw_m2 (va_runV (As := [.int (xs (nI (i + 1)).toNatClampNeg), .int (xs (nI (i + 2)).toNatClampNeg)]) (rest := [.int v]) ⟨hx, hb, hml, hown, hts⟩ cM (cwV 2 hts gL_law_X7_rate rfl rfl rfl (by decide +kernel) ⟨Nat.le_of_ble_eq_true rfl, Nat.le_of_ble_eq_true rfl⟩) (ly_pv hK hN hPM 0 7 rfl heM rfl) rfl rfl hl.1 rfl (lv_room (Nat.le_of_ble_eq_true rfl)) dL_law_883 ⟨Nat.le_of_ble_eq_true rfl, Nat.le_of_ble_eq_true rfl⟩) hPX hDM (fun q h1 h2 => hdis q (ly_in_map ha1 h1) h2) hS ?_
  rintro _ w2 H locs ⟨rfl, hpm⟩ ha2 hPM hPX hS
  refine W.eq (g2 := F0 m 886 ls [.int v, .int v]) rfl ?_
  refine lv_icmp_eq (tgt := 974) hx hb dL_law_886 (by decide) (fun _ => ?_) (fun h_9 => absurd rfl h_9)
  obtain ⟨w3, hls, hI3⟩ := hnext w1 w2 hpx hpm
  exact kk H locs (lw_fin hI3 hls ha1 ha2 hPX hPM hDX hDM hdis hS)
set_option maxHeartbeats 4000000 in
set_option maxRecDepth 100000 in
theorem lwc_keep (hC : lw_C p s m meth c b L xs D cI cC cZ cN ts) {i : Nat} (hi : i + 7 ≤ L) {H : Heap} {locs : List Loc} (hJ : lw_I D cI cC cZ cN x0 m0 s H locs) {ls : Array Slot} (hl : lv_has ls 4 [(0, .ref b), (1, .ref x0), (2, .ref m0), (3, .int (nI i))]) (kk : ∀ (H : Heap) (locs : List Loc), lw_I D cI cC cZ cN x0 m0 s H locs → W p l e room_1 s m #[Value.ref b] below meth c H locs 94 8033 (lw_Z below #[Value.ref b] s) (F0 m 974 ls [])) : W p l e room_1 s m #[Value.ref b] below meth c H locs 94 8033 (lw_Z below #[Value.ref b] s) (F0 m 891 ls []) := by
  obtain ⟨⟨hx, hb, hr, hml, hown, -, hX, hbl, hlocks, hgv⟩, hL, hK, hN, hZ, hts⟩ := hC
  have hown : s.vm.findClass RL = some m.cls := hown
  have hbA : ¬ lw_A s b := Nat.not_le.mpr hbl
  obtain ⟨wX, wM, hI, hPX, hPM, hDX, hDM, hdis, hS⟩ := hJ
  obtain ⟨rv, PX, PM, ⟨v, rfl⟩, cX, cM, hnext⟩ := stp_keep (l := l) (D := D) (ts := ts) hI (hDX.weaken (fun _ _ _ _ => trivial)) (hDM.weaken (fun _ _ _ _ => trivial)) (xs (nI (i + 1)).toNatClampNeg)
  obtain ⟨fX, heX⟩ := XInv.hx hI
  obtain ⟨fM, heM⟩ := XInv.hm hI
  refine lv_aload_n hx hb dL_law_891 rfl (lv_at hl 1 rfl) ?_
  refine lv_aload_n hx hb dL_law_892 rfl (lv_at hl 0 rfl) ?_
  refine lv_iload_n hx hb dL_law_893 rfl (lv_at hl 3 rfl) ?_
  refine lv_iconst (v := 1) hx hb dL_law_894 (by decide) ?_
  refine lv_iadd hx hb dL_law_895 ?_
  refine ly_eqi (show nI i + 1 = nI (i + 1) from ly_add rfl rfl) ?_
  refine va_sld hx hb hX hbl hbA hS (vp_in_nI (by omega) (by omega)) dL_law_896 ?_
  refine lw_m2 (va_runV (As := [.int (xs (nI (i + 1)).toNatClampNeg)]) (rest := []) ⟨hx, hb, hml, hown, hts⟩ cX (cwV 1 hts gL_law_X6_keep rfl rfl rfl (by decide +kernel) ⟨Nat.le_of_ble_eq_true rfl, Nat.le_of_ble_eq_true rfl⟩) (ly_pvX (ly_pv hK hN hPX 0 6 rfl heX rfl) (hZ.at hS (fun q ⟨k, e, hq⟩ => hDX.2 k (q, e) hq))) rfl rfl hl.1 rfl (lv_room (Nat.le_of_ble_eq_true rfl)) dL_law_897 ⟨Nat.le_of_ble_eq_true rfl, Nat.le_of_ble_eq_true rfl⟩) hPM hDX (fun q h1 h2 => hdis q h2 h1) hS ?_
  rintro _ w1 H locs ⟨rfl, hpx⟩ ha1 hPX hPM hS
  refine W.eq (g2 := F0 m 900 ls [.int v]) rfl ?_
  refine lv_aload_n hx hb dL_law_900 rfl (lv_at hl 2 rfl) ?_
  refine lv_aload_n hx hb dL_law_901 rfl (lv_at hl 0 rfl) ?_
  refine lv_iload_n hx hb dL_law_902 rfl (lv_at hl 3 rfl) ?_
  refine lv_iconst (v := 1) hx hb dL_law_903 (by decide) ?_
  refine lv_iadd hx hb dL_law_904 ?_
  refine ly_eqi (show nI i + 1 = nI (i + 1) from ly_add rfl rfl) ?_
  refine va_sld hx hb hX hbl hbA hS (vp_in_nI (by omega) (by omega)) dL_law_905 ?_
  refine lw_m2 (va_runV (As := [.int (xs (nI (i + 1)).toNatClampNeg)]) (rest := [.int v]) ⟨hx, hb, hml, hown, hts⟩ cM (cwV 1 hts gL_law_X7_keep rfl rfl rfl (by decide +kernel) ⟨Nat.le_of_ble_eq_true rfl, Nat.le_of_ble_eq_true rfl⟩) (ly_pv hK hN hPM 0 7 rfl heM rfl) rfl rfl hl.1 rfl (lv_room (Nat.le_of_ble_eq_true rfl)) dL_law_906 ⟨Nat.le_of_ble_eq_true rfl, Nat.le_of_ble_eq_true rfl⟩) hPX hDM (fun q h1 h2 => hdis q (ly_in_map ha1 h1) h2) hS ?_
  rintro _ w2 H locs ⟨rfl, hpm⟩ ha2 hPM hPX hS
  refine W.eq (g2 := F0 m 909 ls [.int v, .int v]) rfl ?_
  refine lv_icmp_eq (tgt := 974) hx hb dL_law_909 (by decide) (fun _ => ?_) (fun h_9 => absurd rfl h_9)
  obtain ⟨w3, hls, hI3⟩ := hnext w1 w2 hpx hpm
  exact kk H locs (lw_fin hI3 hls ha1 ha2 hPX hPM hDX hDM hdis hS)
set_option maxHeartbeats 4000000 in
set_option maxRecDepth 100000 in
theorem lwc_back (hC : lw_C p s m meth c b L xs D cI cC cZ cN ts) {i : Nat} (hi : i + 7 ≤ L) {H : Heap} {locs : List Loc} (hJ : lw_I D cI cC cZ cN x0 m0 s H locs) {ls : Array Slot} (hl : lv_has ls 4 [(0, .ref b), (1, .ref x0), (2, .ref m0), (3, .int (nI i))]) (kk : ∀ (H : Heap) (locs : List Loc), lw_I D cI cC cZ cN x0 m0 s H locs → W p l e room_1 s m #[Value.ref b] below meth c H locs 94 8033 (lw_Z below #[Value.ref b] s) (F0 m 974 ls [])) : W p l e room_1 s m #[Value.ref b] below meth c H locs 94 8033 (lw_Z below #[Value.ref b] s) (F0 m 914 ls []) := by
  obtain ⟨⟨hx, hb, hr, hml, hown, -, hX, hbl, hlocks, hgv⟩, hL, hK, hN, hZ, hts⟩ := hC
  have hown : s.vm.findClass RL = some m.cls := hown
  have hbA : ¬ lw_A s b := Nat.not_le.mpr hbl
  obtain ⟨wX, wM, hI, hPX, hPM, hDX, hDM, hdis, hS⟩ := hJ
  obtain ⟨rv, PX, PM, ⟨v, rfl⟩, cX, cM, hnext⟩ := stp_back (l := l) (D := D) (ts := ts) hI (hDX.weaken (fun _ _ _ _ => trivial)) (hDM.weaken (fun _ _ _ _ => trivial)) (xs (nI (i + 1)).toNatClampNeg)
  obtain ⟨fX, heX⟩ := XInv.hx hI
  obtain ⟨fM, heM⟩ := XInv.hm hI
  refine lv_aload_n hx hb dL_law_914 rfl (lv_at hl 1 rfl) ?_
  refine lv_aload_n hx hb dL_law_915 rfl (lv_at hl 0 rfl) ?_
  refine lv_iload_n hx hb dL_law_916 rfl (lv_at hl 3 rfl) ?_
  refine lv_iconst (v := 1) hx hb dL_law_917 (by decide) ?_
  refine lv_iadd hx hb dL_law_918 ?_
  refine ly_eqi (show nI i + 1 = nI (i + 1) from ly_add rfl rfl) ?_
  refine va_sld hx hb hX hbl hbA hS (vp_in_nI (by omega) (by omega)) dL_law_919 ?_
  refine lw_m2 (va_runV (As := [.int (xs (nI (i + 1)).toNatClampNeg)]) (rest := []) ⟨hx, hb, hml, hown, hts⟩ cX (cwV 1 hts gL_law_X6_back rfl rfl rfl (by decide +kernel) ⟨Nat.le_of_ble_eq_true rfl, Nat.le_of_ble_eq_true rfl⟩) (ly_pvX (ly_pv hK hN hPX 0 6 rfl heX rfl) (hZ.at hS (fun q ⟨k, e, hq⟩ => hDX.2 k (q, e) hq))) rfl rfl hl.1 rfl (lv_room (Nat.le_of_ble_eq_true rfl)) dL_law_920 ⟨Nat.le_of_ble_eq_true rfl, Nat.le_of_ble_eq_true rfl⟩) hPM hDX (fun q h1 h2 => hdis q h2 h1) hS ?_
  rintro _ w1 H locs ⟨rfl, hpx⟩ ha1 hPX hPM hS
  refine W.eq (g2 := F0 m 923 ls [.int v]) rfl ?_
  refine lv_aload_n hx hb dL_law_923 rfl (lv_at hl 2 rfl) ?_
  refine lv_aload_n hx hb dL_law_924 rfl (lv_at hl 0 rfl) ?_
  refine lv_iload_n hx hb dL_law_925 rfl (lv_at hl 3 rfl) ?_
  refine lv_iconst (v := 1) hx hb dL_law_926 (by decide) ?_
  refine lv_iadd hx hb dL_law_927 ?_
  refine ly_eqi (show nI i + 1 = nI (i + 1) from ly_add rfl rfl) ?_
  refine va_sld hx hb hX hbl hbA hS (vp_in_nI (by omega) (by omega)) dL_law_928 ?_
  refine lw_m2 (va_runV (As := [.int (xs (nI (i + 1)).toNatClampNeg)]) (rest := [.int v]) ⟨hx, hb, hml, hown, hts⟩ cM (cwV 1 hts gL_law_X7_back rfl rfl rfl (by decide +kernel) ⟨Nat.le_of_ble_eq_true rfl, Nat.le_of_ble_eq_true rfl⟩) (ly_pv hK hN hPM 0 7 rfl heM rfl) rfl rfl hl.1 rfl (lv_room (Nat.le_of_ble_eq_true rfl)) dL_law_929 ⟨Nat.le_of_ble_eq_true rfl, Nat.le_of_ble_eq_true rfl⟩) hPX hDM (fun q h1 h2 => hdis q (ly_in_map ha1 h1) h2) hS ?_
  rintro _ w2 H locs ⟨rfl, hpm⟩ ha2 hPM hPX hS
  refine W.eq (g2 := F0 m 932 ls [.int v, .int v]) rfl ?_
  refine lv_icmp_eq (tgt := 974) hx hb dL_law_932 (by decide) (fun _ => ?_) (fun h_9 => absurd rfl h_9)
  obtain ⟨w3, hls, hI3⟩ := hnext w1 w2 hpx hpm
  exact kk H locs (lw_fin hI3 hls ha1 ha2 hPX hPM hDX hDM hdis hS)
set_option maxHeartbeats 4000000 in
set_option maxRecDepth 100000 in
theorem lwc_count (hC : lw_C p s m meth c b L xs D cI cC cZ cN ts) {i : Nat} (hi : i + 7 ≤ L) {H : Heap} {locs : List Loc} (hJ : lw_I D cI cC cZ cN x0 m0 s H locs) {ls : Array Slot} (hl : lv_has ls 4 [(0, .ref b), (1, .ref x0), (2, .ref m0), (3, .int (nI i))]) (kk : ∀ (H : Heap) (locs : List Loc), lw_I D cI cC cZ cN x0 m0 s H locs → W p l e room_1 s m #[Value.ref b] below meth c H locs 94 8033 (lw_Z below #[Value.ref b] s) (F0 m 974 ls [])) : W p l e room_1 s m #[Value.ref b] below meth c H locs 94 8033 (lw_Z below #[Value.ref b] s) (F0 m 937 ls []) := by
  obtain ⟨⟨hx, hb, hr, hml, hown, -, hX, hbl, hlocks, hgv⟩, hL, hK, hN, hZ, hts⟩ := hC
  have hown : s.vm.findClass RL = some m.cls := hown
  have hbA : ¬ lw_A s b := Nat.not_le.mpr hbl
  obtain ⟨wX, wM, hI, hPX, hPM, hDX, hDM, hdis, hS⟩ := hJ
  obtain ⟨rv, PX, PM, ⟨v, rfl⟩, cX, cM, hnext⟩ := stp_count (l := l) (D := D) (ts := ts) hI (hDX.weaken (fun _ _ _ _ => trivial)) (hDM.weaken (fun _ _ _ _ => trivial)) (xs (nI (i + 1)).toNatClampNeg)
  obtain ⟨fX, heX⟩ := XInv.hx hI
  obtain ⟨fM, heM⟩ := XInv.hm hI
  refine lv_aload_n hx hb dL_law_937 rfl (lv_at hl 1 rfl) ?_
  refine lv_aload_n hx hb dL_law_938 rfl (lv_at hl 0 rfl) ?_
  refine lv_iload_n hx hb dL_law_939 rfl (lv_at hl 3 rfl) ?_
  refine lv_iconst (v := 1) hx hb dL_law_940 (by decide) ?_
  refine lv_iadd hx hb dL_law_941 ?_
  refine ly_eqi (show nI i + 1 = nI (i + 1) from ly_add rfl rfl) ?_
  refine va_sld hx hb hX hbl hbA hS (vp_in_nI (by omega) (by omega)) dL_law_942 ?_
  refine lw_m2 (va_runV (As := [.int (xs (nI (i + 1)).toNatClampNeg)]) (rest := []) ⟨hx, hb, hml, hown, hts⟩ cX (cwV 1 hts gL_law_X6_count rfl rfl rfl (by decide +kernel) ⟨Nat.le_of_ble_eq_true rfl, Nat.le_of_ble_eq_true rfl⟩) (ly_pvX (ly_pv hK hN hPX 0 6 rfl heX rfl) (hZ.at hS (fun q ⟨k, e, hq⟩ => hDX.2 k (q, e) hq))) rfl rfl hl.1 rfl (lv_room (Nat.le_of_ble_eq_true rfl)) dL_law_943 ⟨Nat.le_of_ble_eq_true rfl, Nat.le_of_ble_eq_true rfl⟩) hPM hDX (fun q h1 h2 => hdis q h2 h1) hS ?_
  rintro _ w1 H locs ⟨rfl, hpx⟩ ha1 hPX hPM hS
  refine W.eq (g2 := F0 m 946 ls [.int v]) rfl ?_
  refine lv_aload_n hx hb dL_law_946 rfl (lv_at hl 2 rfl) ?_
  refine lv_aload_n hx hb dL_law_947 rfl (lv_at hl 0 rfl) ?_
  refine lv_iload_n hx hb dL_law_948 rfl (lv_at hl 3 rfl) ?_
  refine lv_iconst (v := 1) hx hb dL_law_949 (by decide) ?_
  refine lv_iadd hx hb dL_law_950 ?_
  refine ly_eqi (show nI i + 1 = nI (i + 1) from ly_add rfl rfl) ?_
  refine va_sld hx hb hX hbl hbA hS (vp_in_nI (by omega) (by omega)) dL_law_951 ?_
  refine lw_m2 (va_runV (As := [.int (xs (nI (i + 1)).toNatClampNeg)]) (rest := [.int v]) ⟨hx, hb, hml, hown, hts⟩ cM (cwV 1 hts gL_law_X7_count rfl rfl rfl (by decide +kernel) ⟨Nat.le_of_ble_eq_true rfl, Nat.le_of_ble_eq_true rfl⟩) (ly_pv hK hN hPM 0 7 rfl heM rfl) rfl rfl hl.1 rfl (lv_room (Nat.le_of_ble_eq_true rfl)) dL_law_952 ⟨Nat.le_of_ble_eq_true rfl, Nat.le_of_ble_eq_true rfl⟩) hPX hDM (fun q h1 h2 => hdis q (ly_in_map ha1 h1) h2) hS ?_
  rintro _ w2 H locs ⟨rfl, hpm⟩ ha2 hPM hPX hS
  refine W.eq (g2 := F0 m 955 ls [.int v, .int v]) rfl ?_
  refine lv_icmp_eq (tgt := 974) hx hb dL_law_955 (by decide) (fun _ => ?_) (fun h_9 => absurd rfl h_9)
  obtain ⟨w3, hls, hI3⟩ := hnext w1 w2 hpx hpm
  exact kk H locs (lw_fin hI3 hls ha1 ha2 hPX hPM hDX hDM hdis hS)
set_option maxHeartbeats 4000000 in
set_option maxRecDepth 100000 in
theorem lwc_trace (hC : lw_C p s m meth c b L xs D cI cC cZ cN ts) {i : Nat} (hi : i + 7 ≤ L) {H : Heap} {locs : List Loc} (hJ : lw_I D cI cC cZ cN x0 m0 s H locs) {ls : Array Slot} (hl : lv_has ls 4 [(0, .ref b), (1, .ref x0), (2, .ref m0), (3, .int (nI i))]) (kk : ∀ (H : Heap) (locs : List Loc), lw_I D cI cC cZ cN x0 m0 s H locs → W p l e room_1 s m #[Value.ref b] below meth c H locs 94 8033 (lw_Z below #[Value.ref b] s) (F0 m 974 ls [])) : W p l e room_1 s m #[Value.ref b] below meth c H locs 94 8033 (lw_Z below #[Value.ref b] s) (F0 m 960 ls []) := by
  obtain ⟨⟨hx, hb, hr, hml, hown, -, hX, hbl, hlocks, hgv⟩, hL, hK, hN, hZ, hts⟩ := hC
  have hown : s.vm.findClass RL = some m.cls := hown
  have hbA : ¬ lw_A s b := Nat.not_le.mpr hbl
  obtain ⟨wX, wM, hI, hPX, hPM, hDX, hDM, hdis, hS⟩ := hJ
  obtain ⟨rv, PX, PM, ⟨v, rfl⟩, cX, cM, hnext⟩ := stp_trace (l := l) (D := D) (ts := ts) hI (hDX.weaken (fun _ _ _ _ => trivial)) (hDM.weaken (fun _ _ _ _ => trivial))
  obtain ⟨fX, heX⟩ := XInv.hx hI
  obtain ⟨fM, heM⟩ := XInv.hm hI
  refine lv_aload_n hx hb dL_law_960 rfl (lv_at hl 1 rfl) ?_
  refine lw_m2 (va_runV (As := []) (rest := []) ⟨hx, hb, hml, hown, hts⟩ cX (cwV 0 hts gL_law_X6_trace rfl rfl rfl (by decide +kernel) ⟨Nat.le_of_ble_eq_true rfl, Nat.le_of_ble_eq_true rfl⟩) (ly_pvX (ly_pv hK hN hPX 0 6 rfl heX rfl) (hZ.at hS (fun q ⟨k, e, hq⟩ => hDX.2 k (q, e) hq))) rfl rfl hl.1 rfl (lv_room (Nat.le_of_ble_eq_true rfl)) dL_law_961 ⟨Nat.le_of_ble_eq_true rfl, Nat.le_of_ble_eq_true rfl⟩) hPM hDX (fun q h1 h2 => hdis q h2 h1) hS ?_
  rintro _ w1 H locs ⟨rfl, hpx⟩ ha1 hPX hPM hS
  refine W.eq (g2 := F0 m 964 ls [.long v]) rfl ?_
  refine lv_aload_n hx hb dL_law_964 rfl (lv_at hl 2 rfl) ?_
  refine lw_m2 (va_runV (As := []) (rest := [.long v]) ⟨hx, hb, hml, hown, hts⟩ cM (cwV 0 hts gL_law_X7_trace rfl rfl rfl (by decide +kernel) ⟨Nat.le_of_ble_eq_true rfl, Nat.le_of_ble_eq_true rfl⟩) (ly_pv hK hN hPM 0 7 rfl heM rfl) rfl rfl hl.1 rfl (lv_room (Nat.le_of_ble_eq_true rfl)) dL_law_965 ⟨Nat.le_of_ble_eq_true rfl, Nat.le_of_ble_eq_true rfl⟩) hPX hDM (fun q h1 h2 => hdis q (ly_in_map ha1 h1) h2) hS ?_
  rintro _ w2 H locs ⟨rfl, hpm⟩ ha2 hPM hPX hS
  refine W.eq (g2 := F0 m 968 ls [.long v, .long v]) rfl ?_
  refine W.lcmp hx hb dL_law_968 ?_
  refine lv_if_eq (tgt := 974) hx hb dL_law_969 (by decide) (fun _ => ?_) (fun h_9 => absurd (lg_cmp_self v) h_9)
  obtain ⟨w3, hls, hI3⟩ := hnext w1 w2 hpx hpm
  exact kk H locs (lw_fin hI3 hls ha1 ha2 hPX hPM hDX hDM hdis hS)
end LWC
