theorem lg_cmp_self (v : Int64) : lg_cmp v v = 0 := by
  unfold lg_cmp
  rw [if_neg (fun h => absurd h (Int64.lt_irrefl)), if_pos rfl]
section LWC
variable {p : Program} {l : Launch} {e : Env} {s : State} {m : MethodId} {below : List Frame} {meth : Method} {c : Code} {D : va_G} {cI cC cZ cN : ClassId} {ts : Nat → Nat} {b L x0 m0 : Nat} {xs : Nat → Int32}
set_option maxHeartbeats 4000000 in
set_option maxRecDepth 100000 in
theorem lwc_type (hC : lw_C p s m meth c b L xs D cI cC cZ cN ts) {i : Nat} (hi : i + 7 ≤ L) {H : Heap} {locs : List Loc} (hJ : lw_I D cI cC cZ cN x0 m0 s H locs) {ls : Array Slot} (hl : lv_has ls 4 [(0, .ref b), (1, .ref x0), (2, .ref m0), (3, .int (nI i))]) (kk : ∀ (H : Heap) (locs : List Loc), lw_I D cI cC cZ cN x0 m0 s H locs → W p l e room_1 s m #[Value.ref b] below meth c H locs 94 8033 (lw_Z below #[Value.ref b] s) (F0 m 974 ls [])) : W p l e room_1 s m #[Value.ref b] below meth c H locs 94 8033 (lw_Z below #[Value.ref b] s) (F0 m 164 ls []) := by
  obtain ⟨⟨hx, hb, hr, hml, hown, -, hX, hbl, hlocks, hgv⟩, hL, hK, hN, hZ, hts⟩ := hC
  have hown : s.vm.findClass RL = some m.cls := hown
  have hbA : ¬ lw_A s b := Nat.not_le.mpr hbl
  obtain ⟨wX, wM, hI, hPX, hPM, hDX, hDM, hdis, hS⟩ := hJ
  obtain ⟨rv, PX, PM, ⟨v, rfl⟩, cX, cM, hnext⟩ := stp_type (l := l) (D := D) (ts := ts) hI (hDX.weaken (fun _ _ _ _ => trivial)) (hDM.weaken (fun _ _ _ _ => trivial)) (xs (nI (i + 1)).toNatClampNeg)
  obtain ⟨fX, heX⟩ := XInv.hx hI
  obtain ⟨fM, heM⟩ := XInv.hm hI
  refine lv_aload_n hx hb dL_law_164 rfl (lv_at hl 1 rfl) ?_
  refine lv_aload_n hx hb dL_law_165 rfl (lv_at hl 0 rfl) ?_
  refine lv_iload_n hx hb dL_law_166 rfl (lv_at hl 3 rfl) ?_
  refine lv_iconst (v := 1) hx hb dL_law_167 (by decide) ?_
  refine lv_iadd hx hb dL_law_168 ?_
  refine ly_eqi (show nI i + 1 = nI (i + 1) from ly_add rfl rfl) ?_
  refine va_sld hx hb hX hbl hbA hS (vp_in_nI (by omega) (by omega)) dL_law_169 ?_
  refine lw_m2 (va_runV (As := [.int (xs (nI (i + 1)).toNatClampNeg)]) (rest := []) ⟨hx, hb, hml, hown, hts⟩ cX (cwV 1 hts gL_law_X6_type rfl rfl rfl (by decide +kernel) ⟨Nat.le_of_ble_eq_true rfl, Nat.le_of_ble_eq_true rfl⟩) (ly_pvX (ly_pv hK hN hPX 0 6 rfl heX rfl) (hZ.at hS (fun q ⟨k, e, hq⟩ => hDX.2 k (q, e) hq))) rfl rfl hl.1 rfl (lv_room (Nat.le_of_ble_eq_true rfl)) dL_law_170 ⟨Nat.le_of_ble_eq_true rfl, Nat.le_of_ble_eq_true rfl⟩) hPM hDX (fun q h1 h2 => hdis q h2 h1) hS ?_
  rintro _ w1 H locs ⟨rfl, hpx⟩ ha1 hPX hPM hS
  refine W.eq (g2 := F0 m 173 ls [.int v]) rfl ?_
  refine lv_aload_n hx hb dL_law_173 rfl (lv_at hl 2 rfl) ?_
  refine lv_aload_n hx hb dL_law_174 rfl (lv_at hl 0 rfl) ?_
  refine lv_iload_n hx hb dL_law_175 rfl (lv_at hl 3 rfl) ?_
  refine lv_iconst (v := 1) hx hb dL_law_176 (by decide) ?_
  refine lv_iadd hx hb dL_law_177 ?_
  refine ly_eqi (show nI i + 1 = nI (i + 1) from ly_add rfl rfl) ?_
  refine va_sld hx hb hX hbl hbA hS (vp_in_nI (by omega) (by omega)) dL_law_178 ?_
  refine lw_m2 (va_runV (As := [.int (xs (nI (i + 1)).toNatClampNeg)]) (rest := [.int v]) ⟨hx, hb, hml, hown, hts⟩ cM (cwV 1 hts gL_law_X7_type rfl rfl rfl (by decide +kernel) ⟨Nat.le_of_ble_eq_true rfl, Nat.le_of_ble_eq_true rfl⟩) (ly_pv hK hN hPM 0 7 rfl heM rfl) rfl rfl hl.1 rfl (lv_room (Nat.le_of_ble_eq_true rfl)) dL_law_179 ⟨Nat.le_of_ble_eq_true rfl, Nat.le_of_ble_eq_true rfl⟩) hPX hDM (fun q h1 h2 => hdis q (ly_in_map ha1 h1) h2) hS ?_
  rintro _ w2 H locs ⟨rfl, hpm⟩ ha2 hPM hPX hS
  refine W.eq (g2 := F0 m 182 ls [.int v, .int v]) rfl ?_
  refine lv_icmp_eq (tgt := 974) hx hb dL_law_182 (by decide) (fun _ => ?_) (fun h_9 => absurd rfl h_9)
  obtain ⟨w3, hls, hI3⟩ := hnext w1 w2 hpx hpm
  exact kk H locs (lw_fin hI3 hls ha1 ha2 hPX hPM hDX hDM hdis hS)
set_option maxHeartbeats 4000000 in
set_option maxRecDepth 100000 in
theorem lwc_clear (hC : lw_C p s m meth c b L xs D cI cC cZ cN ts) {i : Nat} (hi : i + 7 ≤ L) {H : Heap} {locs : List Loc} (hJ : lw_I D cI cC cZ cN x0 m0 s H locs) {ls : Array Slot} (hl : lv_has ls 4 [(0, .ref b), (1, .ref x0), (2, .ref m0), (3, .int (nI i))]) (kk : ∀ (H : Heap) (locs : List Loc), lw_I D cI cC cZ cN x0 m0 s H locs → W p l e room_1 s m #[Value.ref b] below meth c H locs 94 8033 (lw_Z below #[Value.ref b] s) (F0 m 974 ls [])) : W p l e room_1 s m #[Value.ref b] below meth c H locs 94 8033 (lw_Z below #[Value.ref b] s) (F0 m 187 ls []) := by
  obtain ⟨⟨hx, hb, hr, hml, hown, -, hX, hbl, hlocks, hgv⟩, hL, hK, hN, hZ, hts⟩ := hC
  have hown : s.vm.findClass RL = some m.cls := hown
  have hbA : ¬ lw_A s b := Nat.not_le.mpr hbl
  obtain ⟨wX, wM, hI, hPX, hPM, hDX, hDM, hdis, hS⟩ := hJ
  obtain ⟨rv, PX, PM, ⟨v, rfl⟩, cX, cM, hnext⟩ := stp_clear (l := l) (D := D) (ts := ts) hI (hDX.weaken (fun _ _ _ _ => trivial)) (hDM.weaken (fun _ _ _ _ => trivial))
  obtain ⟨fX, heX⟩ := XInv.hx hI
  obtain ⟨fM, heM⟩ := XInv.hm hI
  refine lv_aload_n hx hb dL_law_187 rfl (lv_at hl 1 rfl) ?_
  refine lw_m2 (va_runV (As := []) (rest := []) ⟨hx, hb, hml, hown, hts⟩ cX (cwV 0 hts gL_law_X6_clear rfl rfl rfl (by decide +kernel) ⟨Nat.le_of_ble_eq_true rfl, Nat.le_of_ble_eq_true rfl⟩) (ly_pvX (ly_pv hK hN hPX 0 6 rfl heX rfl) (hZ.at hS (fun q ⟨k, e, hq⟩ => hDX.2 k (q, e) hq))) rfl rfl hl.1 rfl (lv_room (Nat.le_of_ble_eq_true rfl)) dL_law_188 ⟨Nat.le_of_ble_eq_true rfl, Nat.le_of_ble_eq_true rfl⟩) hPM hDX (fun q h1 h2 => hdis q h2 h1) hS ?_
  rintro _ w1 H locs ⟨rfl, hpx⟩ ha1 hPX hPM hS
  refine W.eq (g2 := F0 m 191 ls [.int v]) rfl ?_
  refine lv_aload_n hx hb dL_law_191 rfl (lv_at hl 2 rfl) ?_
  refine lw_m2 (va_runV (As := []) (rest := [.int v]) ⟨hx, hb, hml, hown, hts⟩ cM (cwV 0 hts gL_law_X7_clear rfl rfl rfl (by decide +kernel) ⟨Nat.le_of_ble_eq_true rfl, Nat.le_of_ble_eq_true rfl⟩) (ly_pv hK hN hPM 0 7 rfl heM rfl) rfl rfl hl.1 rfl (lv_room (Nat.le_of_ble_eq_true rfl)) dL_law_192 ⟨Nat.le_of_ble_eq_true rfl, Nat.le_of_ble_eq_true rfl⟩) hPX hDM (fun q h1 h2 => hdis q (ly_in_map ha1 h1) h2) hS ?_
  rintro _ w2 H locs ⟨rfl, hpm⟩ ha2 hPM hPX hS
  refine W.eq (g2 := F0 m 195 ls [.int v, .int v]) rfl ?_
  refine lv_icmp_eq (tgt := 974) hx hb dL_law_195 (by decide) (fun _ => ?_) (fun h_9 => absurd rfl h_9)
  obtain ⟨w3, hls, hI3⟩ := hnext w1 w2 hpx hpm
  exact kk H locs (lw_fin hI3 hls ha1 ha2 hPX hPM hDX hDM hdis hS)
set_option maxHeartbeats 4000000 in
set_option maxRecDepth 100000 in
theorem lwc_parish (hC : lw_C p s m meth c b L xs D cI cC cZ cN ts) {i : Nat} (hi : i + 7 ≤ L) {H : Heap} {locs : List Loc} (hJ : lw_I D cI cC cZ cN x0 m0 s H locs) {ls : Array Slot} (hl : lv_has ls 4 [(0, .ref b), (1, .ref x0), (2, .ref m0), (3, .int (nI i))]) (kk : ∀ (H : Heap) (locs : List Loc), lw_I D cI cC cZ cN x0 m0 s H locs → W p l e room_1 s m #[Value.ref b] below meth c H locs 94 8033 (lw_Z below #[Value.ref b] s) (F0 m 974 ls [])) : W p l e room_1 s m #[Value.ref b] below meth c H locs 94 8033 (lw_Z below #[Value.ref b] s) (F0 m 200 ls []) := by
  obtain ⟨⟨hx, hb, hr, hml, hown, -, hX, hbl, hlocks, hgv⟩, hL, hK, hN, hZ, hts⟩ := hC
  have hown : s.vm.findClass RL = some m.cls := hown
  have hbA : ¬ lw_A s b := Nat.not_le.mpr hbl
  obtain ⟨wX, wM, hI, hPX, hPM, hDX, hDM, hdis, hS⟩ := hJ
  obtain ⟨rv, PX, PM, ⟨v, rfl⟩, cX, cM, hnext⟩ := stp_parish (l := l) (D := D) (ts := ts) hI (hDX.weaken (fun _ _ _ _ => trivial)) (hDM.weaken (fun _ _ _ _ => trivial))
  obtain ⟨fX, heX⟩ := XInv.hx hI
  obtain ⟨fM, heM⟩ := XInv.hm hI
  refine lv_aload_n hx hb dL_law_200 rfl (lv_at hl 1 rfl) ?_
  refine lw_m2 (va_runV (As := []) (rest := []) ⟨hx, hb, hml, hown, hts⟩ cX (cwV 0 hts gL_law_X6_parish rfl rfl rfl (by decide +kernel) ⟨Nat.le_of_ble_eq_true rfl, Nat.le_of_ble_eq_true rfl⟩) (ly_pvX (ly_pv hK hN hPX 0 6 rfl heX rfl) (hZ.at hS (fun q ⟨k, e, hq⟩ => hDX.2 k (q, e) hq))) rfl rfl hl.1 rfl (lv_room (Nat.le_of_ble_eq_true rfl)) dL_law_201 ⟨Nat.le_of_ble_eq_true rfl, Nat.le_of_ble_eq_true rfl⟩) hPM hDX (fun q h1 h2 => hdis q h2 h1) hS ?_
  rintro _ w1 H locs ⟨rfl, hpx⟩ ha1 hPX hPM hS
  refine W.eq (g2 := F0 m 204 ls [.int v]) rfl ?_
  refine lv_aload_n hx hb dL_law_204 rfl (lv_at hl 2 rfl) ?_
  refine lw_m2 (va_runV (As := []) (rest := [.int v]) ⟨hx, hb, hml, hown, hts⟩ cM (cwV 0 hts gL_law_X7_parish rfl rfl rfl (by decide +kernel) ⟨Nat.le_of_ble_eq_true rfl, Nat.le_of_ble_eq_true rfl⟩) (ly_pv hK hN hPM 0 7 rfl heM rfl) rfl rfl hl.1 rfl (lv_room (Nat.le_of_ble_eq_true rfl)) dL_law_205 ⟨Nat.le_of_ble_eq_true rfl, Nat.le_of_ble_eq_true rfl⟩) hPX hDM (fun q h1 h2 => hdis q (ly_in_map ha1 h1) h2) hS ?_
  rintro _ w2 H locs ⟨rfl, hpm⟩ ha2 hPM hPX hS
  refine W.eq (g2 := F0 m 208 ls [.int v, .int v]) rfl ?_
  refine lv_icmp_eq (tgt := 974) hx hb dL_law_208 (by decide) (fun _ => ?_) (fun h_9 => absurd rfl h_9)
  obtain ⟨w3, hls, hI3⟩ := hnext w1 w2 hpx hpm
  exact kk H locs (lw_fin hI3 hls ha1 ha2 hPX hPM hDX hDM hdis hS)
set_option maxHeartbeats 4000000 in
set_option maxRecDepth 100000 in
theorem lwc_knee (hC : lw_C p s m meth c b L xs D cI cC cZ cN ts) {i : Nat} (hi : i + 7 ≤ L) {H : Heap} {locs : List Loc} (hJ : lw_I D cI cC cZ cN x0 m0 s H locs) {ls : Array Slot} (hl : lv_has ls 4 [(0, .ref b), (1, .ref x0), (2, .ref m0), (3, .int (nI i))]) (kk : ∀ (H : Heap) (locs : List Loc), lw_I D cI cC cZ cN x0 m0 s H locs → W p l e room_1 s m #[Value.ref b] below meth c H locs 94 8033 (lw_Z below #[Value.ref b] s) (F0 m 974 ls [])) : W p l e room_1 s m #[Value.ref b] below meth c H locs 94 8033 (lw_Z below #[Value.ref b] s) (F0 m 213 ls []) := by
  obtain ⟨⟨hx, hb, hr, hml, hown, -, hX, hbl, hlocks, hgv⟩, hL, hK, hN, hZ, hts⟩ := hC
  have hown : s.vm.findClass RL = some m.cls := hown
  have hbA : ¬ lw_A s b := Nat.not_le.mpr hbl
  obtain ⟨wX, wM, hI, hPX, hPM, hDX, hDM, hdis, hS⟩ := hJ
  obtain ⟨rv, PX, PM, ⟨v, rfl⟩, cX, cM, hnext⟩ := stp_knee (l := l) (D := D) (ts := ts) hI (hDX.weaken (fun _ _ _ _ => trivial)) (hDM.weaken (fun _ _ _ _ => trivial)) (xs (nI (i + 1)).toNatClampNeg) (xs (nI (i + 2)).toNatClampNeg)
  obtain ⟨fX, heX⟩ := XInv.hx hI
  obtain ⟨fM, heM⟩ := XInv.hm hI
  refine lv_aload_n hx hb dL_law_213 rfl (lv_at hl 1 rfl) ?_
  refine lv_aload_n hx hb dL_law_214 rfl (lv_at hl 0 rfl) ?_
  refine lv_iload_n hx hb dL_law_215 rfl (lv_at hl 3 rfl) ?_
  refine lv_iconst (v := 1) hx hb dL_law_216 (by decide) ?_
  refine lv_iadd hx hb dL_law_217 ?_
  refine ly_eqi (show nI i + 1 = nI (i + 1) from ly_add rfl rfl) ?_
  refine va_sld hx hb hX hbl hbA hS (vp_in_nI (by omega) (by omega)) dL_law_218 ?_
  refine lv_aload_n hx hb dL_law_219 rfl (lv_at hl 0 rfl) ?_
  refine lv_iload_n hx hb dL_law_220 rfl (lv_at hl 3 rfl) ?_
  refine lv_iconst (v := 2) hx hb dL_law_221 (by decide) ?_
  refine lv_iadd hx hb dL_law_222 ?_
  refine ly_eqi (show nI i + 2 = nI (i + 2) from ly_add rfl rfl) ?_
  refine va_sld hx hb hX hbl hbA hS (vp_in_nI (by omega) (by omega)) dL_law_223 ?_
  refine lw_m2 (va_runV (As := [.int (xs (nI (i + 1)).toNatClampNeg), .int (xs (nI (i + 2)).toNatClampNeg)]) (rest := []) ⟨hx, hb, hml, hown, hts⟩ cX (cwV 2 hts gL_law_X6_knee rfl rfl rfl (by decide +kernel) ⟨Nat.le_of_ble_eq_true rfl, Nat.le_of_ble_eq_true rfl⟩) (ly_pvX (ly_pv hK hN hPX 0 6 rfl heX rfl) (hZ.at hS (fun q ⟨k, e, hq⟩ => hDX.2 k (q, e) hq))) rfl rfl hl.1 rfl (lv_room (Nat.le_of_ble_eq_true rfl)) dL_law_224 ⟨Nat.le_of_ble_eq_true rfl, Nat.le_of_ble_eq_true rfl⟩) hPM hDX (fun q h1 h2 => hdis q h2 h1) hS ?_
  rintro _ w1 H locs ⟨rfl, hpx⟩ ha1 hPX hPM hS
  refine W.eq (g2 := F0 m 227 ls [.int v]) rfl ?_
  refine lv_aload_n hx hb dL_law_227 rfl (lv_at hl 2 rfl) ?_
  refine lv_aload_n hx hb dL_law_228 rfl (lv_at hl 0 rfl) ?_
  refine lv_iload_n hx hb dL_law_229 rfl (lv_at hl 3 rfl) ?_
  refine lv_iconst (v := 1) hx hb dL_law_230 (by decide) ?_
  refine lv_iadd hx hb dL_law_231 ?_
  refine ly_eqi (show nI i + 1 = nI (i + 1) from ly_add rfl rfl) ?_
  refine va_sld hx hb hX hbl hbA hS (vp_in_nI (by omega) (by omega)) dL_law_232 ?_
  refine lv_aload_n hx hb dL_law_233 rfl (lv_at hl 0 rfl) ?_
  refine lv_iload_n hx hb dL_law_234 rfl (lv_at hl 3 rfl) ?_
  refine lv_iconst (v := 2) hx hb dL_law_235 (by decide) ?_
  refine lv_iadd hx hb dL_law_236 ?_
  refine ly_eqi (show nI i + 2 = nI (i + 2) from ly_add rfl rfl) ?_
  refine va_sld hx hb hX hbl hbA hS (vp_in_nI (by omega) (by omega)) dL_law_237 ?_
  refine lw_m2 (va_runV (As := [.int (xs (nI (i + 1)).toNatClampNeg), .int (xs (nI (i + 2)).toNatClampNeg)]) (rest := [.int v]) ⟨hx, hb, hml, hown, hts⟩ cM (cwV 2 hts gL_law_X7_knee rfl rfl rfl (by decide +kernel) ⟨Nat.le_of_ble_eq_true rfl, Nat.le_of_ble_eq_true rfl⟩) (ly_pv hK hN hPM 0 7 rfl heM rfl) rfl rfl hl.1 rfl (lv_room (Nat.le_of_ble_eq_true rfl)) dL_law_238 ⟨Nat.le_of_ble_eq_true rfl, Nat.le_of_ble_eq_true rfl⟩) hPX hDM (fun q h1 h2 => hdis q (ly_in_map ha1 h1) h2) hS ?_
  rintro _ w2 H locs ⟨rfl, hpm⟩ ha2 hPM hPX hS
  refine W.eq (g2 := F0 m 241 ls [.int v, .int v]) rfl ?_
  refine lv_icmp_eq (tgt := 974) hx hb dL_law_241 (by decide) (fun _ => ?_) (fun h_9 => absurd rfl h_9)
  obtain ⟨w3, hls, hI3⟩ := hnext w1 w2 hpx hpm
  exact kk H locs (lw_fin hI3 hls ha1 ha2 hPX hPM hDX hDM hdis hS)
set_option maxHeartbeats 4000000 in
set_option maxRecDepth 100000 in
theorem lwc_person (hC : lw_C p s m meth c b L xs D cI cC cZ cN ts) {i : Nat} (hi : i + 7 ≤ L) {H : Heap} {locs : List Loc} (hJ : lw_I D cI cC cZ cN x0 m0 s H locs) {ls : Array Slot} (hl : lv_has ls 4 [(0, .ref b), (1, .ref x0), (2, .ref m0), (3, .int (nI i))]) (kk : ∀ (H : Heap) (locs : List Loc), lw_I D cI cC cZ cN x0 m0 s H locs → W p l e room_1 s m #[Value.ref b] below meth c H locs 94 8033 (lw_Z below #[Value.ref b] s) (F0 m 974 ls [])) : W p l e room_1 s m #[Value.ref b] below meth c H locs 94 8033 (lw_Z below #[Value.ref b] s) (F0 m 246 ls []) := by
  obtain ⟨⟨hx, hb, hr, hml, hown, -, hX, hbl, hlocks, hgv⟩, hL, hK, hN, hZ, hts⟩ := hC
  have hown : s.vm.findClass RL = some m.cls := hown
  have hbA : ¬ lw_A s b := Nat.not_le.mpr hbl
  obtain ⟨wX, wM, hI, hPX, hPM, hDX, hDM, hdis, hS⟩ := hJ
  obtain ⟨rv, PX, PM, ⟨v, rfl⟩, cX, cM, hnext⟩ := stp_person (l := l) (D := D) (ts := ts) hI (hDX.weaken (fun _ _ _ _ => trivial)) (hDM.weaken (fun _ _ _ _ => trivial)) (xs (nI (i + 1)).toNatClampNeg) (xs (nI (i + 2)).toNatClampNeg)
  obtain ⟨fX, heX⟩ := XInv.hx hI
  obtain ⟨fM, heM⟩ := XInv.hm hI
  refine lv_aload_n hx hb dL_law_246 rfl (lv_at hl 1 rfl) ?_
  refine lv_aload_n hx hb dL_law_247 rfl (lv_at hl 0 rfl) ?_
  refine lv_iload_n hx hb dL_law_248 rfl (lv_at hl 3 rfl) ?_
  refine lv_iconst (v := 1) hx hb dL_law_249 (by decide) ?_
  refine lv_iadd hx hb dL_law_250 ?_
  refine ly_eqi (show nI i + 1 = nI (i + 1) from ly_add rfl rfl) ?_
  refine va_sld hx hb hX hbl hbA hS (vp_in_nI (by omega) (by omega)) dL_law_251 ?_
  refine lv_aload_n hx hb dL_law_252 rfl (lv_at hl 0 rfl) ?_
  refine lv_iload_n hx hb dL_law_253 rfl (lv_at hl 3 rfl) ?_
  refine lv_iconst (v := 2) hx hb dL_law_254 (by decide) ?_
  refine lv_iadd hx hb dL_law_255 ?_
  refine ly_eqi (show nI i + 2 = nI (i + 2) from ly_add rfl rfl) ?_
  refine va_sld hx hb hX hbl hbA hS (vp_in_nI (by omega) (by omega)) dL_law_256 ?_
  refine lw_m2 (va_runV (As := [.int (xs (nI (i + 1)).toNatClampNeg), .int (xs (nI (i + 2)).toNatClampNeg)]) (rest := []) ⟨hx, hb, hml, hown, hts⟩ cX (cwV 2 hts gL_law_X6_person rfl rfl rfl (by decide +kernel) ⟨Nat.le_of_ble_eq_true rfl, Nat.le_of_ble_eq_true rfl⟩) (ly_pvX (ly_pv hK hN hPX 0 6 rfl heX rfl) (hZ.at hS (fun q ⟨k, e, hq⟩ => hDX.2 k (q, e) hq))) rfl rfl hl.1 rfl (lv_room (Nat.le_of_ble_eq_true rfl)) dL_law_257 ⟨Nat.le_of_ble_eq_true rfl, Nat.le_of_ble_eq_true rfl⟩) hPM hDX (fun q h1 h2 => hdis q h2 h1) hS ?_
  rintro _ w1 H locs ⟨rfl, hpx⟩ ha1 hPX hPM hS
  refine W.eq (g2 := F0 m 260 ls [.int v]) rfl ?_
  refine lv_aload_n hx hb dL_law_260 rfl (lv_at hl 2 rfl) ?_
  refine lv_aload_n hx hb dL_law_261 rfl (lv_at hl 0 rfl) ?_
  refine lv_iload_n hx hb dL_law_262 rfl (lv_at hl 3 rfl) ?_
  refine lv_iconst (v := 1) hx hb dL_law_263 (by decide) ?_
  refine lv_iadd hx hb dL_law_264 ?_
  refine ly_eqi (show nI i + 1 = nI (i + 1) from ly_add rfl rfl) ?_
  refine va_sld hx hb hX hbl hbA hS (vp_in_nI (by omega) (by omega)) dL_law_265 ?_
  refine lv_aload_n hx hb dL_law_266 rfl (lv_at hl 0 rfl) ?_
  refine lv_iload_n hx hb dL_law_267 rfl (lv_at hl 3 rfl) ?_
  refine lv_iconst (v := 2) hx hb dL_law_268 (by decide) ?_
  refine lv_iadd hx hb dL_law_269 ?_
  refine ly_eqi (show nI i + 2 = nI (i + 2) from ly_add rfl rfl) ?_
  refine va_sld hx hb hX hbl hbA hS (vp_in_nI (by omega) (by omega)) dL_law_270 ?_
  refine lw_m2 (va_runV (As := [.int (xs (nI (i + 1)).toNatClampNeg), .int (xs (nI (i + 2)).toNatClampNeg)]) (rest := [.int v]) ⟨hx, hb, hml, hown, hts⟩ cM (cwV 2 hts gL_law_X7_person rfl rfl rfl (by decide +kernel) ⟨Nat.le_of_ble_eq_true rfl, Nat.le_of_ble_eq_true rfl⟩) (ly_pv hK hN hPM 0 7 rfl heM rfl) rfl rfl hl.1 rfl (lv_room (Nat.le_of_ble_eq_true rfl)) dL_law_271 ⟨Nat.le_of_ble_eq_true rfl, Nat.le_of_ble_eq_true rfl⟩) hPX hDM (fun q h1 h2 => hdis q (ly_in_map ha1 h1) h2) hS ?_
  rintro _ w2 H locs ⟨rfl, hpm⟩ ha2 hPM hPX hS
  refine W.eq (g2 := F0 m 274 ls [.int v, .int v]) rfl ?_
  refine lv_icmp_eq (tgt := 974) hx hb dL_law_274 (by decide) (fun _ => ?_) (fun h_9 => absurd rfl h_9)
  obtain ⟨w3, hls, hI3⟩ := hnext w1 w2 hpx hpm
  exact kk H locs (lw_fin hI3 hls ha1 ha2 hPX hPM hDX hDM hdis hS)
set_option maxHeartbeats 4000000 in
set_option maxRecDepth 100000 in
theorem lwc_farm (hC : lw_C p s m meth c b L xs D cI cC cZ cN ts) {i : Nat} (hi : i + 7 ≤ L) {H : Heap} {locs : List Loc} (hJ : lw_I D cI cC cZ cN x0 m0 s H locs) {ls : Array Slot} (hl : lv_has ls 4 [(0, .ref b), (1, .ref x0), (2, .ref m0), (3, .int (nI i))]) (kk : ∀ (H : Heap) (locs : List Loc), lw_I D cI cC cZ cN x0 m0 s H locs → W p l e room_1 s m #[Value.ref b] below meth c H locs 94 8033 (lw_Z below #[Value.ref b] s) (F0 m 974 ls [])) : W p l e room_1 s m #[Value.ref b] below meth c H locs 94 8033 (lw_Z below #[Value.ref b] s) (F0 m 279 ls []) := by
  obtain ⟨⟨hx, hb, hr, hml, hown, -, hX, hbl, hlocks, hgv⟩, hL, hK, hN, hZ, hts⟩ := hC
  have hown : s.vm.findClass RL = some m.cls := hown
  have hbA : ¬ lw_A s b := Nat.not_le.mpr hbl
  obtain ⟨wX, wM, hI, hPX, hPM, hDX, hDM, hdis, hS⟩ := hJ
  obtain ⟨rv, PX, PM, ⟨v, rfl⟩, cX, cM, hnext⟩ := stp_farm (l := l) (D := D) (ts := ts) hI (hDX.weaken (fun _ _ _ _ => trivial)) (hDM.weaken (fun _ _ _ _ => trivial)) (xs (nI (i + 1)).toNatClampNeg) (xs (nI (i + 2)).toNatClampNeg)
  obtain ⟨fX, heX⟩ := XInv.hx hI
  obtain ⟨fM, heM⟩ := XInv.hm hI
  refine lv_aload_n hx hb dL_law_279 rfl (lv_at hl 1 rfl) ?_
  refine lv_aload_n hx hb dL_law_280 rfl (lv_at hl 0 rfl) ?_
  refine lv_iload_n hx hb dL_law_281 rfl (lv_at hl 3 rfl) ?_
  refine lv_iconst (v := 1) hx hb dL_law_282 (by decide) ?_
  refine lv_iadd hx hb dL_law_283 ?_
  refine ly_eqi (show nI i + 1 = nI (i + 1) from ly_add rfl rfl) ?_
  refine va_sld hx hb hX hbl hbA hS (vp_in_nI (by omega) (by omega)) dL_law_284 ?_
  refine lv_aload_n hx hb dL_law_285 rfl (lv_at hl 0 rfl) ?_
  refine lv_iload_n hx hb dL_law_286 rfl (lv_at hl 3 rfl) ?_
  refine lv_iconst (v := 2) hx hb dL_law_287 (by decide) ?_
  refine lv_iadd hx hb dL_law_288 ?_
  refine ly_eqi (show nI i + 2 = nI (i + 2) from ly_add rfl rfl) ?_
  refine va_sld hx hb hX hbl hbA hS (vp_in_nI (by omega) (by omega)) dL_law_289 ?_
  refine lw_m2 (va_runV (As := [.int (xs (nI (i + 1)).toNatClampNeg), .int (xs (nI (i + 2)).toNatClampNeg)]) (rest := []) ⟨hx, hb, hml, hown, hts⟩ cX (cwV 2 hts gL_law_X6_farm rfl rfl rfl (by decide +kernel) ⟨Nat.le_of_ble_eq_true rfl, Nat.le_of_ble_eq_true rfl⟩) (ly_pvX (ly_pv hK hN hPX 0 6 rfl heX rfl) (hZ.at hS (fun q ⟨k, e, hq⟩ => hDX.2 k (q, e) hq))) rfl rfl hl.1 rfl (lv_room (Nat.le_of_ble_eq_true rfl)) dL_law_290 ⟨Nat.le_of_ble_eq_true rfl, Nat.le_of_ble_eq_true rfl⟩) hPM hDX (fun q h1 h2 => hdis q h2 h1) hS ?_
  rintro _ w1 H locs ⟨rfl, hpx⟩ ha1 hPX hPM hS
  refine W.eq (g2 := F0 m 293 ls [.int v]) rfl ?_
  refine lv_aload_n hx hb dL_law_293 rfl (lv_at hl 2 rfl) ?_
  refine lv_aload_n hx hb dL_law_294 rfl (lv_at hl 0 rfl) ?_
  refine lv_iload_n hx hb dL_law_295 rfl (lv_at hl 3 rfl) ?_
  refine lv_iconst (v := 1) hx hb dL_law_296 (by decide) ?_
  refine lv_iadd hx hb dL_law_297 ?_
  refine ly_eqi (show nI i + 1 = nI (i + 1) from ly_add rfl rfl) ?_
  refine va_sld hx hb hX hbl hbA hS (vp_in_nI (by omega) (by omega)) dL_law_298 ?_
  refine lv_aload_n hx hb dL_law_299 rfl (lv_at hl 0 rfl) ?_
  refine lv_iload_n hx hb dL_law_300 rfl (lv_at hl 3 rfl) ?_
  refine lv_iconst (v := 2) hx hb dL_law_301 (by decide) ?_
  refine lv_iadd hx hb dL_law_302 ?_
  refine ly_eqi (show nI i + 2 = nI (i + 2) from ly_add rfl rfl) ?_
  refine va_sld hx hb hX hbl hbA hS (vp_in_nI (by omega) (by omega)) dL_law_303 ?_
  refine lw_m2 (va_runV (As := [.int (xs (nI (i + 1)).toNatClampNeg), .int (xs (nI (i + 2)).toNatClampNeg)]) (rest := [.int v]) ⟨hx, hb, hml, hown, hts⟩ cM (cwV 2 hts gL_law_X7_farm rfl rfl rfl (by decide +kernel) ⟨Nat.le_of_ble_eq_true rfl, Nat.le_of_ble_eq_true rfl⟩) (ly_pv hK hN hPM 0 7 rfl heM rfl) rfl rfl hl.1 rfl (lv_room (Nat.le_of_ble_eq_true rfl)) dL_law_304 ⟨Nat.le_of_ble_eq_true rfl, Nat.le_of_ble_eq_true rfl⟩) hPX hDM (fun q h1 h2 => hdis q (ly_in_map ha1 h1) h2) hS ?_
  rintro _ w2 H locs ⟨rfl, hpm⟩ ha2 hPM hPX hS
  refine W.eq (g2 := F0 m 307 ls [.int v, .int v]) rfl ?_
  refine lv_icmp_eq (tgt := 974) hx hb dL_law_307 (by decide) (fun _ => ?_) (fun h_9 => absurd rfl h_9)
  obtain ⟨w3, hls, hI3⟩ := hnext w1 w2 hpx hpm
  exact kk H locs (lw_fin hI3 hls ha1 ha2 hPX hPM hDX hDM hdis hS)
end LWC
