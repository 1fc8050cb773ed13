/-! two worlds, one growing -/
theorem ly_app_l {D : va_G} {w w2 : va_W} {H : Heap} (h : va_P D vwCl (w ++ w2) H) : va_P D vwCl w H := fun k q hk => h k q (by rw [List.getElem?_append_left (List.getElem?_eq_some_iff.mp hk).1]; exact hk)
theorem ly_app_r {D : va_G} {w w2 : va_W} {H : Heap} (h : va_P D vwCl (w ++ w2) H) : va_P D vwCl w2 H := fun k q hk => h (w.length + k) q (by rw [List.getElem?_append_right (by omega), show w.length + k - w.length = k by omega]; exact hk)
theorem ly_dapp_l {A : Nat → Prop} {w w2 : va_W} (h : va_D A (w ++ w2)) : va_D A w := by
  have key : ∀ (k : Nat) (q : Nat × va_E), w[k]? = some q → (w ++ w2)[k]? = some q := fun k q hk => by rw [List.getElem?_append_left (List.getElem?_eq_some_iff.mp hk).1]; exact hk
  exact ⟨fun i j x y hi hj hxy => h.1 i j x y (key i x hi) (key j y hj) hxy, fun k q hk => h.2 k q (key k q hk)⟩
theorem ly_dapp_r {A : Nat → Prop} {w w2 : va_W} (h : va_D A (w ++ w2)) : va_D A w2 := by
  have key : ∀ (k : Nat) (q : Nat × va_E), w2[k]? = some q → (w ++ w2)[w.length + k]? = some q := fun k q hk => by rw [List.getElem?_append_right (by omega), show w.length + k - w.length = k by omega]; exact hk
  exact ⟨fun i j x y hi hj hxy => by have := h.1 _ _ x y (key i x hi) (key j y hj) hxy; omega, fun k q hk => h.2 _ q (key k q hk)⟩
theorem ly_dapp {A : Nat → Prop} {w w2 : va_W} (h : va_D A (w ++ w2)) : ∀ q, ly_in w q → ¬ ly_in w2 q := by
  rintro q ⟨k, e, hk⟩ ⟨k2, e2, hk2⟩
  have hl : k < w.length := (List.getElem?_eq_some_iff.mp hk).1
  have := h.1 k (w.length + k2) (q, e) (q, e2) (by rw [List.getElem?_append_left hl]; exact hk) (by rw [List.getElem?_append_right (by omega), show w.length + k2 - w.length = k2 by omega]; exact hk2) rfl
  omega
section LWN
variable {p : Program} {l : Launch} {e : Env} {R : Room} {s : State} {m : MethodId} {args : Array Value} {below : List Frame} {meth : Method} {c : Code} {H : Heap} {locs : List Loc} {cells slots : Nat} {Q : State → Prop}
variable {pc : Nat} {ls : Array Slot} {rest st0 : List Value} {a : Array Value} {A : Nat → Prop} {H0 : Heap}
theorem lw_c2 {D : va_G} {wc wo : va_W} {post : va_W → Prop} {mc ms : Nat} (hr : va_Run p l e R s m args below meth c H locs cells slots mc ms (F0 m pc ls st0) rest (ly_QC D wc H.size post a) (va_A wc H.size)) (hPo : va_P D vwCl wo H) (hDc : va_D A wc) (hdis : ∀ q, ly_in wo q → ¬ ly_in wc q) (hS : va_S A H0 H locs) (hA : ∀ q, H0.size ≤ q → A q)
    (kk : ∀ (w1 : va_W) (H1 : Heap) (locs1 : List Loc), post w1 → va_P D vwCl w1 H1 → va_P D vwCl wo H1 → va_D A w1 → (∀ q, ly_in wo q → ¬ ly_in w1 q) → va_S A H0 H1 locs1 → W p l e R s m args below meth c H1 locs1 (cells + mc) (slots + ms) Q (F0 m (pc + 3) ls rest)) : W p l e R s m args below meth c H locs cells slots Q (F0 m pc ls st0) := by
  have hF : ∀ q, va_A wc H.size q → A q := fun q h => h.elim (fun ⟨k, e, hk⟩ => hDc.2 k (q, e) hk) (fun h => hA q (Nat.le_trans hS.1 h))
  refine va_callv hr hS (fun q _ h => hF q h) hF (fun u t H1 locs1 ht hvm hw hB hz hk hS1 => ?_)
  obtain ⟨hP1, hD1⟩ := hB
  rw [ht] at hP1
  have hno : ∀ q, ly_in wo q → ¬ va_A wc H.size q := by
    rintro q ⟨k, e, hq⟩ h
    rcases h with h | h
    · exact hdis q ⟨k, e, hq⟩ h
    · exact absurd (hPo k (q, e) hq).lt (Nat.not_lt.mpr h)
  refine kk u H1 locs1 hw hP1 (fun k q hq => (hPo k q hq).kept (hk q.1 (hPo k q hq).lt (hno q.1 ⟨k, q.2, hq⟩))) (hD1.weaken (fun _ q _ h => hF q.1 h)) (fun q h1 ⟨k, e, hk2⟩ => hno q h1 (hD1.2 k (q, e) hk2)) hS1
end LWN
set_option maxHeartbeats 4000000 in
set_option maxRecDepth 100000 in
/-- THE LAW, from its entry -/
theorem whole_start {p : Program} {e : Env} {s : State} {m : MethodId} {below : List Frame} {meth : Method} {c : Code} (l : Launch) (hflags : l.flags = flags0) {b L : Nat} {xs : Nat → Int32} (hL : L ≤ 448) (C0 : lw_At p s m meth c b L xs) : W p l e room_1 s m #[Value.ref b] below meth c s.heap [] 0 0 (lw_Z below #[Value.ref b] s) (entryFrame m ([Value.ref b] : List Value).toArray 4) := by
  obtain ⟨hx, hb, hr, hml, hown, htsT, hX, hbl, hlocks, hgv⟩ := id C0
  have hts : ∀ w ∈ wsL_law, w.before #[Value.ref b] s = true := fun w h => htsT w (wsL_law_in w h)
  have hown : s.vm.findClass RL = some m.cls := hown
  have hA : ∀ q : Nat, s.heap.size ≤ q → lw_A s q := fun _ h => h
  obtain ⟨D, cI, cC, cZ, cN, hK⟩ := lt_K htsT
  obtain ⟨ts, hZ⟩ := lt_Z htsT hgv
  have hN : ly_N s := lt_N htsT
  have hO : va_AO RX3 s := va_AO.of (lt_aN htsT)
  have hC : lw_C p s m meth c b L xs D cI cC cZ cN ts := ⟨C0, hL, hK, hN, hZ, hts⟩
  obtain ⟨M0, hM0⟩ : ∃ M0 : Nat → Nat → Nat, M0 = fun _ _ => 0 := ⟨_, rfl⟩
  obtain ⟨mi0, hmi0⟩ : ∃ mi0 : Nat → Nat, mi0 = fun _ => 0 := ⟨_, rfl⟩
  obtain ⟨E0, hE0⟩ : ∃ E0 : Nat → Nat → Nat, E0 = (va_up (va_up (va_up M0 9 (va_up (va_up (M0 9) 2 0) 3 0)) 16 (va_up (va_up (va_up (va_up (va_up (M0 16) 5 0) 6 0) 7 0) 8 0) 9 0)) 17 (va_up (va_up (va_up (va_up (va_up (M0 17) 5 1) 6 1) 7 1) 8 1) 9 1)) := ⟨_, rfl⟩
  obtain ⟨S0, T0, ⟨e9, e10, e11, e12, e13, e14, e15, e16, e17, e18, e20, e22, et⟩, hREL⟩ := start_rel M0 E0 mi0 hM0 hmi0 hE0
  have hS : va_S (lw_A s) s.heap s.heap [] := va_S.rf
  have hP : va_P D vwCl [] s.heap := fun k q h => by simp at h
  have hD : va_D (lw_A s) [] := ⟨fun i j p q h => by simp at h, fun k q h => by simp at h⟩
  have hl := lv_entry ([.ref b]) (n := 4) (Nat.le_of_ble_eq_true rfl)
  rw [lg_entry_eq]
  generalize (lg_sl ([.ref b]) ++ List.replicate (4 - (lg_sl ([.ref b])).length) Slot.unset).toArray = ls at hl ⊢
  have hl : lv_has ls 4 [(0, .ref b)] := hl
  refine va_new (ci := 6) (fs := [.null, .int 0, .null, .null, .null, .null, .null, .null, .null, .null, .null, .long 0]) (C := RX6) (T := TX6) (N := 12) hx hb hts inlX6 tyX6 tyX6_ok hown (hts (.classLink RL 7 RX6) (List.mem_of_getElem? (i := 0) rfl)) (lt_i6 htsT) (lt_n6 htsT) hK hP hD hS hA rfl (fun j hj => by rcases (show j = 0 ∨ j = 1 ∨ j = 2 ∨ j = 3 ∨ j = 4 ∨ j = 5 ∨ j = 6 ∨ j = 7 ∨ j = 8 ∨ j = 9 ∨ j = 10 ∨ j = 11 by omega) with rfl | rfl | rfl | rfl | rfl | rfl | rfl | rfl | rfl | rfl | rfl | rfl <;> rfl) (Nat.le_of_ble_eq_true rfl) (Nat.le_of_ble_eq_true rfl) dL_law_0 (fun q0 H hP hD hS => ?_)
  have hP : va_P D vwCl [(q0, .inr (6, [.null, .int 0, .null, .null, .null, .null, .null, .null, .null, .null, .null, .long 0]))] H := hP
  have hD : va_D (lw_A s) [(q0, .inr (6, [.null, .int 0, .null, .null, .null, .null, .null, .null, .null, .null, .null, .long 0]))] := hD
  refine W.widen (k := 1) (n := 12) (by omega) (by omega) ?_
  refine lv_dup hx hb dL_law_3 rfl ?_
  refine ly_c (wr := []) (va_runI (As := []) (rest := [.ref q0]) ⟨hx, hb, hml, hown, hts⟩ (c_X6_init l D cI cC cZ cN q0 H.size) (cwI 0 hts gL_law_X6_init rfl rfl rfl (lt_n6 htsT) (hts (.methodLink RL 9 yX6_init) (List.mem_of_getElem? (i := 6) rfl)) (hts (.instanceMethod yX6_init) (List.mem_of_getElem? (i := 7) rfl)) rfl (by decide +kernel) ⟨Nat.le_of_ble_eq_true rfl, Nat.le_of_ble_eq_true rfl⟩) (ly_psC hK hN hO hP rfl) rfl rfl hl.1 rfl (lv_room (Nat.le_of_ble_eq_true rfl)) dL_law_4 ⟨Nat.le_of_ble_eq_true rfl, Nat.le_of_ble_eq_true rfl⟩) hP hD hS hA [0] [] rfl rfl (by decide) (by decide) ?_
  rintro _ H locs ⟨t, a, a2, b1, ba, ia, rfl, rfl⟩ hP hD hS
  obtain ⟨wX, hwX⟩ : ∃ wX : va_W, wX = cw cI cC cZ cN t a a2 b1 ba ia 0 0 0 0 0 0 .null .null .null (fun _ => 0) (fun _ => 0) (fun j => [0, 0, 256, 0, 0, 0].getD j 0) g_0 g_0 (fun _ => 0) (fun _ => 1) (fun _ => 0) (fun _ _ => 0) (fun _ _ => 1) (fun _ _ => 0) (fun _ => 0) (fun _ => 0) (fun _ _ => 0) (fun _ _ => 1) (fun _ _ => 0) (fun _ => nI 0) (fun _ => nI 0) (fun _ => nI 0) := ⟨_, rfl⟩
  have hP : va_P D vwCl wX H := by rw [hwX]; exact hP
  have hD : va_D (lw_A s) wX := by rw [hwX]; exact hD
  refine W.widen (k := 72) (n := 3786) (by omega) (by omega) ?_
  refine W.eq (g2 := F0 m 7 ls [.ref (t 0)]) rfl ?_
  refine lv_astore_n (lv' := [(1, .ref (t 0)), (0, .ref b)]) hx hb dL_law_7 rfl hl (by decide) rfl (fun ls hl => ?_)
  refine va_new (ci := 7) (fs := [.int 0, .long 0, .null, .int 0, .int 0, .int 0, .int 0, .int 0, .int 0, .null, .null, .null, .null, .null, .null, .null, .null, .null, .null, .int 0, .null, .null, .null, .null, .int 0, .null, .null, .null, .int 0, .null, .null, .int 0, .null, .int 0, .int 0]) (C := RX7) (T := TX7) (N := 35) hx hb hts inlX7 tyX7 tyX7_ok hown (hts (.classLink RL 10 RX7) (List.mem_of_getElem? (i := 3) rfl)) (lt_i7 htsT) (lt_n7 htsT) hK hP hD hS hA rfl (fun j hj => by rcases (show j = 0 ∨ j = 1 ∨ j = 2 ∨ j = 3 ∨ j = 4 ∨ j = 5 ∨ j = 6 ∨ j = 7 ∨ j = 8 ∨ j = 9 ∨ j = 10 ∨ j = 11 ∨ j = 12 ∨ j = 13 ∨ j = 14 ∨ j = 15 ∨ j = 16 ∨ j = 17 ∨ j = 18 ∨ j = 19 ∨ j = 20 ∨ j = 21 ∨ j = 22 ∨ j = 23 ∨ j = 24 ∨ j = 25 ∨ j = 26 ∨ j = 27 ∨ j = 28 ∨ j = 29 ∨ j = 30 ∨ j = 31 ∨ j = 32 ∨ j = 33 ∨ j = 34 by omega) with rfl | rfl | rfl | rfl | rfl | rfl | rfl | rfl | rfl | rfl | rfl | rfl | rfl | rfl | rfl | rfl | rfl | rfl | rfl | rfl | rfl | rfl | rfl | rfl | rfl | rfl | rfl | rfl | rfl | rfl | rfl | rfl | rfl | rfl | rfl <;> rfl) (Nat.le_of_ble_eq_true rfl) (Nat.le_of_ble_eq_true rfl) dL_law_8 (fun q8 H hP hD hS => ?_)
  have hPX := ly_app_l hP
  have hPM := ly_app_r hP
  have hDX := ly_dapp_l hD
  have hDM := ly_dapp_r hD
  have hdis := ly_dapp hD
  refine W.widen (k := 73) (n := 3821) (by omega) (by omega) ?_
  refine lv_dup hx hb dL_law_11 rfl ?_
  refine lw_c2 (wo := wX) (va_runI (As := []) (rest := [.ref q8]) ⟨hx, hb, hml, hown, hts⟩ (c_X7_init l D cI cC cZ cN q8 H.size M0 E0 mi0 hM0 hmi0 hE0 S0 T0 e9 e10 e11 e12 e13 e14 e15 e16 e17 e18 e20 e22 et) (cwI 0 hts gL_law_X7_init rfl rfl rfl (lt_n7 htsT) (hts (.methodLink RL 12 yX7_init) (List.mem_of_getElem? (i := 117) rfl)) (hts (.instanceMethod yX7_init) (List.mem_of_getElem? (i := 118) rfl)) rfl (by decide +kernel) ⟨Nat.le_of_ble_eq_true rfl, Nat.le_of_ble_eq_true rfl⟩) (ly_psC hK hN hO hPM rfl) rfl rfl hl.1 rfl (lv_room (Nat.le_of_ble_eq_true rfl)) dL_law_12 ⟨Nat.le_of_ble_eq_true rfl, Nat.le_of_ble_eq_true rfl⟩) hPX hDM hdis hS hA ?_
  rintro wM H locs ⟨oA, rfl, hwM⟩ hPM hPX hDM hdis hS
  refine W.widen (k := 94) (n := 8033) (by omega) (by omega) ?_
  refine W.eq (g2 := F0 m 15 ls [.ref (oA 0)]) rfl ?_
  refine lv_astore_n (lv' := [(2, .ref (oA 0)), (1, .ref (t 0)), (0, .ref b)]) hx hb dL_law_15 rfl hl (by decide) rfl (fun ls hl => ?_)
  refine lv_iconst (v := 0) hx hb dL_law_16 (by decide) ?_
  refine lv_istore_n (lv' := [(3, .int 0), (2, .ref (oA 0)), (1, .ref (t 0)), (0, .ref b)]) hx hb dL_law_17 rfl hl (by decide) rfl (fun ls hl => ?_)
  have hXI : XInv cI cC cZ cN (t 0) (oA 0) wX wM := ⟨t, a, a2, b1, ba, ia, 0, 0, 0, 0, 0, 0, .null, .null, .null, (fun _ => 0), (fun _ => 0), (fun j => [0, 0, 256, 0, 0, 0].getD j 0), g_0, g_0, (fun _ => 0), (fun _ => 1), (fun _ => 0), (fun _ _ => 0), (fun _ _ => 1), (fun _ _ => 0), (fun _ => 0), (fun _ => 0), (fun _ _ => 0), (fun _ _ => 1), (fun _ _ => 0), (fun _ => nI 0), (fun _ => nI 0), (fun _ => nI 0), oA, m_pG M0 S0, (va_up (va_up (va_up (va_up (va_up mi0 3 0) 19 T0) 24 0) 28 0) 31 0), 0, 0, rfl, rfl, hwX, hwM, hREL⟩
  exact law_loop hC 67 0 (by omega) (by omega) H locs ⟨wX, wM, hXI, hPX, hPM, hDX, hDM, hdis, hS⟩ ls (lv_sub hl [3, 2, 1, 0] rfl)
