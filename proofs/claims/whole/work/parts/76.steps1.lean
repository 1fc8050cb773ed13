/-! calls that both only read -/
theorem lyh_m {x : Nat} (hx : x ≤ 6) : ly_h x = if nI x = 0 then -9 else nI x - 1 := by
  unfold ly_h
  by_cases c : x = 0
  · rw [if_pos c, if_pos ((nI_z0 (by omega)).mpr c)]
  · rw [if_neg c, if_neg (fun z => c ((nI_z0 (by omega)).mp z)), nI_m1 (by omega)]
theorem jin_sub {y : Int32} {b c : Nat} (hbc : b ≤ c) (hc : c < 2 ^ 31) (h : jin y 0 (nI c) = 0) : jin y 0 (nI b) = 0 := by
  by_cases z : jin y 0 (nI b) = 0
  · exact z
  · obtain ⟨k, h1, rfl⟩ := jin_of (by omega) z
    exact absurd h (jin_yes (by omega) hc)
theorem stp_rq {l : Launch} {D : va_G} {tys : List (ClassId × FieldType)} {ts : Nat → Nat} {yX yM : MethodName} {cX cM : List Cond} {As : List Value} {x0 m0 : Nat} {wX wM : va_W} {INV : va_W → va_W → Prop} {rx rm : Value} {h1 h2 : Nat} {wc wm : va_W} (hX : Met l yX cX (ly_rm h1) (ly_Pre D tys wc (.ref x0 :: As)) (ly_Q D wc (fun r w => r = some rx ∧ w = wc)) 0 0 (ly_in wc)) (hM : Met l yM cM (ly_rm h2) (ly_Pre D tys wm (.ref m0 :: As)) (ly_Q D wm (fun r w => r = some rm ∧ w = wm)) 0 0 (ly_in wm)) (l1 : h1 ≤ 40) (l2 : h2 ≤ 40) (hDX : va_D (fun _ => True) wX) (hDM : va_D (fun _ => True) wM) (isC isM : List Nat) (hC : isC.map (fun i => wX[i]?) = wc.map some) (hCM : isM.map (fun i => wM[i]?) = wm.map some) (hv : rx = rm) (hI : INV wX wM) (hi : ∃ x : Int64, rx = .long x := by exact ⟨_, rfl⟩) : stpL l D tys ts yX cX yM cM As x0 m0 wX wM INV := by
  subst hv
  exact ⟨rx, _, _, hi, ly_rdQ hX l1 (xp isC hC) hDX isC hC, ly_rdQ hM l2 (mp isM hCM) hDM isM hCM, fun w w2 e1 e2 => ⟨wX, by rw [e1]; exact lsub.rf, by rw [e2]; exact hI⟩⟩
set_option maxRecDepth 20000 in
theorem stp_knee {l : Launch} {D : va_G} {cI cC cZ cN : ClassId} {ts : Nat → Nat} {x0 m0 : Nat} {wX wM : va_W} (hI : XInv cI cC cZ cN x0 m0 wX wM) (hDX : va_D (fun _ => True) wX) (hDM : va_D (fun _ => True) wM) (x y : Int32) : stp l D (ly_tys cI cC cZ cN) ts yX6_knee wsX6_knee yX7_knee wsX7_knee [.int x, .int y] x0 m0 wX wM (XInv cI cC cZ cN x0 m0) := by
  obtain ⟨t, a, a2, b, ba, ia, lt, nx, kn, s0, tr, an, xv, iv, pv, tx, nm, rr, g, g2, d, ho, le, sd, sh, sl, hv, kp, jd, jh, jl, wf, lf, rf, oA, M, mi, fa, mt, rfl, rfl, rfl, rfl, R⟩ := id hI
  obtain ⟨R1, R2, R3, R4, ⟨G, G2⟩, P, N, T, B, ⟨K1, U⟩, I, H, W1, W2⟩ := id R
  have hn : g 0 0 ≤ 9 := G.1.1
  have hm : g 0 1 ≤ 6 := G.1.2
  have hn9 : M 9 0 ≤ 9 := by rw [P.1]; exact hn
  have hm9 : M 9 1 ≤ 6 := by rw [P.2.1]; exact hm
  by_cases hx : jin x 0 (nI (g 0 0) - 1) = 0
  · exact stp_rd (c_X6_knee_b l D cI cC cZ cN t a2 lt tr a g b d ho le x y hx) (c_X7_knee_b l D cI cC cZ cN oA M mi fa mt x y (Or.inl (by rw [P.1]; exact hx)) (hDM.sub [0, 2, 3, 4, 12] (by decide) rfl)) (by decide) (by decide) hDX hDM [0, 1, 2, 3, 4, 5, 6, 7, 8, 9, 10, 11, 12, 13] [0, 2, 3, 4, 12] rfl rfl rfl hI
  · obtain ⟨k, hk, rfl⟩ := jin_ix_of hn hx
    have hk9 : k < M 9 0 := by rw [P.1]; exact hk
    by_cases hy : jin y 0 4 = 0
    · exact stp_rd (c_X6_knee_w l D cI cC cZ cN t a2 lt tr a g b d ho le k y hk hn (by have h9 := jin_out (b := 4) (by decide) hy; omega)) (c_X7_knee_b l D cI cC cZ cN oA M mi fa mt (nI k) y (Or.inr hy) (hDM.sub [0, 2, 3, 4, 12] (by decide) rfl)) (by decide) (by decide) hDX hDM [0, 1, 2, 3, 4, 5, 6, 7, 8, 9, 10, 11, 12, 13] [0, 2, 3, 4, 12] rfl rfl rfl hI
    · obtain ⟨j, hj, rfl⟩ := jin_of (b := 4) (by decide) hy
      rcases (show j = 0 ∨ j = 1 ∨ j = 2 ∨ j = 3 ∨ j = 4 by omega) with rfl | rfl | rfl | rfl | rfl
      · exact stp_rd (c_X6_knee_0 l D cI cC cZ cN t a2 lt tr a g b d ho le k hk hn) (c_X7_knee_0 l D cI cC cZ cN oA M mi fa mt k hk9 hn9 (hDM.sub [0, 2, 3, 4, 12] (by decide) rfl)) (by decide) (by decide) hDX hDM [0, 1, 2, 3, 4, 5, 6, 7, 8, 9, 10, 11, 12, 13] [0, 2, 3, 4, 12] rfl rfl (by rw [(P.2.2.1 k hk).1]) hI
      · exact stp_rd (c_X6_knee_1 l D cI cC cZ cN t a2 lt tr a g b d ho le k hk hn) (c_X7_knee_1 l D cI cC cZ cN oA M mi fa mt k hk9 hn9 (hDM.sub [0, 2, 3, 4, 12] (by decide) rfl)) (by decide) (by decide) hDX hDM [0, 1, 2, 3, 4, 5, 6, 7, 8, 9, 10, 11, 12, 13] [0, 2, 3, 4, 12] rfl rfl (by rw [(P.2.2.1 k hk).2.1]) hI
      · exact stp_rd (c_X6_knee_2 l D cI cC cZ cN t a2 lt tr a g b d ho le k hk hn) (c_X7_knee_2 l D cI cC cZ cN oA M mi fa mt k hk9 hn9 (hDM.sub [0, 2, 3, 4, 12] (by decide) rfl)) (by decide) (by decide) hDX hDM [0, 1, 2, 3, 4, 5, 6, 7, 8, 9, 10, 11, 12, 13] [0, 2, 3, 4, 12] rfl rfl (by rw [N.2.2.2.2.2.2.2.1 k hk]) hI
      · exact stp_rd (c_X6_knee_3 l D cI cC cZ cN t a2 lt tr a g b d ho le k hk hn) (c_X7_knee_3 l D cI cC cZ cN oA M mi fa mt k hk9 hn9 (hDM.sub [0, 2, 3, 4, 12] (by decide) rfl)) (by decide) (by decide) hDX hDM [0, 1, 2, 3, 4, 5, 6, 7, 8, 9, 10, 11, 12, 13] [0, 2, 3, 4, 12] rfl rfl (by rw [← (N.2.2.2.2.2.1 k (by omega)).1]; exact lyh_m (by have := (N.2.2.2.2.2.1 k (by omega)).2; omega)) hI
      · exact stp_rd (c_X6_knee_4 l D cI cC cZ cN t a2 lt tr a g b d ho le k hk hn) (c_X7_knee_4 l D cI cC cZ cN oA M mi fa mt k hk9 hn9 (hDM.sub [0, 2, 3, 4, 12] (by decide) rfl)) (by decide) (by decide) hDX hDM [0, 1, 2, 3, 4, 5, 6, 7, 8, 9, 10, 11, 12, 13] [0, 2, 3, 4, 12] rfl rfl (by rw [N.2.2.2.2.1.1]) hI
set_option maxRecDepth 20000 in
theorem stp_person {l : Launch} {D : va_G} {cI cC cZ cN : ClassId} {ts : Nat → Nat} {x0 m0 : Nat} {wX wM : va_W} (hI : XInv cI cC cZ cN x0 m0 wX wM) (hDX : va_D (fun _ => True) wX) (hDM : va_D (fun _ => True) wM) (x y : Int32) : stp l D (ly_tys cI cC cZ cN) ts yX6_person wsX6_person yX7_person wsX7_person [.int x, .int y] x0 m0 wX wM (XInv cI cC cZ cN x0 m0) := by
  obtain ⟨t, a, a2, b, ba, ia, lt, nx, kn, s0, tr, an, xv, iv, pv, tx, nm, rr, g, g2, d, ho, le, sd, sh, sl, hv, kp, jd, jh, jl, wf, lf, rf, oA, M, mi, fa, mt, rfl, rfl, rfl, rfl, R⟩ := id hI
  obtain ⟨R1, R2, R3, R4, ⟨G, G2⟩, P, N, T, B, ⟨K1, U⟩, I, H, W1, W2⟩ := id R
  have hn : g 0 0 ≤ 9 := G.1.1
  have hm : g 0 1 ≤ 6 := G.1.2
  have hn9 : M 9 0 ≤ 9 := by rw [P.1]; exact hn
  have hm9 : M 9 1 ≤ 6 := by rw [P.2.1]; exact hm
  by_cases hx : jin x 0 (nI (g 0 1) - 1) = 0
  · exact stp_rd (c_X6_person_b l D cI cC cZ cN t a2 lt tr a g b d ho le x y hx) (c_X7_person_b l D cI cC cZ cN oA M mi fa mt x y (Or.inl (by rw [P.2.1]; exact hx)) (hDM.sub [0, 2, 6, 7, 8, 12, 3] (by decide) rfl)) (by decide) (by decide) hDX hDM [0, 1, 2, 3, 4, 5, 6, 7, 8, 9, 10, 11, 12, 13] [0, 2, 6, 7, 8, 12, 3] rfl rfl rfl hI
  · obtain ⟨q, hq, rfl⟩ := jin_ix_of (show g 0 1 ≤ 9 by omega) hx
    have hq9 : q < M 9 1 := by rw [P.2.1]; exact hq
    by_cases hy : jin y 0 5 = 0
    · exact stp_rd (c_X6_person_w l D cI cC cZ cN t a2 lt tr a g b d ho le q y hq hm (by have h9 := jin_out (b := 5) (by decide) hy; omega)) (c_X7_person_b l D cI cC cZ cN oA M mi fa mt (nI q) y (Or.inr hy) (hDM.sub [0, 2, 6, 7, 8, 12, 3] (by decide) rfl)) (by decide) (by decide) hDX hDM [0, 1, 2, 3, 4, 5, 6, 7, 8, 9, 10, 11, 12, 13] [0, 2, 6, 7, 8, 12, 3] rfl rfl rfl hI
    · obtain ⟨j, hj, rfl⟩ := jin_of (b := 5) (by decide) hy
      rcases (show j = 0 ∨ j = 1 ∨ j = 2 ∨ j = 3 ∨ j = 4 ∨ j = 5 by omega) with rfl | rfl | rfl | rfl | rfl | rfl
      · exact stp_rd (c_X6_person_0 l D cI cC cZ cN t a2 lt tr a g b d ho le q hq hm hn) (c_X7_person_0 l D cI cC cZ cN oA M mi fa mt q hq9 hm9 hn9 (hDM.sub [0, 2, 6, 7, 8, 12, 3] (by decide) rfl)) (by decide) (by decide) hDX hDM [0, 1, 2, 3, 4, 5, 6, 7, 8, 9, 10, 11, 12, 13] [0, 2, 6, 7, 8, 12, 3] rfl rfl (by rw [(P.2.2.2.1 q hq).1]) hI
      · exact stp_rd (c_X6_person_1 l D cI cC cZ cN t a2 lt tr a g b d ho le q hq hm hn) (c_X7_person_1 l D cI cC cZ cN oA M mi fa mt q hq9 hm9 hn9 (hDM.sub [0, 2, 6, 7, 8, 12, 3] (by decide) rfl)) (by decide) (by decide) hDX hDM [0, 1, 2, 3, 4, 5, 6, 7, 8, 9, 10, 11, 12, 13] [0, 2, 6, 7, 8, 12, 3] rfl rfl (by rw [(P.2.2.2.1 q hq).2.1]) hI
      · exact stp_rd (c_X6_person_2 l D cI cC cZ cN t a2 lt tr a g b d ho le q hq hm hn) (c_X7_person_2 l D cI cC cZ cN oA M mi fa mt q hq9 hm9 hn9 (hDM.sub [0, 2, 6, 7, 8, 12, 3] (by decide) rfl)) (by decide) (by decide) hDX hDM [0, 1, 2, 3, 4, 5, 6, 7, 8, 9, 10, 11, 12, 13] [0, 2, 6, 7, 8, 12, 3] rfl rfl (by rw [(P.2.2.2.1 q hq).2.2]) hI
      · exact stp_rd (c_X6_person_3 l D cI cC cZ cN t a2 lt tr a g b d ho le q hq hm hn) (c_X7_person_3 l D cI cC cZ cN oA M mi fa mt q hq9 hm9 hn9 (hDM.sub [0, 2, 6, 7, 8, 12, 3] (by decide) rfl)) (by decide) (by decide) hDX hDM [0, 1, 2, 3, 4, 5, 6, 7, 8, 9, 10, 11, 12, 13] [0, 2, 6, 7, 8, 12, 3] rfl rfl (held_on G P N hq (by decide)) hI
      · exact stp_rd (c_X6_person_4 l D cI cC cZ cN t a2 lt tr a g b d ho le q hq hm hn) (c_X7_person_4 l D cI cC cZ cN oA M mi fa mt q hq9 hm9 hn9 (hDM.sub [0, 2, 6, 7, 8, 12, 3] (by decide) rfl)) (by decide) (by decide) hDX hDM [0, 1, 2, 3, 4, 5, 6, 7, 8, 9, 10, 11, 12, 13] [0, 2, 6, 7, 8, 12, 3] rfl rfl (held_on G P N hq (by decide)) hI
      · exact stp_rd (c_X6_person_5 l D cI cC cZ cN t a2 lt tr a g b d ho le q hq hm hn) (c_X7_person_5 l D cI cC cZ cN oA M mi fa mt q hq9 hm9 hn9 (hDM.sub [0, 2, 6, 7, 8, 12, 3] (by decide) rfl)) (by decide) (by decide) hDX hDM [0, 1, 2, 3, 4, 5, 6, 7, 8, 9, 10, 11, 12, 13] [0, 2, 6, 7, 8, 12, 3] rfl rfl (by unfold s_ready1; rw [ready_eq G P N hq]) hI
set_option maxRecDepth 20000 in
theorem stp_farm {l : Launch} {D : va_G} {cI cC cZ cN : ClassId} {ts : Nat → Nat} {x0 m0 : Nat} {wX wM : va_W} (hI : XInv cI cC cZ cN x0 m0 wX wM) (hDX : va_D (fun _ => True) wX) (hDM : va_D (fun _ => True) wM) (x y : Int32) : stp l D (ly_tys cI cC cZ cN) ts yX6_farm wsX6_farm yX7_farm wsX7_farm [.int x, .int y] x0 m0 wX wM (XInv cI cC cZ cN x0 m0) := by
  obtain ⟨t, a, a2, b, ba, ia, lt, nx, kn, s0, tr, an, xv, iv, pv, tx, nm, rr, g, g2, d, ho, le, sd, sh, sl, hv, kp, jd, jh, jl, wf, lf, rf, oA, M, mi, fa, mt, rfl, rfl, rfl, rfl, R⟩ := id hI
  obtain ⟨R1, R2, R3, R4, ⟨G, G2⟩, P, N, T, B, ⟨K1, U⟩, I, H, W1, W2⟩ := id R
  have hn : g 0 0 ≤ 9 := G.1.1
  have hm : g 0 1 ≤ 6 := G.1.2
  have hn9 : M 9 0 ≤ 9 := by rw [P.1]; exact hn
  have hm9 : M 9 1 ≤ 6 := by rw [P.2.1]; exact hm
  by_cases hx : jin x 0 4 = 0
  · exact stp_rd (c_X6_farm_b l D cI cC cZ cN t a2 b lt tr a g x y hx) (c_X7_farm_b l D cI cC cZ cN oA M mi fa mt x y (Or.inl hx) (hDM.sub [0, 2, 4, 9, 10, 11] (by decide) rfl)) (by decide) (by decide) hDX hDM [0, 1, 2, 3, 4, 5, 6, 7, 8, 9, 10] [0, 2, 4, 9, 10, 11] rfl rfl rfl hI
  · obtain ⟨f, hf4, rfl⟩ := jin_of (b := 4) (by decide) hx
    have hf : f < 5 := by omega
    by_cases hy : jin y 0 3 = 0
    · exact stp_rd (c_X6_farm_w l D cI cC cZ cN t a2 b lt tr a g f y hf (by have h9 := jin_out (b := 3) (by decide) hy; omega)) (c_X7_farm_b l D cI cC cZ cN oA M mi fa mt (nI f) y (Or.inr hy) (hDM.sub [0, 2, 4, 9, 10, 11] (by decide) rfl)) (by decide) (by decide) hDX hDM [0, 1, 2, 3, 4, 5, 6, 7, 8, 9, 10] [0, 2, 4, 9, 10, 11] rfl rfl rfl hI
    · obtain ⟨j, hj, rfl⟩ := jin_of (b := 3) (by decide) hy
      rcases (show j = 0 ∨ j = 1 ∨ j = 2 ∨ j = 3 by omega) with rfl | rfl | rfl | rfl
      · exact stp_rd (c_X6_farm_0 l D cI cC cZ cN t a2 b lt tr a g f hf hn) (c_X7_farm_0 l D cI cC cZ cN oA M mi fa mt f hf hn9 (hDM.sub [0, 2, 4, 9, 10, 11] (by decide) rfl)) (by decide) (by decide) hDX hDM [0, 1, 2, 3, 4, 5, 6, 7, 8, 9, 10] [0, 2, 4, 9, 10, 11] rfl rfl (by rw [(P.2.2.2.2 f hf).2]) hI
      · exact stp_rd (c_X6_farm_1 l D cI cC cZ cN t a2 b lt tr a g f hf hn) (c_X7_farm_1 l D cI cC cZ cN oA M mi fa mt f hf hn9 (hDM.sub [0, 2, 4, 9, 10, 11] (by decide) rfl)) (by decide) (by decide) hDX hDM [0, 1, 2, 3, 4, 5, 6, 7, 8, 9, 10] [0, 2, 4, 9, 10, 11] rfl rfl (by rw [(P.2.2.2.2 f hf).1]) hI
      · exact stp_rd (c_X6_farm_2 l D cI cC cZ cN t a2 b lt tr a g f hf hn) (c_X7_farm_2 l D cI cC cZ cN oA M mi fa mt f hf hn9 (hDM.sub [0, 2, 4, 9, 10, 11] (by decide) rfl)) (by decide) (by decide) hDX hDM [0, 1, 2, 3, 4, 5, 6, 7, 8, 9, 10] [0, 2, 4, 9, 10, 11] rfl rfl (by rw [P.1]; exact kneesOf_eq P f _ (Nat.le_refl _)) hI
      · exact stp_rd (c_X6_farm_3 l D cI cC cZ cN t a2 b lt tr a g f hf hn) (c_X7_farm_3 l D cI cC cZ cN oA M mi fa mt f hf hn9 (hDM.sub [0, 2, 4, 9, 10, 11] (by decide) rfl)) (by decide) (by decide) hDX hDM [0, 1, 2, 3, 4, 5, 6, 7, 8, 9, 10] [0, 2, 4, 9, 10, 11] rfl rfl (by rw [T.2 f hf]; split <;> rfl) hI
set_option maxRecDepth 20000 in
theorem stp_now {l : Launch} {D : va_G} {cI cC cZ cN : ClassId} {ts : Nat → Nat} {x0 m0 : Nat} {wX wM : va_W} (hI : XInv cI cC cZ cN x0 m0 wX wM) (hDX : va_D (fun _ => True) wX) (hDM : va_D (fun _ => True) wM) (y : Int32) : stp l D (ly_tys cI cC cZ cN) ts yX6_now wsX6_now yX7_now wsX7_now [.int y] x0 m0 wX wM (XInv cI cC cZ cN x0 m0) := by
  obtain ⟨t, a, a2, b, ba, ia, lt, nx, kn, s0, tr, an, xv, iv, pv, tx, nm, rr, g, g2, d, ho, le, sd, sh, sl, hv, kp, jd, jh, jl, wf, lf, rf, oA, M, mi, fa, mt, rfl, rfl, rfl, rfl, R⟩ := id hI
  obtain ⟨R1, R2, R3, R4, ⟨G, G2⟩, P, N, T, B, ⟨K1, U⟩, I, H, W1, W2⟩ := id R
  have hn : g 0 0 ≤ 9 := G.1.1
  have hm : g 0 1 ≤ 6 := G.1.2
  have hn9 : M 9 0 ≤ 9 := by rw [P.1]; exact hn
  have hm9 : M 9 1 ≤ 6 := by rw [P.2.1]; exact hm
  by_cases hy : jin y 0 7 = 0
  · exact stp_rd (c_X6_now_b l D cI cC cZ cN t a2 lt tr a g b d ho le y (by have h9 := jin_out (b := 7) (by decide) hy; omega)) (c_X7_now_b l D cI cC cZ cN oA M mi fa mt y hy (hDM.sub [0, 2, 12] (by decide) rfl)) (by decide) (by decide) hDX hDM [0, 1, 2, 3, 4, 5, 6, 7, 8, 9, 10, 11, 12, 13] [0, 2, 12] rfl rfl rfl hI
  · obtain ⟨j, hj, rfl⟩ := jin_of (b := 7) (by decide) hy
    rcases (show j = 0 ∨ j = 1 ∨ j = 2 ∨ j = 3 ∨ j = 4 ∨ j = 5 ∨ j = 6 ∨ j = 7 by omega) with rfl | rfl | rfl | rfl | rfl | rfl | rfl | rfl
    · exact stp_rd (c_X6_now_0 l D cI cC cZ cN t a2 lt tr a g b d ho le hn) (c_X7_now_0 l D cI cC cZ cN oA M mi fa mt hn9 (hDM.sub [0, 2, 12] (by decide) rfl)) (by decide) (by decide) hDX hDM [0, 1, 2, 3, 4, 5, 6, 7, 8, 9, 10, 11, 12, 13] [0, 2, 12] rfl rfl (by rw [N.1.1]) hI
    · exact stp_rd (c_X6_now_1 l D cI cC cZ cN t a2 lt tr a g b d ho le hn) (c_X7_now_1 l D cI cC cZ cN oA M mi fa mt hn9 (hDM.sub [0, 2, 12] (by decide) rfl)) (by decide) (by decide) hDX hDM [0, 1, 2, 3, 4, 5, 6, 7, 8, 9, 10, 11, 12, 13] [0, 2, 12] rfl rfl (by rw [P.1]; exact home_eq N hm (g 0 0) (Nat.le_refl _)) hI
    · exact stp_rd (c_X6_now_2 l D cI cC cZ cN t a2 lt tr a g b d ho le hn) (c_X7_now_2 l D cI cC cZ cN oA M mi fa mt hn9 (hDM.sub [0, 2, 12] (by decide) rfl)) (by decide) (by decide) hDX hDM [0, 1, 2, 3, 4, 5, 6, 7, 8, 9, 10, 11, 12, 13] [0, 2, 12] rfl rfl (by rw [N.2.1.1]) hI
    · exact stp_rd (c_X6_now_3 l D cI cC cZ cN t a2 lt tr a g b d ho le hn) (c_X7_now_3 l D cI cC cZ cN oA M mi fa mt hn9 (hDM.sub [0, 2, 12] (by decide) rfl)) (by decide) (by decide) hDX hDM [0, 1, 2, 3, 4, 5, 6, 7, 8, 9, 10, 11, 12, 13] [0, 2, 12] rfl rfl (by rw [N.2.2.1.1]) hI
    · exact stp_rd (c_X6_now_4 l D cI cC cZ cN t a2 lt tr a g b d ho le hn) (c_X7_now_4 l D cI cC cZ cN oA M mi fa mt hn9 (hDM.sub [0, 2, 12] (by decide) rfl)) (by decide) (by decide) hDX hDM [0, 1, 2, 3, 4, 5, 6, 7, 8, 9, 10, 11, 12, 13] [0, 2, 12] rfl rfl (by rw [N.2.2.2.1.1]) hI
    · exact stp_rd (c_X6_now_5 l D cI cC cZ cN t a2 lt tr a g b d ho le hn) (c_X7_now_5 l D cI cC cZ cN oA M mi fa mt hn9 (hDM.sub [0, 2, 12] (by decide) rfl)) (by decide) (by decide) hDX hDM [0, 1, 2, 3, 4, 5, 6, 7, 8, 9, 10, 11, 12, 13] [0, 2, 12] rfl rfl (by rw [P.1, rest_eq N hm hn (g 0 0) (Nat.le_refl _)]) hI
    · exact stp_rd (c_X6_now_6 l D cI cC cZ cN t a2 lt tr a g b d ho le hn) (c_X7_now_6 l D cI cC cZ cN oA M mi fa mt hn9 (hDM.sub [0, 2, 12] (by decide) rfl)) (by decide) (by decide) hDX hDM [0, 1, 2, 3, 4, 5, 6, 7, 8, 9, 10, 11, 12, 13] [0, 2, 12] rfl rfl (by rw [T.1]) hI
    · exact stp_rd (c_X6_now_7 l D cI cC cZ cN t a2 a b lt tr nx kn) (c_X7_now_7 l D cI cC cZ cN oA M mi fa mt hn9 (hDM.sub [0, 2, 12] (by decide) rfl)) (by decide) (by decide) hDX hDM [0, 14] [0, 2, 12] rfl rfl (by rw [K1]) hI
set_option maxRecDepth 20000 in
theorem stp_canGo {l : Launch} {D : va_G} {cI cC cZ cN : ClassId} {ts : Nat → Nat} {x0 m0 : Nat} {wX wM : va_W} (hI : XInv cI cC cZ cN x0 m0 wX wM) (hDX : va_D (fun _ => True) wX) (hDM : va_D (fun _ => True) wM) (x y : Int32) : stp l D (ly_tys cI cC cZ cN) ts yX6_canGo wsX6_canGo yX7_canGo wsX7_canGo [.int x, .int y] x0 m0 wX wM (XInv cI cC cZ cN x0 m0) := by
  obtain ⟨t, a, a2, b, ba, ia, lt, nx, kn, s0, tr, an, xv, iv, pv, tx, nm, rr, g, g2, d, ho, le, sd, sh, sl, hv, kp, jd, jh, jl, wf, lf, rf, oA, M, mi, fa, mt, rfl, rfl, rfl, rfl, R⟩ := id hI
  obtain ⟨R1, R2, R3, R4, ⟨G, G2⟩, P, N, T, B, ⟨K1, U⟩, I, H, W1, W2⟩ := id R
  have hn : g 0 0 ≤ 9 := G.1.1
  have hm : g 0 1 ≤ 6 := G.1.2
  have hn9 : M 9 0 ≤ 9 := by rw [P.1]; exact hn
  have hm9 : M 9 1 ≤ 6 := by rw [P.2.1]; exact hm
  by_cases hx : jin x 0 (nI (g 0 0) - 1) = 0
  · exact stp_rd (c_X6_canGo_b1 l D cI cC cZ cN t a2 lt tr a g b d ho le x y hx) (c_X7_canGo_b l D cI cC cZ cN oA M mi fa mt x y (Or.inl (by rw [P.1]; exact hx)) (hDM.sub [0, 2, 3, 6, 12, 7, 8] (by decide) rfl)) (by decide) (by decide) hDX hDM [0, 1, 2, 3, 4, 5, 6, 7, 8, 9, 10, 11, 12, 13] [0, 2, 3, 6, 12, 7, 8] rfl rfl rfl hI
  · obtain ⟨k, hk, rfl⟩ := jin_ix_of hn hx
    have hk9 : k < M 9 0 := by rw [P.1]; exact hk
    by_cases hy : jin y 0 (nI (g 0 1) - 1) = 0
    · exact stp_rd (c_X6_canGo_b2 l D cI cC cZ cN t a2 lt tr a g b d ho le k y hk hn hy) (c_X7_canGo_b l D cI cC cZ cN oA M mi fa mt (nI k) y (Or.inr (by rw [P.2.1]; exact hy)) (hDM.sub [0, 2, 3, 6, 12, 7, 8] (by decide) rfl)) (by decide) (by decide) hDX hDM [0, 1, 2, 3, 4, 5, 6, 7, 8, 9, 10, 11, 12, 13] [0, 2, 3, 6, 12, 7, 8] rfl rfl rfl hI
    · obtain ⟨q, hq, rfl⟩ := jin_ix_of (show g 0 1 ≤ 9 by omega) hy
      have hq9 : q < M 9 1 := by rw [P.2.1]; exact hq
      exact stp_rd (c_X6_canGo_g l D cI cC cZ cN t a2 lt tr a g b d ho le k q hk hq hm hn) (c_X7_canGo_g l D cI cC cZ cN oA M mi fa mt k q hk9 hn9 hq9 hm9 (hDM.sub [0, 2, 3, 6, 12, 7, 8] (by decide) rfl)) (by decide) (by decide) hDX hDM [0, 1, 2, 3, 4, 5, 6, 7, 8, 9, 10, 11, 12, 13] [0, 2, 3, 6, 12, 7, 8] rfl rfl (by unfold s_canGo; rw [offers_eq G P N hk hq]) hI
set_option maxRecDepth 20000 in
theorem stp_span {l : Launch} {D : va_G} {cI cC cZ cN : ClassId} {ts : Nat → Nat} {x0 m0 : Nat} {wX wM : va_W} (hI : XInv cI cC cZ cN x0 m0 wX wM) (hDX : va_D (fun _ => True) wX) (hDM : va_D (fun _ => True) wM) (x y : Int32) : stp l D (ly_tys cI cC cZ cN) ts yX6_span wsX6_span yX7_span wsX7_span [.int x, .int y] x0 m0 wX wM (XInv cI cC cZ cN x0 m0) := by
  obtain ⟨t, a, a2, b, ba, ia, lt, nx, kn, s0, tr, an, xv, iv, pv, tx, nm, rr, g, g2, d, ho, le, sd, sh, sl, hv, kp, jd, jh, jl, wf, lf, rf, oA, M, mi, fa, mt, rfl, rfl, rfl, rfl, R⟩ := id hI
  obtain ⟨R1, R2, R3, R4, ⟨G, G2⟩, P, N, T, B, ⟨K1, U⟩, I, H, W1, W2⟩ := id R
  have hn : g 0 0 ≤ 9 := G.1.1
  have hm : g 0 1 ≤ 6 := G.1.2
  have hn9 : M 9 0 ≤ 9 := by rw [P.1]; exact hn
  have hm9 : M 9 1 ≤ 6 := by rw [P.2.1]; exact hm
  by_cases hx : jin x 0 (nI (g 0 0) - 1) = 0
  · exact stp_rd (c_X6_span_b1 l D cI cC cZ cN t a2 lt tr a g b d ho le x y hx) (c_X7_span_b l D cI cC cZ cN oA M mi fa mt x y (Or.inl (by rw [P.1]; exact hx)) (hDM.sub [0, 2, 3, 6, 12, 7, 8] (by decide) rfl)) (by decide) (by decide) hDX hDM [0, 1, 2, 3, 4, 5, 6, 7, 8, 9, 10, 11, 12, 13] [0, 2, 3, 6, 12, 7, 8] rfl rfl rfl hI
  · obtain ⟨k, hk, rfl⟩ := jin_ix_of hn hx
    have hk9 : k < M 9 0 := by rw [P.1]; exact hk
    by_cases hy : jin y 0 (nI (g 0 1) - 1) = 0
    · exact stp_rd (c_X6_span_b2 l D cI cC cZ cN t a2 lt tr a g b d ho le k y hk hn hy) (c_X7_span_b l D cI cC cZ cN oA M mi fa mt (nI k) y (Or.inr (by rw [P.2.1]; exact hy)) (hDM.sub [0, 2, 3, 6, 12, 7, 8] (by decide) rfl)) (by decide) (by decide) hDX hDM [0, 1, 2, 3, 4, 5, 6, 7, 8, 9, 10, 11, 12, 13] [0, 2, 3, 6, 12, 7, 8] rfl rfl rfl hI
    · obtain ⟨q, hq, rfl⟩ := jin_ix_of (show g 0 1 ≤ 9 by omega) hy
      have hq9 : q < M 9 1 := by rw [P.2.1]; exact hq
      exact stp_rd (c_X6_span_g l D cI cC cZ cN t a2 lt tr a g b d ho le k q hk hq hm hn) (c_X7_span_g l D cI cC cZ cN oA M mi fa mt k q hk9 hn9 hq9 hm9 (hDM.sub [0, 2, 3, 6, 12, 7, 8] (by decide) rfl)) (by decide) (by decide) hDX hDM [0, 1, 2, 3, 4, 5, 6, 7, 8, 9, 10, 11, 12, 13] [0, 2, 3, 6, 12, 7, 8] rfl rfl (by unfold s_span; rw [(P.2.2.2.1 q hq).2.1, (P.2.2.2.1 q hq).2.2, N.2.2.2.2.2.2.2.1 k hk]) hI
set_option maxRecDepth 20000 in
theorem stp_gives {l : Launch} {D : va_G} {cI cC cZ cN : ClassId} {ts : Nat → Nat} {x0 m0 : Nat} {wX wM : va_W} (hI : XInv cI cC cZ cN x0 m0 wX wM) (hDX : va_D (fun _ => True) wX) (hDM : va_D (fun _ => True) wM) (x1 x2 x3 x4 x5 x6 : Int32) : stp l D (ly_tys cI cC cZ cN) ts yX6_gives wsX6_gives yX7_gives wsX7_gives [.int x1, .int x2, .int x3, .int x4, .int x5, .int x6] x0 m0 wX wM (XInv cI cC cZ cN x0 m0) := by
  obtain ⟨t, a, a2, b, ba, ia, lt, nx, kn, s0, tr, an, xv, iv, pv, tx, nm, rr, g, g2, d, ho, le, sd, sh, sl, hv, kp, jd, jh, jl, wf, lf, rf, oA, M, mi, fa, mt, rfl, rfl, rfl, rfl, R⟩ := id hI
  obtain ⟨R1, R2, R3, R4, ⟨G, G2⟩, P, N, T, B, ⟨K1, U⟩, I, H, W1, W2⟩ := id R
  have hn : g 0 0 ≤ 9 := G.1.1
  have hm : g 0 1 ≤ 6 := G.1.2
  have hn9 : M 9 0 ≤ 9 := by rw [P.1]; exact hn
  have hm9 : M 9 1 ≤ 6 := by rw [P.2.1]; exact hm
  by_cases hb : jin x1 0 (nI (g 0 0) - 1) = 0 ∨ jin x2 0 6 = 0 ∨ jin x3 0 30 = 0 ∨ jin x4 0 30 = 0 ∨ jin x5 0 10 = 0 ∨ jin x6 0 1 = 0
  · exact stp_rd (c_X6_gives_b l D cI cC cZ cN t a2 lt tr a g b d ho le x1 x2 x3 x4 x5 x6 hb) (c_X7_gives_b l D cI cC cZ cN oA M mi fa mt x1 x2 x3 x4 x5 x6 (by rw [P.1]; exact hb) (hDM.sub [0, 2, 12] (by decide) rfl)) (by decide) (by decide) hDX hDM [0, 1, 2, 3, 4, 5, 6, 7, 8, 9, 10, 11, 12, 13] [0, 2, 12] rfl rfl rfl hI
  · obtain ⟨k, hk, rfl⟩ := jin_ix_of hn (fun z => hb (Or.inl z))
    have hk9 : k < M 9 0 := by rw [P.1]; exact hk
    obtain ⟨e2, h2, rfl⟩ := jin_of (x := x2) (b := 6) (by decide) (fun z => hb (Or.inr (Or.inl z)))
    obtain ⟨e3, h3, rfl⟩ := jin_of (x := x3) (b := 30) (by decide) (fun z => hb (Or.inr (Or.inr (Or.inl z))))
    obtain ⟨e4, h4, rfl⟩ := jin_of (x := x4) (b := 30) (by decide) (fun z => hb (Or.inr (Or.inr (Or.inr (Or.inl z)))))
    obtain ⟨e5, h5, rfl⟩ := jin_of (x := x5) (b := 10) (by decide) (fun z => hb (Or.inr (Or.inr (Or.inr (Or.inr (Or.inl z))))))
    obtain ⟨e6, h6, rfl⟩ := jin_of (x := x6) (b := 1) (by decide) (fun z => hb (Or.inr (Or.inr (Or.inr (Or.inr (Or.inr z))))))
    have hv := gives_eq (M := M) (k := k) (n := e2) (a := e3) (b := e4) (x := e5) (l := le k) (N.2.2.2.2.2.2.2.1 k hk) (N.2.2.2.2.2.2.2.2.1 k) h2 h3 h4 h5
    rcases (show e6 = 0 ∨ e6 = 1 by omega) with rfl | rfl
    · exact stp_rd (c_X6_gives_0 l D cI cC cZ cN t a2 lt tr a g b d ho le k e2 e3 e4 e5 hk hn h2 h3 h4 h5) (c_X7_gives_0 l D cI cC cZ cN oA M mi fa mt k e2 e3 e4 e5 hk9 hn9 h2 h3 h4 h5 (2 ^ e2) rfl (pow6 h2).2 (hDM.sub [0, 2, 12] (by decide) rfl)) (by decide) (by decide) hDX hDM [0, 1, 2, 3, 4, 5, 6, 7, 8, 9, 10, 11, 12, 13] [0, 2, 12] rfl rfl hv.1 hI
    · exact stp_rd (c_X6_gives_1 l D cI cC cZ cN t a2 lt tr a g b d ho le k e2 e3 e4 e5 hk hn h2 h3 h4 h5) (c_X7_gives_1 l D cI cC cZ cN oA M mi fa mt k e2 e3 e4 e5 hk9 hn9 h2 h3 h4 h5 (2 ^ e2) rfl (pow6 h2).2 (hDM.sub [0, 2, 12] (by decide) rfl)) (by decide) (by decide) hDX hDM [0, 1, 2, 3, 4, 5, 6, 7, 8, 9, 10, 11, 12, 13] [0, 2, 12] rfl rfl hv.2 hI
set_option maxRecDepth 20000 in
theorem stp_downhill {l : Launch} {D : va_G} {cI cC cZ cN : ClassId} {ts : Nat → Nat} {x0 m0 : Nat} {wX wM : va_W} (hI : XInv cI cC cZ cN x0 m0 wX wM) (hDX : va_D (fun _ => True) wX) (hDM : va_D (fun _ => True) wM) (y : Int32) : stp l D (ly_tys cI cC cZ cN) ts yX6_downhill wsX6_downhill yX7_downhill wsX7_downhill [.int y] x0 m0 wX wM (XInv cI cC cZ cN x0 m0) := by
  obtain ⟨t, a, a2, b, ba, ia, lt, nx, kn, s0, tr, an, xv, iv, pv, tx, nm, rr, g, g2, d, ho, le, sd, sh, sl, hv, kp, jd, jh, jl, wf, lf, rf, oA, M, mi, fa, mt, rfl, rfl, rfl, rfl, R⟩ := id hI
  obtain ⟨R1, R2, R3, R4, ⟨G, G2⟩, P, N, T, B, ⟨K1, U⟩, I, H, W1, W2⟩ := id R
  have hn : g 0 0 ≤ 9 := G.1.1
  have hm : g 0 1 ≤ 6 := G.1.2
  have hn9 : M 9 0 ≤ 9 := by rw [P.1]; exact hn
  have hm9 : M 9 1 ≤ 6 := by rw [P.2.1]; exact hm
  have h28 : mi 28 ≤ 6 := H.2.1
  by_cases hy : jin y 0 1 = 0
  · exact stp_rd (c_X6_downhill_b l D cI cC cZ cN t a2 a b lt tr hv y (fun z => by rw [z] at hy; exact absurd hy (by decide)) (fun z => by rw [z] at hy; exact absurd hy (by decide))) (c_X7_downhill_b l D cI cC cZ cN oA M mi fa mt y hy (hDM.sub [0, 16, 17, 18] (by decide) rfl)) (by decide) (by decide) hDX hDM [0, 16] [0, 16, 17, 18] rfl rfl rfl hI
  · obtain ⟨j, hj, rfl⟩ := jin_of (b := 1) (by decide) hy
    rcases (show j = 0 ∨ j = 1 by omega) with rfl | rfl
    · exact stp_rd (c_X6_downhill_0 l D cI cC cZ cN t a2 a b lt tr hv) (c_X7_downhill_0 l D cI cC cZ cN oA M mi fa mt h28 (hDM.sub [0, 16, 17, 18] (by decide) rfl)) (by decide) (by decide) hDX hDM [0, 16] [0, 16, 17, 18] rfl rfl H.2.2.2.2.1 hI
    · exact stp_rd (c_X6_downhill_1 l D cI cC cZ cN t a2 a b lt tr hv) (c_X7_downhill_1 l D cI cC cZ cN oA M mi fa mt h28 (hDM.sub [0, 16, 17, 18] (by decide) rfl)) (by decide) (by decide) hDX hDM [0, 16] [0, 16, 17, 18] rfl rfl H.2.2.2.2.2.1 hI
set_option maxRecDepth 20000 in
theorem stp_count {l : Launch} {D : va_G} {cI cC cZ cN : ClassId} {ts : Nat → Nat} {x0 m0 : Nat} {wX wM : va_W} (hI : XInv cI cC cZ cN x0 m0 wX wM) (hDX : va_D (fun _ => True) wX) (hDM : va_D (fun _ => True) wM) (y : Int32) : stp l D (ly_tys cI cC cZ cN) ts yX6_count wsX6_count yX7_count wsX7_count [.int y] x0 m0 wX wM (XInv cI cC cZ cN x0 m0) := by
  obtain ⟨t, a, a2, b, ba, ia, lt, nx, kn, s0, tr, an, xv, iv, pv, tx, nm, rr, g, g2, d, ho, le, sd, sh, sl, hv, kp, jd, jh, jl, wf, lf, rf, oA, M, mi, fa, mt, rfl, rfl, rfl, rfl, R⟩ := id hI
  obtain ⟨R1, R2, R3, R4, ⟨G, G2⟩, P, N, T, B, ⟨K1, U⟩, I, H, W1, W2⟩ := id R
  have hn : g 0 0 ≤ 9 := G.1.1
  have hm : g 0 1 ≤ 6 := G.1.2
  have hn9 : M 9 0 ≤ 9 := by rw [P.1]; exact hn
  have hm9 : M 9 1 ≤ 6 := by rw [P.2.1]; exact hm
  by_cases hy : jin y 0 4 = 0
  · exact stp_rd (c_X6_count_b l D cI cC cZ cN t a2 a b lt tr hv y (by have h9 := jin_out (b := 4) (by decide) hy; omega)) (c_X7_count_b l D cI cC cZ cN oA M mi fa mt y (jin_sub (b := 1) (c := 4) (by decide) (by decide) hy) (fun z => by rw [z] at hy; exact absurd hy (by decide)) (fun z => by rw [z] at hy; exact absurd hy (by decide)) (fun z => by rw [z] at hy; exact absurd hy (by decide)) (hDM.sub [0, 2] (by decide) rfl)) (by decide) (by decide) hDX hDM [0, 16] [0, 2] rfl rfl rfl hI
  · obtain ⟨j, hj, rfl⟩ := jin_of (b := 4) (by decide) hy
    rcases (show j = 0 ∨ j = 1 ∨ j = 2 ∨ j = 3 ∨ j = 4 by omega) with rfl | rfl | rfl | rfl | rfl
    · exact stp_rd (c_X6_count_0 l D cI cC cZ cN t a2 b lt tr a g) (c_X7_count_0 l D cI cC cZ cN oA M mi fa mt (hDM.sub [0, 2] (by decide) rfl)) (by decide) (by decide) hDX hDM [0, 1, 2, 3, 4, 5, 6, 7, 8, 9, 10] [0, 2] rfl rfl (by rw [P.1]) hI
    · exact stp_rd (c_X6_count_1 l D cI cC cZ cN t a2 b lt tr a g) (c_X7_count_1 l D cI cC cZ cN oA M mi fa mt (hDM.sub [0, 2] (by decide) rfl)) (by decide) (by decide) hDX hDM [0, 1, 2, 3, 4, 5, 6, 7, 8, 9, 10] [0, 2] rfl rfl (by rw [P.2.1]) hI
    · exact stp_rd (c_X6_count_2 l D cI cC cZ cN t a2 a b lt tr hv) (c_X7_count_2 l D cI cC cZ cN oA M mi fa mt (hDM.sub [0, 2] (by decide) rfl)) (by decide) (by decide) hDX hDM [0, 16] [0, 2] rfl rfl (by rw [H.1]) hI
    · exact stp_rd (c_X6_count_3 l D cI cC cZ cN t a2 a b lt tr hv) (c_X7_count_3 l D cI cC cZ cN oA M mi fa mt (hDM.sub [0, 2] (by decide) rfl)) (by decide) (by decide) hDX hDM [0, 16] [0, 2] rfl rfl (by rw [H.2.2.1]) hI
    · exact stp_rd (c_X6_count_4 l D cI cC cZ cN t a2 a b lt tr hv) (c_X7_count_4 l D cI cC cZ cN oA M mi fa mt (hDM.sub [0, 2] (by decide) rfl)) (by decide) (by decide) hDX hDM [0, 16] [0, 2] rfl rfl (by rw [R1.1]) hI
set_option maxRecDepth 20000 in
theorem stp_rain {l : Launch} {D : va_G} {cI cC cZ cN : ClassId} {ts : Nat → Nat} {x0 m0 : Nat} {wX wM : va_W} (hI : XInv cI cC cZ cN x0 m0 wX wM) (hDX : va_D (fun _ => True) wX) (hDM : va_D (fun _ => True) wM) (y : Int32) : stp l D (ly_tys cI cC cZ cN) ts yX6_rain wsX6_rain yX7_rain wsX7_rain [.int y] x0 m0 wX wM (XInv cI cC cZ cN x0 m0) := by
  obtain ⟨t, a, a2, b, ba, ia, lt, nx, kn, s0, tr, an, xv, iv, pv, tx, nm, rr, g, g2, d, ho, le, sd, sh, sl, hv, kp, jd, jh, jl, wf, lf, rf, oA, M, mi, fa, mt, rfl, rfl, rfl, rfl, R⟩ := id hI
  obtain ⟨R1, R2, R3, R4, ⟨G, G2⟩, P, N, T, B, ⟨K1, U⟩, I, H, W1, W2⟩ := id R
  have hn : g 0 0 ≤ 9 := G.1.1
  have hm : g 0 1 ≤ 6 := G.1.2
  have hn9 : M 9 0 ≤ 9 := by rw [P.1]; exact hn
  have hm9 : M 9 1 ≤ 6 := by rw [P.2.1]; exact hm
  by_cases hy : jin y 0 2 = 0
  · exact stp_rd (c_X6_rain_b l D cI cC cZ cN t a2 lt tr a g b d ho le hv y hy) (c_X7_rain_b l D cI cC cZ cN oA M mi fa mt y hy (hDM.sub [0, 2, 4, 12, 19, 20] (by decide) rfl)) (by decide) (by decide) hDX hDM [0, 1, 2, 3, 4, 5, 6, 7, 8, 9, 10, 11, 12, 13, 16] [0, 2, 4, 12, 19, 20] rfl rfl rfl hI
  · obtain ⟨j, hj, rfl⟩ := jin_of (b := 2) (by decide) hy
    have h64 := (pow6 hm).2
    obtain ⟨r1, r2, r3⟩ := rain_at G P N H (2 ^ g 0 1) (Nat.le_refl _)
    have hN6 : 2 ^ M 9 1 = 2 ^ g 0 1 := by rw [P.2.1]
    have hz : (s_rain1 (s_rain g ho hv (2 ^ g 0 1)) = if nI (m_rn M (mi 31) (2 ^ g 0 1)).1 = 0 then -9 else (m_rn M (mi 31) (2 ^ g 0 1)).2.1) ∧ (s_rain2 (s_rain g ho hv (2 ^ g 0 1)) = if nI (m_rn M (mi 31) (2 ^ g 0 1)).1 = 0 then -9 else (m_rn M (mi 31) (2 ^ g 0 1)).2.2) := by
      unfold s_rain1 s_rain2
      rcases r3 with ⟨q1, q2, q3⟩ | ⟨q1, q2, -⟩
      · rw [← r1, q1]; exact ⟨rfl, rfl⟩
      · rw [← r1, q2]; exact ⟨rfl, rfl⟩
    rcases (show j = 0 ∨ j = 1 ∨ j = 2 by omega) with rfl | rfl | rfl
    · exact stp_rd (c_X6_rain_0 l D cI cC cZ cN t a2 lt tr a g b d ho le hv (2 ^ g 0 1) rfl h64 hn hm) (c_X7_rain_0 l D cI cC cZ cN oA M mi fa mt hn9 hm9 H.2.2.2.1 (2 ^ g 0 1) hN6 h64 (hDM.sub [0, 2, 4, 12, 19, 20] (by decide) rfl)) (by decide) (by decide) hDX hDM [0, 1, 2, 3, 4, 5, 6, 7, 8, 9, 10, 11, 12, 13, 16] [0, 2, 4, 12, 19, 20] rfl rfl (by rw [r1]) hI
    · exact stp_rd (c_X6_rain_1 l D cI cC cZ cN t a2 lt tr a g b d ho le hv (2 ^ g 0 1) rfl h64 hn hm) (c_X7_rain_1 l D cI cC cZ cN oA M mi fa mt hn9 hm9 H.2.2.2.1 (2 ^ g 0 1) hN6 h64 (hDM.sub [0, 2, 4, 12, 19, 20] (by decide) rfl)) (by decide) (by decide) hDX hDM [0, 1, 2, 3, 4, 5, 6, 7, 8, 9, 10, 11, 12, 13, 16] [0, 2, 4, 12, 19, 20] rfl rfl hz.1 hI
    · exact stp_rd (c_X6_rain_2 l D cI cC cZ cN t a2 lt tr a g b d ho le hv (2 ^ g 0 1) rfl h64 hn hm) (c_X7_rain_2 l D cI cC cZ cN oA M mi fa mt hn9 hm9 H.2.2.2.1 (2 ^ g 0 1) hN6 h64 (hDM.sub [0, 2, 4, 12, 19, 20] (by decide) rfl)) (by decide) (by decide) hDX hDM [0, 1, 2, 3, 4, 5, 6, 7, 8, 9, 10, 11, 12, 13, 16] [0, 2, 4, 12, 19, 20] rfl rfl hz.2 hI
set_option maxRecDepth 20000 in
theorem stp_trace {l : Launch} {D : va_G} {cI cC cZ cN : ClassId} {ts : Nat → Nat} {x0 m0 : Nat} {wX wM : va_W} (hI : XInv cI cC cZ cN x0 m0 wX wM) (hDX : va_D (fun _ => True) wX) (hDM : va_D (fun _ => True) wM) : stpL l D (ly_tys cI cC cZ cN) ts yX6_trace wsX6_trace yX7_trace wsX7_trace [] x0 m0 wX wM (XInv cI cC cZ cN x0 m0) := by
  obtain ⟨t, a, a2, b, ba, ia, lt, nx, kn, s0, tr, an, xv, iv, pv, tx, nm, rr, g, g2, d, ho, le, sd, sh, sl, hv, kp, jd, jh, jl, wf, lf, rf, oA, M, mi, fa, mt, rfl, rfl, rfl, rfl, R⟩ := id hI
  obtain ⟨R1, R2, R3, R4, ⟨G, G2⟩, P, N, T, B, ⟨K1, U⟩, I, H, W1, W2⟩ := id R
  have hn : g 0 0 ≤ 9 := G.1.1
  have hm : g 0 1 ≤ 6 := G.1.2
  have hn9 : M 9 0 ≤ 9 := by rw [P.1]; exact hn
  have hm9 : M 9 1 ≤ 6 := by rw [P.2.1]; exact hm
  exact stp_rq (c_X6_trace l D cI cC cZ cN t a2 a b lt tr (hDX.sub [0] (by decide) rfl)) (c_X7_trace l D cI cC cZ cN oA M mi fa mt (hDM.sub [0] (by decide) rfl)) (by decide) (by decide) hDX hDM [0] [0] rfl rfl (by rw [R3]) hI
