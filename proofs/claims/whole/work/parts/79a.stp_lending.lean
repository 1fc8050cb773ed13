/-! one call -/
set_option maxRecDepth 20000 in
set_option maxHeartbeats 4000000 in
theorem stp_lending {l : Launch} {D : va_G} {cI cC cZ cN : ClassId} {ts : Nat → Nat} {x0 m0 : Nat} {wX wM : va_W} (hI : XInv cI cC cZ cN x0 m0 wX wM) (hDX : va_D (fun _ => True) wX) (hDM : va_D (fun _ => True) wM) (x : Int32) : stp l D (ly_tys cI cC cZ cN) ts yX6_lending wsX6_lending yX7_lending wsX7_lending [.int x] x0 m0 wX wM (XInv cI cC cZ cN x0 m0) := by
  obtain ⟨t, a, a2, b, ba, ia, lt, nx, kn, s0, tr, an, xv, iv, pv, tx, nm, rr, g, g2, d, ho, le, sd, sh, sl, hv, kp, jd, jh, jl, wf, lf, rf, oA, M, mi, fa, mt, rfl, rfl, rfl, rfl, R⟩ := id hI
  obtain ⟨R1, R2, R3, R4, ⟨G, G2⟩, P, N, T, B, ⟨K1, U⟩, I, H, W1, W2⟩ := id R
  have hn : g 0 0 ≤ 9 := G.1.1
  have hm : g 0 1 ≤ 6 := G.1.2
  have hn9 : M 9 0 ≤ 9 := by rw [P.1]; exact hn
  have hm9 : M 9 1 ≤ 6 := by rw [P.2.1]; exact hm
  have hf : ∀ j, j < 9 → g 2 j < 5 := fun j _ => Nat.lt_succ_of_le (G.2 j).2.1
  have ho9 : ∀ j, g 8 j ≤ 9 := fun j => (G.2 j).2.2.2.2.2.2.2
  have hf4 : ∀ j, M 11 j ≤ 4 := fun j => (B j).2
  have hN1 : 2 ^ M 9 0 = 2 ^ g 0 0 := by rw [P.1]
  have hN5 : 2 ^ g 0 0 ≤ 512 := Nat.pow_le_pow_right (n := 2) (by decide) hn
  have hN6 : 2 ^ M 9 1 = 2 ^ g 0 1 := by rw [P.2.1]
  have hN7 := (pow6 hm).2
  have hN0 := (pow6 hm).1
  have hlf : ∀ q, q < g 0 1 → (w_lr g d ho le lf rf (g 0 1)).1 q = w_off g d ho le q 0 := fun q hq => (lr_at g d ho le lf rf (g 0 1) q hq).1
  have hrf : ∀ q, q < g 0 1 → (w_lr g d ho le lf rf (g 0 1)).2 q = w_off g d ho le q 1 := fun q hq => (lr_at g d ho le lf rf (g 0 1) q hq).2
  by_cases hx : jin x 0 (s_all (g 0 1)) = 0
  · exact stp_rd (c_X6_lending_b l D cI cC cZ cN t a2 b lt tr a g x hx) (c_X7_lending_b l D cI cC cZ cN oA M mi fa mt x (by rw [P.2.1]; exact hx) (hDM.sub [0, 2, 3, 4, 6, 7, 8, 9, 10, 12, 21] (by decide) rfl)) (by decide) (by decide) hDX hDM [0, 1, 2, 3, 4, 5, 6, 7, 8, 9, 10] [0, 2, 3, 4, 6, 7, 8, 9, 10, 12, 21] rfl rfl rfl hI
  · rw [s_all_eq hm] at hx
    obtain ⟨sS, hs, rfl⟩ := jin_of (b := 2 ^ g 0 1 - 1) (by omega) hx
    have hW := m_M_le (N1 := 2 ^ g 0 0) (lz := M 32) (sS := sS) hn9 W1 W2
    exact stp_mk (ζ := Nat → Int32) (η := Unit) (xwE (wX2 := fun f9 => cw cI cC cZ cN t a a2 b ba ia lt nx kn sS tr (nI (w_wv g (w_lr g d ho le lf rf (g 0 1)).1 (w_lr g d ho le lf rf (g 0 1)).2 sS (g 0 1) 0 0)) xv iv (.ref (a 0)) tx nm rr g g2 d ho le sd sh sl hv kp jd jh jl f9 (w_lr g d ho le lf rf (g 0 1)).1 (w_lr g d ho le lf rf (g 0 1)).2) (c_X6_lending_g l D cI cC cZ cN t a2 lt tr a g b d ho le wf lf rf s0 an pv sS hs hm hn hf ho9 (hDX.sub [0, 30, 31, 32, 33, 1, 2, 3, 4, 5, 6, 7, 8, 9, 10, 11, 12, 13] (by decide) rfl)) (by decide) hDX [0, 30, 31, 32, 33, 1, 2, 3, 4, 5, 6, 7, 8, 9, 10, 11, 12, 13] [14, 15, 16, 17, 18, 19, 20, 21, 22, 23, 24, 25, 26, 27, 28, 29, 34, 35, 36, 37, 38, 39, 40, 41, 42, 43, 44, 45, 46, 47, 48, 49, 50, 51, 52, 53, 54, 55, 56, 57, 58, 59, 60, 61, 62, 63, 64, 65, 66, 67, 68, 69, 70, 71] 72 rfl (fun _ => rfl) (fun _ => hr2 (n := 72) rfl (by decide) rfl) (fun _ => rfl) (by decide) (by decide) (fun _ => cw_adq)) (mwr (wM2 := mw cI cZ oA (va_up M 32 (m_M M (2 ^ g 0 0) (M 32) sS (mi 33) (mi 34)).2.1) (va_up (va_up mi 33 (m_M M (2 ^ g 0 0) (M 32) sS (mi 33) (mi 34)).2.2.1) 34 (m_M M (2 ^ g 0 0) (M 32) sS (mi 33) (mi 34)).2.2.2) fa mt) (c_X7_lending_g l D cI cC cZ cN oA M mi fa mt sS (by rw [P.2.1]; exact hs) hn9 hm9 hf4 (2 ^ g 0 0) hN1 hN5 (hDM.sub [0, 2, 3, 4, 6, 7, 8, 9, 10, 12, 21] (by decide) rfl)) (by decide) hDM [0, 2, 3, 4, 6, 7, 8, 9, 10, 12, 21] [1, 5, 11, 13, 14, 15, 16, 17, 18, 19, 20] 22 rfl rfl (hr2 (n := 22) rfl (by decide) rfl) rfl (by decide) (by decide) mw_adq) (congrArg Value.int (lending_eq G P N hlf hrf (by omega) _ _ _)) (fun f9 _ => ⟨t, a, a2, b, ba, ia, lt, nx, kn, sS, tr, (nI (w_wv g (w_lr g d ho le lf rf (g 0 1)).1 (w_lr g d ho le lf rf (g 0 1)).2 sS (g 0 1) 0 0)), xv, iv, (.ref (a 0)), tx, nm, rr, g, g2, d, ho, le, sd, sh, sl, hv, kp, jd, jh, jl, f9, (w_lr g d ho le lf rf (g 0 1)).1, (w_lr g d ho le lf rf (g 0 1)).2, oA, (va_up M 32 (m_M M (2 ^ g 0 0) (M 32) sS (mi 33) (mi 34)).2.1), (va_up (va_up mi 33 (m_M M (2 ^ g 0 0) (M 32) sS (mi 33) (mi 34)).2.2.1) 34 (m_M M (2 ^ g 0 0) (M 32) sS (mi 33) (mi 34)).2.2.2), fa, mt, rfl, rfl, rfl, rfl, ⟨R1, R2, R3, R4, ⟨G, G2⟩, P, N, tR_congr T rfl rfl rfl, B, ⟨K1, U⟩, I, hR_congr H rfl rfl rfl rfl rfl, hW.1, hW.2⟩⟩)
