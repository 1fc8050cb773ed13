/-! one call -/
set_option maxRecDepth 20000 in
theorem stp_type {l : Launch} {D : va_G} {cI cC cZ cN : ClassId} {ts : Nat → Nat} {x0 m0 : Nat} {wX wM : va_W} (hI : XInv cI cC cZ cN x0 m0 wX wM) (hDX : va_D (fun _ => True) wX) (hDM : va_D (fun _ => True) wM) (x : Int32) : stp l D (ly_tys cI cC cZ cN) ts yX6_type wsX6_type yX7_type wsX7_type [.int x] x0 m0 wX wM (XInv cI cC cZ cN x0 m0) := by
  obtain ⟨t, a, a2, b, ba, ia, lt, nx, kn, s0, tr, an, xv, iv, pv, tx, nm, rr, g, g2, d, ho, le, sd, sh, sl, hv, kp, jd, jh, jl, wf, lf, rf, oA, M, mi, fa, mt, rfl, rfl, rfl, rfl, R⟩ := id hI
  obtain ⟨R1, R2, R3, R4, ⟨G, G2⟩, P, N, T, B, ⟨K1, U⟩, I, H, W1, W2⟩ := id R
  have hn : g 0 0 ≤ 9 := G.1.1
  have hm : g 0 1 ≤ 6 := G.1.2
  have hn9 : M 9 0 ≤ 9 := by rw [P.1]; exact hn
  have hm9 : M 9 1 ≤ 6 := by rw [P.2.1]; exact hm
  by_cases hx : jin x 0 255 = 0
  · exact stp_rd (c_X6_type_b l D cI cC cZ cN t a2 a b lt tr x hx) (c_X7_type_b l D cI cC cZ cN oA M mi fa mt x hx (hDM.sub [0, 1] (by decide) rfl)) (by decide) (by decide) hDX hDM [0] [0, 1] rfl rfl rfl hI
  · obtain ⟨k, hk, rfl⟩ := jin_of (b := 255) (by decide) hx
    by_cases hl : lt = 180
    · exact stp_rd (c_X6_type_f l D cI cC cZ cN t a2 a b lt tr k hk hl) (c_X7_type_f l D cI cC cZ cN oA M mi fa mt k hk (by rw [← R1.1]; exact hl) (hDM.sub [0, 1] (by decide) rfl)) (by decide) (by decide) hDX hDM [0] [0, 1] rfl rfl rfl hI
    · have hl2 : lt < 180 := by have := R1.2; omega
      have hl3 : mi 3 < 180 := by rw [← R1.1]; exact hl2
      exact stp_mk (ζ := Unit) (η := Unit) (xw (wX2 := cw cI cC cZ cN t a a2 b ba ia (lt + 1) nx kn s0 tr an xv iv pv (va_up tx lt k) nm rr g g2 d ho le sd sh sl hv kp jd jh jl wf lf rf) (c_X6_type_g l D cI cC cZ cN t a2 a b lt tr tx k hk hl2 (hDX.sub [0, 18] (by decide) rfl)) (by decide) hDX [0, 18] [1, 2, 3, 4, 5, 6, 7, 8, 9, 10, 11, 12, 13, 14, 15, 16, 17, 19, 20, 21, 22, 23, 24, 25, 26, 27, 28, 29, 30, 31, 32, 33, 34, 35, 36, 37, 38, 39, 40, 41, 42, 43, 44, 45, 46, 47, 48, 49, 50, 51, 52, 53, 54, 55, 56, 57, 58, 59, 60, 61, 62, 63, 64, 65, 66, 67, 68, 69, 70, 71] 72 rfl rfl (hr2 (n := 72) rfl (by decide) rfl) rfl (by decide) (by decide) cw_adq) (mwr (wM2 := mw cI cZ oA (va_up M 2 (va_up (M 2) (mi 3) k)) (va_up mi 3 (mi 3 + 1)) fa mt) (c_X7_type_g l D cI cC cZ cN oA M mi fa mt k hk hl3 (hDM.sub [0, 1] (by decide) rfl)) (by decide) hDM [0, 1] [2, 3, 4, 5, 6, 7, 8, 9, 10, 11, 12, 13, 14, 15, 16, 17, 18, 19, 20, 21] 22 rfl rfl (hr2 (n := 22) rfl (by decide) rfl) rfl (by decide) (by decide) mw_adq) (by rw [R1.1]) (fun _ _ => ⟨t, a, a2, b, ba, ia, (lt + 1), nx, kn, s0, tr, an, xv, iv, pv, (va_up tx lt k), nm, rr, g, g2, d, ho, le, sd, sh, sl, hv, kp, jd, jh, jl, wf, lf, rf, oA, (va_up M 2 (va_up (M 2) (mi 3) k)), (va_up mi 3 (mi 3 + 1)), fa, mt, rfl, rfl, rfl, rfl, ⟨⟨by show lt + 1 = mi 3 + 1; rw [R1.1], by omega⟩, ⟨by show va_up tx lt k = va_up (M 2) (mi 3) k; rw [R1.1, R2.1], up_lt R2.2 lt k (by omega)⟩, R3, R4, ⟨G, G2⟩, P, N, tR_congr T rfl rfl rfl, B, ⟨K1, U⟩, I, hR_congr H rfl rfl rfl rfl rfl, W1, W2⟩⟩)
