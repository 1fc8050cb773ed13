/-! one call -/
set_option maxRecDepth 20000 in
theorem stp_brings {l : Launch} {D : va_G} {cI cC cZ cN : ClassId} {ts : Nat → Nat} {x0 m0 : Nat} {wX wM : va_W} (hI : XInv cI cC cZ cN x0 m0 wX wM) (hDX : va_D (fun _ => True) wX) (hDM : va_D (fun _ => True) wM) (x : Int32) : stp l D (ly_tys cI cC cZ cN) ts yX6_brings wsX6_brings yX7_brings wsX7_brings [.int x] x0 m0 wX wM (XInv cI cC cZ cN x0 m0) := by
  obtain ⟨t, a, a2, b, ba, ia, lt, nx, kn, s0, tr, an, xv, iv, pv, tx, nm, rr, g, g2, d, ho, le, sd, sh, sl, hv, kp, jd, jh, jl, wf, lf, rf, oA, M, mi, fa, mt, rfl, rfl, rfl, rfl, R⟩ := id hI
  obtain ⟨R1, R2, R3, R4, ⟨G, G2⟩, P, N, T, B, ⟨K1, U⟩, I, H, W1, W2⟩ := id R
  have hn : g 0 0 ≤ 9 := G.1.1
  have hm : g 0 1 ≤ 6 := G.1.2
  have hn9 : M 9 0 ≤ 9 := by rw [P.1]; exact hn
  have hm9 : M 9 1 ≤ 6 := by rw [P.2.1]; exact hm
  subst K1
  have UD := uR_deed hn U N
  have hu9 : mi 24 ≤ 10 := U.2.1
  by_cases hb : jin x 0 (nI (g 0 0) - 1) = 0
  · exact stp_rd (c_X6_brings_b l D cI cC cZ cN t a2 lt tr a g b d ho le x hb) (c_X7_brings_b l D cI cC cZ cN oA M mi fa mt x (by rw [P.1]; exact hb) (hDM.sub [0, 2, 12, 15] (by decide) rfl)) (by decide) (by decide) hDX hDM [0, 1, 2, 3, 4, 5, 6, 7, 8, 9, 10, 11, 12, 13] [0, 2, 12, 15] rfl rfl rfl hI
  · obtain ⟨k, hk, rfl⟩ := jin_ix_of hn hb
    have hk9 : k < M 9 0 := by rw [P.1]; exact hk
    obtain ⟨n1, n2⟩ := N.2.2.2.2.2.1 k (by omega)
    have l6 : ho k ≤ 6 := by omega
    have el := lyh_m l6
    by_cases hz : ho k = 0
    · exact stp_rd (c_X6_brings_s l D cI cC cZ cN t a2 lt tr a g b d ho le k hk hn (by rw [hz]; rfl)) (c_X7_brings_s l D cI cC cZ cN oA M mi fa mt k hk9 hn9 (by rw [← n1, hz]; rfl) (hDM.sub [0, 2, 12, 15] (by decide) rfl)) (by decide) (by decide) hDX hDM [0, 1, 2, 3, 4, 5, 6, 7, 8, 9, 10, 11, 12, 13] [0, 2, 12, 15] rfl rfl rfl hI
    · have hz1 : ¬ ly_h (ho k) = -9 := fun z => hz ((ly_h_9 (by omega)).mp z)
      have hz2 : ¬ nI (ho k) = 0 := fun z => hz ((nI_z0 (by omega)).mp z)
      rw [if_neg hz2] at el
      exact stp_mk (ζ := Unit) (η := Unit) (dw_up (nx2 := (if (10 : Int32) ≤ nI (nx + 1) then 0 else nx + 1)) (kn2 := (min 10 (mi 24 + 1))) (d2 := d) (ho2 := (va_up ho k 0)) (le2 := le) U.1 (c_X6_brings_g l D cI cC cZ cN t a2 lt tr a g b d ho le ba nx (mi 24) (sd nx) (sh nx) (sl nx) U.1 U.2.1 k hk hn hz1 (dw_D U.1 hDX)) (by decide) hDX) (mwr (wM2 := mw cI cZ oA (va_up (va_up M 20 (va_up (M 20) (1 + k) 0)) 23 (m_nU M (mi 24))) (va_up mi 24 (m_nK (mi 24))) fa mt) (c_X7_brings_g l D cI cC cZ cN oA M mi fa mt k hk9 hn9 (by rw [← n1]; exact hz2) hu9 (hDM.sub [0, 2, 12, 15] (by decide) rfl)) (by decide) hDM [0, 2, 12, 15] [1, 3, 4, 5, 6, 7, 8, 9, 10, 11, 13, 14, 16, 17, 18, 19, 20, 21] 22 rfl rfl (hr2 (n := 22) rfl (by decide) rfl) rfl (by decide) (by decide) mw_adq) (by rw [el, n1]) (fun _ _ => ⟨t, a, a2, b, ba, ia, lt, (if (10 : Int32) ≤ nI (nx + 1) then 0 else nx + 1), (min 10 (mi 24 + 1)), s0, tr, an, xv, iv, pv, tx, nm, rr, g, g2, d, (va_up ho k 0), le, (va_up sd nx d), (va_up sh nx ho), (va_up sl nx le), hv, kp, jd, jh, jl, wf, lf, rf, oA, (va_up (va_up M 20 (va_up (M 20) (1 + k) 0)) 23 (m_nU M (mi 24))), (va_up mi 24 (m_nK (mi 24))), fa, mt, rfl, rfl, rfl, rfl, ⟨R1, R2, R3, R4, ⟨G, G2⟩, P, n_brings N (by omega), tR_congr T rfl rfl rfl, B, ⟨UD.2, UD.1⟩, I, hR_congr H rfl rfl rfl rfl rfl, W1, W2⟩⟩)
