/-! one call -/
set_option maxRecDepth 20000 in
theorem stp_pledges {l : Launch} {D : va_G} {cI cC cZ cN : ClassId} {ts : Nat → Nat} {x0 m0 : Nat} {wX wM : va_W} (hI : XInv cI cC cZ cN x0 m0 wX wM) (hDX : va_D (fun _ => True) wX) (hDM : va_D (fun _ => True) wM) (x y : Int32) : stp l D (ly_tys cI cC cZ cN) ts yX6_pledges wsX6_pledges yX7_pledges wsX7_pledges [.int x, .int y] x0 m0 wX wM (XInv cI cC cZ cN x0 m0) := by
  obtain ⟨t, a, a2, b, ba, ia, lt, nx, kn, s0, tr, an, xv, iv, pv, tx, nm, rr, g, g2, d, ho, le, sd, sh, sl, hv, kp, jd, jh, jl, wf, lf, rf, oA, M, mi, fa, mt, rfl, rfl, rfl, rfl, R⟩ := id hI
  obtain ⟨R1, R2, R3, R4, ⟨G, G2⟩, P, N, T, B, ⟨K1, U⟩, I, H, W1, W2⟩ := id R
  have hn : g 0 0 ≤ 9 := G.1.1
  have hm : g 0 1 ≤ 6 := G.1.2
  have hn9 : M 9 0 ≤ 9 := by rw [P.1]; exact hn
  have hm9 : M 9 1 ≤ 6 := by rw [P.2.1]; exact hm
  subst K1
  have UD := uR_deed hn U N
  have hu9 : mi 24 ≤ 10 := U.2.1
  by_cases hb : jin x 0 (nI (g 0 0) - 1) = 0 ∨ jin y 0 1 = 0
  · exact stp_rd (c_X6_pledges_b l D cI cC cZ cN t a2 lt tr a g b d ho le x y hb) (c_X7_pledges_b l D cI cC cZ cN oA M mi fa mt x y (by rw [P.1]; exact hb) (hDM.sub [0, 2, 12, 15] (by decide) rfl)) (by decide) (by decide) hDX hDM [0, 1, 2, 3, 4, 5, 6, 7, 8, 9, 10, 11, 12, 13] [0, 2, 12, 15] rfl rfl rfl hI
  · obtain ⟨k, hk, rfl⟩ := jin_ix_of hn (fun z => hb (Or.inl z))
    have hk9 : k < M 9 0 := by rw [P.1]; exact hk
    obtain ⟨o1, h1, rfl⟩ := jin_of (x := y) (b := 1) (by decide) (fun z => hb (Or.inr z))
    obtain ⟨n1, n2⟩ := N.2.2.2.2.2.1 k (by omega)
    have n4 := N.2.2.2.2.1.1
    by_cases hz : jbit (nI (d 4)) (nI k) = nI o1
    · exact stp_rd (c_X6_pledges_s1 l D cI cC cZ cN t a2 lt tr a g b d ho le k o1 hk h1 hn hz) (c_X7_pledges_s l D cI cC cZ cN oA M mi fa mt k o1 hk9 hn9 h1 (Or.inl (by rw [← n4]; exact hz)) (hDM.sub [0, 2, 12, 15] (by decide) rfl)) (by decide) (by decide) hDX hDM [0, 1, 2, 3, 4, 5, 6, 7, 8, 9, 10, 11, 12, 13] [0, 2, 12, 15] rfl rfl rfl hI
    · by_cases hw : ho k = 0
      · have NP := n_pledges hn N (show k < 9 by omega) h1 hz
        exact stp_mk (ζ := Unit) (η := Unit) (dw_up (nx2 := (if (10 : Int32) ≤ nI (nx + 1) then 0 else nx + 1)) (kn2 := (min 10 (mi 24 + 1))) (d2 := (va_up d 4 ((d 4) ^^^ 2 ^ k))) (ho2 := ho) (le2 := le) U.1 (c_X6_pledges_g l D cI cC cZ cN t a2 lt tr a g b d ho le ba nx (mi 24) (sd nx) (sh nx) (sl nx) U.1 U.2.1 k o1 hk h1 hn hz (by rw [hw]; rfl) (dw_D U.1 hDX)) (by decide) hDX) (mwr (wM2 := mw cI cZ oA (va_up (va_up M 20 (va_up (M 20) 10 (m_plg (M 20 10) k o1))) 23 (m_nU M (mi 24))) (va_up mi 24 (m_nK (mi 24))) fa mt) (c_X7_pledges_g l D cI cC cZ cN oA M mi fa mt k o1 hk9 hn9 h1 (by rw [← n4]; exact hz) (by rw [← n1, hw]; decide) (by rw [← n4]; exact N.2.2.2.2.1.2) hu9 (hDM.sub [0, 2, 12, 15] (by decide) rfl)) (by decide) hDM [0, 2, 12, 15] [1, 3, 4, 5, 6, 7, 8, 9, 10, 11, 13, 14, 16, 17, 18, 19, 20, 21] 22 rfl rfl (hr2 (n := 22) rfl (by decide) rfl) rfl (by decide) (by decide) mw_adq) (by rw [NP.2]) (fun _ _ => ⟨t, a, a2, b, ba, ia, lt, (if (10 : Int32) ≤ nI (nx + 1) then 0 else nx + 1), (min 10 (mi 24 + 1)), s0, tr, an, xv, iv, pv, tx, nm, rr, g, g2, (va_up d 4 ((d 4) ^^^ 2 ^ k)), ho, le, (va_up sd nx d), (va_up sh nx ho), (va_up sl nx le), hv, kp, jd, jh, jl, wf, lf, rf, oA, (va_up (va_up M 20 (va_up (M 20) 10 (m_plg (M 20 10) k o1))) 23 (m_nU M (mi 24))), (va_up mi 24 (m_nK (mi 24))), fa, mt, rfl, rfl, rfl, rfl, ⟨R1, R2, R3, R4, ⟨G, G2⟩, P, NP.1, tR_congr T rfl rfl rfl, B, ⟨UD.2, UD.1⟩, I, hR_congr H rfl rfl rfl rfl rfl, W1, W2⟩⟩)
      · exact stp_rd (c_X6_pledges_s2 l D cI cC cZ cN t a2 lt tr a g b d ho le k o1 hk h1 hn hz (fun z => hw ((ly_h_9 (by omega)).mp z))) (c_X7_pledges_s l D cI cC cZ cN oA M mi fa mt k o1 hk9 hn9 h1 (Or.inr (fun z => hw (by rw [← n1] at z; exact (nI_le0 (by omega)).mp z))) (hDM.sub [0, 2, 12, 15] (by decide) rfl)) (by decide) (by decide) hDX hDM [0, 1, 2, 3, 4, 5, 6, 7, 8, 9, 10, 11, 12, 13] [0, 2, 12, 15] rfl rfl rfl hI
