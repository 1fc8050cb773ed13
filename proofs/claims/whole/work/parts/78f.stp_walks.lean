/-! one call -/
set_option maxRecDepth 20000 in
theorem stp_walks {l : Launch} {D : va_G} {cI cC cZ cN : ClassId} {ts : Nat → Nat} {x0 m0 : Nat} {wX wM : va_W} (hI : XInv cI cC cZ cN x0 m0 wX wM) (hDX : va_D (fun _ => True) wX) (hDM : va_D (fun _ => True) wM) (x y z : Int32) : stp l D (ly_tys cI cC cZ cN) ts yX6_walks wsX6_walks yX7_walks wsX7_walks [.int x, .int y, .int z] x0 m0 wX wM (XInv cI cC cZ cN x0 m0) := by
  obtain ⟨t, a, a2, b, ba, ia, lt, nx, kn, s0, tr, an, xv, iv, pv, tx, nm, rr, g, g2, d, ho, le, sd, sh, sl, hv, kp, jd, jh, jl, wf, lf, rf, oA, M, mi, fa, mt, rfl, rfl, rfl, rfl, R⟩ := id hI
  obtain ⟨R1, R2, R3, R4, ⟨G, G2⟩, P, N, T, B, ⟨K1, U⟩, I, H, W1, W2⟩ := id R
  have hn : g 0 0 ≤ 9 := G.1.1
  have hm : g 0 1 ≤ 6 := G.1.2
  have hn9 : M 9 0 ≤ 9 := by rw [P.1]; exact hn
  have hm9 : M 9 1 ≤ 6 := by rw [P.2.1]; exact hm
  subst K1
  have UD := uR_deed hn U N
  have hu9 : mi 24 ≤ 10 := U.2.1
  by_cases hb : jin x 0 (nI (g 0 1) - 1) = 0 ∨ jin y 0 20 = 0 ∨ jin z 0 20 = 0
  · exact stp_rd (c_X6_walks_b l D cI cC cZ cN t a2 lt tr a g b d ho le x y z hb) (c_X7_walks_b l D cI cC cZ cN oA M mi fa mt x y z (by rw [P.2.1]; exact hb) (hDM.sub [0, 2, 3, 6, 12, 15] (by decide) rfl)) (by decide) (by decide) hDX hDM [0, 1, 2, 3, 4, 5, 6, 7, 8, 9, 10, 11, 12, 13] [0, 2, 3, 6, 12, 15] rfl rfl rfl hI
  · obtain ⟨q, hq, rfl⟩ := jin_ix_of (show g 0 1 ≤ 9 by omega) (fun z => hb (Or.inl z))
    have hq9 : q < M 9 1 := by rw [P.2.1]; exact hq
    obtain ⟨e2, h2, rfl⟩ := jin_of (x := y) (b := 20) (by decide) (fun z => hb (Or.inr (Or.inl z)))
    obtain ⟨e3, h3, rfl⟩ := jin_of (x := z) (b := 20) (by decide) (fun z => hb (Or.inr (Or.inr z)))
    have er := ready_eq G P N hq
    have NW := n_walks G N (q := q) (u1 := e2) (d1 := e3) (by omega) h2 h3
    have N2 : nR g (va_up d 3 (min 999 (d 3 + (s_walk ho le q (e2 + 2 * e3) (g 0 0)).1))) ho (s_walk ho le q (e2 + 2 * e3) (g 0 0)).2 (va_up (m_wk M q e2 e3 (M 9 0)).2 22 (if (nI ((m_wk M q e2 e3 (M 9 0)).2 22 + (m_wk M q e2 e3 (M 9 0)).1)) ≤ 999 then (m_wk M q e2 e3 (M 9 0)).2 22 + (m_wk M q e2 e3 (M 9 0)).1 else 999)) := by rw [P.1]; exact NW.1
    by_cases hz : s_ready g ho q = 0
    · exact stp_rd (c_X6_walks_s l D cI cC cZ cN t a2 lt tr a g b d ho le q e2 e3 hq hm hn h2 h3 hz) (c_X7_walks_s l D cI cC cZ cN oA M mi fa mt q e2 e3 hq9 hm9 hn9 h2 h3 (by rw [← er]; exact hz) (hDM.sub [0, 2, 3, 6, 12, 15] (by decide) rfl)) (by decide) (by decide) hDX hDM [0, 1, 2, 3, 4, 5, 6, 7, 8, 9, 10, 11, 12, 13] [0, 2, 3, 6, 12, 15] rfl rfl rfl hI
    · exact stp_mk (ζ := Unit) (η := Unit) (dw_up (nx2 := (if (10 : Int32) ≤ nI (nx + 1) then 0 else nx + 1)) (kn2 := (min 10 (mi 24 + 1))) (d2 := (va_up d 3 (min 999 (d 3 + (s_walk ho le q (e2 + 2 * e3) (g 0 0)).1)))) (ho2 := ho) (le2 := (s_walk ho le q (e2 + 2 * e3) (g 0 0)).2) U.1 (c_X6_walks_g l D cI cC cZ cN t a2 lt tr a g b d ho le ba nx (mi 24) (sd nx) (sh nx) (sl nx) U.1 U.2.1 q e2 e3 hq hm hn h2 h3 N.2.2.2.1.2 N.2.2.2.2.2.2.2.2.1 hz (dw_D U.1 hDX)) (by decide) hDX) (mwr (wM2 := mw cI cZ oA (va_up (va_up M 20 (va_up (m_wk M q e2 e3 (M 9 0)).2 22 (if (nI ((m_wk M q e2 e3 (M 9 0)).2 22 + (m_wk M q e2 e3 (M 9 0)).1)) ≤ 999 then (m_wk M q e2 e3 (M 9 0)).2 22 + (m_wk M q e2 e3 (M 9 0)).1 else 999))) 23 (m_nU M (mi 24))) (va_up mi 24 (m_nK (mi 24))) fa mt) (c_X7_walks_g l D cI cC cZ cN oA M mi fa mt q e2 e3 hq9 hm9 hn9 h2 h3 hu9 (by rw [← er]; exact hz) (hDM.sub [0, 2, 3, 6, 12, 15] (by decide) rfl)) (by decide) hDM [0, 2, 3, 6, 12, 15] [1, 4, 5, 7, 8, 9, 10, 11, 13, 14, 16, 17, 18, 19, 20, 21] 22 rfl rfl (hr2 (n := 22) rfl (by decide) rfl) rfl (by decide) (by decide) mw_adq) (by rw [P.1, NW.2]) (fun _ _ => ⟨t, a, a2, b, ba, ia, lt, (if (10 : Int32) ≤ nI (nx + 1) then 0 else nx + 1), (min 10 (mi 24 + 1)), s0, tr, an, xv, iv, pv, tx, nm, rr, g, g2, (va_up d 3 (min 999 (d 3 + (s_walk ho le q (e2 + 2 * e3) (g 0 0)).1))), ho, (s_walk ho le q (e2 + 2 * e3) (g 0 0)).2, (va_up sd nx d), (va_up sh nx ho), (va_up sl nx le), hv, kp, jd, jh, jl, wf, lf, rf, oA, (va_up (va_up M 20 (va_up (m_wk M q e2 e3 (M 9 0)).2 22 (if (nI ((m_wk M q e2 e3 (M 9 0)).2 22 + (m_wk M q e2 e3 (M 9 0)).1)) ≤ 999 then (m_wk M q e2 e3 (M 9 0)).2 22 + (m_wk M q e2 e3 (M 9 0)).1 else 999))) 23 (m_nU M (mi 24))), (va_up mi 24 (m_nK (mi 24))), fa, mt, rfl, rfl, rfl, rfl, ⟨R1, R2, R3, R4, ⟨G, G2⟩, P, N2, tR_congr T rfl rfl rfl, B, ⟨UD.2, UD.1⟩, I, hR_congr H rfl rfl rfl rfl rfl, W1, W2⟩⟩)
