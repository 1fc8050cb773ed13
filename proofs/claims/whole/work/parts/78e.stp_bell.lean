/-! one call -/
set_option maxRecDepth 20000 in
theorem stp_bell {l : Launch} {D : va_G} {cI cC cZ cN : ClassId} {ts : Nat → Nat} {x0 m0 : Nat} {wX wM : va_W} (hI : XInv cI cC cZ cN x0 m0 wX wM) (hDX : va_D (fun _ => True) wX) (hDM : va_D (fun _ => True) wM) : stp l D (ly_tys cI cC cZ cN) ts yX6_bell wsX6_bell yX7_bell wsX7_bell [] x0 m0 wX wM (XInv cI cC cZ cN x0 m0) := by
  obtain ⟨t, a, a2, b, ba, ia, lt, nx, kn, s0, tr, an, xv, iv, pv, tx, nm, rr, g, g2, d, ho, le, sd, sh, sl, hv, kp, jd, jh, jl, wf, lf, rf, oA, M, mi, fa, mt, rfl, rfl, rfl, rfl, R⟩ := id hI
  obtain ⟨R1, R2, R3, R4, ⟨G, G2⟩, P, N, T, B, ⟨K1, U⟩, I, H, W1, W2⟩ := id R
  have hn : g 0 0 ≤ 9 := G.1.1
  have hm : g 0 1 ≤ 6 := G.1.2
  have hn9 : M 9 0 ≤ 9 := by rw [P.1]; exact hn
  have hm9 : M 9 1 ≤ 6 := by rw [P.2.1]; exact hm
  subst K1
  have UD := uR_deed hn U N
  have hu9 : mi 24 ≤ 10 := U.2.1
  have n0 := N.1
  by_cases hz : d 0 = 999
  · exact stp_rd (c_X6_bell_s l D cI cC cZ cN t a2 lt tr a g b d ho le hz) (c_X7_bell_s l D cI cC cZ cN oA M mi fa mt (by rw [← n0.1, hz]; rfl) (hDM.sub [0, 12, 15] (by decide) rfl)) (by decide) (by decide) hDX hDM [0, 1, 2, 3, 4, 5, 6, 7, 8, 9, 10, 11, 12, 13] [0, 12, 15] rfl rfl rfl hI
  · have hz9 : ¬ nI (M 20 0) = 999 := fun z => hz (by rw [← n0.1] at z; exact (nI_eq (a := d 0) (b := 999) (by omega) (by omega)).mp z)
    have BE := bell_eq G N
    exact stp_mk (ζ := Unit) (η := Unit) (dw_up (nx2 := (if (10 : Int32) ≤ nI (nx + 1) then 0 else nx + 1)) (kn2 := (min 10 (mi 24 + 1))) (d2 := (va_up (va_up d 0 (d 0 + 1)) 2 (min 9999 (d 2 + m_lent M 9)))) (ho2 := ho) (le2 := le) U.1 (c_X6_bell_g l D cI cC cZ cN t a2 lt tr a g b d ho le ba nx (mi 24) (sd nx) (sh nx) (sl nx) U.1 U.2.1 (m_lent M 9) hn (by omega) N.2.2.1.2 BE.2 BE.1 (dw_D U.1 hDX)) (by decide) hDX) (mwr (wM2 := mw cI cZ oA (va_up (va_up M 20 (va_up (va_up (M 20) 21 (if (nI (M 20 21 + m_lent M 9)) ≤ 9999 then M 20 21 + m_lent M 9 else 9999)) 0 ((va_up (M 20) 21 (if (nI (M 20 21 + m_lent M 9)) ≤ 9999 then M 20 21 + m_lent M 9 else 9999)) 0 + 1))) 23 (m_nU M (mi 24))) (va_up mi 24 (m_nK (mi 24))) fa mt) (c_X7_bell_g l D cI cC cZ cN oA M mi fa mt hz9 hu9 (hDM.sub [0, 12, 15] (by decide) rfl)) (by decide) hDM [0, 12, 15] [1, 2, 3, 4, 5, 6, 7, 8, 9, 10, 11, 13, 14, 16, 17, 18, 19, 20, 21] 22 rfl rfl (hr2 (n := 22) rfl (by decide) rfl) rfl (by decide) (by decide) mw_adq) rfl (fun _ _ => ⟨t, a, a2, b, ba, ia, lt, (if (10 : Int32) ≤ nI (nx + 1) then 0 else nx + 1), (min 10 (mi 24 + 1)), s0, tr, an, xv, iv, pv, tx, nm, rr, g, g2, (va_up (va_up d 0 (d 0 + 1)) 2 (min 9999 (d 2 + m_lent M 9))), ho, le, (va_up sd nx d), (va_up sh nx ho), (va_up sl nx le), hv, kp, jd, jh, jl, wf, lf, rf, oA, (va_up (va_up M 20 (va_up (va_up (M 20) 21 (if (nI (M 20 21 + m_lent M 9)) ≤ 9999 then M 20 21 + m_lent M 9 else 9999)) 0 ((va_up (M 20) 21 (if (nI (M 20 21 + m_lent M 9)) ≤ 9999 then M 20 21 + m_lent M 9 else 9999)) 0 + 1))) 23 (m_nU M (mi 24))), (va_up mi 24 (m_nK (mi 24))), fa, mt, rfl, rfl, rfl, rfl, ⟨R1, R2, R3, R4, ⟨G, G2⟩, P, n_bell hn N (by omega) BE.2, tR_congr T rfl rfl rfl, B, ⟨UD.2, UD.1⟩, I, hR_congr H rfl rfl rfl rfl rfl, W1, W2⟩⟩)
