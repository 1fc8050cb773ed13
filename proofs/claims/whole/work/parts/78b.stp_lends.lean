/-! one call -/
set_option maxRecDepth 20000 in
theorem stp_lends {l : Launch} {D : va_G} {cI cC cZ cN : ClassId} {ts : Nat → Nat} {x0 m0 : Nat} {wX wM : va_W} (hI : XInv cI cC cZ cN x0 m0 wX wM) (hDX : va_D (fun _ => True) wX) (hDM : va_D (fun _ => True) wM) (x y : Int32) : stp l D (ly_tys cI cC cZ cN) ts yX6_lends wsX6_lends yX7_lends wsX7_lends [.int x, .int y] x0 m0 wX wM (XInv cI cC cZ cN x0 m0) := by
  obtain ⟨t, a, a2, b, ba, ia, lt, nx, kn, s0, tr, an, xv, iv, pv, tx, nm, rr, g, g2, d, ho, le, sd, sh, sl, hv, kp, jd, jh, jl, wf, lf, rf, oA, M, mi, fa, mt, rfl, rfl, rfl, rfl, R⟩ := id hI
  obtain ⟨R1, R2, R3, R4, ⟨G, G2⟩, P, N, T, B, ⟨K1, U⟩, I, H, W1, W2⟩ := id R
  have hn : g 0 0 ≤ 9 := G.1.1
  have hm : g 0 1 ≤ 6 := G.1.2
  have hn9 : M 9 0 ≤ 9 := by rw [P.1]; exact hn
  have hm9 : M 9 1 ≤ 6 := by rw [P.2.1]; exact hm
  subst K1
  have UD := uR_deed hn U N
  have hu9 : mi 24 ≤ 10 := U.2.1
  by_cases hb : jin x 0 (nI (g 0 0) - 1) = 0 ∨ jin y 0 (nI (g 0 1) - 1) = 0
  · exact stp_rd (c_X6_lends_b l D cI cC cZ cN t a2 lt tr a g b d ho le x y hb) (c_X7_lends_b l D cI cC cZ cN oA M mi fa mt x y (by rw [P.1, P.2.1]; exact hb) (hDM.sub [0, 2, 3, 4, 6, 9, 10, 12, 15] (by decide) rfl)) (by decide) (by decide) hDX hDM [0, 1, 2, 3, 4, 5, 6, 7, 8, 9, 10, 11, 12, 13] [0, 2, 3, 4, 6, 9, 10, 12, 15] rfl rfl rfl hI
  · obtain ⟨k, hk, rfl⟩ := jin_ix_of hn (fun z => hb (Or.inl z))
    have hk9 : k < M 9 0 := by rw [P.1]; exact hk
    obtain ⟨q, hq, rfl⟩ := jin_ix_of (show g 0 1 ≤ 9 by omega) (fun z => hb (Or.inr z))
    have hq9 : q < M 9 1 := by rw [P.2.1]; exact hq
    have hf : ∀ j, j < 9 → g 2 j < 5 := fun j _ => Nat.lt_succ_of_le (G.2 j).2.1
    have hs : ∀ j, j < 9 → g 1 j ≤ 1 := fun j _ => (G.2 j).1
    have ho9 : ∀ j, g 8 j ≤ 9 := fun j => (G.2 j).2.2.2.2.2.2.2
    have hf4 : ∀ j, M 11 j ≤ 4 := fun j => (B j).2
    have hs1 : ∀ j, M 10 j ≤ 1 := fun j => (B j).1
    have em := mayL_eq G P N hk hq
    by_cases hy : s_mayLend g d ho le k q = 0
    · exact stp_rd (c_X6_lends_s l D cI cC cZ cN t a2 lt tr a g b d ho le k q hk hq hm hn hf hs hy) (c_X7_lends_s l D cI cC cZ cN oA M mi fa mt k q hk9 hn9 hq9 hm9 hf4 hs1 (by rw [← em]; exact hy) (hDM.sub [0, 2, 3, 4, 6, 9, 10, 12, 15] (by decide) rfl)) (by decide) (by decide) hDX hDM [0, 1, 2, 3, 4, 5, 6, 7, 8, 9, 10, 11, 12, 13] [0, 2, 3, 4, 6, 9, 10, 12, 15] rfl rfl rfl hI
    · have NL := n_lends G P N hk hq hy
      exact stp_mk (ζ := Unit) (η := Unit) (dw_up (nx2 := (if (10 : Int32) ≤ nI (nx + 1) then 0 else nx + 1)) (kn2 := (min 10 (mi 24 + 1))) (d2 := (va_up d 1 (min 99999 (d 1 + g 8 (g 2 k))))) (ho2 := (va_up ho k (q + 1))) (le2 := le) U.1 (c_X6_lends_g l D cI cC cZ cN t a2 lt tr a g b d ho le ba nx (mi 24) (sd nx) (sh nx) (sl nx) U.1 U.2.1 k q hk hq hm hn hf hs ho9 N.2.1.2 hy (dw_D U.1 hDX)) (by decide) hDX) (mwr (wM2 := mw cI cZ oA (va_up (va_up M 20 (va_up (va_up (M 20) (1 + k) (q + 1)) 20 (if (nI ((va_up (M 20) (1 + k) (q + 1)) 20 + M 17 (M 11 k))) ≤ 99999 then (va_up (M 20) (1 + k) (q + 1)) 20 + M 17 (M 11 k) else 99999))) 23 (m_nU M (mi 24))) (va_up mi 24 (m_nK (mi 24))) fa mt) (c_X7_lends_g l D cI cC cZ cN oA M mi fa mt k q hk9 hn9 hq9 hm9 hf4 hs1 hu9 (by rw [← em]; exact hy) (hDM.sub [0, 2, 3, 4, 6, 9, 10, 12, 15] (by decide) rfl)) (by decide) hDM [0, 2, 3, 4, 6, 9, 10, 12, 15] [1, 5, 7, 8, 11, 13, 14, 16, 17, 18, 19, 20, 21] 22 rfl rfl (hr2 (n := 22) rfl (by decide) rfl) rfl (by decide) (by decide) mw_adq) (by rw [NL.2]) (fun _ _ => ⟨t, a, a2, b, ba, ia, lt, (if (10 : Int32) ≤ nI (nx + 1) then 0 else nx + 1), (min 10 (mi 24 + 1)), s0, tr, an, xv, iv, pv, tx, nm, rr, g, g2, (va_up d 1 (min 99999 (d 1 + g 8 (g 2 k)))), (va_up ho k (q + 1)), le, (va_up sd nx d), (va_up sh nx ho), (va_up sl nx le), hv, kp, jd, jh, jl, wf, lf, rf, oA, (va_up (va_up M 20 (va_up (va_up (M 20) (1 + k) (q + 1)) 20 (if (nI ((va_up (M 20) (1 + k) (q + 1)) 20 + M 17 (M 11 k))) ≤ 99999 then (va_up (M 20) (1 + k) (q + 1)) 20 + M 17 (M 11 k) else 99999))) 23 (m_nU M (mi 24))), (va_up mi 24 (m_nK (mi 24))), fa, mt, rfl, rfl, rfl, rfl, ⟨R1, R2, R3, R4, ⟨G, G2⟩, P, NL.1, tR_congr T rfl rfl rfl, B, ⟨UD.2, UD.1⟩, I, hR_congr H rfl rfl rfl rfl rfl, W1, W2⟩⟩)
