/-! what may be lent, of both -/
section LQ
variable {g M : Nat → Nat → Nat} {d ho le : Nat → Nat} {lf rf : Nat → Int32}
theorem kf_no (G : gOK g) (P : pR g M) (N : nR g d ho le (M 20)) (hlf : ∀ q, q < g 0 1 → lf q = w_off g d ho le q 0) (hrf : ∀ q, q < g 0 1 → rf q = w_off g d ho le q 1) {sS : Nat} (hs : sS < 2 ^ g 0 1) {lz : Nat → Nat} {w1 w2 : Nat} (hw : nI (m_me (m_M M (2 ^ g 0 0) lz sS w1 w2)) = 1000000) (x : Int32) : w_kfor (nI (w_wv g lf rf sS (g 0 1) 0 0)) sS x = -9 := by
  have hle := mLp_le G P (lb_S sS) (g 0 1) 0 0 (Nat.two_pow_pos _)
  rw [me_eq G P] at hw
  have h := (nI_eq (a := mLp M (lb_S sS) (g 0 1) 0 0) (b := 1000000) (by omega) (by omega)).mp hw
  unfold w_kfor
  rw [if_neg (lend_no G P N hlf hrf hs (by omega))]
theorem kf_yes (G : gOK g) (P : pR g M) (N : nR g d ho le (M 20)) (hlf : ∀ q, q < g 0 1 → lf q = w_off g d ho le q 0) (hrf : ∀ q, q < g 0 1 → rf q = w_off g d ho le q 1) {sS : Nat} (hs : sS < 2 ^ g 0 1) {lz : Nat → Nat} {w1 w2 u1 u2 pr : Nat} (hw : ¬ nI (m_me (m_M M (2 ^ g 0 0) lz sS w1 w2)) = 1000000) (hp : pr < g 0 1) (hb : ¬ jbit (nI sS) (nI pr) = 0) : w_kfor (nI (w_wv g lf rf sS (g 0 1) 0 0)) sS (w_kc0 g lf rf sS pr (g 0 1) 0 0) = lb_an (m_kf M sS (m_M M (2 ^ g 0 0) lz sS w1 w2).2.1 u1 u2 (pr + 1)).2.1 ∧ w_kfor (nI (w_wv g lf rf sS (g 0 1) 0 0)) sS (w_kc1 g lf rf sS pr (g 0 1) 0 0) = lb_an (m_kf M sS (m_M M (2 ^ g 0 0) lz sS w1 w2).2.1 u1 u2 (pr + 1)).2.2 := by
  have hK := G.1
  have h64 := (pow6 hK.2).2
  have hle := mLp_le G P (lb_S sS) (g 0 1) 0 0 (Nat.two_pow_pos _)
  rw [me_eq G P] at hw
  have h : mLp M (lb_S sS) (g 0 1) 0 0 < 1000000 := by
    by_cases c : mLp M (lb_S sS) (g 0 1) 0 0 = 1000000
    · exact absurd (show nI (mLp M (lb_S sS) (g 0 1) 0 0) = 1000000 by rw [c]; rfl) hw
    · omega
  have hpb : sS.testBit pr = true := by
    by_cases c : sS.testBit pr = true
    · exact c
    · exact absurd (show jbit (nI sS) (nI pr) = 0 by rw [jb_tb sS (by omega) pr (by omega), if_neg c]) hb
  unfold w_kfor
  rw [if_pos (lend_yes G P N hlf hrf hs h).1, if_pos (lend_yes G P N hlf hrf hs h).1]
  exact kc_eq G P N hlf hrf hp hpb (M_ok G P sS lz w1 w2) (g 0 1) 0 (by omega) (Nat.zero_le _) (Nat.two_pow_pos _) h
end LQ
theorem m_mi_le (M : Nat → Nat → Nat) (N1 sz o3 o4 : Nat) (o0 : Nat → Nat) (o1 o2 : Nat) (hn : M 9 0 ≤ 9) (h1 : o1 ≤ 9) (h2 : o2 ≤ 9) : ∀ i, (m_mi M N1 sz o3 o4 o0 o1 o2 i).2.2.2.1 ≤ 9 ∧ (m_mi M N1 sz o3 o4 o0 o1 o2 i).2.2.2.2 ≤ 9
  | 0 => ⟨h1, h2⟩
  | i + 1 => by
    have ih := m_mi_le M N1 sz o3 o4 o0 o1 o2 hn h1 h2 i
    show (m_miB M N1 sz o3 o4 o0 o1 o2 i _ _ _ _ _).2.2.2.1 ≤ 9 ∧ (m_miB M N1 sz o3 o4 o0 o1 o2 i _ _ _ _ _).2.2.2.2 ≤ 9
    unfold m_miB
    split
    · split
      · exact m_M_le hn ih.1 ih.2
      · exact m_M_le hn ih.1 ih.2
    · split
      · exact ih
      · exact ih
theorem m_mo_le (M : Nat → Nat → Nat) (N1 N6 : Nat) (hn : M 9 0 ≤ 9) : ∀ u v0 v1 v2 (lz : Nat → Nat) w1 w2, w1 ≤ 9 → w2 ≤ 9 → (m_mo M N1 N6 u v0 v1 v2 lz w1 w2).2.2.2.2.1 ≤ 9 ∧ (m_mo M N1 N6 u v0 v1 v2 lz w1 w2).2.2.2.2.2 ≤ 9
  | 0, _, _, _, _, _, _, h1, h2 => ⟨h1, h2⟩
  | u + 1, v0, v1, v2, lz, w1, w2, h1, h2 => by
    have h := m_mi_le M N1 (v0 - 1) v1 v2 lz w1 w2 hn h1 h2 N6
    rw [m_mo_s]
    split
    · exact ⟨h1, h2⟩
    · split
      · exact m_mo_le M N1 N6 hn u _ _ _ _ _ _ h.1 h.2
      · exact ⟨h1, h2⟩
theorem xwE {l : Launch} {D : va_G} {tys : List (ClassId × FieldType)} {ts : Nat → Nat} {yX : MethodName} {cX : List Cond} {As : List Value} {x0 : Nat} {wX : va_W} {rv : Value} {h1 : Nat} {wc : va_W} {wc2 wX2 : (Nat → Int32) → va_W} (hX : Met l yX cX (ly_rm h1) (ly_Pre D tys wc (.ref x0 :: As)) (ly_Q D wc (fun r w => ∃ f : Nat → Int32, True ∧ r = some rv ∧ w = wc2 f)) 0 0 (ly_in wc)) (l1 : h1 ≤ 40) (hDX : va_D (fun _ => True) wX) (isC isR : List Nat) (n : Nat) (hC : isC.map (fun i => wX[i]?) = wc.map some) (hC2 : ∀ f, isC.map (fun i => (wX2 f)[i]?) = (wc2 f).map some) (hR2 : ∀ f, isR.map (fun i => (wX2 f)[i]?) = isR.map (fun i => wX[i]?)) (hl : ∀ f, (wX2 f).length = n) (hcov : (List.range n).all (fun i => isC.contains i || isR.contains i) = true) (hnd : va_nd (isR ++ isC) = true) (ha : ∀ f, (wX2 f).map (·.1) = wX.map (·.1)) : Met l yX cX (ly_rm 40) (xPre D tys wX (.ref x0 :: As) ts) (ly_Q D wX (fun r w => r = some rv ∧ ∃ z : Nat → Int32, w = wX2 z)) 0 0 (ly_in wX) :=
  ly_wZ (ζ := Nat → Int32) (wc2 := wc2) (ws2 := wX2) hX l1 (xp isC hC) hDX isC isR n hC (fun r w ⟨f, _, h2, h3⟩ => ⟨h2, f, h3⟩) hC2 hR2 hl hcov hnd ha
