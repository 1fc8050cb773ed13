/-! a parish, of both -/
def m_pF (M M2 : Nat → Nat → Nat) : Nat → Nat → Nat := (va_up (va_up (va_up (va_up (va_up (va_up (va_up (va_up (va_up M 9 (M2 9)) 10 (M2 10)) 11 (M2 11)) 12 (M2 12)) 13 (M2 13)) 14 (M2 14)) 15 (M2 15)) 16 (M2 16)) 17 (M2 17))
def m_pG (M S : Nat → Nat → Nat) : Nat → Nat → Nat := (va_up (va_up (va_up (va_up (va_up (va_up (va_up (va_up (va_up (va_up (va_up (va_up M 9 (S 9)) 10 (S 10)) 11 (S 11)) 12 (S 12)) 13 (S 13)) 14 (S 14)) 15 (S 15)) 16 (S 16)) 17 (S 17)) 18 (S 18)) 20 (S 20)) 22 (S 22))
def m_PP (M : Nat → Nat → Nat) (mi : Nat → Nat) : Nat × Nat × Nat × Nat × Nat × Int32 × (Nat → Nat → Nat) := m_pl (M 2) (mi 3) 182 0 ((m_T (M 2) (mi 3) 0 (mi 7)).1) ((m_T (M 2) (mi 3) 0 (mi 7)).2.1) ((m_T (M 2) (mi 3) 0 (mi 7)).2.2.1) ((m_T (M 2) (mi 3) 0 (mi 7)).2.2.2) (-1) (va_up (va_up (va_up M 9 (va_up (va_up (M 9) 2 0) 3 0)) 16 (va_up (va_up (va_up (va_up (va_up (M 16) 5 0) 6 0) 7 0) 8 0) 9 0)) 17 (va_up (va_up (va_up (va_up (va_up (M 17) 5 1) 6 1) 7 1) 8 1) 9 1))
theorem par_rd {lt vl : Nat} {tx nm mi : Nat → Nat} {g2 M : Nat → Nat → Nat} (h3 : lt = mi 3) (h2 : tx = M 2) (htx : ∀ j, tx j < 256) (hln : lt ≤ 180) (hvl : vl ≤ 100) (h9 : mi 7 ≤ 999) (B : ∀ j, M 10 j ≤ 1 ∧ M 11 j ≤ 4) :
    ((rp tx lt vl nm g2).1 = 0 ∧ m_well (m_PP M mi).2.2.2.2.2.1 = 0 ∧ (m_PP M mi).2.2.2.2.2.1 = nI (rp tx lt vl nm g2).2.2.1.2.2.2 ∧ rd_B M (m_PP M mi).2.2.2.2.2.2)
    ∨ (¬ (rp tx lt vl nm g2).1 = 0 ∧ ¬ m_well (m_PP M mi).2.2.2.2.2.1 = 0 ∧ (m_PP M mi).1 = (rp tx lt vl nm g2).2.1 ∧ rd_P (rp tx lt vl nm g2).2.2.2.2 (m_PP M mi).2.2.2.2.2.2 ∧ rd_B M (m_PP M mi).2.2.2.2.2.2) := by
  subst h3
  subst h2
  refine rd_loop htx hln M 181 _ _ _ _ 0 nm (pl_desert g2) _ _ _ _ _ (rd_T htx hln (Nat.zero_le _) _ _) (tk_T_le _ _ _ _ htx hln (Nat.zero_le _)) (tk_T_vl _ _ _ _ htx hln (Nat.zero_le _) hvl) (rd_st htx hln (Nat.zero_le _) _) (m_inv0 htx hln h9) rfl ⟨rfl, rfl, fun k hk => absurd hk (Nat.not_lt_zero k), fun k hk => absurd hk (Nat.not_lt_zero k), fun f hf => ?_⟩ ⟨⟨rfl, rfl⟩, fun k _ => ⟨rfl, rfl, rfl⟩, fun q _ => ⟨rfl, rfl, rfl⟩, fun f hf => ?_, B⟩
  · rcases (show f = 0 ∨ f = 1 ∨ f = 2 ∨ f = 3 ∨ f = 4 by omega) with rfl | rfl | rfl | rfl | rfl <;> exact ⟨rfl, rfl⟩
  · rcases (show f = 0 ∨ f = 1 ∨ f = 2 ∨ f = 3 ∨ f = 4 by omega) with rfl | rfl | rfl | rfl | rfl <;> exact ⟨rfl, rfl⟩
theorem par_v {M : Nat → Nat → Nat} {mi : Nat → Nat} (htx : ∀ j, M 2 j < 256) (hln : mi 3 ≤ 180) (h9 : mi 7 ≤ 999) : (m_PP M mi).2.2.2.2.1 ≤ 999 := m_pl_v _ _ htx hln _ _ _ _ _ _ _ _ (m_inv0 htx hln h9)
theorem m_kn_le {M M2 : Nat → Nat → Nat} {n : Nat} (h : ∀ j, j < n → M 11 j = M2 11 j) (f : Nat) : ∀ i, i ≤ n → m_kneesOf M f i = m_kneesOf M2 f i
  | 0, _ => rfl
  | i + 1, hi => by
    show m_kneesOfB M f i _ = m_kneesOfB M2 f i _
    unfold m_kneesOfB
    rw [m_kn_le h f i (by omega), h i (by omega)]
theorem tR_rd {g M M2 : Nat → Nat → Nat} {T : Nat} (h : tR g M T) (hB : rd_B M M2) (hn : M 9 0 ≤ 9) : tR g (m_pF M M2) T := by
  refine ⟨h.1, fun f hf => ?_⟩
  have e := h.2 f hf
  have e0 : m_pF M M2 9 0 = M 9 0 := hB.1.1
  have e1 := m_kn_le (M := m_pF M M2) (M2 := M) (n := 9) (fun j hj => (hB.2.1 j hj).2.1) f (M 9 0) hn
  rw [e0, e1]
  exact e
theorem pR_rd {g M M2 : Nat → Nat → Nat} (P : pR g M) (G : gOK g) (hB : rd_B M M2) : pR g M2 := by
  have hn : g 0 0 ≤ 9 := G.1.1
  have hm : g 0 1 ≤ 6 := G.1.2
  refine ⟨hB.1.1.trans P.1, hB.1.2.trans P.2.1, fun k hk => ?_, fun q hq => ?_, fun f hf => ?_⟩
  · have b := hB.2.1 k (by omega)
    have p := P.2.2.1 k hk
    exact ⟨b.1.trans p.1, b.2.1.trans p.2.1, b.2.2.trans p.2.2⟩
  · have b := hB.2.2.1 q (by omega)
    have p := P.2.2.2.1 q hq
    exact ⟨b.1.trans p.1, b.2.1.trans p.2.1, b.2.2.trans p.2.2⟩
  · have b := hB.2.2.2.1 f hf
    have p := P.2.2.2.2 f hf
    exact ⟨b.1.trans p.1, b.2.trans p.2⟩
theorem st_Z.narrow {ts : Nat → Nat} {A B : Nat → Prop} {s : State} (h : st_Z ts A s) (hAB : ∀ q, B q → A q) : st_Z ts B s := (h.at va_S.rf hAB).2 s rfl (Vm.Alike.refl _)
theorem xpX {D : va_G} {tys : List (ClassId × FieldType)} {ts : Nat → Nat} {ws wc : va_W} {av : List Value} (isC : List Nat) (hC : isC.map (fun i => ws[i]?) = wc.map some) : ∀ a s, xPre D tys ws av ts a s → ly_PreX D tys wc av (st_Z ts (ly_in wc)) a s ∧ va_P D vwCl ws s.heap := fun _ _ hp => ⟨⟨⟨hp.1.1, hp.1.2.1.sub isC (ly_fm hC), hp.1.2.2.1, hp.1.2.2.2⟩, hp.2.narrow (fun q ⟨k, e, hq⟩ => by
  obtain ⟨i, -, h3⟩ := ly_of_map hC hq
  exact ⟨i, e, h3⟩)⟩, hp.1.2.1⟩
theorem xwX {l : Launch} {D : va_G} {tys : List (ClassId × FieldType)} {ts : Nat → Nat} {yX : MethodName} {cX : List Cond} {As : List Value} {x0 : Nat} {wX : va_W} {rv : Value} {h1 : Nat} {wc wc2 wX2 : va_W} (hX : Met l yX cX (ly_rm h1) (ly_PreX D tys wc (.ref x0 :: As) (st_Z ts (ly_in wc))) (ly_Q D wc (fun r w => r = some rv ∧ w = wc2)) 0 0 (ly_in wc)) (l1 : h1 ≤ 40) (hDX : va_D (fun _ => True) wX) (isC isR : List Nat) (n : Nat) (hC : isC.map (fun i => wX[i]?) = wc.map some) (hC2 : isC.map (fun i => wX2[i]?) = wc2.map some) (hR2 : isR.map (fun i => wX2[i]?) = isR.map (fun i => wX[i]?)) (hl : wX2.length = n) (hcov : (List.range n).all (fun i => isC.contains i || isR.contains i) = true) (hnd : va_nd (isR ++ isC) = true) (ha : wX2.map (·.1) = wX.map (·.1)) : Met l yX cX (ly_rm 40) (xPre D tys wX (.ref x0 :: As) ts) (ly_Q D wX (fun r w => r = some rv ∧ ∃ z : Unit, w = (fun _ => wX2) z)) 0 0 (ly_in wX) :=
  ly_wZ (ζ := Unit) (wc2 := fun _ => wc2) (ws2 := fun _ => wX2) hX l1 (xpX isC hC) hDX isC isR n hC (fun r w hp => ⟨hp.1, (), hp.2⟩) (fun _ => hC2) (fun _ => hR2) (fun _ => hl) hcov hnd (fun _ => ha)
theorem stp_mkL {l : Launch} {D : va_G} {tys : List (ClassId × FieldType)} {ts : Nat → Nat} {yX yM : MethodName} {cX cM : List Cond} {As : List Value} {x0 m0 : Nat} {wX wM : va_W} {INV : va_W → va_W → Prop} {rx rm : Value} {wX2 wX3 wM2 : va_W} (hX : Met l yX cX (ly_rm 40) (xPre D tys wX (.ref x0 :: As) ts) (ly_Q D wX (fun r w => r = some rx ∧ ∃ z : Unit, w = (fun _ => wX2) z)) 0 0 (ly_in wX)) (hM : Met l yM cM (ly_rm 40) (ly_Pre D tys wM (.ref m0 :: As)) (ly_Q D wM (fun r w => r = some rm ∧ ∃ z : Unit, w = (fun _ => wM2) z)) 0 0 (ly_in wM)) (hv : rx = rm) (hL : lsub wX2 wX3) (hI : INV wX3 wM2) (hi : ∃ x : Int32, rx = .int x := by exact ⟨_, rfl⟩) : stp l D tys ts yX cX yM cM As x0 m0 wX wM INV := by
  subst hv
  exact ⟨rx, _, _, hi, hX, hM, fun w w2 ⟨z, h1⟩ ⟨y, h2⟩ => ⟨wX3, by rw [h1]; exact hL, by rw [h2]; exact hI⟩⟩
set_option maxRecDepth 20000 in
theorem cwZ_sub {cI cC cZ cN : ClassId} {t a a2 b : Nat → Nat} {ba ia : Nat → Nat → Nat} {lt nx kn s0 : Nat} {tr : Int64} {an : Int32} {xv iv pv : Value} {tx nm rr : Nat → Nat} {g g2 : Nat → Nat → Nat} {d ho le : Nat → Nat} {sd sh sl : Nat → Nat → Nat} {hv kp : Nat → Nat} {jd jh jl : Nat → Nat → Nat} {wf lf rf : Nat → Int32} : lsub (cwZ cI cC cZ cN t a a2 b ba ia lt nx kn s0 tr an xv iv pv tx nm rr g g2 d ho le sd sh sl hv kp jd jh jl wf lf rf) (cw cI cC cZ cN t a a2 b ba ia lt nx kn s0 tr an xv iv pv tx nm rr g g2 d ho le sd sh sl hv kp jd jh jl wf lf rf) := lsub.of [0, 20, 21, 22, 23, 24, 25, 26, 27, 28, 29, 11, 12, 13, 14, 15, 16, 17, 18, 19, 1, 2, 3, 4, 5, 6, 7, 8, 9, 10, 30, 31, 32, 33, 34, 35, 36, 37, 38, 39, 40, 41, 42, 43, 44, 45, 46, 47, 48, 49, 50, 51, 52, 53, 54, 55, 56, 57, 58, 59, 60, 61, 62, 63, 64, 65, 66, 67, 68, 69, 70, 71] rfl (by decide)
set_option maxRecDepth 20000 in
theorem cwZ_adq {cI cC cZ cN : ClassId} {t a a2 b : Nat → Nat} {ba ia : Nat → Nat → Nat} {lt nx kn s0 : Nat} {tr : Int64} {an : Int32} {xv iv pv : Value} {tx nm rr : Nat → Nat} {g g2 : Nat → Nat → Nat} {d ho le : Nat → Nat} {sd sh sl : Nat → Nat → Nat} {hv kp : Nat → Nat} {jd jh jl : Nat → Nat → Nat} {wf lf rf : Nat → Int32} {tr' : Int64} {an' : Int32} {xv' iv' pv' : Value} {lt' nx' kn' s0' : Nat} {tx' nm' rr' : Nat → Nat} {g' g2' : Nat → Nat → Nat} {d' ho' le' : Nat → Nat} {sd' sh' sl' : Nat → Nat → Nat} {hv' kp' : Nat → Nat} {jd' jh' jl' : Nat → Nat → Nat} {wf' lf' rf' : Nat → Int32} : (cwZ cI cC cZ cN t a2 a b ba ia lt' nx' kn' s0' tr' an' xv' iv' pv' tx' nm' rr' g' g2' d' ho' le' sd' sh' sl' hv' kp' jd' jh' jl' wf' lf' rf').map (·.1) = (cw cI cC cZ cN t a a2 b ba ia lt nx kn s0 tr an xv iv pv tx nm rr g g2 d ho le sd sh sl hv kp jd jh jl wf lf rf).map (·.1) := Eq.trans (b := [(t 0), (a 0), (a 1), (a 2), (a 3), (a 4), (a 5), (a 6), (a 7), (a 8), (a 9), (b 0), (b 1), (b 2), (t 4), (t 9), (t 5), (t 2), (t 1), (t 3), (a2 0), (a2 1), (a2 2), (a2 3), (a2 4), (a2 5), (a2 6), (a2 7), (a2 8), (a2 9), (t 6), (t 10), (t 11), (t 12), (t 7), (t 8), (ia 0 0), (ia 0 1), (ia 0 2), (ia 1 0), (ia 1 1), (ia 1 2), (ba 0 0), (ba 0 1), (ba 0 2), (ba 1 0), (ba 1 1), (ba 1 2), (ba 2 0), (ba 2 1), (ba 2 2), (ba 3 0), (ba 3 1), (ba 3 2), (ba 4 0), (ba 4 1), (ba 4 2), (ba 5 0), (ba 5 1), (ba 5 2), (ba 6 0), (ba 6 1), (ba 6 2), (ba 7 0), (ba 7 1), (ba 7 2), (ba 8 0), (ba 8 1), (ba 8 2), (ba 9 0), (ba 9 1), (ba 9 2)]) rfl cw_adr.symm
theorem st_c9 {F : Nat → Nat → Nat} {x9 x10 x11 x12 x13 x14 x15 x16 x17 x18 x20 x22 : Nat → Nat} : (va_up (va_up (va_up (va_up (va_up (va_up (va_up (va_up (va_up (va_up (va_up (va_up F 9 x9) 10 x10) 11 x11) 12 x12) 13 x13) 14 x14) 15 x15) 16 x16) 17 x17) 18 x18) 20 x20) 22 x22) 9 = x9 := rfl
theorem st_c10 {F : Nat → Nat → Nat} {x9 x10 x11 x12 x13 x14 x15 x16 x17 x18 x20 x22 : Nat → Nat} : (va_up (va_up (va_up (va_up (va_up (va_up (va_up (va_up (va_up (va_up (va_up (va_up F 9 x9) 10 x10) 11 x11) 12 x12) 13 x13) 14 x14) 15 x15) 16 x16) 17 x17) 18 x18) 20 x20) 22 x22) 10 = x10 := rfl
theorem st_c11 {F : Nat → Nat → Nat} {x9 x10 x11 x12 x13 x14 x15 x16 x17 x18 x20 x22 : Nat → Nat} : (va_up (va_up (va_up (va_up (va_up (va_up (va_up (va_up (va_up (va_up (va_up (va_up F 9 x9) 10 x10) 11 x11) 12 x12) 13 x13) 14 x14) 15 x15) 16 x16) 17 x17) 18 x18) 20 x20) 22 x22) 11 = x11 := rfl
theorem st_c12 {F : Nat → Nat → Nat} {x9 x10 x11 x12 x13 x14 x15 x16 x17 x18 x20 x22 : Nat → Nat} : (va_up (va_up (va_up (va_up (va_up (va_up (va_up (va_up (va_up (va_up (va_up (va_up F 9 x9) 10 x10) 11 x11) 12 x12) 13 x13) 14 x14) 15 x15) 16 x16) 17 x17) 18 x18) 20 x20) 22 x22) 12 = x12 := rfl
theorem st_c13 {F : Nat → Nat → Nat} {x9 x10 x11 x12 x13 x14 x15 x16 x17 x18 x20 x22 : Nat → Nat} : (va_up (va_up (va_up (va_up (va_up (va_up (va_up (va_up (va_up (va_up (va_up (va_up F 9 x9) 10 x10) 11 x11) 12 x12) 13 x13) 14 x14) 15 x15) 16 x16) 17 x17) 18 x18) 20 x20) 22 x22) 13 = x13 := rfl
theorem st_c14 {F : Nat → Nat → Nat} {x9 x10 x11 x12 x13 x14 x15 x16 x17 x18 x20 x22 : Nat → Nat} : (va_up (va_up (va_up (va_up (va_up (va_up (va_up (va_up (va_up (va_up (va_up (va_up F 9 x9) 10 x10) 11 x11) 12 x12) 13 x13) 14 x14) 15 x15) 16 x16) 17 x17) 18 x18) 20 x20) 22 x22) 14 = x14 := rfl
theorem st_c15 {F : Nat → Nat → Nat} {x9 x10 x11 x12 x13 x14 x15 x16 x17 x18 x20 x22 : Nat → Nat} : (va_up (va_up (va_up (va_up (va_up (va_up (va_up (va_up (va_up (va_up (va_up (va_up F 9 x9) 10 x10) 11 x11) 12 x12) 13 x13) 14 x14) 15 x15) 16 x16) 17 x17) 18 x18) 20 x20) 22 x22) 15 = x15 := rfl
theorem st_c16 {F : Nat → Nat → Nat} {x9 x10 x11 x12 x13 x14 x15 x16 x17 x18 x20 x22 : Nat → Nat} : (va_up (va_up (va_up (va_up (va_up (va_up (va_up (va_up (va_up (va_up (va_up (va_up F 9 x9) 10 x10) 11 x11) 12 x12) 13 x13) 14 x14) 15 x15) 16 x16) 17 x17) 18 x18) 20 x20) 22 x22) 16 = x16 := rfl
theorem st_c17 {F : Nat → Nat → Nat} {x9 x10 x11 x12 x13 x14 x15 x16 x17 x18 x20 x22 : Nat → Nat} : (va_up (va_up (va_up (va_up (va_up (va_up (va_up (va_up (va_up (va_up (va_up (va_up F 9 x9) 10 x10) 11 x11) 12 x12) 13 x13) 14 x14) 15 x15) 16 x16) 17 x17) 18 x18) 20 x20) 22 x22) 17 = x17 := rfl
theorem st_c18 {F : Nat → Nat → Nat} {x9 x10 x11 x12 x13 x14 x15 x16 x17 x18 x20 x22 : Nat → Nat} : (va_up (va_up (va_up (va_up (va_up (va_up (va_up (va_up (va_up (va_up (va_up (va_up F 9 x9) 10 x10) 11 x11) 12 x12) 13 x13) 14 x14) 15 x15) 16 x16) 17 x17) 18 x18) 20 x20) 22 x22) 18 = x18 := rfl
theorem st_c20 {F : Nat → Nat → Nat} {x9 x10 x11 x12 x13 x14 x15 x16 x17 x18 x20 x22 : Nat → Nat} : (va_up (va_up (va_up (va_up (va_up (va_up (va_up (va_up (va_up (va_up (va_up (va_up F 9 x9) 10 x10) 11 x11) 12 x12) 13 x13) 14 x14) 15 x15) 16 x16) 17 x17) 18 x18) 20 x20) 22 x22) 20 = x20 := rfl
theorem st_c22 {F : Nat → Nat → Nat} {x9 x10 x11 x12 x13 x14 x15 x16 x17 x18 x20 x22 : Nat → Nat} : (va_up (va_up (va_up (va_up (va_up (va_up (va_up (va_up (va_up (va_up (va_up (va_up F 9 x9) 10 x10) 11 x11) 12 x12) 13 x13) 14 x14) 15 x15) 16 x16) 17 x17) 18 x18) 20 x20) 22 x22) 22 = x22 := rfl
theorem settled2 {g E : Nat → Nat → Nat} (G : gOK g) (hP : rd_P g E) (hB : ∀ j, E 10 j ≤ 1 ∧ E 11 j ≤ 4) : ∃ (S : Nat → Nat → Nat) (T : Nat), (S 9 = (m_NN E) ∧ S 10 = (m_zk E (m_NN E) 9).1 ∧ S 11 = (m_zk E (m_NN E) 9).2.1 ∧ S 12 = (m_zk E (m_NN E) 9).2.2.1 ∧ S 13 = (m_zp E 6).1 ∧ S 14 = (m_zp E 6).2.1 ∧ S 15 = (m_zp E 6).2.2 ∧ S 16 = (m_zf E 5).1 ∧ S 17 = (m_zf E 5).2 ∧ S 18 = (m_SZ E).2.2 ∧ S 20 = (m_zk E (m_NN E) 9).2.2.2 ∧ S 22 = (va_up (va_up (E 22) 0 0) 1 0) ∧ T = (m_SZ E).2.1) ∧ pR (pl_tab g) S ∧ nR (pl_tab g) (fun _ => 0) (fun _ => 0) (pl_tab g 3) (S 20) ∧ tR (pl_tab g) S T ∧ gOK (pl_tab g) ∧ ∀ j, S 10 j ≤ 1 ∧ S 11 j ≤ 4 :=
  ⟨m_ST E, (m_SZ E).2.1, ⟨st_c9, st_c10, st_c11, st_c12, st_c13, st_c14, st_c15, st_c16, st_c17, st_c18, st_c20, st_c22, rfl⟩, settled G hP hB⟩
