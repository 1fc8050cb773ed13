theorem lw_end {L i : Nat} (hL : L ≤ 448) (hi : i ≤ 460) (h : ¬ Int32.ofNat L - 7 < nI i) : i + 7 ≤ L := by
  rcases Nat.lt_or_ge L 7 with h7 | h7
  · refine absurd ?_ h
    have h1 : nI L - nI 7 < 0 := pk_sneg (by omega) h7
    have h2 : ¬ nI i < 0 := nI_pos (by omega)
    rw [Int32.lt_iff_toInt_lt] at h1 h2 ⊢
    have e : (Int32.ofNat L - 7) = nI L - nI 7 := rfl
    rw [e]
    omega
  · have e : (Int32.ofNat L - 7) = nI (L - 7) := pk_sub (a := L) (b := 7) h7
    rw [e] at h
    rcases Nat.lt_or_ge (L - 7) i with h8 | h8
    · exact absurd (nI_lt h8 (by omega)) h
    · omega
section LWL
variable {p : Program} {l : Launch} {e : Env} {s : State} {m : MethodId} {below : List Frame} {meth : Method} {c : Code} {D : va_G} {cI cC cZ cN : ClassId} {ts : Nat → Nat} {b L x0 m0 : Nat} {xs : Nat → Int32}
set_option maxHeartbeats 4000000 in
set_option maxRecDepth 100000 in
/-- THE LAW'S LOOP -/
theorem law_loop (hC : lw_C p s m meth c b L xs D cI cC cZ cN ts) : ∀ (n i : Nat), i ≤ 460 → 460 < i + 7 * n → ∀ (H : Heap) (locs : List Loc), lw_I D cI cC cZ cN x0 m0 s H locs → ∀ (ls : Array Slot), lv_has ls 4 [(0, .ref b), (1, .ref x0), (2, .ref m0), (3, .int (nI i))] → W p l e room_1 s m #[Value.ref b] below meth c H locs 94 8033 (lw_Z below #[Value.ref b] s) (F0 m 18 ls []) := by
  obtain ⟨⟨hx, hb, hr, hml, hown, -, hX, hbl, hlocks, hgv⟩, hL, -⟩ := id hC
  have hbA : ¬ lw_A s b := Nat.not_le.mpr hbl
  intro n
  induction n with
  | zero => intro i h1 h2; exact absurd h2 (by omega)
  | succ n ih =>
    intro i h1 h2 H locs hJ ls hl
    obtain ⟨wX, wM, hI, hPX, hPM, hDX, hDM, hdis, hS⟩ := id hJ
    refine lv_iload_n hx hb dL_law_18 rfl (lv_at hl 3 rfl) ?_
    refine lv_aload_n hx hb dL_law_19 rfl (lv_at hl 0 rfl) ?_
    refine va_slen hx hb hX hbl hbA hS dL_law_20 ?_
    refine lv_bipush (v := 7) hx hb dL_law_21 (by decide) ?_
    refine lv_isub hx hb dL_law_23 ?_
    refine lv_icmp_gt (tgt := 980) hx hb dL_law_24 (by decide) (fun c_1 => ?_) (fun c_1 => ?_)
    · refine lv_iconst (v := 1) hx hb dL_law_980 (by decide) ?_
      refine va_forget (fun q hq => hS.2.2 q hq) ?_
      refine W.widen (k := 600000) (n := 7302250) (by omega) (by omega) ?_
      exact lw_ret hx hb hr hlocks dL_law_981
    · have hi : i + 7 ≤ L := lw_end hL h1 c_1
      have kk : ∀ (H : Heap) (locs : List Loc), lw_I D cI cC cZ cN x0 m0 s H locs → W p l e room_1 s m #[Value.ref b] below meth c H locs 94 8033 (lw_Z below #[Value.ref b] s) (F0 m 974 ls []) := by
        intro H locs hJ
        refine lv_iinc (v := nI (i + 7)) (lv' := [(3, .int (nI (i + 7))), (0, .ref b), (1, .ref x0), (2, .ref m0)]) hx hb dL_law_974 hl (k := 3) rfl (ly_add (b := 7) rfl rfl) (by decide) rfl (fun ls hl => ?_)
        refine lv_goto (tgt := 18) hx hb dL_law_977 (by decide) ?_
        exact ih (i + 7) (by omega) (by omega) H locs hJ ls (lv_sub hl [1, 2, 3, 0] rfl)
      refine lv_aload_n hx hb dL_law_27 rfl (lv_at hl 0 rfl) ?_
      refine lv_iload_n hx hb dL_law_28 rfl (lv_at hl 3 rfl) ?_
      refine va_sld hx hb hX hbl hbA hS (vp_in_nI (by omega) (by omega)) dL_law_29 ?_
      refine lv_bipush (v := 31) hx hb dL_law_30 (by decide) ?_
      refine lv_iand hx hb dL_law_32 ?_
      have e31 := pk_and (xs (nI i).toNatClampNeg) (m := 31) 5 (by decide)
      have h31 : (xs (nI i).toNatClampNeg).toBitVec.toNat % 2 ^ 5 < 32 := Nat.mod_lt _ (by decide)
      refine ly_eqi e31 ?_
      generalize (xs (nI i).toNatClampNeg).toBitVec.toNat % 2 ^ 5 = r at h31
      rcases (show r = 0 ∨ r = 1 ∨ r = 2 ∨ r = 3 ∨ r = 4 ∨ r = 5 ∨ r = 6 ∨ r = 7 ∨ r = 8 ∨ r = 9 ∨ r = 10 ∨ r = 11 ∨ r = 12 ∨ r = 13 ∨ r = 14 ∨ r = 15 ∨ r = 16 ∨ r = 17 ∨ r = 18 ∨ r = 19 ∨ r = 20 ∨ r = 21 ∨ r = 22 ∨ r = 23 ∨ r = 24 ∨ r = 25 ∨ r = 26 ∨ r = 27 ∨ r = 28 ∨ r = 29 ∨ r = 30 ∨ r = 31 by omega) with rfl | rfl | rfl | rfl | rfl | rfl | rfl | rfl | rfl | rfl | rfl | rfl | rfl | rfl | rfl | rfl | rfl | rfl | rfl | rfl | rfl | rfl | rfl | rfl | rfl | rfl | rfl | rfl | rfl | rfl | rfl | rfl
      · refine lv_tableIn (off := 131) (tgt := 164) hx hb dL_law_33 (by decide) (by decide) (by decide) (by decide) ?_
        exact lwc_type hC hi hJ hl kk
      · refine lv_tableIn (off := 154) (tgt := 187) hx hb dL_law_33 (by decide) (by decide) (by decide) (by decide) ?_
        exact lwc_clear hC hi hJ hl kk
      · refine lv_tableIn (off := 167) (tgt := 200) hx hb dL_law_33 (by decide) (by decide) (by decide) (by decide) ?_
        exact lwc_parish hC hi hJ hl kk
      · refine lv_tableIn (off := 180) (tgt := 213) hx hb dL_law_33 (by decide) (by decide) (by decide) (by decide) ?_
        exact lwc_knee hC hi hJ hl kk
      · refine lv_tableIn (off := 213) (tgt := 246) hx hb dL_law_33 (by decide) (by decide) (by decide) (by decide) ?_
        exact lwc_person hC hi hJ hl kk
      · refine lv_tableIn (off := 246) (tgt := 279) hx hb dL_law_33 (by decide) (by decide) (by decide) (by decide) ?_
        exact lwc_farm hC hi hJ hl kk
      · refine lv_tableIn (off := 279) (tgt := 312) hx hb dL_law_33 (by decide) (by decide) (by decide) (by decide) ?_
        exact lwc_now hC hi hJ hl kk
      · refine lv_tableIn (off := 302) (tgt := 335) hx hb dL_law_33 (by decide) (by decide) (by decide) (by decide) ?_
        exact lwc_lends hC hi hJ hl kk
      · refine lv_tableIn (off := 335) (tgt := 368) hx hb dL_law_33 (by decide) (by decide) (by decide) (by decide) ?_
        exact lwc_walks hC hi hJ hl kk
      · refine lv_tableIn (off := 378) (tgt := 411) hx hb dL_law_33 (by decide) (by decide) (by decide) (by decide) ?_
        exact lwc_brings hC hi hJ hl kk
      · refine lv_tableIn (off := 401) (tgt := 434) hx hb dL_law_33 (by decide) (by decide) (by decide) (by decide) ?_
        exact lwc_pledges hC hi hJ hl kk
      · refine lv_tableIn (off := 434) (tgt := 467) hx hb dL_law_33 (by decide) (by decide) (by decide) (by decide) ?_
        exact lwc_bell hC hi hJ hl kk
      · refine lv_tableIn (off := 447) (tgt := 480) hx hb dL_law_33 (by decide) (by decide) (by decide) (by decide) ?_
        exact lwc_undo hC hi hJ hl kk
      · refine lv_tableIn (off := 460) (tgt := 493) hx hb dL_law_33 (by decide) (by decide) (by decide) (by decide) ?_
        exact lwc_canGo hC hi hJ hl kk
      · refine lv_tableIn (off := 493) (tgt := 526) hx hb dL_law_33 (by decide) (by decide) (by decide) (by decide) ?_
        exact lwc_lending hC hi hJ hl kk
      · refine lv_tableIn (off := 516) (tgt := 549) hx hb dL_law_33 (by decide) (by decide) (by decide) (by decide) ?_
        exact lwc_kneeFor hC hi hJ hl kk
      · refine lv_tableIn (off := 559) (tgt := 592) hx hb dL_law_33 (by decide) (by decide) (by decide) (by decide) ?_
        exact lwc_most hC hi hJ hl kk
      · refine lv_tableIn (off := 582) (tgt := 615) hx hb dL_law_33 (by decide) (by decide) (by decide) (by decide) ?_
        exact lwc_span hC hi hJ hl kk
      · refine lv_tableIn (off := 615) (tgt := 648) hx hb dL_law_33 (by decide) (by decide) (by decide) (by decide) ?_
        exact lwc_gives hC hi hJ hl kk
      · refine lv_tableIn (off := 690) (tgt := 723) hx hb dL_law_33 (by decide) (by decide) (by decide) (by decide) ?_
        exact lwc_tells hC hi hJ hl kk
      · refine lv_tableIn (off := 733) (tgt := 766) hx hb dL_law_33 (by decide) (by decide) (by decide) (by decide) ?_
        exact lwc_downhill hC hi hJ hl kk
      · refine lv_tableIn (off := 756) (tgt := 789) hx hb dL_law_33 (by decide) (by decide) (by decide) (by decide) ?_
        exact lwc_felt hC hi hJ hl kk
      · refine lv_tableIn (off := 789) (tgt := 822) hx hb dL_law_33 (by decide) (by decide) (by decide) (by decide) ?_
        exact lwc_rain hC hi hJ hl kk
      · refine lv_tableIn (off := 812) (tgt := 845) hx hb dL_law_33 (by decide) (by decide) (by decide) (by decide) ?_
        exact lwc_forget hC hi hJ hl kk
      · refine lv_tableIn (off := 825) (tgt := 858) hx hb dL_law_33 (by decide) (by decide) (by decide) (by decide) ?_
        exact lwc_rate hC hi hJ hl kk
      · refine lv_tableIn (off := 858) (tgt := 891) hx hb dL_law_33 (by decide) (by decide) (by decide) (by decide) ?_
        exact lwc_keep hC hi hJ hl kk
      · refine lv_tableIn (off := 881) (tgt := 914) hx hb dL_law_33 (by decide) (by decide) (by decide) (by decide) ?_
        exact lwc_back hC hi hJ hl kk
      · refine lv_tableIn (off := 904) (tgt := 937) hx hb dL_law_33 (by decide) (by decide) (by decide) (by decide) ?_
        exact lwc_count hC hi hJ hl kk
      · refine lv_tableIn (off := 927) (tgt := 960) hx hb dL_law_33 (by decide) (by decide) (by decide) (by decide) ?_
        exact lwc_trace hC hi hJ hl kk
      · refine lv_tableOut (tgt := 974) hx hb dL_law_33 (by decide) (by decide) ?_
        exact kk H locs hJ
      · refine lv_tableOut (tgt := 974) hx hb dL_law_33 (by decide) (by decide) ?_
        exact kk H locs hJ
      · refine lv_tableOut (tgt := 974) hx hb dL_law_33 (by decide) (by decide) ?_
        exact kk H locs hJ
end LWL
