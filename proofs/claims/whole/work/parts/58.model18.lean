def m_feB (M : Nat → Nat → Nat) (f sS : Nat) (i : Nat) (v0 : Nat) : Nat := (if (nI v0) = 0 then (if (nI ((M 11) i)) = (nI f) then (if (nI ((M 20) (1 + i))) ≤ 0 then 0 else (if (((nI sS) >>> (((nI ((M 20) (1 + i))) - 1) &&& 31)) &&& 1) = 1 then 1 else 0)) else 0) else 1)
def m_fe (M : Nat → Nat → Nat) (f sS : Nat) : Nat → Nat
  | 0 => 0
  | i + 1 => m_feB M f sS i (m_fe M f sS i)
theorem m_fe_01 (M : Nat → Nat → Nat) (f sS : Nat) : ∀ i, m_fe M f sS i = 0 ∨ m_fe M f sS i = 1
  | 0 => Or.inl rfl
  | i + 1 => by
    show m_feB M f sS i _ = 0 ∨ m_feB M f sS i _ = 1
    unfold m_feB
    repeat' split
    all_goals first | exact Or.inl rfl | exact Or.inr rfl
set_option maxHeartbeats 4000000 in
set_option maxRecDepth 100000 in
theorem c_X7_feels (l : Launch) (D : va_G) (cI cC cZ cN : ClassId) (oA : Nat → Nat) (M : Nat → Nat → Nat) (mi : Nat → Nat) (fa : Int32) (mt : Int64) (f sS : Nat) (hn : M 9 0 ≤ 9) : Met l yX7_feels wsX7_feels (ly_rm 1) (ly_Pre D (ly_tys cI cC cZ cN) [((oA 0), .inr (7, [.int 0, .long mt, .ref (oA 2), .int (nI (mi 3)), .int (nI (mi 4)), .int (nI (mi 5)), .int (nI (mi 6)), .int (nI (mi 7)), .int fa, .ref (oA 9), .ref (oA 10), .ref (oA 11), .ref (oA 12), .ref (oA 13), .ref (oA 14), .ref (oA 15), .ref (oA 16), .ref (oA 17), .ref (oA 18), .int (nI (mi 19)), .ref (oA 20), .ref (oA 21), .ref (oA 22), .ref (oA 23), .int (nI (mi 24)), .ref (oA 25), .ref (oA 26), .ref (oA 27), .int (nI (mi 28)), .ref (oA 29), .ref (oA 30), .int (nI (mi 31)), .ref (oA 32), .int (nI (mi 33)), .int (nI (mi 34))])), ((oA 9), .inl (cI, 4, .inl (fun j => nI ((M 9) j)))), ((oA 11), .inl (cI, 18, .inl (fun j => nI ((M 11) j)))), ((oA 20), .inl (cI, 23, .inl (fun j => nI ((M 20) j))))] [.ref (oA 0), .int (nI f), .int (nI sS)]) (QcRead (nI (m_fe M f sS (M 9 0)))) 0 0 (fun _ => False) := by
  refine Met.ofW (cc := cX7_feels) (maxL := 5) (ret := (some .boolean)) (by decide) rfl ?_
  intro p e s m args below meth c s₁ B hml hv
  obtain ⟨rfl, hP, hK, hN⟩ := hv
  have hx := B.exec
  have hb := B.bytes
  have hr := B.returns
  have hts := atoms_spec (ws := wsX7_feels) B.pre
  have hown : s.vm.findClass RX7 = some m.cls := findClass_of_methodNamed B.named
  have hlocks := B.notSynchronized
  have hl := lv_entry ([.ref (oA 0), .int (nI f), .int (nI sS)]) (n := 5) (Nat.le_of_ble_eq_true rfl)
  rw [lg_entry_eq]
  generalize (lg_sl ([.ref (oA 0), .int (nI f), .int (nI sS)]) ++ List.replicate (5 - (lg_sl ([.ref (oA 0), .int (nI f), .int (nI sS)])).length) Slot.unset).toArray = ls at hl ⊢
  have hl : lv_has ls 5 [(0, .ref (oA 0)), (1, .int (nI f)), (2, .int (nI sS))] := hl
  generalize ([.ref (oA 0), .int (nI f), .int (nI sS)] : List Value).toArray = av at hts ⊢
  obtain ⟨Qc, hQc⟩ : ∃ Qc, Qc = (QcRead (nI (m_fe M f sS (M 9 0)))) := ⟨_, rfl⟩
  rw [← hQc]
  have f13 := hts (.fieldLink RX7 13 "KneesLentModel" "many" "[I") (by decide +kernel)
  have f19 := hts (.fieldLink RX7 19 "KneesLentModel" "farmOf" "[I") (by decide +kernel)
  have f43 := hts (.fieldLink RX7 43 "KneesLentModel" "s" "[I") (by decide +kernel)
  have hiX7 : ∀ w ∈ u_ws RX7 TX7 35, w ∈ wsX7_feels := by decide +kernel
  refine lv_iconst (v := 0) hx hb dX7_feels_0 (by decide) ?_
  refine lv_istore_n (lv' := [(3, .int 0), (0, .ref (oA 0)), (1, .int (nI f)), (2, .int (nI sS))]) hx hb dX7_feels_1 rfl hl (by decide) rfl (fun ls hl => ?_)
  refine lv_iconst (v := 0) hx hb dX7_feels_2 (by decide) ?_
  refine lv_istore (lv' := [(4, .int 0), (3, .int 0), (0, .ref (oA 0)), (1, .int (nI f)), (2, .int (nI sS))]) hx hb dX7_feels_3 hl (by decide) rfl (fun ls hl => ?_)
  have hloop_5 : ∀ (ua i : Nat), i + ua = M 9 0 → ∀ ls : Array Slot, lv_has ls 5 [(4, .int (nI i)), (3, .int (nI (m_fe M f sS i))), (0, .ref (oA 0)), (1, .int (nI f)), (2, .int (nI sS))] → W p l e (headSpec wsX7_feels (ly_rm 1)).room s m av below meth c s.heap [] 0 0 (MQ below Qc av s 0 0 (fun _ => False)) (F0 m 5 ls []) := by
    intro ua
    induction ua with
    | zero =>
      intro i hi_5 ls hl
      obtain rfl : M 9 0 = i := by omega
      refine lv_iload hx hb dX7_feels_5 (lv_at hl 0 rfl) ?_
      refine lv_aload_n hx hb dX7_feels_7 rfl (lv_at hl 2 rfl) ?_
      refine va_get (D := D) (ci := 7) (v := .ref (oA 9)) (C := RX7) (T := TX7) (N := 35) hx hb hts hiX7 hown hK hP 0 rfl rfl 9 (by decide) f13 (fun _ h9 => h9) rfl dX7_feels_8 ?_
      refine lv_iconst (v := 0) hx hb dX7_feels_11 (by decide) ?_
      refine ly_iald hx hb hK hP 1 0 rfl rfl (k := 0) (by decide) rfl (by omega) dX7_feels_12 ?_
      refine lv_icmp_ge (tgt := 74) hx hb dX7_feels_13 (by decide) (fun _ => ?_) (fun h_9 => absurd (nI_le (Nat.le_refl _) (by omega)) h_9)
      refine lv_iload_n hx hb dX7_feels_74 rfl (lv_at hl 1 rfl) ?_
      exact W.zret (v := (nI (m_fe M f sS (M 9 0)))) hx hb hr (ly_bool (by rcases m_fe_01 M f sS (M 9 0) with h_9 | h_9 <;> rw [h_9] <;> decide)) (fun t_9 ht_9 _ => by rw [hQc]; exact ⟨rfl, ht_9⟩) t_nil dX7_feels_75
    | succ ua ih_5 =>
      intro i hi_5 ls hl
      refine lv_iload hx hb dX7_feels_5 (lv_at hl 0 rfl) ?_
      refine lv_aload_n hx hb dX7_feels_7 rfl (lv_at hl 2 rfl) ?_
      refine va_get (D := D) (ci := 7) (v := .ref (oA 9)) (C := RX7) (T := TX7) (N := 35) hx hb hts hiX7 hown hK hP 0 rfl rfl 9 (by decide) f13 (fun _ h9 => h9) rfl dX7_feels_8 ?_
      refine lv_iconst (v := 0) hx hb dX7_feels_11 (by decide) ?_
      refine ly_iald hx hb hK hP 1 0 rfl rfl (k := 0) (by decide) rfl (by omega) dX7_feels_12 ?_
      refine lv_icmp_ge (tgt := 74) hx hb dX7_feels_13 (by decide) (fun h_9 => absurd h_9 (nI_ge (by omega) (by omega))) (fun _ => ?_)
      refine lv_iload_n hx hb dX7_feels_16 rfl (lv_at hl 1 rfl) ?_
      refine lv_if_ne (tgt := 62) hx hb dX7_feels_17 (by decide) (fun c_1 => ?_) (fun c_1 => ?_)
      · refine lv_iconst (v := 1) hx hb dX7_feels_62 (by decide) ?_
        refine lv_goto (tgt := 67) hx hb dX7_feels_63 (by decide) ?_
        refine lv_istore_n (lv' := [(3, .int 1), (4, .int (nI i)), (0, .ref (oA 0)), (1, .int (nI f)), (2, .int (nI sS))]) hx hb dX7_feels_67 rfl hl (by decide) rfl (fun ls hl => ?_)
        refine lv_iinc (v := (nI (i + 1))) (lv' := [(4, .int (nI (i + 1))), (3, .int 1), (0, .ref (oA 0)), (1, .int (nI f)), (2, .int (nI sS))]) hx hb dX7_feels_68 hl (k := 1) rfl (ly_add rfl rfl) (by decide) rfl (fun ls hl => ?_)
        refine lv_goto (tgt := 5) hx hb dX7_feels_71 (by decide) ?_
        have e_2 : m_fe M f sS (i + 1) = 1 := by show m_feB M f sS i (m_fe M f sS i) = _; unfold m_feB; rw [if_neg c_1]
        exact ih_5 (i + 1) (by omega) ls (by rw [e_2]; exact lv_sub hl [0, 1, 2, 3, 4] rfl)
      · refine lv_aload_n hx hb dX7_feels_20 rfl (lv_at hl 2 rfl) ?_
        refine va_get (D := D) (ci := 7) (v := .ref (oA 11)) (C := RX7) (T := TX7) (N := 35) hx hb hts hiX7 hown hK hP 0 rfl rfl 11 (by decide) f19 (fun _ h9 => h9) rfl dX7_feels_21 ?_
        refine lv_iload hx hb dX7_feels_24 (lv_at hl 0 rfl) ?_
        refine ly_iald hx hb hK hP 2 0 rfl rfl (k := i) (by decide) rfl (by omega) dX7_feels_26 ?_
        refine lv_iload_n hx hb dX7_feels_27 rfl (lv_at hl 3 rfl) ?_
        refine lv_icmp_ne (tgt := 66) hx hb dX7_feels_28 (by decide) (fun c_3 => ?_) (fun c_3 => ?_)
        · refine lv_iconst (v := 0) hx hb dX7_feels_66 (by decide) ?_
          refine lv_istore_n (lv' := [(3, .int 0), (4, .int (nI i)), (0, .ref (oA 0)), (1, .int (nI f)), (2, .int (nI sS))]) hx hb dX7_feels_67 rfl hl (by decide) rfl (fun ls hl => ?_)
          refine lv_iinc (v := (nI (i + 1))) (lv' := [(4, .int (nI (i + 1))), (3, .int 0), (0, .ref (oA 0)), (1, .int (nI f)), (2, .int (nI sS))]) hx hb dX7_feels_68 hl (k := 1) rfl (ly_add rfl rfl) (by decide) rfl (fun ls hl => ?_)
          refine lv_goto (tgt := 5) hx hb dX7_feels_71 (by decide) ?_
          have e_4 : m_fe M f sS (i + 1) = 0 := by show m_feB M f sS i (m_fe M f sS i) = _; unfold m_feB; rw [if_pos c_1, if_neg c_3]
          exact ih_5 (i + 1) (by omega) ls (by rw [e_4]; exact lv_sub hl [0, 1, 2, 3, 4] rfl)
        · refine lv_aload_n hx hb dX7_feels_31 rfl (lv_at hl 2 rfl) ?_
          refine va_get (D := D) (ci := 7) (v := .ref (oA 20)) (C := RX7) (T := TX7) (N := 35) hx hb hts hiX7 hown hK hP 0 rfl rfl 20 (by decide) f43 (fun _ h9 => h9) rfl dX7_feels_32 ?_
          refine lv_iconst (v := 1) hx hb dX7_feels_35 (by decide) ?_
          refine lv_iload hx hb dX7_feels_36 (lv_at hl 0 rfl) ?_
          refine lv_iadd hx hb dX7_feels_38 ?_
          refine ly_eqi (show (1 + (nI i)) = (nI (1 + i)) from ly_add rfl rfl) ?_
          refine ly_iald hx hb hK hP 3 0 rfl rfl (k := 1 + i) (by decide) rfl (by omega) dX7_feels_39 ?_
          refine lv_if_le (tgt := 66) hx hb dX7_feels_40 (by decide) (fun c_5 => ?_) (fun c_5 => ?_)
          · refine lv_iconst (v := 0) hx hb dX7_feels_66 (by decide) ?_
            refine lv_istore_n (lv' := [(3, .int 0), (4, .int (nI i)), (0, .ref (oA 0)), (1, .int (nI f)), (2, .int (nI sS))]) hx hb dX7_feels_67 rfl hl (by decide) rfl (fun ls hl => ?_)
            refine lv_iinc (v := (nI (i + 1))) (lv' := [(4, .int (nI (i + 1))), (3, .int 0), (0, .ref (oA 0)), (1, .int (nI f)), (2, .int (nI sS))]) hx hb dX7_feels_68 hl (k := 1) rfl (ly_add rfl rfl) (by decide) rfl (fun ls hl => ?_)
            refine lv_goto (tgt := 5) hx hb dX7_feels_71 (by decide) ?_
            have e_6 : m_fe M f sS (i + 1) = 0 := by show m_feB M f sS i (m_fe M f sS i) = _; unfold m_feB; rw [if_pos c_1, if_pos c_3, if_pos c_5]
            exact ih_5 (i + 1) (by omega) ls (by rw [e_6]; exact lv_sub hl [0, 1, 2, 3, 4] rfl)
          · refine lv_iload_n hx hb dX7_feels_43 rfl (lv_at hl 4 rfl) ?_
            refine lv_aload_n hx hb dX7_feels_44 rfl (lv_at hl 2 rfl) ?_
            refine va_get (D := D) (ci := 7) (v := .ref (oA 20)) (C := RX7) (T := TX7) (N := 35) hx hb hts hiX7 hown hK hP 0 rfl rfl 20 (by decide) f43 (fun _ h9 => h9) rfl dX7_feels_45 ?_
            refine lv_iconst (v := 1) hx hb dX7_feels_48 (by decide) ?_
            refine lv_iload hx hb dX7_feels_49 (lv_at hl 0 rfl) ?_
            refine lv_iadd hx hb dX7_feels_51 ?_
            refine ly_eqi (show (1 + (nI i)) = (nI (1 + i)) from ly_add rfl rfl) ?_
            refine ly_iald hx hb hK hP 3 0 rfl rfl (k := 1 + i) (by decide) rfl (by omega) dX7_feels_52 ?_
            refine lv_iconst (v := 1) hx hb dX7_feels_53 (by decide) ?_
            refine lv_isub hx hb dX7_feels_54 ?_
            refine lv_ishr hx hb dX7_feels_55 ?_
            refine lv_iconst (v := 1) hx hb dX7_feels_56 (by decide) ?_
            refine lv_iand hx hb dX7_feels_57 ?_
            refine lv_iconst (v := 1) hx hb dX7_feels_58 (by decide) ?_
            refine lv_icmp_ne (tgt := 66) hx hb dX7_feels_59 (by decide) (fun c_7 => ?_) (fun c_7 => ?_)
            · refine lv_iconst (v := 0) hx hb dX7_feels_66 (by decide) ?_
              refine lv_istore_n (lv' := [(3, .int 0), (4, .int (nI i)), (0, .ref (oA 0)), (1, .int (nI f)), (2, .int (nI sS))]) hx hb dX7_feels_67 rfl hl (by decide) rfl (fun ls hl => ?_)
              refine lv_iinc (v := (nI (i + 1))) (lv' := [(4, .int (nI (i + 1))), (3, .int 0), (0, .ref (oA 0)), (1, .int (nI f)), (2, .int (nI sS))]) hx hb dX7_feels_68 hl (k := 1) rfl (ly_add rfl rfl) (by decide) rfl (fun ls hl => ?_)
              refine lv_goto (tgt := 5) hx hb dX7_feels_71 (by decide) ?_
              have e_8 : m_fe M f sS (i + 1) = 0 := by show m_feB M f sS i (m_fe M f sS i) = _; unfold m_feB; rw [if_pos c_1, if_pos c_3, if_neg c_5, if_neg c_7]
              exact ih_5 (i + 1) (by omega) ls (by rw [e_8]; exact lv_sub hl [0, 1, 2, 3, 4] rfl)
            · refine lv_iconst (v := 1) hx hb dX7_feels_62 (by decide) ?_
              refine lv_goto (tgt := 67) hx hb dX7_feels_63 (by decide) ?_
              refine lv_istore_n (lv' := [(3, .int 1), (4, .int (nI i)), (0, .ref (oA 0)), (1, .int (nI f)), (2, .int (nI sS))]) hx hb dX7_feels_67 rfl hl (by decide) rfl (fun ls hl => ?_)
              refine lv_iinc (v := (nI (i + 1))) (lv' := [(4, .int (nI (i + 1))), (3, .int 1), (0, .ref (oA 0)), (1, .int (nI f)), (2, .int (nI sS))]) hx hb dX7_feels_68 hl (k := 1) rfl (ly_add rfl rfl) (by decide) rfl (fun ls hl => ?_)
              refine lv_goto (tgt := 5) hx hb dX7_feels_71 (by decide) ?_
              have e_9 : m_fe M f sS (i + 1) = 1 := by show m_feB M f sS i (m_fe M f sS i) = _; unfold m_feB; rw [if_pos c_1, if_pos c_3, if_neg c_5, if_pos c_7]
              exact ih_5 (i + 1) (by omega) ls (by rw [e_9]; exact lv_sub hl [0, 1, 2, 3, 4] rfl)
  exact hloop_5 (M 9 0) 0 (by omega) ls (lv_sub hl [0, 1, 2, 3, 4] rfl)

set_option maxHeartbeats 4000000 in
set_option maxRecDepth 100000 in
theorem c_X7_rain_b (l : Launch) (D : va_G) (cI cC cZ cN : ClassId) (oA : Nat → Nat) (M : Nat → Nat → Nat) (mi : Nat → Nat) (fa : Int32) (mt : Int64) (x : Int32) (hb9 : jin x 0 2 = 0) (hD0 : va_D (fun _ => True) [((oA 0), .inr (7, [.int 0, .long mt, .ref (oA 2), .int (nI (mi 3)), .int (nI (mi 4)), .int (nI (mi 5)), .int (nI (mi 6)), .int (nI (mi 7)), .int fa, .ref (oA 9), .ref (oA 10), .ref (oA 11), .ref (oA 12), .ref (oA 13), .ref (oA 14), .ref (oA 15), .ref (oA 16), .ref (oA 17), .ref (oA 18), .int (nI (mi 19)), .ref (oA 20), .ref (oA 21), .ref (oA 22), .ref (oA 23), .int (nI (mi 24)), .ref (oA 25), .ref (oA 26), .ref (oA 27), .int (nI (mi 28)), .ref (oA 29), .ref (oA 30), .int (nI (mi 31)), .ref (oA 32), .int (nI (mi 33)), .int (nI (mi 34))])), ((oA 9), .inl (cI, 4, .inl (fun j => nI ((M 9) j)))), ((oA 11), .inl (cI, 18, .inl (fun j => nI ((M 11) j)))), ((oA 20), .inl (cI, 23, .inl (fun j => nI ((M 20) j)))), ((oA 29), .inl (cI, 5, .inl (fun j => nI ((M 29) j)))), ((oA 30), .inl (cI, 5, .inl (fun j => nI ((M 30) j))))]) : Met l yX7_rain wsX7_rain (ly_rm 6) (ly_Pre D (ly_tys cI cC cZ cN) [((oA 0), .inr (7, [.int 0, .long mt, .ref (oA 2), .int (nI (mi 3)), .int (nI (mi 4)), .int (nI (mi 5)), .int (nI (mi 6)), .int (nI (mi 7)), .int fa, .ref (oA 9), .ref (oA 10), .ref (oA 11), .ref (oA 12), .ref (oA 13), .ref (oA 14), .ref (oA 15), .ref (oA 16), .ref (oA 17), .ref (oA 18), .int (nI (mi 19)), .ref (oA 20), .ref (oA 21), .ref (oA 22), .ref (oA 23), .int (nI (mi 24)), .ref (oA 25), .ref (oA 26), .ref (oA 27), .int (nI (mi 28)), .ref (oA 29), .ref (oA 30), .int (nI (mi 31)), .ref (oA 32), .int (nI (mi 33)), .int (nI (mi 34))])), ((oA 9), .inl (cI, 4, .inl (fun j => nI ((M 9) j)))), ((oA 11), .inl (cI, 18, .inl (fun j => nI ((M 11) j)))), ((oA 20), .inl (cI, 23, .inl (fun j => nI ((M 20) j)))), ((oA 29), .inl (cI, 5, .inl (fun j => nI ((M 29) j)))), ((oA 30), .inl (cI, 5, .inl (fun j => nI ((M 30) j))))] [.ref (oA 0), .int x]) (ly_Q D [((oA 0), .inr (7, [.int 0, .long mt, .ref (oA 2), .int (nI (mi 3)), .int (nI (mi 4)), .int (nI (mi 5)), .int (nI (mi 6)), .int (nI (mi 7)), .int fa, .ref (oA 9), .ref (oA 10), .ref (oA 11), .ref (oA 12), .ref (oA 13), .ref (oA 14), .ref (oA 15), .ref (oA 16), .ref (oA 17), .ref (oA 18), .int (nI (mi 19)), .ref (oA 20), .ref (oA 21), .ref (oA 22), .ref (oA 23), .int (nI (mi 24)), .ref (oA 25), .ref (oA 26), .ref (oA 27), .int (nI (mi 28)), .ref (oA 29), .ref (oA 30), .int (nI (mi 31)), .ref (oA 32), .int (nI (mi 33)), .int (nI (mi 34))])), ((oA 9), .inl (cI, 4, .inl (fun j => nI ((M 9) j)))), ((oA 11), .inl (cI, 18, .inl (fun j => nI ((M 11) j)))), ((oA 20), .inl (cI, 23, .inl (fun j => nI ((M 20) j)))), ((oA 29), .inl (cI, 5, .inl (fun j => nI ((M 29) j)))), ((oA 30), .inl (cI, 5, .inl (fun j => nI ((M 30) j))))] (fun r_9 w_9 => r_9 = some (.int (-1)) ∧ w_9 = [((oA 0), .inr (7, [.int 0, .long mt, .ref (oA 2), .int (nI (mi 3)), .int (nI (mi 4)), .int (nI (mi 5)), .int (nI (mi 6)), .int (nI (mi 7)), .int fa, .ref (oA 9), .ref (oA 10), .ref (oA 11), .ref (oA 12), .ref (oA 13), .ref (oA 14), .ref (oA 15), .ref (oA 16), .ref (oA 17), .ref (oA 18), .int (nI (mi 19)), .ref (oA 20), .ref (oA 21), .ref (oA 22), .ref (oA 23), .int (nI (mi 24)), .ref (oA 25), .ref (oA 26), .ref (oA 27), .int (nI (mi 28)), .ref (oA 29), .ref (oA 30), .int (nI (mi 31)), .ref (oA 32), .int (nI (mi 33)), .int (nI (mi 34))])), ((oA 9), .inl (cI, 4, .inl (fun j => nI ((M 9) j)))), ((oA 11), .inl (cI, 18, .inl (fun j => nI ((M 11) j)))), ((oA 20), .inl (cI, 23, .inl (fun j => nI ((M 20) j)))), ((oA 29), .inl (cI, 5, .inl (fun j => nI ((M 29) j)))), ((oA 30), .inl (cI, 5, .inl (fun j => nI ((M 30) j))))])) 0 0 (ly_in [((oA 0), .inr (7, [.int 0, .long mt, .ref (oA 2), .int (nI (mi 3)), .int (nI (mi 4)), .int (nI (mi 5)), .int (nI (mi 6)), .int (nI (mi 7)), .int fa, .ref (oA 9), .ref (oA 10), .ref (oA 11), .ref (oA 12), .ref (oA 13), .ref (oA 14), .ref (oA 15), .ref (oA 16), .ref (oA 17), .ref (oA 18), .int (nI (mi 19)), .ref (oA 20), .ref (oA 21), .ref (oA 22), .ref (oA 23), .int (nI (mi 24)), .ref (oA 25), .ref (oA 26), .ref (oA 27), .int (nI (mi 28)), .ref (oA 29), .ref (oA 30), .int (nI (mi 31)), .ref (oA 32), .int (nI (mi 33)), .int (nI (mi 34))])), ((oA 9), .inl (cI, 4, .inl (fun j => nI ((M 9) j)))), ((oA 11), .inl (cI, 18, .inl (fun j => nI ((M 11) j)))), ((oA 20), .inl (cI, 23, .inl (fun j => nI ((M 20) j)))), ((oA 29), .inl (cI, 5, .inl (fun j => nI ((M 29) j)))), ((oA 30), .inl (cI, 5, .inl (fun j => nI ((M 30) j))))]) := by
  refine Met.ofW (cc := cX7_rain) (maxL := 8) (ret := (some .int)) (by decide) rfl ?_
  intro p e s m args below meth c s₁ B hml hv
  obtain ⟨rfl, hP, hK, hN⟩ := hv
  have hx := B.exec
  have hb := B.bytes
  have hr := B.returns
  have hts := atoms_spec (ws := wsX7_rain) B.pre
  have hown : s.vm.findClass RX7 = some m.cls := findClass_of_methodNamed B.named
  have hlocks := B.notSynchronized
  have hl := lv_entry ([.ref (oA 0), .int x]) (n := 8) (Nat.le_of_ble_eq_true rfl)
  rw [lg_entry_eq]
  generalize (lg_sl ([.ref (oA 0), .int x]) ++ List.replicate (8 - (lg_sl ([.ref (oA 0), .int x])).length) Slot.unset).toArray = ls at hl ⊢
  have hl : lv_has ls 8 [(0, .ref (oA 0)), (1, .int x)] := hl
  generalize ([.ref (oA 0), .int x] : List Value).toArray = av at hts ⊢
  obtain ⟨Qc, hQc⟩ : ∃ Qc, Qc = (ly_Q D [((oA 0), .inr (7, [.int 0, .long mt, .ref (oA 2), .int (nI (mi 3)), .int (nI (mi 4)), .int (nI (mi 5)), .int (nI (mi 6)), .int (nI (mi 7)), .int fa, .ref (oA 9), .ref (oA 10), .ref (oA 11), .ref (oA 12), .ref (oA 13), .ref (oA 14), .ref (oA 15), .ref (oA 16), .ref (oA 17), .ref (oA 18), .int (nI (mi 19)), .ref (oA 20), .ref (oA 21), .ref (oA 22), .ref (oA 23), .int (nI (mi 24)), .ref (oA 25), .ref (oA 26), .ref (oA 27), .int (nI (mi 28)), .ref (oA 29), .ref (oA 30), .int (nI (mi 31)), .ref (oA 32), .int (nI (mi 33)), .int (nI (mi 34))])), ((oA 9), .inl (cI, 4, .inl (fun j => nI ((M 9) j)))), ((oA 11), .inl (cI, 18, .inl (fun j => nI ((M 11) j)))), ((oA 20), .inl (cI, 23, .inl (fun j => nI ((M 20) j)))), ((oA 29), .inl (cI, 5, .inl (fun j => nI ((M 29) j)))), ((oA 30), .inl (cI, 5, .inl (fun j => nI ((M 30) j))))] (fun r_9 w_9 => r_9 = some (.int (-1)) ∧ w_9 = [((oA 0), .inr (7, [.int 0, .long mt, .ref (oA 2), .int (nI (mi 3)), .int (nI (mi 4)), .int (nI (mi 5)), .int (nI (mi 6)), .int (nI (mi 7)), .int fa, .ref (oA 9), .ref (oA 10), .ref (oA 11), .ref (oA 12), .ref (oA 13), .ref (oA 14), .ref (oA 15), .ref (oA 16), .ref (oA 17), .ref (oA 18), .int (nI (mi 19)), .ref (oA 20), .ref (oA 21), .ref (oA 22), .ref (oA 23), .int (nI (mi 24)), .ref (oA 25), .ref (oA 26), .ref (oA 27), .int (nI (mi 28)), .ref (oA 29), .ref (oA 30), .int (nI (mi 31)), .ref (oA 32), .int (nI (mi 33)), .int (nI (mi 34))])), ((oA 9), .inl (cI, 4, .inl (fun j => nI ((M 9) j)))), ((oA 11), .inl (cI, 18, .inl (fun j => nI ((M 11) j)))), ((oA 20), .inl (cI, 23, .inl (fun j => nI ((M 20) j)))), ((oA 29), .inl (cI, 5, .inl (fun j => nI ((M 29) j)))), ((oA 30), .inl (cI, 5, .inl (fun j => nI ((M 30) j))))])) := ⟨_, rfl⟩
  rw [← hQc]
  obtain ⟨A, hAe⟩ : ∃ A, A = ly_in [((oA 0), .inr (7, [.int 0, .long mt, .ref (oA 2), .int (nI (mi 3)), .int (nI (mi 4)), .int (nI (mi 5)), .int (nI (mi 6)), .int (nI (mi 7)), .int fa, .ref (oA 9), .ref (oA 10), .ref (oA 11), .ref (oA 12), .ref (oA 13), .ref (oA 14), .ref (oA 15), .ref (oA 16), .ref (oA 17), .ref (oA 18), .int (nI (mi 19)), .ref (oA 20), .ref (oA 21), .ref (oA 22), .ref (oA 23), .int (nI (mi 24)), .ref (oA 25), .ref (oA 26), .ref (oA 27), .int (nI (mi 28)), .ref (oA 29), .ref (oA 30), .int (nI (mi 31)), .ref (oA 32), .int (nI (mi 33)), .int (nI (mi 34))])), ((oA 9), .inl (cI, 4, .inl (fun j => nI ((M 9) j)))), ((oA 11), .inl (cI, 18, .inl (fun j => nI ((M 11) j)))), ((oA 20), .inl (cI, 23, .inl (fun j => nI ((M 20) j)))), ((oA 29), .inl (cI, 5, .inl (fun j => nI ((M 29) j)))), ((oA 30), .inl (cI, 5, .inl (fun j => nI ((M 30) j))))] := ⟨_, rfl⟩
  rw [← hAe]
  have hD := ly_self hD0
  rw [← hAe] at hD
  have f80 := hts (.fieldLink RX7 80 "KneesLentModel" "thrown" "I") (by decide +kernel)
  have hiX7 : ∀ w ∈ u_ws RX7 TX7 35, w ∈ wsX7_rain := by decide +kernel
  have hmain : ∀ (H : Heap) (locs : List Loc), va_P D vwCl [((oA 0), .inr (7, [.int 0, .long mt, .ref (oA 2), .int (nI (mi 3)), .int (nI (mi 4)), .int (nI (mi 5)), .int (nI (mi 6)), .int (nI (mi 7)), .int fa, .ref (oA 9), .ref (oA 10), .ref (oA 11), .ref (oA 12), .ref (oA 13), .ref (oA 14), .ref (oA 15), .ref (oA 16), .ref (oA 17), .ref (oA 18), .int (nI (mi 19)), .ref (oA 20), .ref (oA 21), .ref (oA 22), .ref (oA 23), .int (nI (mi 24)), .ref (oA 25), .ref (oA 26), .ref (oA 27), .int (nI (mi 28)), .ref (oA 29), .ref (oA 30), .int (nI (mi 31)), .ref (oA 32), .int (nI (mi 33)), .int (nI (mi 34))])), ((oA 9), .inl (cI, 4, .inl (fun j => nI ((M 9) j)))), ((oA 11), .inl (cI, 18, .inl (fun j => nI ((M 11) j)))), ((oA 20), .inl (cI, 23, .inl (fun j => nI ((M 20) j)))), ((oA 29), .inl (cI, 5, .inl (fun j => nI ((M 29) j)))), ((oA 30), .inl (cI, 5, .inl (fun j => nI ((M 30) j))))] H → va_S A s.heap H locs → W p l e (headSpec wsX7_rain (ly_rm 6)).room s m av below meth c H locs 0 0 (MQ below Qc av s 0 0 A) (F0 m 0 ls []) := by
    intro H locs hP hS
    refine lv_aload_n hx hb dX7_rain_0 rfl (lv_at hl 0 rfl) ?_
    refine lv_iconst (v := 0) hx hb dX7_rain_1 (by decide) ?_
    refine va_put (D := D) (ci := 7) (v := .int 0) (ty := .int) (C := RX7) (T := TX7) (N := 35) hx hb hts hiX7 tyX7 tyX7_ok nmX7 hown hK hP hD hS 0 rfl rfl 0 (by decide) f80 (fun _ h9 => h9) rfl (by decide +kernel) rfl rfl (Nat.le_of_ble_eq_true rfl) dX7_rain_2 (fun H locs hP hD hS => ?_)
    have hP : va_P D vwCl [((oA 0), .inr (7, [.int 0, .long mt, .ref (oA 2), .int (nI (mi 3)), .int (nI (mi 4)), .int (nI (mi 5)), .int (nI (mi 6)), .int (nI (mi 7)), .int fa, .ref (oA 9), .ref (oA 10), .ref (oA 11), .ref (oA 12), .ref (oA 13), .ref (oA 14), .ref (oA 15), .ref (oA 16), .ref (oA 17), .ref (oA 18), .int (nI (mi 19)), .ref (oA 20), .ref (oA 21), .ref (oA 22), .ref (oA 23), .int (nI (mi 24)), .ref (oA 25), .ref (oA 26), .ref (oA 27), .int (nI (mi 28)), .ref (oA 29), .ref (oA 30), .int (nI (mi 31)), .ref (oA 32), .int (nI (mi 33)), .int (nI (mi 34))])), ((oA 9), .inl (cI, 4, .inl (fun j => nI ((M 9) j)))), ((oA 11), .inl (cI, 18, .inl (fun j => nI ((M 11) j)))), ((oA 20), .inl (cI, 23, .inl (fun j => nI ((M 20) j)))), ((oA 29), .inl (cI, 5, .inl (fun j => nI ((M 29) j)))), ((oA 30), .inl (cI, 5, .inl (fun j => nI ((M 30) j))))] H := hP
    have hD : va_D A [((oA 0), .inr (7, [.int 0, .long mt, .ref (oA 2), .int (nI (mi 3)), .int (nI (mi 4)), .int (nI (mi 5)), .int (nI (mi 6)), .int (nI (mi 7)), .int fa, .ref (oA 9), .ref (oA 10), .ref (oA 11), .ref (oA 12), .ref (oA 13), .ref (oA 14), .ref (oA 15), .ref (oA 16), .ref (oA 17), .ref (oA 18), .int (nI (mi 19)), .ref (oA 20), .ref (oA 21), .ref (oA 22), .ref (oA 23), .int (nI (mi 24)), .ref (oA 25), .ref (oA 26), .ref (oA 27), .int (nI (mi 28)), .ref (oA 29), .ref (oA 30), .int (nI (mi 31)), .ref (oA 32), .int (nI (mi 33)), .int (nI (mi 34))])), ((oA 9), .inl (cI, 4, .inl (fun j => nI ((M 9) j)))), ((oA 11), .inl (cI, 18, .inl (fun j => nI ((M 11) j)))), ((oA 20), .inl (cI, 23, .inl (fun j => nI ((M 20) j)))), ((oA 29), .inl (cI, 5, .inl (fun j => nI ((M 29) j)))), ((oA 30), .inl (cI, 5, .inl (fun j => nI ((M 30) j))))] := hD
    refine lv_iload_n hx hb dX7_rain_5 rfl (lv_at hl 1 rfl) ?_
    refine lv_iconst (v := 0) hx hb dX7_rain_6 (by decide) ?_
    refine lv_iconst (v := 2) hx hb dX7_rain_7 (by decide) ?_
    have hPc_8 := hP.sub (ws' := []) [] rfl
    refine ly_r (va_runS (As := [.int x, .int 0, .int 2]) (rest := []) ⟨hx, hb, hml, hown, hts⟩ (c_X7_in l D cI cC cZ cN x 0 2) (va_cwS 3 hts gX7_rain_X7_in rfl rfl rfl (by decide +kernel) ⟨Nat.le_of_ble_eq_true rfl, Nat.le_of_ble_eq_true rfl⟩) (ly_ps hK hN hPc_8) rfl rfl hl.1 rfl (lv_room (Nat.le_of_ble_eq_true rfl)) dX7_rain_8 ⟨Nat.zero_le _, Nat.zero_le _⟩) ?_
    refine lv_if_ne (tgt := 16) hx hb dX7_rain_11 (by decide) (fun h_9 => absurd hb9 h_9) (fun _ => ?_)
    refine lv_iconst (v := (-1)) hx hb dX7_rain_14 (by decide) ?_
    exact W.iret (v := (-1)) hx hb hr (fun t_9 ht_9 _ => by rw [hQc]; exact ⟨_, [((oA 0), .inr (7, [.int 0, .long mt, .ref (oA 2), .int (nI (mi 3)), .int (nI (mi 4)), .int (nI (mi 5)), .int (nI (mi 6)), .int (nI (mi 7)), .int fa, .ref (oA 9), .ref (oA 10), .ref (oA 11), .ref (oA 12), .ref (oA 13), .ref (oA 14), .ref (oA 15), .ref (oA 16), .ref (oA 17), .ref (oA 18), .int (nI (mi 19)), .ref (oA 20), .ref (oA 21), .ref (oA 22), .ref (oA 23), .int (nI (mi 24)), .ref (oA 25), .ref (oA 26), .ref (oA 27), .int (nI (mi 28)), .ref (oA 29), .ref (oA 30), .int (nI (mi 31)), .ref (oA 32), .int (nI (mi 33)), .int (nI (mi 34))])), ((oA 9), .inl (cI, 4, .inl (fun j => nI ((M 9) j)))), ((oA 11), .inl (cI, 18, .inl (fun j => nI ((M 11) j)))), ((oA 20), .inl (cI, 23, .inl (fun j => nI ((M 20) j)))), ((oA 29), .inl (cI, 5, .inl (fun j => nI ((M 29) j)))), ((oA 30), .inl (cI, 5, .inl (fun j => nI ((M 30) j))))], rfl, ⟨rfl, rfl⟩, by simp only [List.map_cons, List.map_nil], by rw [ht_9]; exact hP.sub [0, 1, 2, 3, 4, 5] rfl, by rw [← hAe]; exact hS.F ht_9⟩) hS.2.2 dX7_rain_15
  exact hmain _ _ hP va_S.rf

def m_riB (M : Nat → Nat → Nat) (st : Nat) (i : Nat) (v0 : Nat) : Nat := (if (nI v0) = 0 then 0 else (if (nI ((M 30) i)) = 1 then (if (nI (m_fe M ((M 29) i) st (M 9 0))) = 1 then 1 else 0) else (if (nI (m_fe M ((M 29) i) st (M 9 0))) = 0 then 1 else 0)))
def m_ri (M : Nat → Nat → Nat) (st : Nat) : Nat → Nat
  | 0 => 1
  | i + 1 => m_riB M st i (m_ri M st i)
def m_rnB (M : Nat → Nat → Nat) (fm : Nat) (st : Nat) (v0 : Nat) (v1 : Int32) (v2 : Int32) : Nat × Int32 × Int32 := (if (nI (m_ri M st fm)) = 0 then (v0, v1, v2) else (if v2 ≤ (m_ones (nI st) 9) then (v0 + 1, (v1 &&& (nI st)), v2) else (v0 + 1, (v1 &&& (nI st)), (m_ones (nI st) 9))))
def m_rn (M : Nat → Nat → Nat) (fm : Nat) : Nat → Nat × Int32 × Int32
  | 0 => (0, (-1), 1000000)
  | st + 1 => m_rnB M fm st ((m_rn M fm st).1) ((m_rn M fm st).2.1) ((m_rn M fm st).2.2)
set_option maxHeartbeats 4000000 in
set_option maxRecDepth 100000 in
theorem c_X7_rain_0 (l : Launch) (D : va_G) (cI cC cZ cN : ClassId) (oA : Nat → Nat) (M : Nat → Nat → Nat) (mi : Nat → Nat) (fa : Int32) (mt : Int64) (hn : M 9 0 ≤ 9) (hm6 : M 9 1 ≤ 6) (hfm : mi 31 ≤ 5) (N6 : Nat) (hN6 : 2 ^ M 9 1 = N6) (hN7 : N6 ≤ 64) (hD0 : va_D (fun _ => True) [((oA 0), .inr (7, [.int 0, .long mt, .ref (oA 2), .int (nI (mi 3)), .int (nI (mi 4)), .int (nI (mi 5)), .int (nI (mi 6)), .int (nI (mi 7)), .int fa, .ref (oA 9), .ref (oA 10), .ref (oA 11), .ref (oA 12), .ref (oA 13), .ref (oA 14), .ref (oA 15), .ref (oA 16), .ref (oA 17), .ref (oA 18), .int (nI (mi 19)), .ref (oA 20), .ref (oA 21), .ref (oA 22), .ref (oA 23), .int (nI (mi 24)), .ref (oA 25), .ref (oA 26), .ref (oA 27), .int (nI (mi 28)), .ref (oA 29), .ref (oA 30), .int (nI (mi 31)), .ref (oA 32), .int (nI (mi 33)), .int (nI (mi 34))])), ((oA 9), .inl (cI, 4, .inl (fun j => nI ((M 9) j)))), ((oA 11), .inl (cI, 18, .inl (fun j => nI ((M 11) j)))), ((oA 20), .inl (cI, 23, .inl (fun j => nI ((M 20) j)))), ((oA 29), .inl (cI, 5, .inl (fun j => nI ((M 29) j)))), ((oA 30), .inl (cI, 5, .inl (fun j => nI ((M 30) j))))]) : Met l yX7_rain wsX7_rain (ly_rm 6) (ly_Pre D (ly_tys cI cC cZ cN) [((oA 0), .inr (7, [.int 0, .long mt, .ref (oA 2), .int (nI (mi 3)), .int (nI (mi 4)), .int (nI (mi 5)), .int (nI (mi 6)), .int (nI (mi 7)), .int fa, .ref (oA 9), .ref (oA 10), .ref (oA 11), .ref (oA 12), .ref (oA 13), .ref (oA 14), .ref (oA 15), .ref (oA 16), .ref (oA 17), .ref (oA 18), .int (nI (mi 19)), .ref (oA 20), .ref (oA 21), .ref (oA 22), .ref (oA 23), .int (nI (mi 24)), .ref (oA 25), .ref (oA 26), .ref (oA 27), .int (nI (mi 28)), .ref (oA 29), .ref (oA 30), .int (nI (mi 31)), .ref (oA 32), .int (nI (mi 33)), .int (nI (mi 34))])), ((oA 9), .inl (cI, 4, .inl (fun j => nI ((M 9) j)))), ((oA 11), .inl (cI, 18, .inl (fun j => nI ((M 11) j)))), ((oA 20), .inl (cI, 23, .inl (fun j => nI ((M 20) j)))), ((oA 29), .inl (cI, 5, .inl (fun j => nI ((M 29) j)))), ((oA 30), .inl (cI, 5, .inl (fun j => nI ((M 30) j))))] [.ref (oA 0), .int (nI 0)]) (ly_Q D [((oA 0), .inr (7, [.int 0, .long mt, .ref (oA 2), .int (nI (mi 3)), .int (nI (mi 4)), .int (nI (mi 5)), .int (nI (mi 6)), .int (nI (mi 7)), .int fa, .ref (oA 9), .ref (oA 10), .ref (oA 11), .ref (oA 12), .ref (oA 13), .ref (oA 14), .ref (oA 15), .ref (oA 16), .ref (oA 17), .ref (oA 18), .int (nI (mi 19)), .ref (oA 20), .ref (oA 21), .ref (oA 22), .ref (oA 23), .int (nI (mi 24)), .ref (oA 25), .ref (oA 26), .ref (oA 27), .int (nI (mi 28)), .ref (oA 29), .ref (oA 30), .int (nI (mi 31)), .ref (oA 32), .int (nI (mi 33)), .int (nI (mi 34))])), ((oA 9), .inl (cI, 4, .inl (fun j => nI ((M 9) j)))), ((oA 11), .inl (cI, 18, .inl (fun j => nI ((M 11) j)))), ((oA 20), .inl (cI, 23, .inl (fun j => nI ((M 20) j)))), ((oA 29), .inl (cI, 5, .inl (fun j => nI ((M 29) j)))), ((oA 30), .inl (cI, 5, .inl (fun j => nI ((M 30) j))))] (fun r_9 w_9 => r_9 = some (.int (nI (m_rn M (mi 31) N6).1)) ∧ w_9 = [((oA 0), .inr (7, [.int 0, .long mt, .ref (oA 2), .int (nI (mi 3)), .int (nI (mi 4)), .int (nI (mi 5)), .int (nI (mi 6)), .int (nI (mi 7)), .int fa, .ref (oA 9), .ref (oA 10), .ref (oA 11), .ref (oA 12), .ref (oA 13), .ref (oA 14), .ref (oA 15), .ref (oA 16), .ref (oA 17), .ref (oA 18), .int (nI (mi 19)), .ref (oA 20), .ref (oA 21), .ref (oA 22), .ref (oA 23), .int (nI (mi 24)), .ref (oA 25), .ref (oA 26), .ref (oA 27), .int (nI (mi 28)), .ref (oA 29), .ref (oA 30), .int (nI (mi 31)), .ref (oA 32), .int (nI (mi 33)), .int (nI (mi 34))])), ((oA 9), .inl (cI, 4, .inl (fun j => nI ((M 9) j)))), ((oA 11), .inl (cI, 18, .inl (fun j => nI ((M 11) j)))), ((oA 20), .inl (cI, 23, .inl (fun j => nI ((M 20) j)))), ((oA 29), .inl (cI, 5, .inl (fun j => nI ((M 29) j)))), ((oA 30), .inl (cI, 5, .inl (fun j => nI ((M 30) j))))])) 0 0 (ly_in [((oA 0), .inr (7, [.int 0, .long mt, .ref (oA 2), .int (nI (mi 3)), .int (nI (mi 4)), .int (nI (mi 5)), .int (nI (mi 6)), .int (nI (mi 7)), .int fa, .ref (oA 9), .ref (oA 10), .ref (oA 11), .ref (oA 12), .ref (oA 13), .ref (oA 14), .ref (oA 15), .ref (oA 16), .ref (oA 17), .ref (oA 18), .int (nI (mi 19)), .ref (oA 20), .ref (oA 21), .ref (oA 22), .ref (oA 23), .int (nI (mi 24)), .ref (oA 25), .ref (oA 26), .ref (oA 27), .int (nI (mi 28)), .ref (oA 29), .ref (oA 30), .int (nI (mi 31)), .ref (oA 32), .int (nI (mi 33)), .int (nI (mi 34))])), ((oA 9), .inl (cI, 4, .inl (fun j => nI ((M 9) j)))), ((oA 11), .inl (cI, 18, .inl (fun j => nI ((M 11) j)))), ((oA 20), .inl (cI, 23, .inl (fun j => nI ((M 20) j)))), ((oA 29), .inl (cI, 5, .inl (fun j => nI ((M 29) j)))), ((oA 30), .inl (cI, 5, .inl (fun j => nI ((M 30) j))))]) := by
  refine Met.ofW (cc := cX7_rain) (maxL := 8) (ret := (some .int)) (by decide) rfl ?_
  intro p e s m args below meth c s₁ B hml hv
  obtain ⟨rfl, hP, hK, hN⟩ := hv
  have hx := B.exec
  have hb := B.bytes
  have hr := B.returns
  have hts := atoms_spec (ws := wsX7_rain) B.pre
  have hown : s.vm.findClass RX7 = some m.cls := findClass_of_methodNamed B.named
  have hlocks := B.notSynchronized
  have hl := lv_entry ([.ref (oA 0), .int (nI 0)]) (n := 8) (Nat.le_of_ble_eq_true rfl)
  rw [lg_entry_eq]
  generalize (lg_sl ([.ref (oA 0), .int (nI 0)]) ++ List.replicate (8 - (lg_sl ([.ref (oA 0), .int (nI 0)])).length) Slot.unset).toArray = ls at hl ⊢
  have hl : lv_has ls 8 [(0, .ref (oA 0)), (1, .int (nI 0))] := hl
  generalize ([.ref (oA 0), .int (nI 0)] : List Value).toArray = av at hts ⊢
  obtain ⟨Qc, hQc⟩ : ∃ Qc, Qc = (ly_Q D [((oA 0), .inr (7, [.int 0, .long mt, .ref (oA 2), .int (nI (mi 3)), .int (nI (mi 4)), .int (nI (mi 5)), .int (nI (mi 6)), .int (nI (mi 7)), .int fa, .ref (oA 9), .ref (oA 10), .ref (oA 11), .ref (oA 12), .ref (oA 13), .ref (oA 14), .ref (oA 15), .ref (oA 16), .ref (oA 17), .ref (oA 18), .int (nI (mi 19)), .ref (oA 20), .ref (oA 21), .ref (oA 22), .ref (oA 23), .int (nI (mi 24)), .ref (oA 25), .ref (oA 26), .ref (oA 27), .int (nI (mi 28)), .ref (oA 29), .ref (oA 30), .int (nI (mi 31)), .ref (oA 32), .int (nI (mi 33)), .int (nI (mi 34))])), ((oA 9), .inl (cI, 4, .inl (fun j => nI ((M 9) j)))), ((oA 11), .inl (cI, 18, .inl (fun j => nI ((M 11) j)))), ((oA 20), .inl (cI, 23, .inl (fun j => nI ((M 20) j)))), ((oA 29), .inl (cI, 5, .inl (fun j => nI ((M 29) j)))), ((oA 30), .inl (cI, 5, .inl (fun j => nI ((M 30) j))))] (fun r_9 w_9 => r_9 = some (.int (nI (m_rn M (mi 31) N6).1)) ∧ w_9 = [((oA 0), .inr (7, [.int 0, .long mt, .ref (oA 2), .int (nI (mi 3)), .int (nI (mi 4)), .int (nI (mi 5)), .int (nI (mi 6)), .int (nI (mi 7)), .int fa, .ref (oA 9), .ref (oA 10), .ref (oA 11), .ref (oA 12), .ref (oA 13), .ref (oA 14), .ref (oA 15), .ref (oA 16), .ref (oA 17), .ref (oA 18), .int (nI (mi 19)), .ref (oA 20), .ref (oA 21), .ref (oA 22), .ref (oA 23), .int (nI (mi 24)), .ref (oA 25), .ref (oA 26), .ref (oA 27), .int (nI (mi 28)), .ref (oA 29), .ref (oA 30), .int (nI (mi 31)), .ref (oA 32), .int (nI (mi 33)), .int (nI (mi 34))])), ((oA 9), .inl (cI, 4, .inl (fun j => nI ((M 9) j)))), ((oA 11), .inl (cI, 18, .inl (fun j => nI ((M 11) j)))), ((oA 20), .inl (cI, 23, .inl (fun j => nI ((M 20) j)))), ((oA 29), .inl (cI, 5, .inl (fun j => nI ((M 29) j)))), ((oA 30), .inl (cI, 5, .inl (fun j => nI ((M 30) j))))])) := ⟨_, rfl⟩
  rw [← hQc]
  obtain ⟨A, hAe⟩ : ∃ A, A = ly_in [((oA 0), .inr (7, [.int 0, .long mt, .ref (oA 2), .int (nI (mi 3)), .int (nI (mi 4)), .int (nI (mi 5)), .int (nI (mi 6)), .int (nI (mi 7)), .int fa, .ref (oA 9), .ref (oA 10), .ref (oA 11), .ref (oA 12), .ref (oA 13), .ref (oA 14), .ref (oA 15), .ref (oA 16), .ref (oA 17), .ref (oA 18), .int (nI (mi 19)), .ref (oA 20), .ref (oA 21), .ref (oA 22), .ref (oA 23), .int (nI (mi 24)), .ref (oA 25), .ref (oA 26), .ref (oA 27), .int (nI (mi 28)), .ref (oA 29), .ref (oA 30), .int (nI (mi 31)), .ref (oA 32), .int (nI (mi 33)), .int (nI (mi 34))])), ((oA 9), .inl (cI, 4, .inl (fun j => nI ((M 9) j)))), ((oA 11), .inl (cI, 18, .inl (fun j => nI ((M 11) j)))), ((oA 20), .inl (cI, 23, .inl (fun j => nI ((M 20) j)))), ((oA 29), .inl (cI, 5, .inl (fun j => nI ((M 29) j)))), ((oA 30), .inl (cI, 5, .inl (fun j => nI ((M 30) j))))] := ⟨_, rfl⟩
  rw [← hAe]
  have hD := ly_self hD0
  rw [← hAe] at hD
  have f80 := hts (.fieldLink RX7 80 "KneesLentModel" "thrown" "I") (by decide +kernel)
  have k199 := hts (.constant RX7 199 (1000000)) (by decide +kernel)
  have f13 := hts (.fieldLink RX7 13 "KneesLentModel" "many" "[I") (by decide +kernel)
  have f138 := hts (.fieldLink RX7 138 "KneesLentModel" "feltMany" "I") (by decide +kernel)
  have f65 := hts (.fieldLink RX7 65 "KneesLentModel" "feltOf" "[I") (by decide +kernel)
  have f68 := hts (.fieldLink RX7 68 "KneesLentModel" "feltIs" "[I") (by decide +kernel)
  have hiX7 : ∀ w ∈ u_ws RX7 TX7 35, w ∈ wsX7_rain := by decide +kernel
  have hmain : ∀ (H : Heap) (locs : List Loc), va_P D vwCl [((oA 0), .inr (7, [.int 0, .long mt, .ref (oA 2), .int (nI (mi 3)), .int (nI (mi 4)), .int (nI (mi 5)), .int (nI (mi 6)), .int (nI (mi 7)), .int fa, .ref (oA 9), .ref (oA 10), .ref (oA 11), .ref (oA 12), .ref (oA 13), .ref (oA 14), .ref (oA 15), .ref (oA 16), .ref (oA 17), .ref (oA 18), .int (nI (mi 19)), .ref (oA 20), .ref (oA 21), .ref (oA 22), .ref (oA 23), .int (nI (mi 24)), .ref (oA 25), .ref (oA 26), .ref (oA 27), .int (nI (mi 28)), .ref (oA 29), .ref (oA 30), .int (nI (mi 31)), .ref (oA 32), .int (nI (mi 33)), .int (nI (mi 34))])), ((oA 9), .inl (cI, 4, .inl (fun j => nI ((M 9) j)))), ((oA 11), .inl (cI, 18, .inl (fun j => nI ((M 11) j)))), ((oA 20), .inl (cI, 23, .inl (fun j => nI ((M 20) j)))), ((oA 29), .inl (cI, 5, .inl (fun j => nI ((M 29) j)))), ((oA 30), .inl (cI, 5, .inl (fun j => nI ((M 30) j))))] H → va_S A s.heap H locs → W p l e (headSpec wsX7_rain (ly_rm 6)).room s m av below meth c H locs 0 0 (MQ below Qc av s 0 0 A) (F0 m 0 ls []) := by
    intro H locs hP hS
    refine lv_aload_n hx hb dX7_rain_0 rfl (lv_at hl 0 rfl) ?_
    refine lv_iconst (v := 0) hx hb dX7_rain_1 (by decide) ?_
    refine va_put (D := D) (ci := 7) (v := .int 0) (ty := .int) (C := RX7) (T := TX7) (N := 35) hx hb hts hiX7 tyX7 tyX7_ok nmX7 hown hK hP hD hS 0 rfl rfl 0 (by decide) f80 (fun _ h9 => h9) rfl (by decide +kernel) rfl rfl (Nat.le_of_ble_eq_true rfl) dX7_rain_2 (fun H locs hP hD hS => ?_)
    have hP : va_P D vwCl [((oA 0), .inr (7, [.int 0, .long mt, .ref (oA 2), .int (nI (mi 3)), .int (nI (mi 4)), .int (nI (mi 5)), .int (nI (mi 6)), .int (nI (mi 7)), .int fa, .ref (oA 9), .ref (oA 10), .ref (oA 11), .ref (oA 12), .ref (oA 13), .ref (oA 14), .ref (oA 15), .ref (oA 16), .ref (oA 17), .ref (oA 18), .int (nI (mi 19)), .ref (oA 20), .ref (oA 21), .ref (oA 22), .ref (oA 23), .int (nI (mi 24)), .ref (oA 25), .ref (oA 26), .ref (oA 27), .int (nI (mi 28)), .ref (oA 29), .ref (oA 30), .int (nI (mi 31)), .ref (oA 32), .int (nI (mi 33)), .int (nI (mi 34))])), ((oA 9), .inl (cI, 4, .inl (fun j => nI ((M 9) j)))), ((oA 11), .inl (cI, 18, .inl (fun j => nI ((M 11) j)))), ((oA 20), .inl (cI, 23, .inl (fun j => nI ((M 20) j)))), ((oA 29), .inl (cI, 5, .inl (fun j => nI ((M 29) j)))), ((oA 30), .inl (cI, 5, .inl (fun j => nI ((M 30) j))))] H := hP
    have hD : va_D A [((oA 0), .inr (7, [.int 0, .long mt, .ref (oA 2), .int (nI (mi 3)), .int (nI (mi 4)), .int (nI (mi 5)), .int (nI (mi 6)), .int (nI (mi 7)), .int fa, .ref (oA 9), .ref (oA 10), .ref (oA 11), .ref (oA 12), .ref (oA 13), .ref (oA 14), .ref (oA 15), .ref (oA 16), .ref (oA 17), .ref (oA 18), .int (nI (mi 19)), .ref (oA 20), .ref (oA 21), .ref (oA 22), .ref (oA 23), .int (nI (mi 24)), .ref (oA 25), .ref (oA 26), .ref (oA 27), .int (nI (mi 28)), .ref (oA 29), .ref (oA 30), .int (nI (mi 31)), .ref (oA 32), .int (nI (mi 33)), .int (nI (mi 34))])), ((oA 9), .inl (cI, 4, .inl (fun j => nI ((M 9) j)))), ((oA 11), .inl (cI, 18, .inl (fun j => nI ((M 11) j)))), ((oA 20), .inl (cI, 23, .inl (fun j => nI ((M 20) j)))), ((oA 29), .inl (cI, 5, .inl (fun j => nI ((M 29) j)))), ((oA 30), .inl (cI, 5, .inl (fun j => nI ((M 30) j))))] := hD
    refine lv_iload_n hx hb dX7_rain_5 rfl (lv_at hl 1 rfl) ?_
    refine lv_iconst (v := 0) hx hb dX7_rain_6 (by decide) ?_
    refine lv_iconst (v := 2) hx hb dX7_rain_7 (by decide) ?_
    have hPc_8 := hP.sub (ws' := []) [] rfl
    refine ly_r (va_runS (As := [.int (nI 0), .int 0, .int 2]) (rest := []) ⟨hx, hb, hml, hown, hts⟩ (c_X7_in l D cI cC cZ cN (nI 0) 0 2) (va_cwS 3 hts gX7_rain_X7_in rfl rfl rfl (by decide +kernel) ⟨Nat.le_of_ble_eq_true rfl, Nat.le_of_ble_eq_true rfl⟩) (ly_ps hK hN hPc_8) rfl rfl hl.1 rfl (lv_room (Nat.le_of_ble_eq_true rfl)) dX7_rain_8 ⟨Nat.zero_le _, Nat.zero_le _⟩) ?_
    refine lv_if_ne (tgt := 16) hx hb dX7_rain_11 (by decide) (fun _ => ?_) (fun h_9 => absurd h_9 (jin_yes (b := 2) (by omega) (by omega)))
    refine lv_iconst (v := 0) hx hb dX7_rain_16 (by decide) ?_
    refine lv_istore_n (lv' := [(2, .int 0), (0, .ref (oA 0)), (1, .int (nI 0))]) hx hb dX7_rain_17 rfl hl (by decide) rfl (fun ls hl => ?_)
    refine lv_iconst (v := (-1)) hx hb dX7_rain_18 (by decide) ?_
    refine lv_istore_n (lv' := [(3, .int (-1)), (2, .int 0), (0, .ref (oA 0)), (1, .int (nI 0))]) hx hb dX7_rain_19 rfl hl (by decide) rfl (fun ls hl => ?_)
    refine lv_ldc (v := 1000000) hx hb hown k199 dX7_rain_20 ?_
    refine lv_istore (lv' := [(4, .int 1000000), (3, .int (-1)), (2, .int 0), (0, .ref (oA 0)), (1, .int (nI 0))]) hx hb dX7_rain_22 hl (by decide) rfl (fun ls hl => ?_)
    refine lv_iconst (v := 0) hx hb dX7_rain_24 (by decide) ?_
    refine lv_istore (lv' := [(5, .int 0), (4, .int 1000000), (3, .int (-1)), (2, .int 0), (0, .ref (oA 0)), (1, .int (nI 0))]) hx hb dX7_rain_25 hl (by decide) rfl (fun ls hl => ?_)
    have hloop_27 : ∀ (ua st : Nat), st + ua = N6 → ∀ (H : Heap) (locs : List Loc), va_P D vwCl [((oA 0), .inr (7, [.int 0, .long mt, .ref (oA 2), .int (nI (mi 3)), .int (nI (mi 4)), .int (nI (mi 5)), .int (nI (mi 6)), .int (nI (mi 7)), .int fa, .ref (oA 9), .ref (oA 10), .ref (oA 11), .ref (oA 12), .ref (oA 13), .ref (oA 14), .ref (oA 15), .ref (oA 16), .ref (oA 17), .ref (oA 18), .int (nI (mi 19)), .ref (oA 20), .ref (oA 21), .ref (oA 22), .ref (oA 23), .int (nI (mi 24)), .ref (oA 25), .ref (oA 26), .ref (oA 27), .int (nI (mi 28)), .ref (oA 29), .ref (oA 30), .int (nI (mi 31)), .ref (oA 32), .int (nI (mi 33)), .int (nI (mi 34))])), ((oA 9), .inl (cI, 4, .inl (fun j => nI ((M 9) j)))), ((oA 11), .inl (cI, 18, .inl (fun j => nI ((M 11) j)))), ((oA 20), .inl (cI, 23, .inl (fun j => nI ((M 20) j)))), ((oA 29), .inl (cI, 5, .inl (fun j => nI ((M 29) j)))), ((oA 30), .inl (cI, 5, .inl (fun j => nI ((M 30) j))))] H → va_D A [((oA 0), .inr (7, [.int 0, .long mt, .ref (oA 2), .int (nI (mi 3)), .int (nI (mi 4)), .int (nI (mi 5)), .int (nI (mi 6)), .int (nI (mi 7)), .int fa, .ref (oA 9), .ref (oA 10), .ref (oA 11), .ref (oA 12), .ref (oA 13), .ref (oA 14), .ref (oA 15), .ref (oA 16), .ref (oA 17), .ref (oA 18), .int (nI (mi 19)), .ref (oA 20), .ref (oA 21), .ref (oA 22), .ref (oA 23), .int (nI (mi 24)), .ref (oA 25), .ref (oA 26), .ref (oA 27), .int (nI (mi 28)), .ref (oA 29), .ref (oA 30), .int (nI (mi 31)), .ref (oA 32), .int (nI (mi 33)), .int (nI (mi 34))])), ((oA 9), .inl (cI, 4, .inl (fun j => nI ((M 9) j)))), ((oA 11), .inl (cI, 18, .inl (fun j => nI ((M 11) j)))), ((oA 20), .inl (cI, 23, .inl (fun j => nI ((M 20) j)))), ((oA 29), .inl (cI, 5, .inl (fun j => nI ((M 29) j)))), ((oA 30), .inl (cI, 5, .inl (fun j => nI ((M 30) j))))] → va_S A s.heap H locs → ∀ ls : Array Slot, lv_has ls 8 [(5, .int (nI st)), (4, .int ((m_rn M (mi 31) st).2.2)), (3, .int ((m_rn M (mi 31) st).2.1)), (2, .int (nI ((m_rn M (mi 31) st).1))), (0, .ref (oA 0)), (1, .int (nI 0))] → W p l e (headSpec wsX7_rain (ly_rm 6)).room s m av below meth c H locs 0 0 (MQ below Qc av s 0 0 A) (F0 m 27 ls []) := by
      intro ua
      induction ua with
      | zero =>
        intro st hi_27 H locs hP hD hS ls hl
        obtain rfl : N6 = st := by omega
        refine lv_iload hx hb dX7_rain_27 (lv_at hl 0 rfl) ?_
        refine lv_iconst (v := 1) hx hb dX7_rain_29 (by decide) ?_
        refine lv_aload_n hx hb dX7_rain_30 rfl (lv_at hl 4 rfl) ?_
        refine va_get (D := D) (ci := 7) (v := .ref (oA 9)) (C := RX7) (T := TX7) (N := 35) hx hb hts hiX7 hown hK hP 0 rfl rfl 9 (by decide) f13 (fun _ h9 => h9) rfl dX7_rain_31 ?_
        refine lv_iconst (v := 1) hx hb dX7_rain_34 (by decide) ?_
        refine ly_iald hx hb hK hP 1 0 rfl rfl (k := 1) (by decide) rfl (by omega) dX7_rain_35 ?_
        refine lv_ishl hx hb dX7_rain_36 ?_
        refine ly_eqi (show (1 <<< ((nI ((M 9) 1)) &&& 31)) = (nI N6) from (by rw [← hN6]; exact ly_shl1 (by omega))) ?_
        refine lv_icmp_ge (tgt := 146) hx hb dX7_rain_37 (by decide) (fun _ => ?_) (fun h_9 => absurd (nI_le (Nat.le_refl _) (by omega)) h_9)
        refine lv_iload_n hx hb dX7_rain_146 rfl (lv_at hl 5 rfl) ?_
        refine lv_if_ne (tgt := 154) hx hb dX7_rain_147 (by decide) (fun h_9 => absurd (by decide) h_9) (fun _ => ?_)
        refine lv_iload_n hx hb dX7_rain_150 rfl (lv_at hl 3 rfl) ?_
        refine lv_goto (tgt := 174) hx hb dX7_rain_151 (by decide) ?_
        exact W.iret (v := (nI ((m_rn M (mi 31) N6).1))) hx hb hr (fun t_9 ht_9 _ => by rw [hQc]; exact ⟨_, [((oA 0), .inr (7, [.int 0, .long mt, .ref (oA 2), .int (nI (mi 3)), .int (nI (mi 4)), .int (nI (mi 5)), .int (nI (mi 6)), .int (nI (mi 7)), .int fa, .ref (oA 9), .ref (oA 10), .ref (oA 11), .ref (oA 12), .ref (oA 13), .ref (oA 14), .ref (oA 15), .ref (oA 16), .ref (oA 17), .ref (oA 18), .int (nI (mi 19)), .ref (oA 20), .ref (oA 21), .ref (oA 22), .ref (oA 23), .int (nI (mi 24)), .ref (oA 25), .ref (oA 26), .ref (oA 27), .int (nI (mi 28)), .ref (oA 29), .ref (oA 30), .int (nI (mi 31)), .ref (oA 32), .int (nI (mi 33)), .int (nI (mi 34))])), ((oA 9), .inl (cI, 4, .inl (fun j => nI ((M 9) j)))), ((oA 11), .inl (cI, 18, .inl (fun j => nI ((M 11) j)))), ((oA 20), .inl (cI, 23, .inl (fun j => nI ((M 20) j)))), ((oA 29), .inl (cI, 5, .inl (fun j => nI ((M 29) j)))), ((oA 30), .inl (cI, 5, .inl (fun j => nI ((M 30) j))))], rfl, ⟨rfl, rfl⟩, by simp only [List.map_cons, List.map_nil], by rw [ht_9]; exact hP.sub [0, 1, 2, 3, 4, 5] rfl, by rw [← hAe]; exact hS.F ht_9⟩) hS.2.2 dX7_rain_174
      | succ ua ih_27 =>
        intro st hi_27 H locs hP hD hS ls hl
        refine lv_iload hx hb dX7_rain_27 (lv_at hl 0 rfl) ?_
        refine lv_iconst (v := 1) hx hb dX7_rain_29 (by decide) ?_
        refine lv_aload_n hx hb dX7_rain_30 rfl (lv_at hl 4 rfl) ?_
        refine va_get (D := D) (ci := 7) (v := .ref (oA 9)) (C := RX7) (T := TX7) (N := 35) hx hb hts hiX7 hown hK hP 0 rfl rfl 9 (by decide) f13 (fun _ h9 => h9) rfl dX7_rain_31 ?_
        refine lv_iconst (v := 1) hx hb dX7_rain_34 (by decide) ?_
        refine ly_iald hx hb hK hP 1 0 rfl rfl (k := 1) (by decide) rfl (by omega) dX7_rain_35 ?_
        refine lv_ishl hx hb dX7_rain_36 ?_
        refine ly_eqi (show (1 <<< ((nI ((M 9) 1)) &&& 31)) = (nI N6) from (by rw [← hN6]; exact ly_shl1 (by omega))) ?_
        refine lv_icmp_ge (tgt := 146) hx hb dX7_rain_37 (by decide) (fun h_9 => absurd h_9 (nI_ge (by omega) (by omega))) (fun _ => ?_)
        refine lv_iconst (v := 1) hx hb dX7_rain_40 (by decide) ?_
        refine lv_istore (lv' := [(6, .int 1), (5, .int (nI st)), (4, .int ((m_rn M (mi 31) st).2.2)), (3, .int ((m_rn M (mi 31) st).2.1)), (2, .int (nI ((m_rn M (mi 31) st).1))), (0, .ref (oA 0)), (1, .int (nI 0))]) hx hb dX7_rain_41 hl (by decide) rfl (fun ls hl => ?_)
        refine lv_iconst (v := 0) hx hb dX7_rain_43 (by decide) ?_
        refine lv_istore (lv' := [(7, .int 0), (6, .int 1), (5, .int (nI st)), (4, .int ((m_rn M (mi 31) st).2.2)), (3, .int ((m_rn M (mi 31) st).2.1)), (2, .int (nI ((m_rn M (mi 31) st).1))), (0, .ref (oA 0)), (1, .int (nI 0))]) hx hb dX7_rain_44 hl (by decide) rfl (fun ls hl => ?_)
        have hloop_46 : ∀ (ub i : Nat), i + ub = mi 31 → ∀ (H : Heap) (locs : List Loc), va_P D vwCl [((oA 0), .inr (7, [.int 0, .long mt, .ref (oA 2), .int (nI (mi 3)), .int (nI (mi 4)), .int (nI (mi 5)), .int (nI (mi 6)), .int (nI (mi 7)), .int fa, .ref (oA 9), .ref (oA 10), .ref (oA 11), .ref (oA 12), .ref (oA 13), .ref (oA 14), .ref (oA 15), .ref (oA 16), .ref (oA 17), .ref (oA 18), .int (nI (mi 19)), .ref (oA 20), .ref (oA 21), .ref (oA 22), .ref (oA 23), .int (nI (mi 24)), .ref (oA 25), .ref (oA 26), .ref (oA 27), .int (nI (mi 28)), .ref (oA 29), .ref (oA 30), .int (nI (mi 31)), .ref (oA 32), .int (nI (mi 33)), .int (nI (mi 34))])), ((oA 9), .inl (cI, 4, .inl (fun j => nI ((M 9) j)))), ((oA 11), .inl (cI, 18, .inl (fun j => nI ((M 11) j)))), ((oA 20), .inl (cI, 23, .inl (fun j => nI ((M 20) j)))), ((oA 29), .inl (cI, 5, .inl (fun j => nI ((M 29) j)))), ((oA 30), .inl (cI, 5, .inl (fun j => nI ((M 30) j))))] H → va_D A [((oA 0), .inr (7, [.int 0, .long mt, .ref (oA 2), .int (nI (mi 3)), .int (nI (mi 4)), .int (nI (mi 5)), .int (nI (mi 6)), .int (nI (mi 7)), .int fa, .ref (oA 9), .ref (oA 10), .ref (oA 11), .ref (oA 12), .ref (oA 13), .ref (oA 14), .ref (oA 15), .ref (oA 16), .ref (oA 17), .ref (oA 18), .int (nI (mi 19)), .ref (oA 20), .ref (oA 21), .ref (oA 22), .ref (oA 23), .int (nI (mi 24)), .ref (oA 25), .ref (oA 26), .ref (oA 27), .int (nI (mi 28)), .ref (oA 29), .ref (oA 30), .int (nI (mi 31)), .ref (oA 32), .int (nI (mi 33)), .int (nI (mi 34))])), ((oA 9), .inl (cI, 4, .inl (fun j => nI ((M 9) j)))), ((oA 11), .inl (cI, 18, .inl (fun j => nI ((M 11) j)))), ((oA 20), .inl (cI, 23, .inl (fun j => nI ((M 20) j)))), ((oA 29), .inl (cI, 5, .inl (fun j => nI ((M 29) j)))), ((oA 30), .inl (cI, 5, .inl (fun j => nI ((M 30) j))))] → va_S A s.heap H locs → ∀ ls : Array Slot, lv_has ls 8 [(7, .int (nI i)), (6, .int (nI (m_ri M st i))), (5, .int (nI st)), (4, .int ((m_rn M (mi 31) st).2.2)), (3, .int ((m_rn M (mi 31) st).2.1)), (2, .int (nI ((m_rn M (mi 31) st).1))), (0, .ref (oA 0)), (1, .int (nI 0))] → W p l e (headSpec wsX7_rain (ly_rm 6)).room s m av below meth c H locs 0 0 (MQ below Qc av s 0 0 A) (F0 m 46 ls []) := by
          intro ub
          induction ub with
          | zero =>
            intro i hi_46 H locs hP hD hS ls hl
            obtain rfl : mi 31 = i := by omega
            refine lv_iload hx hb dX7_rain_46 (lv_at hl 0 rfl) ?_
            refine lv_aload_n hx hb dX7_rain_48 rfl (lv_at hl 6 rfl) ?_
            refine va_get (D := D) (ci := 7) (v := .int (nI (mi 31))) (C := RX7) (T := TX7) (N := 35) hx hb hts hiX7 hown hK hP 0 rfl rfl 31 (by decide) f138 (fun _ h9 => h9) rfl dX7_rain_49 ?_
            refine lv_icmp_ge (tgt := 105) hx hb dX7_rain_52 (by decide) (fun _ => ?_) (fun h_9 => absurd (nI_le (Nat.le_refl _) (by omega)) h_9)
            refine lv_iload hx hb dX7_rain_105 (lv_at hl 1 rfl) ?_
            refine lv_if_eq (tgt := 140) hx hb dX7_rain_107 (by decide) (fun c_1 => ?_) (fun c_1 => ?_)
            · refine lv_iinc (v := (nI (st + 1))) (lv' := [(5, .int (nI (st + 1))), (7, .int (nI (mi 31))), (6, .int (nI (m_ri M st (mi 31)))), (4, .int ((m_rn M (mi 31) st).2.2)), (3, .int ((m_rn M (mi 31) st).2.1)), (2, .int (nI ((m_rn M (mi 31) st).1))), (0, .ref (oA 0)), (1, .int (nI 0))]) hx hb dX7_rain_140 hl (k := 2) rfl (ly_add rfl rfl) (by decide) rfl (fun ls hl => ?_)
              refine lv_goto (tgt := 27) hx hb dX7_rain_143 (by decide) ?_
              have e_2 : m_rn M (mi 31) (st + 1) = ((m_rn M (mi 31) st).1, (m_rn M (mi 31) st).2.1, (m_rn M (mi 31) st).2.2) := by show m_rnB M (mi 31) st ((m_rn M (mi 31) st).1) ((m_rn M (mi 31) st).2.1) ((m_rn M (mi 31) st).2.2) = _; unfold m_rnB; rw [if_pos c_1]
              exact ih_27 (st + 1) (by omega) H locs (by first | exact hP.sub [0, 1, 2, 3, 4, 5] rfl | (rw [e_2]; exact hP.sub [0, 1, 2, 3, 4, 5] rfl)) (by first | exact hD.sub [0, 1, 2, 3, 4, 5] (by decide) rfl | (rw [e_2]; exact hD.sub [0, 1, 2, 3, 4, 5] (by decide) rfl)) hS ls (by first | exact lv_sub hl [0, 3, 4, 5, 6, 7] rfl | (rw [e_2]; exact lv_sub hl [0, 3, 4, 5, 6, 7] rfl))
            · refine lv_iinc (v := (nI ((m_rn M (mi 31) st).1 + 1))) (lv' := [(2, .int (nI ((m_rn M (mi 31) st).1 + 1))), (7, .int (nI (mi 31))), (6, .int (nI (m_ri M st (mi 31)))), (5, .int (nI st)), (4, .int ((m_rn M (mi 31) st).2.2)), (3, .int ((m_rn M (mi 31) st).2.1)), (0, .ref (oA 0)), (1, .int (nI 0))]) hx hb dX7_rain_110 hl (k := 5) rfl (ly_add rfl rfl) (by decide) rfl (fun ls hl => ?_)
              refine lv_iload_n hx hb dX7_rain_113 rfl (lv_at hl 5 rfl) ?_
              refine lv_iload hx hb dX7_rain_114 (lv_at hl 3 rfl) ?_
              refine lv_iand hx hb dX7_rain_116 ?_
              refine lv_istore_n (lv' := [(3, .int ((m_rn M (mi 31) st).2.1 &&& (nI st))), (2, .int (nI ((m_rn M (mi 31) st).1 + 1))), (7, .int (nI (mi 31))), (6, .int (nI (m_ri M st (mi 31)))), (5, .int (nI st)), (4, .int ((m_rn M (mi 31) st).2.2)), (0, .ref (oA 0)), (1, .int (nI 0))]) hx hb dX7_rain_117 rfl hl (by decide) rfl (fun ls hl => ?_)
              refine lv_iload hx hb dX7_rain_118 (lv_at hl 4 rfl) ?_
              have hPc_120 := hP.sub (ws' := []) [] rfl
              refine ly_r (va_runS (As := [.int (nI st)]) (rest := []) ⟨hx, hb, hml, hown, hts⟩ (c_X7_ones l D cI cC cZ cN (nI st)) (va_cwS 1 hts gX7_rain_X7_ones rfl rfl rfl (by decide +kernel) ⟨Nat.le_of_ble_eq_true rfl, Nat.le_of_ble_eq_true rfl⟩) (ly_ps hK hN hPc_120) rfl rfl hl.1 rfl (lv_room (Nat.le_of_ble_eq_true rfl)) dX7_rain_120 ⟨Nat.zero_le _, Nat.zero_le _⟩) ?_
              refine lv_iload hx hb dX7_rain_123 (lv_at hl 5 rfl) ?_
              refine lv_icmp_ge (tgt := 136) hx hb dX7_rain_125 (by decide) (fun c_3 => ?_) (fun c_3 => ?_)
              · refine lv_iload hx hb dX7_rain_136 (lv_at hl 5 rfl) ?_
                refine lv_istore (lv' := [(4, .int ((m_rn M (mi 31) st).2.2)), (3, .int ((m_rn M (mi 31) st).2.1 &&& (nI st))), (2, .int (nI ((m_rn M (mi 31) st).1 + 1))), (7, .int (nI (mi 31))), (6, .int (nI (m_ri M st (mi 31)))), (5, .int (nI st)), (0, .ref (oA 0)), (1, .int (nI 0))]) hx hb dX7_rain_138 hl (by decide) rfl (fun ls hl => ?_)
                refine lv_iinc (v := (nI (st + 1))) (lv' := [(5, .int (nI (st + 1))), (4, .int ((m_rn M (mi 31) st).2.2)), (3, .int ((m_rn M (mi 31) st).2.1 &&& (nI st))), (2, .int (nI ((m_rn M (mi 31) st).1 + 1))), (7, .int (nI (mi 31))), (6, .int (nI (m_ri M st (mi 31)))), (0, .ref (oA 0)), (1, .int (nI 0))]) hx hb dX7_rain_140 hl (k := 5) rfl (ly_add rfl rfl) (by decide) rfl (fun ls hl => ?_)
                refine lv_goto (tgt := 27) hx hb dX7_rain_143 (by decide) ?_
                have e_4 : m_rn M (mi 31) (st + 1) = ((m_rn M (mi 31) st).1 + 1, ((m_rn M (mi 31) st).2.1 &&& (nI st)), (m_rn M (mi 31) st).2.2) := by show m_rnB M (mi 31) st ((m_rn M (mi 31) st).1) ((m_rn M (mi 31) st).2.1) ((m_rn M (mi 31) st).2.2) = _; unfold m_rnB; rw [if_neg c_1, if_pos c_3]
                exact ih_27 (st + 1) (by omega) H locs (by first | exact hP.sub [0, 1, 2, 3, 4, 5] rfl | (rw [e_4]; exact hP.sub [0, 1, 2, 3, 4, 5] rfl)) (by first | exact hD.sub [0, 1, 2, 3, 4, 5] (by decide) rfl | (rw [e_4]; exact hD.sub [0, 1, 2, 3, 4, 5] (by decide) rfl)) hS ls (by first | exact lv_sub hl [0, 1, 2, 3, 6, 7] rfl | (rw [e_4]; exact lv_sub hl [0, 1, 2, 3, 6, 7] rfl))
              · refine lv_iload hx hb dX7_rain_128 (lv_at hl 4 rfl) ?_
                have hPc_130 := hP.sub (ws' := []) [] rfl
                refine ly_r (va_runS (As := [.int (nI st)]) (rest := []) ⟨hx, hb, hml, hown, hts⟩ (c_X7_ones l D cI cC cZ cN (nI st)) (va_cwS 1 hts gX7_rain_X7_ones rfl rfl rfl (by decide +kernel) ⟨Nat.le_of_ble_eq_true rfl, Nat.le_of_ble_eq_true rfl⟩) (ly_ps hK hN hPc_130) rfl rfl hl.1 rfl (lv_room (Nat.le_of_ble_eq_true rfl)) dX7_rain_130 ⟨Nat.zero_le _, Nat.zero_le _⟩) ?_
                refine lv_goto (tgt := 138) hx hb dX7_rain_133 (by decide) ?_
                refine lv_istore (lv' := [(4, .int (m_ones (nI st) 9)), (3, .int ((m_rn M (mi 31) st).2.1 &&& (nI st))), (2, .int (nI ((m_rn M (mi 31) st).1 + 1))), (7, .int (nI (mi 31))), (6, .int (nI (m_ri M st (mi 31)))), (5, .int (nI st)), (0, .ref (oA 0)), (1, .int (nI 0))]) hx hb dX7_rain_138 hl (by decide) rfl (fun ls hl => ?_)
                refine lv_iinc (v := (nI (st + 1))) (lv' := [(5, .int (nI (st + 1))), (4, .int (m_ones (nI st) 9)), (3, .int ((m_rn M (mi 31) st).2.1 &&& (nI st))), (2, .int (nI ((m_rn M (mi 31) st).1 + 1))), (7, .int (nI (mi 31))), (6, .int (nI (m_ri M st (mi 31)))), (0, .ref (oA 0)), (1, .int (nI 0))]) hx hb dX7_rain_140 hl (k := 5) rfl (ly_add rfl rfl) (by decide) rfl (fun ls hl => ?_)
                refine lv_goto (tgt := 27) hx hb dX7_rain_143 (by decide) ?_
                have e_5 : m_rn M (mi 31) (st + 1) = ((m_rn M (mi 31) st).1 + 1, ((m_rn M (mi 31) st).2.1 &&& (nI st)), (m_ones (nI st) 9)) := by show m_rnB M (mi 31) st ((m_rn M (mi 31) st).1) ((m_rn M (mi 31) st).2.1) ((m_rn M (mi 31) st).2.2) = _; unfold m_rnB; rw [if_neg c_1, if_neg c_3]
                exact ih_27 (st + 1) (by omega) H locs (by first | exact hP.sub [0, 1, 2, 3, 4, 5] rfl | (rw [e_5]; exact hP.sub [0, 1, 2, 3, 4, 5] rfl)) (by first | exact hD.sub [0, 1, 2, 3, 4, 5] (by decide) rfl | (rw [e_5]; exact hD.sub [0, 1, 2, 3, 4, 5] (by decide) rfl)) hS ls (by first | exact lv_sub hl [0, 1, 2, 3, 6, 7] rfl | (rw [e_5]; exact lv_sub hl [0, 1, 2, 3, 6, 7] rfl))
          | succ ub ih_46 =>
            intro i hi_46 H locs hP hD hS ls hl
            refine lv_iload hx hb dX7_rain_46 (lv_at hl 0 rfl) ?_
            refine lv_aload_n hx hb dX7_rain_48 rfl (lv_at hl 6 rfl) ?_
            refine va_get (D := D) (ci := 7) (v := .int (nI (mi 31))) (C := RX7) (T := TX7) (N := 35) hx hb hts hiX7 hown hK hP 0 rfl rfl 31 (by decide) f138 (fun _ h9 => h9) rfl dX7_rain_49 ?_
            refine lv_icmp_ge (tgt := 105) hx hb dX7_rain_52 (by decide) (fun h_9 => absurd h_9 (nI_ge (by omega) (by omega))) (fun _ => ?_)
            refine lv_iload hx hb dX7_rain_55 (lv_at hl 1 rfl) ?_
            refine lv_if_eq (tgt := 96) hx hb dX7_rain_57 (by decide) (fun c_6 => ?_) (fun c_6 => ?_)
            · refine lv_iconst (v := 0) hx hb dX7_rain_96 (by decide) ?_
              refine lv_istore (lv' := [(6, .int 0), (7, .int (nI i)), (5, .int (nI st)), (4, .int ((m_rn M (mi 31) st).2.2)), (3, .int ((m_rn M (mi 31) st).2.1)), (2, .int (nI ((m_rn M (mi 31) st).1))), (0, .ref (oA 0)), (1, .int (nI 0))]) hx hb dX7_rain_97 hl (by decide) rfl (fun ls hl => ?_)
              refine lv_iinc (v := (nI (i + 1))) (lv' := [(7, .int (nI (i + 1))), (6, .int 0), (5, .int (nI st)), (4, .int ((m_rn M (mi 31) st).2.2)), (3, .int ((m_rn M (mi 31) st).2.1)), (2, .int (nI ((m_rn M (mi 31) st).1))), (0, .ref (oA 0)), (1, .int (nI 0))]) hx hb dX7_rain_99 hl (k := 1) rfl (ly_add rfl rfl) (by decide) rfl (fun ls hl => ?_)
              refine lv_goto (tgt := 46) hx hb dX7_rain_102 (by decide) ?_
              have e_7 : m_ri M st (i + 1) = 0 := by show m_riB M st i (m_ri M st i) = _; unfold m_riB; rw [if_pos c_6]
              exact ih_46 (i + 1) (by omega) H locs (by first | exact hP.sub [0, 1, 2, 3, 4, 5] rfl | (rw [e_7]; exact hP.sub [0, 1, 2, 3, 4, 5] rfl)) (by first | exact hD.sub [0, 1, 2, 3, 4, 5] (by decide) rfl | (rw [e_7]; exact hD.sub [0, 1, 2, 3, 4, 5] (by decide) rfl)) hS ls (by first | exact lv_sub hl [0, 1, 2, 3, 4, 5, 6, 7] rfl | (rw [e_7]; exact lv_sub hl [0, 1, 2, 3, 4, 5, 6, 7] rfl))
            · refine lv_aload_n hx hb dX7_rain_60 rfl (lv_at hl 6 rfl) ?_
              refine lv_aload_n hx hb dX7_rain_61 rfl (lv_at hl 6 rfl) ?_
              refine va_get (D := D) (ci := 7) (v := .ref (oA 29)) (C := RX7) (T := TX7) (N := 35) hx hb hts hiX7 hown hK hP 0 rfl rfl 29 (by decide) f65 (fun _ h9 => h9) rfl dX7_rain_62 ?_
              refine lv_iload hx hb dX7_rain_65 (lv_at hl 0 rfl) ?_
              refine ly_iald hx hb hK hP 4 0 rfl rfl (k := i) (by decide) rfl (by omega) dX7_rain_67 ?_
              refine lv_iload hx hb dX7_rain_68 (lv_at hl 2 rfl) ?_
              have hPc_70 := hP.sub (ws' := [((oA 0), .inr (7, [.int 0, .long mt, .ref (oA 2), .int (nI (mi 3)), .int (nI (mi 4)), .int (nI (mi 5)), .int (nI (mi 6)), .int (nI (mi 7)), .int fa, .ref (oA 9), .ref (oA 10), .ref (oA 11), .ref (oA 12), .ref (oA 13), .ref (oA 14), .ref (oA 15), .ref (oA 16), .ref (oA 17), .ref (oA 18), .int (nI (mi 19)), .ref (oA 20), .ref (oA 21), .ref (oA 22), .ref (oA 23), .int (nI (mi 24)), .ref (oA 25), .ref (oA 26), .ref (oA 27), .int (nI (mi 28)), .ref (oA 29), .ref (oA 30), .int (nI (mi 31)), .ref (oA 32), .int (nI (mi 33)), .int (nI (mi 34))])), ((oA 9), .inl (cI, 4, .inl (fun j => nI ((M 9) j)))), ((oA 11), .inl (cI, 18, .inl (fun j => nI ((M 11) j)))), ((oA 20), .inl (cI, 23, .inl (fun j => nI ((M 20) j))))]) [0, 1, 2, 3] rfl
              refine ly_r (va_runV (As := [.int (nI ((M 29) i)), .int (nI st)]) (rest := []) ⟨hx, hb, hml, hown, hts⟩ (c_X7_feels l D cI cC cZ cN oA M mi fa mt ((M 29) i) st hn) (cwV 2 hts gX7_rain_X7_feels rfl rfl rfl (by decide +kernel) ⟨Nat.le_of_ble_eq_true rfl, Nat.le_of_ble_eq_true rfl⟩) (ly_pv hK hN hPc_70 0 7 rfl rfl rfl) rfl rfl hl.1 rfl (lv_room (Nat.le_of_ble_eq_true rfl)) dX7_rain_70 ⟨Nat.zero_le _, Nat.zero_le _⟩) ?_
              refine lv_aload_n hx hb dX7_rain_73 rfl (lv_at hl 6 rfl) ?_
              refine va_get (D := D) (ci := 7) (v := .ref (oA 30)) (C := RX7) (T := TX7) (N := 35) hx hb hts hiX7 hown hK hP 0 rfl rfl 30 (by decide) f68 (fun _ h9 => h9) rfl dX7_rain_74 ?_
              refine lv_iload hx hb dX7_rain_77 (lv_at hl 0 rfl) ?_
              refine ly_iald hx hb hK hP 5 0 rfl rfl (k := i) (by decide) rfl (by omega) dX7_rain_79 ?_
              refine lv_iconst (v := 1) hx hb dX7_rain_80 (by decide) ?_
              refine lv_icmp_ne (tgt := 88) hx hb dX7_rain_81 (by decide) (fun c_8 => ?_) (fun c_8 => ?_)
              · refine lv_iconst (v := 0) hx hb dX7_rain_88 (by decide) ?_
                refine lv_icmp_ne (tgt := 96) hx hb dX7_rain_89 (by decide) (fun c_9 => ?_) (fun c_9 => ?_)
                · refine lv_iconst (v := 0) hx hb dX7_rain_96 (by decide) ?_
                  refine lv_istore (lv' := [(6, .int 0), (7, .int (nI i)), (5, .int (nI st)), (4, .int ((m_rn M (mi 31) st).2.2)), (3, .int ((m_rn M (mi 31) st).2.1)), (2, .int (nI ((m_rn M (mi 31) st).1))), (0, .ref (oA 0)), (1, .int (nI 0))]) hx hb dX7_rain_97 hl (by decide) rfl (fun ls hl => ?_)
                  refine lv_iinc (v := (nI (i + 1))) (lv' := [(7, .int (nI (i + 1))), (6, .int 0), (5, .int (nI st)), (4, .int ((m_rn M (mi 31) st).2.2)), (3, .int ((m_rn M (mi 31) st).2.1)), (2, .int (nI ((m_rn M (mi 31) st).1))), (0, .ref (oA 0)), (1, .int (nI 0))]) hx hb dX7_rain_99 hl (k := 1) rfl (ly_add rfl rfl) (by decide) rfl (fun ls hl => ?_)
                  refine lv_goto (tgt := 46) hx hb dX7_rain_102 (by decide) ?_
                  have e_10 : m_ri M st (i + 1) = 0 := by show m_riB M st i (m_ri M st i) = _; unfold m_riB; rw [if_neg c_6, if_neg c_8, if_neg c_9]
                  exact ih_46 (i + 1) (by omega) H locs (by first | exact hP.sub [0, 1, 2, 3, 4, 5] rfl | (rw [e_10]; exact hP.sub [0, 1, 2, 3, 4, 5] rfl)) (by first | exact hD.sub [0, 1, 2, 3, 4, 5] (by decide) rfl | (rw [e_10]; exact hD.sub [0, 1, 2, 3, 4, 5] (by decide) rfl)) hS ls (by first | exact lv_sub hl [0, 1, 2, 3, 4, 5, 6, 7] rfl | (rw [e_10]; exact lv_sub hl [0, 1, 2, 3, 4, 5, 6, 7] rfl))
                · refine lv_iconst (v := 1) hx hb dX7_rain_92 (by decide) ?_
                  refine lv_goto (tgt := 97) hx hb dX7_rain_93 (by decide) ?_
                  refine lv_istore (lv' := [(6, .int 1), (7, .int (nI i)), (5, .int (nI st)), (4, .int ((m_rn M (mi 31) st).2.2)), (3, .int ((m_rn M (mi 31) st).2.1)), (2, .int (nI ((m_rn M (mi 31) st).1))), (0, .ref (oA 0)), (1, .int (nI 0))]) hx hb dX7_rain_97 hl (by decide) rfl (fun ls hl => ?_)
                  refine lv_iinc (v := (nI (i + 1))) (lv' := [(7, .int (nI (i + 1))), (6, .int 1), (5, .int (nI st)), (4, .int ((m_rn M (mi 31) st).2.2)), (3, .int ((m_rn M (mi 31) st).2.1)), (2, .int (nI ((m_rn M (mi 31) st).1))), (0, .ref (oA 0)), (1, .int (nI 0))]) hx hb dX7_rain_99 hl (k := 1) rfl (ly_add rfl rfl) (by decide) rfl (fun ls hl => ?_)
                  refine lv_goto (tgt := 46) hx hb dX7_rain_102 (by decide) ?_
                  have e_11 : m_ri M st (i + 1) = 1 := by show m_riB M st i (m_ri M st i) = _; unfold m_riB; rw [if_neg c_6, if_neg c_8, if_pos c_9]
                  exact ih_46 (i + 1) (by omega) H locs (by first | exact hP.sub [0, 1, 2, 3, 4, 5] rfl | (rw [e_11]; exact hP.sub [0, 1, 2, 3, 4, 5] rfl)) (by first | exact hD.sub [0, 1, 2, 3, 4, 5] (by decide) rfl | (rw [e_11]; exact hD.sub [0, 1, 2, 3, 4, 5] (by decide) rfl)) hS ls (by first | exact lv_sub hl [0, 1, 2, 3, 4, 5, 6, 7] rfl | (rw [e_11]; exact lv_sub hl [0, 1, 2, 3, 4, 5, 6, 7] rfl))
              · refine lv_iconst (v := 1) hx hb dX7_rain_84 (by decide) ?_
                refine lv_goto (tgt := 89) hx hb dX7_rain_85 (by decide) ?_
                refine lv_icmp_ne (tgt := 96) hx hb dX7_rain_89 (by decide) (fun c_12 => ?_) (fun c_12 => ?_)
                · refine lv_iconst (v := 0) hx hb dX7_rain_96 (by decide) ?_
                  refine lv_istore (lv' := [(6, .int 0), (7, .int (nI i)), (5, .int (nI st)), (4, .int ((m_rn M (mi 31) st).2.2)), (3, .int ((m_rn M (mi 31) st).2.1)), (2, .int (nI ((m_rn M (mi 31) st).1))), (0, .ref (oA 0)), (1, .int (nI 0))]) hx hb dX7_rain_97 hl (by decide) rfl (fun ls hl => ?_)
                  refine lv_iinc (v := (nI (i + 1))) (lv' := [(7, .int (nI (i + 1))), (6, .int 0), (5, .int (nI st)), (4, .int ((m_rn M (mi 31) st).2.2)), (3, .int ((m_rn M (mi 31) st).2.1)), (2, .int (nI ((m_rn M (mi 31) st).1))), (0, .ref (oA 0)), (1, .int (nI 0))]) hx hb dX7_rain_99 hl (k := 1) rfl (ly_add rfl rfl) (by decide) rfl (fun ls hl => ?_)
                  refine lv_goto (tgt := 46) hx hb dX7_rain_102 (by decide) ?_
                  have e_13 : m_ri M st (i + 1) = 0 := by show m_riB M st i (m_ri M st i) = _; unfold m_riB; rw [if_neg c_6, if_pos c_8, if_neg c_12]
                  exact ih_46 (i + 1) (by omega) H locs (by first | exact hP.sub [0, 1, 2, 3, 4, 5] rfl | (rw [e_13]; exact hP.sub [0, 1, 2, 3, 4, 5] rfl)) (by first | exact hD.sub [0, 1, 2, 3, 4, 5] (by decide) rfl | (rw [e_13]; exact hD.sub [0, 1, 2, 3, 4, 5] (by decide) rfl)) hS ls (by first | exact lv_sub hl [0, 1, 2, 3, 4, 5, 6, 7] rfl | (rw [e_13]; exact lv_sub hl [0, 1, 2, 3, 4, 5, 6, 7] rfl))
                · refine lv_iconst (v := 1) hx hb dX7_rain_92 (by decide) ?_
                  refine lv_goto (tgt := 97) hx hb dX7_rain_93 (by decide) ?_
                  refine lv_istore (lv' := [(6, .int 1), (7, .int (nI i)), (5, .int (nI st)), (4, .int ((m_rn M (mi 31) st).2.2)), (3, .int ((m_rn M (mi 31) st).2.1)), (2, .int (nI ((m_rn M (mi 31) st).1))), (0, .ref (oA 0)), (1, .int (nI 0))]) hx hb dX7_rain_97 hl (by decide) rfl (fun ls hl => ?_)
                  refine lv_iinc (v := (nI (i + 1))) (lv' := [(7, .int (nI (i + 1))), (6, .int 1), (5, .int (nI st)), (4, .int ((m_rn M (mi 31) st).2.2)), (3, .int ((m_rn M (mi 31) st).2.1)), (2, .int (nI ((m_rn M (mi 31) st).1))), (0, .ref (oA 0)), (1, .int (nI 0))]) hx hb dX7_rain_99 hl (k := 1) rfl (ly_add rfl rfl) (by decide) rfl (fun ls hl => ?_)
                  refine lv_goto (tgt := 46) hx hb dX7_rain_102 (by decide) ?_
                  have e_14 : m_ri M st (i + 1) = 1 := by show m_riB M st i (m_ri M st i) = _; unfold m_riB; rw [if_neg c_6, if_pos c_8, if_pos c_12]
                  exact ih_46 (i + 1) (by omega) H locs (by first | exact hP.sub [0, 1, 2, 3, 4, 5] rfl | (rw [e_14]; exact hP.sub [0, 1, 2, 3, 4, 5] rfl)) (by first | exact hD.sub [0, 1, 2, 3, 4, 5] (by decide) rfl | (rw [e_14]; exact hD.sub [0, 1, 2, 3, 4, 5] (by decide) rfl)) hS ls (by first | exact lv_sub hl [0, 1, 2, 3, 4, 5, 6, 7] rfl | (rw [e_14]; exact lv_sub hl [0, 1, 2, 3, 4, 5, 6, 7] rfl))
        exact hloop_46 (mi 31) 0 (by omega) H locs (hP.sub [0, 1, 2, 3, 4, 5] rfl) (hD.sub [0, 1, 2, 3, 4, 5] (by decide) rfl) hS ls (lv_sub hl [0, 1, 2, 3, 4, 5, 6, 7] rfl)
    exact hloop_27 N6 0 (by omega) H locs (hP.sub [0, 1, 2, 3, 4, 5] rfl) (hD.sub [0, 1, 2, 3, 4, 5] (by decide) rfl) hS ls (lv_sub hl [0, 1, 2, 3, 4, 5] rfl)
  exact hmain _ _ hP va_S.rf

set_option maxHeartbeats 4000000 in
set_option maxRecDepth 100000 in
theorem c_X7_rain_1 (l : Launch) (D : va_G) (cI cC cZ cN : ClassId) (oA : Nat → Nat) (M : Nat → Nat → Nat) (mi : Nat → Nat) (fa : Int32) (mt : Int64) (hn : M 9 0 ≤ 9) (hm6 : M 9 1 ≤ 6) (hfm : mi 31 ≤ 5) (N6 : Nat) (hN6 : 2 ^ M 9 1 = N6) (hN7 : N6 ≤ 64) (hD0 : va_D (fun _ => True) [((oA 0), .inr (7, [.int 0, .long mt, .ref (oA 2), .int (nI (mi 3)), .int (nI (mi 4)), .int (nI (mi 5)), .int (nI (mi 6)), .int (nI (mi 7)), .int fa, .ref (oA 9), .ref (oA 10), .ref (oA 11), .ref (oA 12), .ref (oA 13), .ref (oA 14), .ref (oA 15), .ref (oA 16), .ref (oA 17), .ref (oA 18), .int (nI (mi 19)), .ref (oA 20), .ref (oA 21), .ref (oA 22), .ref (oA 23), .int (nI (mi 24)), .ref (oA 25), .ref (oA 26), .ref (oA 27), .int (nI (mi 28)), .ref (oA 29), .ref (oA 30), .int (nI (mi 31)), .ref (oA 32), .int (nI (mi 33)), .int (nI (mi 34))])), ((oA 9), .inl (cI, 4, .inl (fun j => nI ((M 9) j)))), ((oA 11), .inl (cI, 18, .inl (fun j => nI ((M 11) j)))), ((oA 20), .inl (cI, 23, .inl (fun j => nI ((M 20) j)))), ((oA 29), .inl (cI, 5, .inl (fun j => nI ((M 29) j)))), ((oA 30), .inl (cI, 5, .inl (fun j => nI ((M 30) j))))]) : Met l yX7_rain wsX7_rain (ly_rm 6) (ly_Pre D (ly_tys cI cC cZ cN) [((oA 0), .inr (7, [.int 0, .long mt, .ref (oA 2), .int (nI (mi 3)), .int (nI (mi 4)), .int (nI (mi 5)), .int (nI (mi 6)), .int (nI (mi 7)), .int fa, .ref (oA 9), .ref (oA 10), .ref (oA 11), .ref (oA 12), .ref (oA 13), .ref (oA 14), .ref (oA 15), .ref (oA 16), .ref (oA 17), .ref (oA 18), .int (nI (mi 19)), .ref (oA 20), .ref (oA 21), .ref (oA 22), .ref (oA 23), .int (nI (mi 24)), .ref (oA 25), .ref (oA 26), .ref (oA 27), .int (nI (mi 28)), .ref (oA 29), .ref (oA 30), .int (nI (mi 31)), .ref (oA 32), .int (nI (mi 33)), .int (nI (mi 34))])), ((oA 9), .inl (cI, 4, .inl (fun j => nI ((M 9) j)))), ((oA 11), .inl (cI, 18, .inl (fun j => nI ((M 11) j)))), ((oA 20), .inl (cI, 23, .inl (fun j => nI ((M 20) j)))), ((oA 29), .inl (cI, 5, .inl (fun j => nI ((M 29) j)))), ((oA 30), .inl (cI, 5, .inl (fun j => nI ((M 30) j))))] [.ref (oA 0), .int (nI 1)]) (ly_Q D [((oA 0), .inr (7, [.int 0, .long mt, .ref (oA 2), .int (nI (mi 3)), .int (nI (mi 4)), .int (nI (mi 5)), .int (nI (mi 6)), .int (nI (mi 7)), .int fa, .ref (oA 9), .ref (oA 10), .ref (oA 11), .ref (oA 12), .ref (oA 13), .ref (oA 14), .ref (oA 15), .ref (oA 16), .ref (oA 17), .ref (oA 18), .int (nI (mi 19)), .ref (oA 20), .ref (oA 21), .ref (oA 22), .ref (oA 23), .int (nI (mi 24)), .ref (oA 25), .ref (oA 26), .ref (oA 27), .int (nI (mi 28)), .ref (oA 29), .ref (oA 30), .int (nI (mi 31)), .ref (oA 32), .int (nI (mi 33)), .int (nI (mi 34))])), ((oA 9), .inl (cI, 4, .inl (fun j => nI ((M 9) j)))), ((oA 11), .inl (cI, 18, .inl (fun j => nI ((M 11) j)))), ((oA 20), .inl (cI, 23, .inl (fun j => nI ((M 20) j)))), ((oA 29), .inl (cI, 5, .inl (fun j => nI ((M 29) j)))), ((oA 30), .inl (cI, 5, .inl (fun j => nI ((M 30) j))))] (fun r_9 w_9 => r_9 = some (.int (if (nI (m_rn M (mi 31) N6).1) = 0 then (-9) else (m_rn M (mi 31) N6).2.1)) ∧ w_9 = [((oA 0), .inr (7, [.int 0, .long mt, .ref (oA 2), .int (nI (mi 3)), .int (nI (mi 4)), .int (nI (mi 5)), .int (nI (mi 6)), .int (nI (mi 7)), .int fa, .ref (oA 9), .ref (oA 10), .ref (oA 11), .ref (oA 12), .ref (oA 13), .ref (oA 14), .ref (oA 15), .ref (oA 16), .ref (oA 17), .ref (oA 18), .int (nI (mi 19)), .ref (oA 20), .ref (oA 21), .ref (oA 22), .ref (oA 23), .int (nI (mi 24)), .ref (oA 25), .ref (oA 26), .ref (oA 27), .int (nI (mi 28)), .ref (oA 29), .ref (oA 30), .int (nI (mi 31)), .ref (oA 32), .int (nI (mi 33)), .int (nI (mi 34))])), ((oA 9), .inl (cI, 4, .inl (fun j => nI ((M 9) j)))), ((oA 11), .inl (cI, 18, .inl (fun j => nI ((M 11) j)))), ((oA 20), .inl (cI, 23, .inl (fun j => nI ((M 20) j)))), ((oA 29), .inl (cI, 5, .inl (fun j => nI ((M 29) j)))), ((oA 30), .inl (cI, 5, .inl (fun j => nI ((M 30) j))))])) 0 0 (ly_in [((oA 0), .inr (7, [.int 0, .long mt, .ref (oA 2), .int (nI (mi 3)), .int (nI (mi 4)), .int (nI (mi 5)), .int (nI (mi 6)), .int (nI (mi 7)), .int fa, .ref (oA 9), .ref (oA 10), .ref (oA 11), .ref (oA 12), .ref (oA 13), .ref (oA 14), .ref (oA 15), .ref (oA 16), .ref (oA 17), .ref (oA 18), .int (nI (mi 19)), .ref (oA 20), .ref (oA 21), .ref (oA 22), .ref (oA 23), .int (nI (mi 24)), .ref (oA 25), .ref (oA 26), .ref (oA 27), .int (nI (mi 28)), .ref (oA 29), .ref (oA 30), .int (nI (mi 31)), .ref (oA 32), .int (nI (mi 33)), .int (nI (mi 34))])), ((oA 9), .inl (cI, 4, .inl (fun j => nI ((M 9) j)))), ((oA 11), .inl (cI, 18, .inl (fun j => nI ((M 11) j)))), ((oA 20), .inl (cI, 23, .inl (fun j => nI ((M 20) j)))), ((oA 29), .inl (cI, 5, .inl (fun j => nI ((M 29) j)))), ((oA 30), .inl (cI, 5, .inl (fun j => nI ((M 30) j))))]) := by
  refine Met.ofW (cc := cX7_rain) (maxL := 8) (ret := (some .int)) (by decide) rfl ?_
  intro p e s m args below meth c s₁ B hml hv
  obtain ⟨rfl, hP, hK, hN⟩ := hv
  have hx := B.exec
  have hb := B.bytes
  have hr := B.returns
  have hts := atoms_spec (ws := wsX7_rain) B.pre
  have hown : s.vm.findClass RX7 = some m.cls := findClass_of_methodNamed B.named
  have hlocks := B.notSynchronized
  have hl := lv_entry ([.ref (oA 0), .int (nI 1)]) (n := 8) (Nat.le_of_ble_eq_true rfl)
  rw [lg_entry_eq]
  generalize (lg_sl ([.ref (oA 0), .int (nI 1)]) ++ List.replicate (8 - (lg_sl ([.ref (oA 0), .int (nI 1)])).length) Slot.unset).toArray = ls at hl ⊢
  have hl : lv_has ls 8 [(0, .ref (oA 0)), (1, .int (nI 1))] := hl
  generalize ([.ref (oA 0), .int (nI 1)] : List Value).toArray = av at hts ⊢
  obtain ⟨Qc, hQc⟩ : ∃ Qc, Qc = (ly_Q D [((oA 0), .inr (7, [.int 0, .long mt, .ref (oA 2), .int (nI (mi 3)), .int (nI (mi 4)), .int (nI (mi 5)), .int (nI (mi 6)), .int (nI (mi 7)), .int fa, .ref (oA 9), .ref (oA 10), .ref (oA 11), .ref (oA 12), .ref (oA 13), .ref (oA 14), .ref (oA 15), .ref (oA 16), .ref (oA 17), .ref (oA 18), .int (nI (mi 19)), .ref (oA 20), .ref (oA 21), .ref (oA 22), .ref (oA 23), .int (nI (mi 24)), .ref (oA 25), .ref (oA 26), .ref (oA 27), .int (nI (mi 28)), .ref (oA 29), .ref (oA 30), .int (nI (mi 31)), .ref (oA 32), .int (nI (mi 33)), .int (nI (mi 34))])), ((oA 9), .inl (cI, 4, .inl (fun j => nI ((M 9) j)))), ((oA 11), .inl (cI, 18, .inl (fun j => nI ((M 11) j)))), ((oA 20), .inl (cI, 23, .inl (fun j => nI ((M 20) j)))), ((oA 29), .inl (cI, 5, .inl (fun j => nI ((M 29) j)))), ((oA 30), .inl (cI, 5, .inl (fun j => nI ((M 30) j))))] (fun r_9 w_9 => r_9 = some (.int (if (nI (m_rn M (mi 31) N6).1) = 0 then (-9) else (m_rn M (mi 31) N6).2.1)) ∧ w_9 = [((oA 0), .inr (7, [.int 0, .long mt, .ref (oA 2), .int (nI (mi 3)), .int (nI (mi 4)), .int (nI (mi 5)), .int (nI (mi 6)), .int (nI (mi 7)), .int fa, .ref (oA 9), .ref (oA 10), .ref (oA 11), .ref (oA 12), .ref (oA 13), .ref (oA 14), .ref (oA 15), .ref (oA 16), .ref (oA 17), .ref (oA 18), .int (nI (mi 19)), .ref (oA 20), .ref (oA 21), .ref (oA 22), .ref (oA 23), .int (nI (mi 24)), .ref (oA 25), .ref (oA 26), .ref (oA 27), .int (nI (mi 28)), .ref (oA 29), .ref (oA 30), .int (nI (mi 31)), .ref (oA 32), .int (nI (mi 33)), .int (nI (mi 34))])), ((oA 9), .inl (cI, 4, .inl (fun j => nI ((M 9) j)))), ((oA 11), .inl (cI, 18, .inl (fun j => nI ((M 11) j)))), ((oA 20), .inl (cI, 23, .inl (fun j => nI ((M 20) j)))), ((oA 29), .inl (cI, 5, .inl (fun j => nI ((M 29) j)))), ((oA 30), .inl (cI, 5, .inl (fun j => nI ((M 30) j))))])) := ⟨_, rfl⟩
  rw [← hQc]
  obtain ⟨A, hAe⟩ : ∃ A, A = ly_in [((oA 0), .inr (7, [.int 0, .long mt, .ref (oA 2), .int (nI (mi 3)), .int (nI (mi 4)), .int (nI (mi 5)), .int (nI (mi 6)), .int (nI (mi 7)), .int fa, .ref (oA 9), .ref (oA 10), .ref (oA 11), .ref (oA 12), .ref (oA 13), .ref (oA 14), .ref (oA 15), .ref (oA 16), .ref (oA 17), .ref (oA 18), .int (nI (mi 19)), .ref (oA 20), .ref (oA 21), .ref (oA 22), .ref (oA 23), .int (nI (mi 24)), .ref (oA 25), .ref (oA 26), .ref (oA 27), .int (nI (mi 28)), .ref (oA 29), .ref (oA 30), .int (nI (mi 31)), .ref (oA 32), .int (nI (mi 33)), .int (nI (mi 34))])), ((oA 9), .inl (cI, 4, .inl (fun j => nI ((M 9) j)))), ((oA 11), .inl (cI, 18, .inl (fun j => nI ((M 11) j)))), ((oA 20), .inl (cI, 23, .inl (fun j => nI ((M 20) j)))), ((oA 29), .inl (cI, 5, .inl (fun j => nI ((M 29) j)))), ((oA 30), .inl (cI, 5, .inl (fun j => nI ((M 30) j))))] := ⟨_, rfl⟩
  rw [← hAe]
  have hD := ly_self hD0
  rw [← hAe] at hD
  have f80 := hts (.fieldLink RX7 80 "KneesLentModel" "thrown" "I") (by decide +kernel)
  have k199 := hts (.constant RX7 199 (1000000)) (by decide +kernel)
  have f13 := hts (.fieldLink RX7 13 "KneesLentModel" "many" "[I") (by decide +kernel)
  have f138 := hts (.fieldLink RX7 138 "KneesLentModel" "feltMany" "I") (by decide +kernel)
  have f65 := hts (.fieldLink RX7 65 "KneesLentModel" "feltOf" "[I") (by decide +kernel)
  have f68 := hts (.fieldLink RX7 68 "KneesLentModel" "feltIs" "[I") (by decide +kernel)
  have hiX7 : ∀ w ∈ u_ws RX7 TX7 35, w ∈ wsX7_rain := by decide +kernel
  have hmain : ∀ (H : Heap) (locs : List Loc), va_P D vwCl [((oA 0), .inr (7, [.int 0, .long mt, .ref (oA 2), .int (nI (mi 3)), .int (nI (mi 4)), .int (nI (mi 5)), .int (nI (mi 6)), .int (nI (mi 7)), .int fa, .ref (oA 9), .ref (oA 10), .ref (oA 11), .ref (oA 12), .ref (oA 13), .ref (oA 14), .ref (oA 15), .ref (oA 16), .ref (oA 17), .ref (oA 18), .int (nI (mi 19)), .ref (oA 20), .ref (oA 21), .ref (oA 22), .ref (oA 23), .int (nI (mi 24)), .ref (oA 25), .ref (oA 26), .ref (oA 27), .int (nI (mi 28)), .ref (oA 29), .ref (oA 30), .int (nI (mi 31)), .ref (oA 32), .int (nI (mi 33)), .int (nI (mi 34))])), ((oA 9), .inl (cI, 4, .inl (fun j => nI ((M 9) j)))), ((oA 11), .inl (cI, 18, .inl (fun j => nI ((M 11) j)))), ((oA 20), .inl (cI, 23, .inl (fun j => nI ((M 20) j)))), ((oA 29), .inl (cI, 5, .inl (fun j => nI ((M 29) j)))), ((oA 30), .inl (cI, 5, .inl (fun j => nI ((M 30) j))))] H → va_S A s.heap H locs → W p l e (headSpec wsX7_rain (ly_rm 6)).room s m av below meth c H locs 0 0 (MQ below Qc av s 0 0 A) (F0 m 0 ls []) := by
    intro H locs hP hS
    refine lv_aload_n hx hb dX7_rain_0 rfl (lv_at hl 0 rfl) ?_
    refine lv_iconst (v := 0) hx hb dX7_rain_1 (by decide) ?_
    refine va_put (D := D) (ci := 7) (v := .int 0) (ty := .int) (C := RX7) (T := TX7) (N := 35) hx hb hts hiX7 tyX7 tyX7_ok nmX7 hown hK hP hD hS 0 rfl rfl 0 (by decide) f80 (fun _ h9 => h9) rfl (by decide +kernel) rfl rfl (Nat.le_of_ble_eq_true rfl) dX7_rain_2 (fun H locs hP hD hS => ?_)
    have hP : va_P D vwCl [((oA 0), .inr (7, [.int 0, .long mt, .ref (oA 2), .int (nI (mi 3)), .int (nI (mi 4)), .int (nI (mi 5)), .int (nI (mi 6)), .int (nI (mi 7)), .int fa, .ref (oA 9), .ref (oA 10), .ref (oA 11), .ref (oA 12), .ref (oA 13), .ref (oA 14), .ref (oA 15), .ref (oA 16), .ref (oA 17), .ref (oA 18), .int (nI (mi 19)), .ref (oA 20), .ref (oA 21), .ref (oA 22), .ref (oA 23), .int (nI (mi 24)), .ref (oA 25), .ref (oA 26), .ref (oA 27), .int (nI (mi 28)), .ref (oA 29), .ref (oA 30), .int (nI (mi 31)), .ref (oA 32), .int (nI (mi 33)), .int (nI (mi 34))])), ((oA 9), .inl (cI, 4, .inl (fun j => nI ((M 9) j)))), ((oA 11), .inl (cI, 18, .inl (fun j => nI ((M 11) j)))), ((oA 20), .inl (cI, 23, .inl (fun j => nI ((M 20) j)))), ((oA 29), .inl (cI, 5, .inl (fun j => nI ((M 29) j)))), ((oA 30), .inl (cI, 5, .inl (fun j => nI ((M 30) j))))] H := hP
    have hD : va_D A [((oA 0), .inr (7, [.int 0, .long mt, .ref (oA 2), .int (nI (mi 3)), .int (nI (mi 4)), .int (nI (mi 5)), .int (nI (mi 6)), .int (nI (mi 7)), .int fa, .ref (oA 9), .ref (oA 10), .ref (oA 11), .ref (oA 12), .ref (oA 13), .ref (oA 14), .ref (oA 15), .ref (oA 16), .ref (oA 17), .ref (oA 18), .int (nI (mi 19)), .ref (oA 20), .ref (oA 21), .ref (oA 22), .ref (oA 23), .int (nI (mi 24)), .ref (oA 25), .ref (oA 26), .ref (oA 27), .int (nI (mi 28)), .ref (oA 29), .ref (oA 30), .int (nI (mi 31)), .ref (oA 32), .int (nI (mi 33)), .int (nI (mi 34))])), ((oA 9), .inl (cI, 4, .inl (fun j => nI ((M 9) j)))), ((oA 11), .inl (cI, 18, .inl (fun j => nI ((M 11) j)))), ((oA 20), .inl (cI, 23, .inl (fun j => nI ((M 20) j)))), ((oA 29), .inl (cI, 5, .inl (fun j => nI ((M 29) j)))), ((oA 30), .inl (cI, 5, .inl (fun j => nI ((M 30) j))))] := hD
    refine lv_iload_n hx hb dX7_rain_5 rfl (lv_at hl 1 rfl) ?_
    refine lv_iconst (v := 0) hx hb dX7_rain_6 (by decide) ?_
    refine lv_iconst (v := 2) hx hb dX7_rain_7 (by decide) ?_
    have hPc_8 := hP.sub (ws' := []) [] rfl
    refine ly_r (va_runS (As := [.int (nI 1), .int 0, .int 2]) (rest := []) ⟨hx, hb, hml, hown, hts⟩ (c_X7_in l D cI cC cZ cN (nI 1) 0 2) (va_cwS 3 hts gX7_rain_X7_in rfl rfl rfl (by decide +kernel) ⟨Nat.le_of_ble_eq_true rfl, Nat.le_of_ble_eq_true rfl⟩) (ly_ps hK hN hPc_8) rfl rfl hl.1 rfl (lv_room (Nat.le_of_ble_eq_true rfl)) dX7_rain_8 ⟨Nat.zero_le _, Nat.zero_le _⟩) ?_
    refine lv_if_ne (tgt := 16) hx hb dX7_rain_11 (by decide) (fun _ => ?_) (fun h_9 => absurd h_9 (jin_yes (b := 2) (by omega) (by omega)))
    refine lv_iconst (v := 0) hx hb dX7_rain_16 (by decide) ?_
    refine lv_istore_n (lv' := [(2, .int 0), (0, .ref (oA 0)), (1, .int (nI 1))]) hx hb dX7_rain_17 rfl hl (by decide) rfl (fun ls hl => ?_)
    refine lv_iconst (v := (-1)) hx hb dX7_rain_18 (by decide) ?_
    refine lv_istore_n (lv' := [(3, .int (-1)), (2, .int 0), (0, .ref (oA 0)), (1, .int (nI 1))]) hx hb dX7_rain_19 rfl hl (by decide) rfl (fun ls hl => ?_)
    refine lv_ldc (v := 1000000) hx hb hown k199 dX7_rain_20 ?_
    refine lv_istore (lv' := [(4, .int 1000000), (3, .int (-1)), (2, .int 0), (0, .ref (oA 0)), (1, .int (nI 1))]) hx hb dX7_rain_22 hl (by decide) rfl (fun ls hl => ?_)
    refine lv_iconst (v := 0) hx hb dX7_rain_24 (by decide) ?_
    refine lv_istore (lv' := [(5, .int 0), (4, .int 1000000), (3, .int (-1)), (2, .int 0), (0, .ref (oA 0)), (1, .int (nI 1))]) hx hb dX7_rain_25 hl (by decide) rfl (fun ls hl => ?_)
    have hloop_27 : ∀ (ua st : Nat), st + ua = N6 → ∀ (H : Heap) (locs : List Loc), va_P D vwCl [((oA 0), .inr (7, [.int 0, .long mt, .ref (oA 2), .int (nI (mi 3)), .int (nI (mi 4)), .int (nI (mi 5)), .int (nI (mi 6)), .int (nI (mi 7)), .int fa, .ref (oA 9), .ref (oA 10), .ref (oA 11), .ref (oA 12), .ref (oA 13), .ref (oA 14), .ref (oA 15), .ref (oA 16), .ref (oA 17), .ref (oA 18), .int (nI (mi 19)), .ref (oA 20), .ref (oA 21), .ref (oA 22), .ref (oA 23), .int (nI (mi 24)), .ref (oA 25), .ref (oA 26), .ref (oA 27), .int (nI (mi 28)), .ref (oA 29), .ref (oA 30), .int (nI (mi 31)), .ref (oA 32), .int (nI (mi 33)), .int (nI (mi 34))])), ((oA 9), .inl (cI, 4, .inl (fun j => nI ((M 9) j)))), ((oA 11), .inl (cI, 18, .inl (fun j => nI ((M 11) j)))), ((oA 20), .inl (cI, 23, .inl (fun j => nI ((M 20) j)))), ((oA 29), .inl (cI, 5, .inl (fun j => nI ((M 29) j)))), ((oA 30), .inl (cI, 5, .inl (fun j => nI ((M 30) j))))] H → va_D A [((oA 0), .inr (7, [.int 0, .long mt, .ref (oA 2), .int (nI (mi 3)), .int (nI (mi 4)), .int (nI (mi 5)), .int (nI (mi 6)), .int (nI (mi 7)), .int fa, .ref (oA 9), .ref (oA 10), .ref (oA 11), .ref (oA 12), .ref (oA 13), .ref (oA 14), .ref (oA 15), .ref (oA 16), .ref (oA 17), .ref (oA 18), .int (nI (mi 19)), .ref (oA 20), .ref (oA 21), .ref (oA 22), .ref (oA 23), .int (nI (mi 24)), .ref (oA 25), .ref (oA 26), .ref (oA 27), .int (nI (mi 28)), .ref (oA 29), .ref (oA 30), .int (nI (mi 31)), .ref (oA 32), .int (nI (mi 33)), .int (nI (mi 34))])), ((oA 9), .inl (cI, 4, .inl (fun j => nI ((M 9) j)))), ((oA 11), .inl (cI, 18, .inl (fun j => nI ((M 11) j)))), ((oA 20), .inl (cI, 23, .inl (fun j => nI ((M 20) j)))), ((oA 29), .inl (cI, 5, .inl (fun j => nI ((M 29) j)))), ((oA 30), .inl (cI, 5, .inl (fun j => nI ((M 30) j))))] → va_S A s.heap H locs → ∀ ls : Array Slot, lv_has ls 8 [(5, .int (nI st)), (4, .int ((m_rn M (mi 31) st).2.2)), (3, .int ((m_rn M (mi 31) st).2.1)), (2, .int (nI ((m_rn M (mi 31) st).1))), (0, .ref (oA 0)), (1, .int (nI 1))] → W p l e (headSpec wsX7_rain (ly_rm 6)).room s m av below meth c H locs 0 0 (MQ below Qc av s 0 0 A) (F0 m 27 ls []) := by
      intro ua
      induction ua with
      | zero =>
        intro st hi_27 H locs hP hD hS ls hl
        obtain rfl : N6 = st := by omega
        refine lv_iload hx hb dX7_rain_27 (lv_at hl 0 rfl) ?_
        refine lv_iconst (v := 1) hx hb dX7_rain_29 (by decide) ?_
        refine lv_aload_n hx hb dX7_rain_30 rfl (lv_at hl 4 rfl) ?_
        refine va_get (D := D) (ci := 7) (v := .ref (oA 9)) (C := RX7) (T := TX7) (N := 35) hx hb hts hiX7 hown hK hP 0 rfl rfl 9 (by decide) f13 (fun _ h9 => h9) rfl dX7_rain_31 ?_
        refine lv_iconst (v := 1) hx hb dX7_rain_34 (by decide) ?_
        refine ly_iald hx hb hK hP 1 0 rfl rfl (k := 1) (by decide) rfl (by omega) dX7_rain_35 ?_
        refine lv_ishl hx hb dX7_rain_36 ?_
        refine ly_eqi (show (1 <<< ((nI ((M 9) 1)) &&& 31)) = (nI N6) from (by rw [← hN6]; exact ly_shl1 (by omega))) ?_
        refine lv_icmp_ge (tgt := 146) hx hb dX7_rain_37 (by decide) (fun _ => ?_) (fun h_9 => absurd (nI_le (Nat.le_refl _) (by omega)) h_9)
        refine lv_iload_n hx hb dX7_rain_146 rfl (lv_at hl 5 rfl) ?_
        refine lv_if_ne (tgt := 154) hx hb dX7_rain_147 (by decide) (fun _ => ?_) (fun h_9 => absurd h_9 (by decide))
        refine lv_iload_n hx hb dX7_rain_154 rfl (lv_at hl 3 rfl) ?_
        refine lv_if_ne (tgt := 163) hx hb dX7_rain_155 (by decide) (fun c_1 => ?_) (fun c_1 => ?_)
        · refine lv_iload_n hx hb dX7_rain_163 rfl (lv_at hl 5 rfl) ?_
          refine lv_iconst (v := 1) hx hb dX7_rain_164 (by decide) ?_
          refine lv_icmp_ne (tgt := 172) hx hb dX7_rain_165 (by decide) (fun h_9 => absurd (by decide) h_9) (fun _ => ?_)
          refine lv_iload_n hx hb dX7_rain_168 rfl (lv_at hl 2 rfl) ?_
          refine lv_goto (tgt := 174) hx hb dX7_rain_169 (by decide) ?_
          exact W.iret (v := (m_rn M (mi 31) N6).2.1) hx hb hr (fun t_9 ht_9 _ => by rw [hQc]; exact ⟨_, [((oA 0), .inr (7, [.int 0, .long mt, .ref (oA 2), .int (nI (mi 3)), .int (nI (mi 4)), .int (nI (mi 5)), .int (nI (mi 6)), .int (nI (mi 7)), .int fa, .ref (oA 9), .ref (oA 10), .ref (oA 11), .ref (oA 12), .ref (oA 13), .ref (oA 14), .ref (oA 15), .ref (oA 16), .ref (oA 17), .ref (oA 18), .int (nI (mi 19)), .ref (oA 20), .ref (oA 21), .ref (oA 22), .ref (oA 23), .int (nI (mi 24)), .ref (oA 25), .ref (oA 26), .ref (oA 27), .int (nI (mi 28)), .ref (oA 29), .ref (oA 30), .int (nI (mi 31)), .ref (oA 32), .int (nI (mi 33)), .int (nI (mi 34))])), ((oA 9), .inl (cI, 4, .inl (fun j => nI ((M 9) j)))), ((oA 11), .inl (cI, 18, .inl (fun j => nI ((M 11) j)))), ((oA 20), .inl (cI, 23, .inl (fun j => nI ((M 20) j)))), ((oA 29), .inl (cI, 5, .inl (fun j => nI ((M 29) j)))), ((oA 30), .inl (cI, 5, .inl (fun j => nI ((M 30) j))))], rfl, ⟨(by first | rfl | (rw [if_neg c_1]; done) | (rw [if_neg c_1]; rfl) | (simp only [if_neg c_1]; done) | (simp only [if_neg c_1]; rfl)), (by first | rfl | (rw [if_neg c_1]; done) | (rw [if_neg c_1]; rfl) | (simp only [if_neg c_1]; done) | (simp only [if_neg c_1]; rfl))⟩, by simp only [List.map_cons, List.map_nil], by rw [ht_9]; exact hP.sub [0, 1, 2, 3, 4, 5] rfl, by rw [← hAe]; exact hS.F ht_9⟩) hS.2.2 dX7_rain_174
        · refine lv_bipush (v := (-9)) hx hb dX7_rain_158 (by decide) ?_
          refine lv_goto (tgt := 174) hx hb dX7_rain_160 (by decide) ?_
          exact W.iret (v := (-9)) hx hb hr (fun t_9 ht_9 _ => by rw [hQc]; exact ⟨_, [((oA 0), .inr (7, [.int 0, .long mt, .ref (oA 2), .int (nI (mi 3)), .int (nI (mi 4)), .int (nI (mi 5)), .int (nI (mi 6)), .int (nI (mi 7)), .int fa, .ref (oA 9), .ref (oA 10), .ref (oA 11), .ref (oA 12), .ref (oA 13), .ref (oA 14), .ref (oA 15), .ref (oA 16), .ref (oA 17), .ref (oA 18), .int (nI (mi 19)), .ref (oA 20), .ref (oA 21), .ref (oA 22), .ref (oA 23), .int (nI (mi 24)), .ref (oA 25), .ref (oA 26), .ref (oA 27), .int (nI (mi 28)), .ref (oA 29), .ref (oA 30), .int (nI (mi 31)), .ref (oA 32), .int (nI (mi 33)), .int (nI (mi 34))])), ((oA 9), .inl (cI, 4, .inl (fun j => nI ((M 9) j)))), ((oA 11), .inl (cI, 18, .inl (fun j => nI ((M 11) j)))), ((oA 20), .inl (cI, 23, .inl (fun j => nI ((M 20) j)))), ((oA 29), .inl (cI, 5, .inl (fun j => nI ((M 29) j)))), ((oA 30), .inl (cI, 5, .inl (fun j => nI ((M 30) j))))], rfl, ⟨(by first | rfl | (rw [if_pos c_1]; done) | (rw [if_pos c_1]; rfl) | (simp only [if_pos c_1]; done) | (simp only [if_pos c_1]; rfl)), (by first | rfl | (rw [if_pos c_1]; done) | (rw [if_pos c_1]; rfl) | (simp only [if_pos c_1]; done) | (simp only [if_pos c_1]; rfl))⟩, by simp only [List.map_cons, List.map_nil], by rw [ht_9]; exact hP.sub [0, 1, 2, 3, 4, 5] rfl, by rw [← hAe]; exact hS.F ht_9⟩) hS.2.2 dX7_rain_174
      | succ ua ih_27 =>
        intro st hi_27 H locs hP hD hS ls hl
        refine lv_iload hx hb dX7_rain_27 (lv_at hl 0 rfl) ?_
        refine lv_iconst (v := 1) hx hb dX7_rain_29 (by decide) ?_
        refine lv_aload_n hx hb dX7_rain_30 rfl (lv_at hl 4 rfl) ?_
        refine va_get (D := D) (ci := 7) (v := .ref (oA 9)) (C := RX7) (T := TX7) (N := 35) hx hb hts hiX7 hown hK hP 0 rfl rfl 9 (by decide) f13 (fun _ h9 => h9) rfl dX7_rain_31 ?_
        refine lv_iconst (v := 1) hx hb dX7_rain_34 (by decide) ?_
        refine ly_iald hx hb hK hP 1 0 rfl rfl (k := 1) (by decide) rfl (by omega) dX7_rain_35 ?_
        refine lv_ishl hx hb dX7_rain_36 ?_
        refine ly_eqi (show (1 <<< ((nI ((M 9) 1)) &&& 31)) = (nI N6) from (by rw [← hN6]; exact ly_shl1 (by omega))) ?_
        refine lv_icmp_ge (tgt := 146) hx hb dX7_rain_37 (by decide) (fun h_9 => absurd h_9 (nI_ge (by omega) (by omega))) (fun _ => ?_)
        refine lv_iconst (v := 1) hx hb dX7_rain_40 (by decide) ?_
        refine lv_istore (lv' := [(6, .int 1), (5, .int (nI st)), (4, .int ((m_rn M (mi 31) st).2.2)), (3, .int ((m_rn M (mi 31) st).2.1)), (2, .int (nI ((m_rn M (mi 31) st).1))), (0, .ref (oA 0)), (1, .int (nI 1))]) hx hb dX7_rain_41 hl (by decide) rfl (fun ls hl => ?_)
        refine lv_iconst (v := 0) hx hb dX7_rain_43 (by decide) ?_
        refine lv_istore (lv' := [(7, .int 0), (6, .int 1), (5, .int (nI st)), (4, .int ((m_rn M (mi 31) st).2.2)), (3, .int ((m_rn M (mi 31) st).2.1)), (2, .int (nI ((m_rn M (mi 31) st).1))), (0, .ref (oA 0)), (1, .int (nI 1))]) hx hb dX7_rain_44 hl (by decide) rfl (fun ls hl => ?_)
        have hloop_46 : ∀ (ub i : Nat), i + ub = mi 31 → ∀ (H : Heap) (locs : List Loc), va_P D vwCl [((oA 0), .inr (7, [.int 0, .long mt, .ref (oA 2), .int (nI (mi 3)), .int (nI (mi 4)), .int (nI (mi 5)), .int (nI (mi 6)), .int (nI (mi 7)), .int fa, .ref (oA 9), .ref (oA 10), .ref (oA 11), .ref (oA 12), .ref (oA 13), .ref (oA 14), .ref (oA 15), .ref (oA 16), .ref (oA 17), .ref (oA 18), .int (nI (mi 19)), .ref (oA 20), .ref (oA 21), .ref (oA 22), .ref (oA 23), .int (nI (mi 24)), .ref (oA 25), .ref (oA 26), .ref (oA 27), .int (nI (mi 28)), .ref (oA 29), .ref (oA 30), .int (nI (mi 31)), .ref (oA 32), .int (nI (mi 33)), .int (nI (mi 34))])), ((oA 9), .inl (cI, 4, .inl (fun j => nI ((M 9) j)))), ((oA 11), .inl (cI, 18, .inl (fun j => nI ((M 11) j)))), ((oA 20), .inl (cI, 23, .inl (fun j => nI ((M 20) j)))), ((oA 29), .inl (cI, 5, .inl (fun j => nI ((M 29) j)))), ((oA 30), .inl (cI, 5, .inl (fun j => nI ((M 30) j))))] H → va_D A [((oA 0), .inr (7, [.int 0, .long mt, .ref (oA 2), .int (nI (mi 3)), .int (nI (mi 4)), .int (nI (mi 5)), .int (nI (mi 6)), .int (nI (mi 7)), .int fa, .ref (oA 9), .ref (oA 10), .ref (oA 11), .ref (oA 12), .ref (oA 13), .ref (oA 14), .ref (oA 15), .ref (oA 16), .ref (oA 17), .ref (oA 18), .int (nI (mi 19)), .ref (oA 20), .ref (oA 21), .ref (oA 22), .ref (oA 23), .int (nI (mi 24)), .ref (oA 25), .ref (oA 26), .ref (oA 27), .int (nI (mi 28)), .ref (oA 29), .ref (oA 30), .int (nI (mi 31)), .ref (oA 32), .int (nI (mi 33)), .int (nI (mi 34))])), ((oA 9), .inl (cI, 4, .inl (fun j => nI ((M 9) j)))), ((oA 11), .inl (cI, 18, .inl (fun j => nI ((M 11) j)))), ((oA 20), .inl (cI, 23, .inl (fun j => nI ((M 20) j)))), ((oA 29), .inl (cI, 5, .inl (fun j => nI ((M 29) j)))), ((oA 30), .inl (cI, 5, .inl (fun j => nI ((M 30) j))))] → va_S A s.heap H locs → ∀ ls : Array Slot, lv_has ls 8 [(7, .int (nI i)), (6, .int (nI (m_ri M st i))), (5, .int (nI st)), (4, .int ((m_rn M (mi 31) st).2.2)), (3, .int ((m_rn M (mi 31) st).2.1)), (2, .int (nI ((m_rn M (mi 31) st).1))), (0, .ref (oA 0)), (1, .int (nI 1))] → W p l e (headSpec wsX7_rain (ly_rm 6)).room s m av below meth c H locs 0 0 (MQ below Qc av s 0 0 A) (F0 m 46 ls []) := by
          intro ub
          induction ub with
          | zero =>
            intro i hi_46 H locs hP hD hS ls hl
            obtain rfl : mi 31 = i := by omega
            refine lv_iload hx hb dX7_rain_46 (lv_at hl 0 rfl) ?_
            refine lv_aload_n hx hb dX7_rain_48 rfl (lv_at hl 6 rfl) ?_
            refine va_get (D := D) (ci := 7) (v := .int (nI (mi 31))) (C := RX7) (T := TX7) (N := 35) hx hb hts hiX7 hown hK hP 0 rfl rfl 31 (by decide) f138 (fun _ h9 => h9) rfl dX7_rain_49 ?_
            refine lv_icmp_ge (tgt := 105) hx hb dX7_rain_52 (by decide) (fun _ => ?_) (fun h_9 => absurd (nI_le (Nat.le_refl _) (by omega)) h_9)
            refine lv_iload hx hb dX7_rain_105 (lv_at hl 1 rfl) ?_
            refine lv_if_eq (tgt := 140) hx hb dX7_rain_107 (by decide) (fun c_2 => ?_) (fun c_2 => ?_)
            · refine lv_iinc (v := (nI (st + 1))) (lv' := [(5, .int (nI (st + 1))), (7, .int (nI (mi 31))), (6, .int (nI (m_ri M st (mi 31)))), (4, .int ((m_rn M (mi 31) st).2.2)), (3, .int ((m_rn M (mi 31) st).2.1)), (2, .int (nI ((m_rn M (mi 31) st).1))), (0, .ref (oA 0)), (1, .int (nI 1))]) hx hb dX7_rain_140 hl (k := 2) rfl (ly_add rfl rfl) (by decide) rfl (fun ls hl => ?_)
              refine lv_goto (tgt := 27) hx hb dX7_rain_143 (by decide) ?_
              have e_3 : m_rn M (mi 31) (st + 1) = ((m_rn M (mi 31) st).1, (m_rn M (mi 31) st).2.1, (m_rn M (mi 31) st).2.2) := by show m_rnB M (mi 31) st ((m_rn M (mi 31) st).1) ((m_rn M (mi 31) st).2.1) ((m_rn M (mi 31) st).2.2) = _; unfold m_rnB; rw [if_pos c_2]
              exact ih_27 (st + 1) (by omega) H locs (by first | exact hP.sub [0, 1, 2, 3, 4, 5] rfl | (rw [e_3]; exact hP.sub [0, 1, 2, 3, 4, 5] rfl)) (by first | exact hD.sub [0, 1, 2, 3, 4, 5] (by decide) rfl | (rw [e_3]; exact hD.sub [0, 1, 2, 3, 4, 5] (by decide) rfl)) hS ls (by first | exact lv_sub hl [0, 3, 4, 5, 6, 7] rfl | (rw [e_3]; exact lv_sub hl [0, 3, 4, 5, 6, 7] rfl))
            · refine lv_iinc (v := (nI ((m_rn M (mi 31) st).1 + 1))) (lv' := [(2, .int (nI ((m_rn M (mi 31) st).1 + 1))), (7, .int (nI (mi 31))), (6, .int (nI (m_ri M st (mi 31)))), (5, .int (nI st)), (4, .int ((m_rn M (mi 31) st).2.2)), (3, .int ((m_rn M (mi 31) st).2.1)), (0, .ref (oA 0)), (1, .int (nI 1))]) hx hb dX7_rain_110 hl (k := 5) rfl (ly_add rfl rfl) (by decide) rfl (fun ls hl => ?_)
              refine lv_iload_n hx hb dX7_rain_113 rfl (lv_at hl 5 rfl) ?_
              refine lv_iload hx hb dX7_rain_114 (lv_at hl 3 rfl) ?_
              refine lv_iand hx hb dX7_rain_116 ?_
              refine lv_istore_n (lv' := [(3, .int ((m_rn M (mi 31) st).2.1 &&& (nI st))), (2, .int (nI ((m_rn M (mi 31) st).1 + 1))), (7, .int (nI (mi 31))), (6, .int (nI (m_ri M st (mi 31)))), (5, .int (nI st)), (4, .int ((m_rn M (mi 31) st).2.2)), (0, .ref (oA 0)), (1, .int (nI 1))]) hx hb dX7_rain_117 rfl hl (by decide) rfl (fun ls hl => ?_)
              refine lv_iload hx hb dX7_rain_118 (lv_at hl 4 rfl) ?_
              have hPc_120 := hP.sub (ws' := []) [] rfl
              refine ly_r (va_runS (As := [.int (nI st)]) (rest := []) ⟨hx, hb, hml, hown, hts⟩ (c_X7_ones l D cI cC cZ cN (nI st)) (va_cwS 1 hts gX7_rain_X7_ones rfl rfl rfl (by decide +kernel) ⟨Nat.le_of_ble_eq_true rfl, Nat.le_of_ble_eq_true rfl⟩) (ly_ps hK hN hPc_120) rfl rfl hl.1 rfl (lv_room (Nat.le_of_ble_eq_true rfl)) dX7_rain_120 ⟨Nat.zero_le _, Nat.zero_le _⟩) ?_
              refine lv_iload hx hb dX7_rain_123 (lv_at hl 5 rfl) ?_
              refine lv_icmp_ge (tgt := 136) hx hb dX7_rain_125 (by decide) (fun c_4 => ?_) (fun c_4 => ?_)
              · refine lv_iload hx hb dX7_rain_136 (lv_at hl 5 rfl) ?_
                refine lv_istore (lv' := [(4, .int ((m_rn M (mi 31) st).2.2)), (3, .int ((m_rn M (mi 31) st).2.1 &&& (nI st))), (2, .int (nI ((m_rn M (mi 31) st).1 + 1))), (7, .int (nI (mi 31))), (6, .int (nI (m_ri M st (mi 31)))), (5, .int (nI st)), (0, .ref (oA 0)), (1, .int (nI 1))]) hx hb dX7_rain_138 hl (by decide) rfl (fun ls hl => ?_)
                refine lv_iinc (v := (nI (st + 1))) (lv' := [(5, .int (nI (st + 1))), (4, .int ((m_rn M (mi 31) st).2.2)), (3, .int ((m_rn M (mi 31) st).2.1 &&& (nI st))), (2, .int (nI ((m_rn M (mi 31) st).1 + 1))), (7, .int (nI (mi 31))), (6, .int (nI (m_ri M st (mi 31)))), (0, .ref (oA 0)), (1, .int (nI 1))]) hx hb dX7_rain_140 hl (k := 5) rfl (ly_add rfl rfl) (by decide) rfl (fun ls hl => ?_)
                refine lv_goto (tgt := 27) hx hb dX7_rain_143 (by decide) ?_
                have e_5 : m_rn M (mi 31) (st + 1) = ((m_rn M (mi 31) st).1 + 1, ((m_rn M (mi 31) st).2.1 &&& (nI st)), (m_rn M (mi 31) st).2.2) := by show m_rnB M (mi 31) st ((m_rn M (mi 31) st).1) ((m_rn M (mi 31) st).2.1) ((m_rn M (mi 31) st).2.2) = _; unfold m_rnB; rw [if_neg c_2, if_pos c_4]
                exact ih_27 (st + 1) (by omega) H locs (by first | exact hP.sub [0, 1, 2, 3, 4, 5] rfl | (rw [e_5]; exact hP.sub [0, 1, 2, 3, 4, 5] rfl)) (by first | exact hD.sub [0, 1, 2, 3, 4, 5] (by decide) rfl | (rw [e_5]; exact hD.sub [0, 1, 2, 3, 4, 5] (by decide) rfl)) hS ls (by first | exact lv_sub hl [0, 1, 2, 3, 6, 7] rfl | (rw [e_5]; exact lv_sub hl [0, 1, 2, 3, 6, 7] rfl))
              · refine lv_iload hx hb dX7_rain_128 (lv_at hl 4 rfl) ?_
                have hPc_130 := hP.sub (ws' := []) [] rfl
                refine ly_r (va_runS (As := [.int (nI st)]) (rest := []) ⟨hx, hb, hml, hown, hts⟩ (c_X7_ones l D cI cC cZ cN (nI st)) (va_cwS 1 hts gX7_rain_X7_ones rfl rfl rfl (by decide +kernel) ⟨Nat.le_of_ble_eq_true rfl, Nat.le_of_ble_eq_true rfl⟩) (ly_ps hK hN hPc_130) rfl rfl hl.1 rfl (lv_room (Nat.le_of_ble_eq_true rfl)) dX7_rain_130 ⟨Nat.zero_le _, Nat.zero_le _⟩) ?_
                refine lv_goto (tgt := 138) hx hb dX7_rain_133 (by decide) ?_
                refine lv_istore (lv' := [(4, .int (m_ones (nI st) 9)), (3, .int ((m_rn M (mi 31) st).2.1 &&& (nI st))), (2, .int (nI ((m_rn M (mi 31) st).1 + 1))), (7, .int (nI (mi 31))), (6, .int (nI (m_ri M st (mi 31)))), (5, .int (nI st)), (0, .ref (oA 0)), (1, .int (nI 1))]) hx hb dX7_rain_138 hl (by decide) rfl (fun ls hl => ?_)
                refine lv_iinc (v := (nI (st + 1))) (lv' := [(5, .int (nI (st + 1))), (4, .int (m_ones (nI st) 9)), (3, .int ((m_rn M (mi 31) st).2.1 &&& (nI st))), (2, .int (nI ((m_rn M (mi 31) st).1 + 1))), (7, .int (nI (mi 31))), (6, .int (nI (m_ri M st (mi 31)))), (0, .ref (oA 0)), (1, .int (nI 1))]) hx hb dX7_rain_140 hl (k := 5) rfl (ly_add rfl rfl) (by decide) rfl (fun ls hl => ?_)
                refine lv_goto (tgt := 27) hx hb dX7_rain_143 (by decide) ?_
                have e_6 : m_rn M (mi 31) (st + 1) = ((m_rn M (mi 31) st).1 + 1, ((m_rn M (mi 31) st).2.1 &&& (nI st)), (m_ones (nI st) 9)) := by show m_rnB M (mi 31) st ((m_rn M (mi 31) st).1) ((m_rn M (mi 31) st).2.1) ((m_rn M (mi 31) st).2.2) = _; unfold m_rnB; rw [if_neg c_2, if_neg c_4]
                exact ih_27 (st + 1) (by omega) H locs (by first | exact hP.sub [0, 1, 2, 3, 4, 5] rfl | (rw [e_6]; exact hP.sub [0, 1, 2, 3, 4, 5] rfl)) (by first | exact hD.sub [0, 1, 2, 3, 4, 5] (by decide) rfl | (rw [e_6]; exact hD.sub [0, 1, 2, 3, 4, 5] (by decide) rfl)) hS ls (by first | exact lv_sub hl [0, 1, 2, 3, 6, 7] rfl | (rw [e_6]; exact lv_sub hl [0, 1, 2, 3, 6, 7] rfl))
          | succ ub ih_46 =>
            intro i hi_46 H locs hP hD hS ls hl
            refine lv_iload hx hb dX7_rain_46 (lv_at hl 0 rfl) ?_
            refine lv_aload_n hx hb dX7_rain_48 rfl (lv_at hl 6 rfl) ?_
            refine va_get (D := D) (ci := 7) (v := .int (nI (mi 31))) (C := RX7) (T := TX7) (N := 35) hx hb hts hiX7 hown hK hP 0 rfl rfl 31 (by decide) f138 (fun _ h9 => h9) rfl dX7_rain_49 ?_
            refine lv_icmp_ge (tgt := 105) hx hb dX7_rain_52 (by decide) (fun h_9 => absurd h_9 (nI_ge (by omega) (by omega))) (fun _ => ?_)
            refine lv_iload hx hb dX7_rain_55 (lv_at hl 1 rfl) ?_
            refine lv_if_eq (tgt := 96) hx hb dX7_rain_57 (by decide) (fun c_7 => ?_) (fun c_7 => ?_)
            · refine lv_iconst (v := 0) hx hb dX7_rain_96 (by decide) ?_
              refine lv_istore (lv' := [(6, .int 0), (7, .int (nI i)), (5, .int (nI st)), (4, .int ((m_rn M (mi 31) st).2.2)), (3, .int ((m_rn M (mi 31) st).2.1)), (2, .int (nI ((m_rn M (mi 31) st).1))), (0, .ref (oA 0)), (1, .int (nI 1))]) hx hb dX7_rain_97 hl (by decide) rfl (fun ls hl => ?_)
              refine lv_iinc (v := (nI (i + 1))) (lv' := [(7, .int (nI (i + 1))), (6, .int 0), (5, .int (nI st)), (4, .int ((m_rn M (mi 31) st).2.2)), (3, .int ((m_rn M (mi 31) st).2.1)), (2, .int (nI ((m_rn M (mi 31) st).1))), (0, .ref (oA 0)), (1, .int (nI 1))]) hx hb dX7_rain_99 hl (k := 1) rfl (ly_add rfl rfl) (by decide) rfl (fun ls hl => ?_)
              refine lv_goto (tgt := 46) hx hb dX7_rain_102 (by decide) ?_
              have e_8 : m_ri M st (i + 1) = 0 := by show m_riB M st i (m_ri M st i) = _; unfold m_riB; rw [if_pos c_7]
              exact ih_46 (i + 1) (by omega) H locs (by first | exact hP.sub [0, 1, 2, 3, 4, 5] rfl | (rw [e_8]; exact hP.sub [0, 1, 2, 3, 4, 5] rfl)) (by first | exact hD.sub [0, 1, 2, 3, 4, 5] (by decide) rfl | (rw [e_8]; exact hD.sub [0, 1, 2, 3, 4, 5] (by decide) rfl)) hS ls (by first | exact lv_sub hl [0, 1, 2, 3, 4, 5, 6, 7] rfl | (rw [e_8]; exact lv_sub hl [0, 1, 2, 3, 4, 5, 6, 7] rfl))
            · refine lv_aload_n hx hb dX7_rain_60 rfl (lv_at hl 6 rfl) ?_
              refine lv_aload_n hx hb dX7_rain_61 rfl (lv_at hl 6 rfl) ?_
              refine va_get (D := D) (ci := 7) (v := .ref (oA 29)) (C := RX7) (T := TX7) (N := 35) hx hb hts hiX7 hown hK hP 0 rfl rfl 29 (by decide) f65 (fun _ h9 => h9) rfl dX7_rain_62 ?_
              refine lv_iload hx hb dX7_rain_65 (lv_at hl 0 rfl) ?_
              refine ly_iald hx hb hK hP 4 0 rfl rfl (k := i) (by decide) rfl (by omega) dX7_rain_67 ?_
              refine lv_iload hx hb dX7_rain_68 (lv_at hl 2 rfl) ?_
              have hPc_70 := hP.sub (ws' := [((oA 0), .inr (7, [.int 0, .long mt, .ref (oA 2), .int (nI (mi 3)), .int (nI (mi 4)), .int (nI (mi 5)), .int (nI (mi 6)), .int (nI (mi 7)), .int fa, .ref (oA 9), .ref (oA 10), .ref (oA 11), .ref (oA 12), .ref (oA 13), .ref (oA 14), .ref (oA 15), .ref (oA 16), .ref (oA 17), .ref (oA 18), .int (nI (mi 19)), .ref (oA 20), .ref (oA 21), .ref (oA 22), .ref (oA 23), .int (nI (mi 24)), .ref (oA 25), .ref (oA 26), .ref (oA 27), .int (nI (mi 28)), .ref (oA 29), .ref (oA 30), .int (nI (mi 31)), .ref (oA 32), .int (nI (mi 33)), .int (nI (mi 34))])), ((oA 9), .inl (cI, 4, .inl (fun j => nI ((M 9) j)))), ((oA 11), .inl (cI, 18, .inl (fun j => nI ((M 11) j)))), ((oA 20), .inl (cI, 23, .inl (fun j => nI ((M 20) j))))]) [0, 1, 2, 3] rfl
              refine ly_r (va_runV (As := [.int (nI ((M 29) i)), .int (nI st)]) (rest := []) ⟨hx, hb, hml, hown, hts⟩ (c_X7_feels l D cI cC cZ cN oA M mi fa mt ((M 29) i) st hn) (cwV 2 hts gX7_rain_X7_feels rfl rfl rfl (by decide +kernel) ⟨Nat.le_of_ble_eq_true rfl, Nat.le_of_ble_eq_true rfl⟩) (ly_pv hK hN hPc_70 0 7 rfl rfl rfl) rfl rfl hl.1 rfl (lv_room (Nat.le_of_ble_eq_true rfl)) dX7_rain_70 ⟨Nat.zero_le _, Nat.zero_le _⟩) ?_
              refine lv_aload_n hx hb dX7_rain_73 rfl (lv_at hl 6 rfl) ?_
              refine va_get (D := D) (ci := 7) (v := .ref (oA 30)) (C := RX7) (T := TX7) (N := 35) hx hb hts hiX7 hown hK hP 0 rfl rfl 30 (by decide) f68 (fun _ h9 => h9) rfl dX7_rain_74 ?_
              refine lv_iload hx hb dX7_rain_77 (lv_at hl 0 rfl) ?_
              refine ly_iald hx hb hK hP 5 0 rfl rfl (k := i) (by decide) rfl (by omega) dX7_rain_79 ?_
              refine lv_iconst (v := 1) hx hb dX7_rain_80 (by decide) ?_
              refine lv_icmp_ne (tgt := 88) hx hb dX7_rain_81 (by decide) (fun c_9 => ?_) (fun c_9 => ?_)
              · refine lv_iconst (v := 0) hx hb dX7_rain_88 (by decide) ?_
                refine lv_icmp_ne (tgt := 96) hx hb dX7_rain_89 (by decide) (fun c_10 => ?_) (fun c_10 => ?_)
                · refine lv_iconst (v := 0) hx hb dX7_rain_96 (by decide) ?_
                  refine lv_istore (lv' := [(6, .int 0), (7, .int (nI i)), (5, .int (nI st)), (4, .int ((m_rn M (mi 31) st).2.2)), (3, .int ((m_rn M (mi 31) st).2.1)), (2, .int (nI ((m_rn M (mi 31) st).1))), (0, .ref (oA 0)), (1, .int (nI 1))]) hx hb dX7_rain_97 hl (by decide) rfl (fun ls hl => ?_)
                  refine lv_iinc (v := (nI (i + 1))) (lv' := [(7, .int (nI (i + 1))), (6, .int 0), (5, .int (nI st)), (4, .int ((m_rn M (mi 31) st).2.2)), (3, .int ((m_rn M (mi 31) st).2.1)), (2, .int (nI ((m_rn M (mi 31) st).1))), (0, .ref (oA 0)), (1, .int (nI 1))]) hx hb dX7_rain_99 hl (k := 1) rfl (ly_add rfl rfl) (by decide) rfl (fun ls hl => ?_)
                  refine lv_goto (tgt := 46) hx hb dX7_rain_102 (by decide) ?_
                  have e_11 : m_ri M st (i + 1) = 0 := by show m_riB M st i (m_ri M st i) = _; unfold m_riB; rw [if_neg c_7, if_neg c_9, if_neg c_10]
                  exact ih_46 (i + 1) (by omega) H locs (by first | exact hP.sub [0, 1, 2, 3, 4, 5] rfl | (rw [e_11]; exact hP.sub [0, 1, 2, 3, 4, 5] rfl)) (by first | exact hD.sub [0, 1, 2, 3, 4, 5] (by decide) rfl | (rw [e_11]; exact hD.sub [0, 1, 2, 3, 4, 5] (by decide) rfl)) hS ls (by first | exact lv_sub hl [0, 1, 2, 3, 4, 5, 6, 7] rfl | (rw [e_11]; exact lv_sub hl [0, 1, 2, 3, 4, 5, 6, 7] rfl))
                · refine lv_iconst (v := 1) hx hb dX7_rain_92 (by decide) ?_
                  refine lv_goto (tgt := 97) hx hb dX7_rain_93 (by decide) ?_
                  refine lv_istore (lv' := [(6, .int 1), (7, .int (nI i)), (5, .int (nI st)), (4, .int ((m_rn M (mi 31) st).2.2)), (3, .int ((m_rn M (mi 31) st).2.1)), (2, .int (nI ((m_rn M (mi 31) st).1))), (0, .ref (oA 0)), (1, .int (nI 1))]) hx hb dX7_rain_97 hl (by decide) rfl (fun ls hl => ?_)
                  refine lv_iinc (v := (nI (i + 1))) (lv' := [(7, .int (nI (i + 1))), (6, .int 1), (5, .int (nI st)), (4, .int ((m_rn M (mi 31) st).2.2)), (3, .int ((m_rn M (mi 31) st).2.1)), (2, .int (nI ((m_rn M (mi 31) st).1))), (0, .ref (oA 0)), (1, .int (nI 1))]) hx hb dX7_rain_99 hl (k := 1) rfl (ly_add rfl rfl) (by decide) rfl (fun ls hl => ?_)
                  refine lv_goto (tgt := 46) hx hb dX7_rain_102 (by decide) ?_
                  have e_12 : m_ri M st (i + 1) = 1 := by show m_riB M st i (m_ri M st i) = _; unfold m_riB; rw [if_neg c_7, if_neg c_9, if_pos c_10]
                  exact ih_46 (i + 1) (by omega) H locs (by first | exact hP.sub [0, 1, 2, 3, 4, 5] rfl | (rw [e_12]; exact hP.sub [0, 1, 2, 3, 4, 5] rfl)) (by first | exact hD.sub [0, 1, 2, 3, 4, 5] (by decide) rfl | (rw [e_12]; exact hD.sub [0, 1, 2, 3, 4, 5] (by decide) rfl)) hS ls (by first | exact lv_sub hl [0, 1, 2, 3, 4, 5, 6, 7] rfl | (rw [e_12]; exact lv_sub hl [0, 1, 2, 3, 4, 5, 6, 7] rfl))
              · refine lv_iconst (v := 1) hx hb dX7_rain_84 (by decide) ?_
                refine lv_goto (tgt := 89) hx hb dX7_rain_85 (by decide) ?_
                refine lv_icmp_ne (tgt := 96) hx hb dX7_rain_89 (by decide) (fun c_13 => ?_) (fun c_13 => ?_)
                · refine lv_iconst (v := 0) hx hb dX7_rain_96 (by decide) ?_
                  refine lv_istore (lv' := [(6, .int 0), (7, .int (nI i)), (5, .int (nI st)), (4, .int ((m_rn M (mi 31) st).2.2)), (3, .int ((m_rn M (mi 31) st).2.1)), (2, .int (nI ((m_rn M (mi 31) st).1))), (0, .ref (oA 0)), (1, .int (nI 1))]) hx hb dX7_rain_97 hl (by decide) rfl (fun ls hl => ?_)
                  refine lv_iinc (v := (nI (i + 1))) (lv' := [(7, .int (nI (i + 1))), (6, .int 0), (5, .int (nI st)), (4, .int ((m_rn M (mi 31) st).2.2)), (3, .int ((m_rn M (mi 31) st).2.1)), (2, .int (nI ((m_rn M (mi 31) st).1))), (0, .ref (oA 0)), (1, .int (nI 1))]) hx hb dX7_rain_99 hl (k := 1) rfl (ly_add rfl rfl) (by decide) rfl (fun ls hl => ?_)
                  refine lv_goto (tgt := 46) hx hb dX7_rain_102 (by decide) ?_
                  have e_14 : m_ri M st (i + 1) = 0 := by show m_riB M st i (m_ri M st i) = _; unfold m_riB; rw [if_neg c_7, if_pos c_9, if_neg c_13]
                  exact ih_46 (i + 1) (by omega) H locs (by first | exact hP.sub [0, 1, 2, 3, 4, 5] rfl | (rw [e_14]; exact hP.sub [0, 1, 2, 3, 4, 5] rfl)) (by first | exact hD.sub [0, 1, 2, 3, 4, 5] (by decide) rfl | (rw [e_14]; exact hD.sub [0, 1, 2, 3, 4, 5] (by decide) rfl)) hS ls (by first | exact lv_sub hl [0, 1, 2, 3, 4, 5, 6, 7] rfl | (rw [e_14]; exact lv_sub hl [0, 1, 2, 3, 4, 5, 6, 7] rfl))
                · refine lv_iconst (v := 1) hx hb dX7_rain_92 (by decide) ?_
                  refine lv_goto (tgt := 97) hx hb dX7_rain_93 (by decide) ?_
                  refine lv_istore (lv' := [(6, .int 1), (7, .int (nI i)), (5, .int (nI st)), (4, .int ((m_rn M (mi 31) st).2.2)), (3, .int ((m_rn M (mi 31) st).2.1)), (2, .int (nI ((m_rn M (mi 31) st).1))), (0, .ref (oA 0)), (1, .int (nI 1))]) hx hb dX7_rain_97 hl (by decide) rfl (fun ls hl => ?_)
                  refine lv_iinc (v := (nI (i + 1))) (lv' := [(7, .int (nI (i + 1))), (6, .int 1), (5, .int (nI st)), (4, .int ((m_rn M (mi 31) st).2.2)), (3, .int ((m_rn M (mi 31) st).2.1)), (2, .int (nI ((m_rn M (mi 31) st).1))), (0, .ref (oA 0)), (1, .int (nI 1))]) hx hb dX7_rain_99 hl (k := 1) rfl (ly_add rfl rfl) (by decide) rfl (fun ls hl => ?_)
                  refine lv_goto (tgt := 46) hx hb dX7_rain_102 (by decide) ?_
                  have e_15 : m_ri M st (i + 1) = 1 := by show m_riB M st i (m_ri M st i) = _; unfold m_riB; rw [if_neg c_7, if_pos c_9, if_pos c_13]
                  exact ih_46 (i + 1) (by omega) H locs (by first | exact hP.sub [0, 1, 2, 3, 4, 5] rfl | (rw [e_15]; exact hP.sub [0, 1, 2, 3, 4, 5] rfl)) (by first | exact hD.sub [0, 1, 2, 3, 4, 5] (by decide) rfl | (rw [e_15]; exact hD.sub [0, 1, 2, 3, 4, 5] (by decide) rfl)) hS ls (by first | exact lv_sub hl [0, 1, 2, 3, 4, 5, 6, 7] rfl | (rw [e_15]; exact lv_sub hl [0, 1, 2, 3, 4, 5, 6, 7] rfl))
        exact hloop_46 (mi 31) 0 (by omega) H locs (hP.sub [0, 1, 2, 3, 4, 5] rfl) (hD.sub [0, 1, 2, 3, 4, 5] (by decide) rfl) hS ls (lv_sub hl [0, 1, 2, 3, 4, 5, 6, 7] rfl)
    exact hloop_27 N6 0 (by omega) H locs (hP.sub [0, 1, 2, 3, 4, 5] rfl) (hD.sub [0, 1, 2, 3, 4, 5] (by decide) rfl) hS ls (lv_sub hl [0, 1, 2, 3, 4, 5] rfl)
  exact hmain _ _ hP va_S.rf

set_option maxHeartbeats 4000000 in
set_option maxRecDepth 100000 in
theorem c_X7_rain_2 (l : Launch) (D : va_G) (cI cC cZ cN : ClassId) (oA : Nat → Nat) (M : Nat → Nat → Nat) (mi : Nat → Nat) (fa : Int32) (mt : Int64) (hn : M 9 0 ≤ 9) (hm6 : M 9 1 ≤ 6) (hfm : mi 31 ≤ 5) (N6 : Nat) (hN6 : 2 ^ M 9 1 = N6) (hN7 : N6 ≤ 64) (hD0 : va_D (fun _ => True) [((oA 0), .inr (7, [.int 0, .long mt, .ref (oA 2), .int (nI (mi 3)), .int (nI (mi 4)), .int (nI (mi 5)), .int (nI (mi 6)), .int (nI (mi 7)), .int fa, .ref (oA 9), .ref (oA 10), .ref (oA 11), .ref (oA 12), .ref (oA 13), .ref (oA 14), .ref (oA 15), .ref (oA 16), .ref (oA 17), .ref (oA 18), .int (nI (mi 19)), .ref (oA 20), .ref (oA 21), .ref (oA 22), .ref (oA 23), .int (nI (mi 24)), .ref (oA 25), .ref (oA 26), .ref (oA 27), .int (nI (mi 28)), .ref (oA 29), .ref (oA 30), .int (nI (mi 31)), .ref (oA 32), .int (nI (mi 33)), .int (nI (mi 34))])), ((oA 9), .inl (cI, 4, .inl (fun j => nI ((M 9) j)))), ((oA 11), .inl (cI, 18, .inl (fun j => nI ((M 11) j)))), ((oA 20), .inl (cI, 23, .inl (fun j => nI ((M 20) j)))), ((oA 29), .inl (cI, 5, .inl (fun j => nI ((M 29) j)))), ((oA 30), .inl (cI, 5, .inl (fun j => nI ((M 30) j))))]) : Met l yX7_rain wsX7_rain (ly_rm 6) (ly_Pre D (ly_tys cI cC cZ cN) [((oA 0), .inr (7, [.int 0, .long mt, .ref (oA 2), .int (nI (mi 3)), .int (nI (mi 4)), .int (nI (mi 5)), .int (nI (mi 6)), .int (nI (mi 7)), .int fa, .ref (oA 9), .ref (oA 10), .ref (oA 11), .ref (oA 12), .ref (oA 13), .ref (oA 14), .ref (oA 15), .ref (oA 16), .ref (oA 17), .ref (oA 18), .int (nI (mi 19)), .ref (oA 20), .ref (oA 21), .ref (oA 22), .ref (oA 23), .int (nI (mi 24)), .ref (oA 25), .ref (oA 26), .ref (oA 27), .int (nI (mi 28)), .ref (oA 29), .ref (oA 30), .int (nI (mi 31)), .ref (oA 32), .int (nI (mi 33)), .int (nI (mi 34))])), ((oA 9), .inl (cI, 4, .inl (fun j => nI ((M 9) j)))), ((oA 11), .inl (cI, 18, .inl (fun j => nI ((M 11) j)))), ((oA 20), .inl (cI, 23, .inl (fun j => nI ((M 20) j)))), ((oA 29), .inl (cI, 5, .inl (fun j => nI ((M 29) j)))), ((oA 30), .inl (cI, 5, .inl (fun j => nI ((M 30) j))))] [.ref (oA 0), .int (nI 2)]) (ly_Q D [((oA 0), .inr (7, [.int 0, .long mt, .ref (oA 2), .int (nI (mi 3)), .int (nI (mi 4)), .int (nI (mi 5)), .int (nI (mi 6)), .int (nI (mi 7)), .int fa, .ref (oA 9), .ref (oA 10), .ref (oA 11), .ref (oA 12), .ref (oA 13), .ref (oA 14), .ref (oA 15), .ref (oA 16), .ref (oA 17), .ref (oA 18), .int (nI (mi 19)), .ref (oA 20), .ref (oA 21), .ref (oA 22), .ref (oA 23), .int (nI (mi 24)), .ref (oA 25), .ref (oA 26), .ref (oA 27), .int (nI (mi 28)), .ref (oA 29), .ref (oA 30), .int (nI (mi 31)), .ref (oA 32), .int (nI (mi 33)), .int (nI (mi 34))])), ((oA 9), .inl (cI, 4, .inl (fun j => nI ((M 9) j)))), ((oA 11), .inl (cI, 18, .inl (fun j => nI ((M 11) j)))), ((oA 20), .inl (cI, 23, .inl (fun j => nI ((M 20) j)))), ((oA 29), .inl (cI, 5, .inl (fun j => nI ((M 29) j)))), ((oA 30), .inl (cI, 5, .inl (fun j => nI ((M 30) j))))] (fun r_9 w_9 => r_9 = some (.int (if (nI (m_rn M (mi 31) N6).1) = 0 then (-9) else (m_rn M (mi 31) N6).2.2)) ∧ w_9 = [((oA 0), .inr (7, [.int 0, .long mt, .ref (oA 2), .int (nI (mi 3)), .int (nI (mi 4)), .int (nI (mi 5)), .int (nI (mi 6)), .int (nI (mi 7)), .int fa, .ref (oA 9), .ref (oA 10), .ref (oA 11), .ref (oA 12), .ref (oA 13), .ref (oA 14), .ref (oA 15), .ref (oA 16), .ref (oA 17), .ref (oA 18), .int (nI (mi 19)), .ref (oA 20), .ref (oA 21), .ref (oA 22), .ref (oA 23), .int (nI (mi 24)), .ref (oA 25), .ref (oA 26), .ref (oA 27), .int (nI (mi 28)), .ref (oA 29), .ref (oA 30), .int (nI (mi 31)), .ref (oA 32), .int (nI (mi 33)), .int (nI (mi 34))])), ((oA 9), .inl (cI, 4, .inl (fun j => nI ((M 9) j)))), ((oA 11), .inl (cI, 18, .inl (fun j => nI ((M 11) j)))), ((oA 20), .inl (cI, 23, .inl (fun j => nI ((M 20) j)))), ((oA 29), .inl (cI, 5, .inl (fun j => nI ((M 29) j)))), ((oA 30), .inl (cI, 5, .inl (fun j => nI ((M 30) j))))])) 0 0 (ly_in [((oA 0), .inr (7, [.int 0, .long mt, .ref (oA 2), .int (nI (mi 3)), .int (nI (mi 4)), .int (nI (mi 5)), .int (nI (mi 6)), .int (nI (mi 7)), .int fa, .ref (oA 9), .ref (oA 10), .ref (oA 11), .ref (oA 12), .ref (oA 13), .ref (oA 14), .ref (oA 15), .ref (oA 16), .ref (oA 17), .ref (oA 18), .int (nI (mi 19)), .ref (oA 20), .ref (oA 21), .ref (oA 22), .ref (oA 23), .int (nI (mi 24)), .ref (oA 25), .ref (oA 26), .ref (oA 27), .int (nI (mi 28)), .ref (oA 29), .ref (oA 30), .int (nI (mi 31)), .ref (oA 32), .int (nI (mi 33)), .int (nI (mi 34))])), ((oA 9), .inl (cI, 4, .inl (fun j => nI ((M 9) j)))), ((oA 11), .inl (cI, 18, .inl (fun j => nI ((M 11) j)))), ((oA 20), .inl (cI, 23, .inl (fun j => nI ((M 20) j)))), ((oA 29), .inl (cI, 5, .inl (fun j => nI ((M 29) j)))), ((oA 30), .inl (cI, 5, .inl (fun j => nI ((M 30) j))))]) := by
  refine Met.ofW (cc := cX7_rain) (maxL := 8) (ret := (some .int)) (by decide) rfl ?_
  intro p e s m args below meth c s₁ B hml hv
  obtain ⟨rfl, hP, hK, hN⟩ := hv
  have hx := B.exec
  have hb := B.bytes
  have hr := B.returns
  have hts := atoms_spec (ws := wsX7_rain) B.pre
  have hown : s.vm.findClass RX7 = some m.cls := findClass_of_methodNamed B.named
  have hlocks := B.notSynchronized
  have hl := lv_entry ([.ref (oA 0), .int (nI 2)]) (n := 8) (Nat.le_of_ble_eq_true rfl)
  rw [lg_entry_eq]
  generalize (lg_sl ([.ref (oA 0), .int (nI 2)]) ++ List.replicate (8 - (lg_sl ([.ref (oA 0), .int (nI 2)])).length) Slot.unset).toArray = ls at hl ⊢
  have hl : lv_has ls 8 [(0, .ref (oA 0)), (1, .int (nI 2))] := hl
  generalize ([.ref (oA 0), .int (nI 2)] : List Value).toArray = av at hts ⊢
  obtain ⟨Qc, hQc⟩ : ∃ Qc, Qc = (ly_Q D [((oA 0), .inr (7, [.int 0, .long mt, .ref (oA 2), .int (nI (mi 3)), .int (nI (mi 4)), .int (nI (mi 5)), .int (nI (mi 6)), .int (nI (mi 7)), .int fa, .ref (oA 9), .ref (oA 10), .ref (oA 11), .ref (oA 12), .ref (oA 13), .ref (oA 14), .ref (oA 15), .ref (oA 16), .ref (oA 17), .ref (oA 18), .int (nI (mi 19)), .ref (oA 20), .ref (oA 21), .ref (oA 22), .ref (oA 23), .int (nI (mi 24)), .ref (oA 25), .ref (oA 26), .ref (oA 27), .int (nI (mi 28)), .ref (oA 29), .ref (oA 30), .int (nI (mi 31)), .ref (oA 32), .int (nI (mi 33)), .int (nI (mi 34))])), ((oA 9), .inl (cI, 4, .inl (fun j => nI ((M 9) j)))), ((oA 11), .inl (cI, 18, .inl (fun j => nI ((M 11) j)))), ((oA 20), .inl (cI, 23, .inl (fun j => nI ((M 20) j)))), ((oA 29), .inl (cI, 5, .inl (fun j => nI ((M 29) j)))), ((oA 30), .inl (cI, 5, .inl (fun j => nI ((M 30) j))))] (fun r_9 w_9 => r_9 = some (.int (if (nI (m_rn M (mi 31) N6).1) = 0 then (-9) else (m_rn M (mi 31) N6).2.2)) ∧ w_9 = [((oA 0), .inr (7, [.int 0, .long mt, .ref (oA 2), .int (nI (mi 3)), .int (nI (mi 4)), .int (nI (mi 5)), .int (nI (mi 6)), .int (nI (mi 7)), .int fa, .ref (oA 9), .ref (oA 10), .ref (oA 11), .ref (oA 12), .ref (oA 13), .ref (oA 14), .ref (oA 15), .ref (oA 16), .ref (oA 17), .ref (oA 18), .int (nI (mi 19)), .ref (oA 20), .ref (oA 21), .ref (oA 22), .ref (oA 23), .int (nI (mi 24)), .ref (oA 25), .ref (oA 26), .ref (oA 27), .int (nI (mi 28)), .ref (oA 29), .ref (oA 30), .int (nI (mi 31)), .ref (oA 32), .int (nI (mi 33)), .int (nI (mi 34))])), ((oA 9), .inl (cI, 4, .inl (fun j => nI ((M 9) j)))), ((oA 11), .inl (cI, 18, .inl (fun j => nI ((M 11) j)))), ((oA 20), .inl (cI, 23, .inl (fun j => nI ((M 20) j)))), ((oA 29), .inl (cI, 5, .inl (fun j => nI ((M 29) j)))), ((oA 30), .inl (cI, 5, .inl (fun j => nI ((M 30) j))))])) := ⟨_, rfl⟩
  rw [← hQc]
  obtain ⟨A, hAe⟩ : ∃ A, A = ly_in [((oA 0), .inr (7, [.int 0, .long mt, .ref (oA 2), .int (nI (mi 3)), .int (nI (mi 4)), .int (nI (mi 5)), .int (nI (mi 6)), .int (nI (mi 7)), .int fa, .ref (oA 9), .ref (oA 10), .ref (oA 11), .ref (oA 12), .ref (oA 13), .ref (oA 14), .ref (oA 15), .ref (oA 16), .ref (oA 17), .ref (oA 18), .int (nI (mi 19)), .ref (oA 20), .ref (oA 21), .ref (oA 22), .ref (oA 23), .int (nI (mi 24)), .ref (oA 25), .ref (oA 26), .ref (oA 27), .int (nI (mi 28)), .ref (oA 29), .ref (oA 30), .int (nI (mi 31)), .ref (oA 32), .int (nI (mi 33)), .int (nI (mi 34))])), ((oA 9), .inl (cI, 4, .inl (fun j => nI ((M 9) j)))), ((oA 11), .inl (cI, 18, .inl (fun j => nI ((M 11) j)))), ((oA 20), .inl (cI, 23, .inl (fun j => nI ((M 20) j)))), ((oA 29), .inl (cI, 5, .inl (fun j => nI ((M 29) j)))), ((oA 30), .inl (cI, 5, .inl (fun j => nI ((M 30) j))))] := ⟨_, rfl⟩
  rw [← hAe]
  have hD := ly_self hD0
  rw [← hAe] at hD
  have f80 := hts (.fieldLink RX7 80 "KneesLentModel" "thrown" "I") (by decide +kernel)
  have k199 := hts (.constant RX7 199 (1000000)) (by decide +kernel)
  have f13 := hts (.fieldLink RX7 13 "KneesLentModel" "many" "[I") (by decide +kernel)
  have f138 := hts (.fieldLink RX7 138 "KneesLentModel" "feltMany" "I") (by decide +kernel)
  have f65 := hts (.fieldLink RX7 65 "KneesLentModel" "feltOf" "[I") (by decide +kernel)
  have f68 := hts (.fieldLink RX7 68 "KneesLentModel" "feltIs" "[I") (by decide +kernel)
  have hiX7 : ∀ w ∈ u_ws RX7 TX7 35, w ∈ wsX7_rain := by decide +kernel
  have hmain : ∀ (H : Heap) (locs : List Loc), va_P D vwCl [((oA 0), .inr (7, [.int 0, .long mt, .ref (oA 2), .int (nI (mi 3)), .int (nI (mi 4)), .int (nI (mi 5)), .int (nI (mi 6)), .int (nI (mi 7)), .int fa, .ref (oA 9), .ref (oA 10), .ref (oA 11), .ref (oA 12), .ref (oA 13), .ref (oA 14), .ref (oA 15), .ref (oA 16), .ref (oA 17), .ref (oA 18), .int (nI (mi 19)), .ref (oA 20), .ref (oA 21), .ref (oA 22), .ref (oA 23), .int (nI (mi 24)), .ref (oA 25), .ref (oA 26), .ref (oA 27), .int (nI (mi 28)), .ref (oA 29), .ref (oA 30), .int (nI (mi 31)), .ref (oA 32), .int (nI (mi 33)), .int (nI (mi 34))])), ((oA 9), .inl (cI, 4, .inl (fun j => nI ((M 9) j)))), ((oA 11), .inl (cI, 18, .inl (fun j => nI ((M 11) j)))), ((oA 20), .inl (cI, 23, .inl (fun j => nI ((M 20) j)))), ((oA 29), .inl (cI, 5, .inl (fun j => nI ((M 29) j)))), ((oA 30), .inl (cI, 5, .inl (fun j => nI ((M 30) j))))] H → va_S A s.heap H locs → W p l e (headSpec wsX7_rain (ly_rm 6)).room s m av below meth c H locs 0 0 (MQ below Qc av s 0 0 A) (F0 m 0 ls []) := by
    intro H locs hP hS
    refine lv_aload_n hx hb dX7_rain_0 rfl (lv_at hl 0 rfl) ?_
    refine lv_iconst (v := 0) hx hb dX7_rain_1 (by decide) ?_
    refine va_put (D := D) (ci := 7) (v := .int 0) (ty := .int) (C := RX7) (T := TX7) (N := 35) hx hb hts hiX7 tyX7 tyX7_ok nmX7 hown hK hP hD hS 0 rfl rfl 0 (by decide) f80 (fun _ h9 => h9) rfl (by decide +kernel) rfl rfl (Nat.le_of_ble_eq_true rfl) dX7_rain_2 (fun H locs hP hD hS => ?_)
    have hP : va_P D vwCl [((oA 0), .inr (7, [.int 0, .long mt, .ref (oA 2), .int (nI (mi 3)), .int (nI (mi 4)), .int (nI (mi 5)), .int (nI (mi 6)), .int (nI (mi 7)), .int fa, .ref (oA 9), .ref (oA 10), .ref (oA 11), .ref (oA 12), .ref (oA 13), .ref (oA 14), .ref (oA 15), .ref (oA 16), .ref (oA 17), .ref (oA 18), .int (nI (mi 19)), .ref (oA 20), .ref (oA 21), .ref (oA 22), .ref (oA 23), .int (nI (mi 24)), .ref (oA 25), .ref (oA 26), .ref (oA 27), .int (nI (mi 28)), .ref (oA 29), .ref (oA 30), .int (nI (mi 31)), .ref (oA 32), .int (nI (mi 33)), .int (nI (mi 34))])), ((oA 9), .inl (cI, 4, .inl (fun j => nI ((M 9) j)))), ((oA 11), .inl (cI, 18, .inl (fun j => nI ((M 11) j)))), ((oA 20), .inl (cI, 23, .inl (fun j => nI ((M 20) j)))), ((oA 29), .inl (cI, 5, .inl (fun j => nI ((M 29) j)))), ((oA 30), .inl (cI, 5, .inl (fun j => nI ((M 30) j))))] H := hP
    have hD : va_D A [((oA 0), .inr (7, [.int 0, .long mt, .ref (oA 2), .int (nI (mi 3)), .int (nI (mi 4)), .int (nI (mi 5)), .int (nI (mi 6)), .int (nI (mi 7)), .int fa, .ref (oA 9), .ref (oA 10), .ref (oA 11), .ref (oA 12), .ref (oA 13), .ref (oA 14), .ref (oA 15), .ref (oA 16), .ref (oA 17), .ref (oA 18), .int (nI (mi 19)), .ref (oA 20), .ref (oA 21), .ref (oA 22), .ref (oA 23), .int (nI (mi 24)), .ref (oA 25), .ref (oA 26), .ref (oA 27), .int (nI (mi 28)), .ref (oA 29), .ref (oA 30), .int (nI (mi 31)), .ref (oA 32), .int (nI (mi 33)), .int (nI (mi 34))])), ((oA 9), .inl (cI, 4, .inl (fun j => nI ((M 9) j)))), ((oA 11), .inl (cI, 18, .inl (fun j => nI ((M 11) j)))), ((oA 20), .inl (cI, 23, .inl (fun j => nI ((M 20) j)))), ((oA 29), .inl (cI, 5, .inl (fun j => nI ((M 29) j)))), ((oA 30), .inl (cI, 5, .inl (fun j => nI ((M 30) j))))] := hD
    refine lv_iload_n hx hb dX7_rain_5 rfl (lv_at hl 1 rfl) ?_
    refine lv_iconst (v := 0) hx hb dX7_rain_6 (by decide) ?_
    refine lv_iconst (v := 2) hx hb dX7_rain_7 (by decide) ?_
    have hPc_8 := hP.sub (ws' := []) [] rfl
    refine ly_r (va_runS (As := [.int (nI 2), .int 0, .int 2]) (rest := []) ⟨hx, hb, hml, hown, hts⟩ (c_X7_in l D cI cC cZ cN (nI 2) 0 2) (va_cwS 3 hts gX7_rain_X7_in rfl rfl rfl (by decide +kernel) ⟨Nat.le_of_ble_eq_true rfl, Nat.le_of_ble_eq_true rfl⟩) (ly_ps hK hN hPc_8) rfl rfl hl.1 rfl (lv_room (Nat.le_of_ble_eq_true rfl)) dX7_rain_8 ⟨Nat.zero_le _, Nat.zero_le _⟩) ?_
    refine lv_if_ne (tgt := 16) hx hb dX7_rain_11 (by decide) (fun _ => ?_) (fun h_9 => absurd h_9 (jin_yes (b := 2) (by omega) (by omega)))
    refine lv_iconst (v := 0) hx hb dX7_rain_16 (by decide) ?_
    refine lv_istore_n (lv' := [(2, .int 0), (0, .ref (oA 0)), (1, .int (nI 2))]) hx hb dX7_rain_17 rfl hl (by decide) rfl (fun ls hl => ?_)
    refine lv_iconst (v := (-1)) hx hb dX7_rain_18 (by decide) ?_
    refine lv_istore_n (lv' := [(3, .int (-1)), (2, .int 0), (0, .ref (oA 0)), (1, .int (nI 2))]) hx hb dX7_rain_19 rfl hl (by decide) rfl (fun ls hl => ?_)
    refine lv_ldc (v := 1000000) hx hb hown k199 dX7_rain_20 ?_
    refine lv_istore (lv' := [(4, .int 1000000), (3, .int (-1)), (2, .int 0), (0, .ref (oA 0)), (1, .int (nI 2))]) hx hb dX7_rain_22 hl (by decide) rfl (fun ls hl => ?_)
    refine lv_iconst (v := 0) hx hb dX7_rain_24 (by decide) ?_
    refine lv_istore (lv' := [(5, .int 0), (4, .int 1000000), (3, .int (-1)), (2, .int 0), (0, .ref (oA 0)), (1, .int (nI 2))]) hx hb dX7_rain_25 hl (by decide) rfl (fun ls hl => ?_)
    have hloop_27 : ∀ (ua st : Nat), st + ua = N6 → ∀ (H : Heap) (locs : List Loc), va_P D vwCl [((oA 0), .inr (7, [.int 0, .long mt, .ref (oA 2), .int (nI (mi 3)), .int (nI (mi 4)), .int (nI (mi 5)), .int (nI (mi 6)), .int (nI (mi 7)), .int fa, .ref (oA 9), .ref (oA 10), .ref (oA 11), .ref (oA 12), .ref (oA 13), .ref (oA 14), .ref (oA 15), .ref (oA 16), .ref (oA 17), .ref (oA 18), .int (nI (mi 19)), .ref (oA 20), .ref (oA 21), .ref (oA 22), .ref (oA 23), .int (nI (mi 24)), .ref (oA 25), .ref (oA 26), .ref (oA 27), .int (nI (mi 28)), .ref (oA 29), .ref (oA 30), .int (nI (mi 31)), .ref (oA 32), .int (nI (mi 33)), .int (nI (mi 34))])), ((oA 9), .inl (cI, 4, .inl (fun j => nI ((M 9) j)))), ((oA 11), .inl (cI, 18, .inl (fun j => nI ((M 11) j)))), ((oA 20), .inl (cI, 23, .inl (fun j => nI ((M 20) j)))), ((oA 29), .inl (cI, 5, .inl (fun j => nI ((M 29) j)))), ((oA 30), .inl (cI, 5, .inl (fun j => nI ((M 30) j))))] H → va_D A [((oA 0), .inr (7, [.int 0, .long mt, .ref (oA 2), .int (nI (mi 3)), .int (nI (mi 4)), .int (nI (mi 5)), .int (nI (mi 6)), .int (nI (mi 7)), .int fa, .ref (oA 9), .ref (oA 10), .ref (oA 11), .ref (oA 12), .ref (oA 13), .ref (oA 14), .ref (oA 15), .ref (oA 16), .ref (oA 17), .ref (oA 18), .int (nI (mi 19)), .ref (oA 20), .ref (oA 21), .ref (oA 22), .ref (oA 23), .int (nI (mi 24)), .ref (oA 25), .ref (oA 26), .ref (oA 27), .int (nI (mi 28)), .ref (oA 29), .ref (oA 30), .int (nI (mi 31)), .ref (oA 32), .int (nI (mi 33)), .int (nI (mi 34))])), ((oA 9), .inl (cI, 4, .inl (fun j => nI ((M 9) j)))), ((oA 11), .inl (cI, 18, .inl (fun j => nI ((M 11) j)))), ((oA 20), .inl (cI, 23, .inl (fun j => nI ((M 20) j)))), ((oA 29), .inl (cI, 5, .inl (fun j => nI ((M 29) j)))), ((oA 30), .inl (cI, 5, .inl (fun j => nI ((M 30) j))))] → va_S A s.heap H locs → ∀ ls : Array Slot, lv_has ls 8 [(5, .int (nI st)), (4, .int ((m_rn M (mi 31) st).2.2)), (3, .int ((m_rn M (mi 31) st).2.1)), (2, .int (nI ((m_rn M (mi 31) st).1))), (0, .ref (oA 0)), (1, .int (nI 2))] → W p l e (headSpec wsX7_rain (ly_rm 6)).room s m av below meth c H locs 0 0 (MQ below Qc av s 0 0 A) (F0 m 27 ls []) := by
      intro ua
      induction ua with
      | zero =>
        intro st hi_27 H locs hP hD hS ls hl
        obtain rfl : N6 = st := by omega
        refine lv_iload hx hb dX7_rain_27 (lv_at hl 0 rfl) ?_
        refine lv_iconst (v := 1) hx hb dX7_rain_29 (by decide) ?_
        refine lv_aload_n hx hb dX7_rain_30 rfl (lv_at hl 4 rfl) ?_
        refine va_get (D := D) (ci := 7) (v := .ref (oA 9)) (C := RX7) (T := TX7) (N := 35) hx hb hts hiX7 hown hK hP 0 rfl rfl 9 (by decide) f13 (fun _ h9 => h9) rfl dX7_rain_31 ?_
        refine lv_iconst (v := 1) hx hb dX7_rain_34 (by decide) ?_
        refine ly_iald hx hb hK hP 1 0 rfl rfl (k := 1) (by decide) rfl (by omega) dX7_rain_35 ?_
        refine lv_ishl hx hb dX7_rain_36 ?_
        refine ly_eqi (show (1 <<< ((nI ((M 9) 1)) &&& 31)) = (nI N6) from (by rw [← hN6]; exact ly_shl1 (by omega))) ?_
        refine lv_icmp_ge (tgt := 146) hx hb dX7_rain_37 (by decide) (fun _ => ?_) (fun h_9 => absurd (nI_le (Nat.le_refl _) (by omega)) h_9)
        refine lv_iload_n hx hb dX7_rain_146 rfl (lv_at hl 5 rfl) ?_
        refine lv_if_ne (tgt := 154) hx hb dX7_rain_147 (by decide) (fun _ => ?_) (fun h_9 => absurd h_9 (by decide))
        refine lv_iload_n hx hb dX7_rain_154 rfl (lv_at hl 3 rfl) ?_
        refine lv_if_ne (tgt := 163) hx hb dX7_rain_155 (by decide) (fun c_1 => ?_) (fun c_1 => ?_)
        · refine lv_iload_n hx hb dX7_rain_163 rfl (lv_at hl 5 rfl) ?_
          refine lv_iconst (v := 1) hx hb dX7_rain_164 (by decide) ?_
          refine lv_icmp_ne (tgt := 172) hx hb dX7_rain_165 (by decide) (fun _ => ?_) (fun h_9 => absurd h_9 (by decide))
          refine lv_iload hx hb dX7_rain_172 (lv_at hl 1 rfl) ?_
          exact W.iret (v := (m_rn M (mi 31) N6).2.2) hx hb hr (fun t_9 ht_9 _ => by rw [hQc]; exact ⟨_, [((oA 0), .inr (7, [.int 0, .long mt, .ref (oA 2), .int (nI (mi 3)), .int (nI (mi 4)), .int (nI (mi 5)), .int (nI (mi 6)), .int (nI (mi 7)), .int fa, .ref (oA 9), .ref (oA 10), .ref (oA 11), .ref (oA 12), .ref (oA 13), .ref (oA 14), .ref (oA 15), .ref (oA 16), .ref (oA 17), .ref (oA 18), .int (nI (mi 19)), .ref (oA 20), .ref (oA 21), .ref (oA 22), .ref (oA 23), .int (nI (mi 24)), .ref (oA 25), .ref (oA 26), .ref (oA 27), .int (nI (mi 28)), .ref (oA 29), .ref (oA 30), .int (nI (mi 31)), .ref (oA 32), .int (nI (mi 33)), .int (nI (mi 34))])), ((oA 9), .inl (cI, 4, .inl (fun j => nI ((M 9) j)))), ((oA 11), .inl (cI, 18, .inl (fun j => nI ((M 11) j)))), ((oA 20), .inl (cI, 23, .inl (fun j => nI ((M 20) j)))), ((oA 29), .inl (cI, 5, .inl (fun j => nI ((M 29) j)))), ((oA 30), .inl (cI, 5, .inl (fun j => nI ((M 30) j))))], rfl, ⟨(by first | rfl | (rw [if_neg c_1]; done) | (rw [if_neg c_1]; rfl) | (simp only [if_neg c_1]; done) | (simp only [if_neg c_1]; rfl)), (by first | rfl | (rw [if_neg c_1]; done) | (rw [if_neg c_1]; rfl) | (simp only [if_neg c_1]; done) | (simp only [if_neg c_1]; rfl))⟩, by simp only [List.map_cons, List.map_nil], by rw [ht_9]; exact hP.sub [0, 1, 2, 3, 4, 5] rfl, by rw [← hAe]; exact hS.F ht_9⟩) hS.2.2 dX7_rain_174
        · refine lv_bipush (v := (-9)) hx hb dX7_rain_158 (by decide) ?_
          refine lv_goto (tgt := 174) hx hb dX7_rain_160 (by decide) ?_
          exact W.iret (v := (-9)) hx hb hr (fun t_9 ht_9 _ => by rw [hQc]; exact ⟨_, [((oA 0), .inr (7, [.int 0, .long mt, .ref (oA 2), .int (nI (mi 3)), .int (nI (mi 4)), .int (nI (mi 5)), .int (nI (mi 6)), .int (nI (mi 7)), .int fa, .ref (oA 9), .ref (oA 10), .ref (oA 11), .ref (oA 12), .ref (oA 13), .ref (oA 14), .ref (oA 15), .ref (oA 16), .ref (oA 17), .ref (oA 18), .int (nI (mi 19)), .ref (oA 20), .ref (oA 21), .ref (oA 22), .ref (oA 23), .int (nI (mi 24)), .ref (oA 25), .ref (oA 26), .ref (oA 27), .int (nI (mi 28)), .ref (oA 29), .ref (oA 30), .int (nI (mi 31)), .ref (oA 32), .int (nI (mi 33)), .int (nI (mi 34))])), ((oA 9), .inl (cI, 4, .inl (fun j => nI ((M 9) j)))), ((oA 11), .inl (cI, 18, .inl (fun j => nI ((M 11) j)))), ((oA 20), .inl (cI, 23, .inl (fun j => nI ((M 20) j)))), ((oA 29), .inl (cI, 5, .inl (fun j => nI ((M 29) j)))), ((oA 30), .inl (cI, 5, .inl (fun j => nI ((M 30) j))))], rfl, ⟨(by first | rfl | (rw [if_pos c_1]; done) | (rw [if_pos c_1]; rfl) | (simp only [if_pos c_1]; done) | (simp only [if_pos c_1]; rfl)), (by first | rfl | (rw [if_pos c_1]; done) | (rw [if_pos c_1]; rfl) | (simp only [if_pos c_1]; done) | (simp only [if_pos c_1]; rfl))⟩, by simp only [List.map_cons, List.map_nil], by rw [ht_9]; exact hP.sub [0, 1, 2, 3, 4, 5] rfl, by rw [← hAe]; exact hS.F ht_9⟩) hS.2.2 dX7_rain_174
      | succ ua ih_27 =>
        intro st hi_27 H locs hP hD hS ls hl
        refine lv_iload hx hb dX7_rain_27 (lv_at hl 0 rfl) ?_
        refine lv_iconst (v := 1) hx hb dX7_rain_29 (by decide) ?_
        refine lv_aload_n hx hb dX7_rain_30 rfl (lv_at hl 4 rfl) ?_
        refine va_get (D := D) (ci := 7) (v := .ref (oA 9)) (C := RX7) (T := TX7) (N := 35) hx hb hts hiX7 hown hK hP 0 rfl rfl 9 (by decide) f13 (fun _ h9 => h9) rfl dX7_rain_31 ?_
        refine lv_iconst (v := 1) hx hb dX7_rain_34 (by decide) ?_
        refine ly_iald hx hb hK hP 1 0 rfl rfl (k := 1) (by decide) rfl (by omega) dX7_rain_35 ?_
        refine lv_ishl hx hb dX7_rain_36 ?_
        refine ly_eqi (show (1 <<< ((nI ((M 9) 1)) &&& 31)) = (nI N6) from (by rw [← hN6]; exact ly_shl1 (by omega))) ?_
        refine lv_icmp_ge (tgt := 146) hx hb dX7_rain_37 (by decide) (fun h_9 => absurd h_9 (nI_ge (by omega) (by omega))) (fun _ => ?_)
        refine lv_iconst (v := 1) hx hb dX7_rain_40 (by decide) ?_
        refine lv_istore (lv' := [(6, .int 1), (5, .int (nI st)), (4, .int ((m_rn M (mi 31) st).2.2)), (3, .int ((m_rn M (mi 31) st).2.1)), (2, .int (nI ((m_rn M (mi 31) st).1))), (0, .ref (oA 0)), (1, .int (nI 2))]) hx hb dX7_rain_41 hl (by decide) rfl (fun ls hl => ?_)
        refine lv_iconst (v := 0) hx hb dX7_rain_43 (by decide) ?_
        refine lv_istore (lv' := [(7, .int 0), (6, .int 1), (5, .int (nI st)), (4, .int ((m_rn M (mi 31) st).2.2)), (3, .int ((m_rn M (mi 31) st).2.1)), (2, .int (nI ((m_rn M (mi 31) st).1))), (0, .ref (oA 0)), (1, .int (nI 2))]) hx hb dX7_rain_44 hl (by decide) rfl (fun ls hl => ?_)
        have hloop_46 : ∀ (ub i : Nat), i + ub = mi 31 → ∀ (H : Heap) (locs : List Loc), va_P D vwCl [((oA 0), .inr (7, [.int 0, .long mt, .ref (oA 2), .int (nI (mi 3)), .int (nI (mi 4)), .int (nI (mi 5)), .int (nI (mi 6)), .int (nI (mi 7)), .int fa, .ref (oA 9), .ref (oA 10), .ref (oA 11), .ref (oA 12), .ref (oA 13), .ref (oA 14), .ref (oA 15), .ref (oA 16), .ref (oA 17), .ref (oA 18), .int (nI (mi 19)), .ref (oA 20), .ref (oA 21), .ref (oA 22), .ref (oA 23), .int (nI (mi 24)), .ref (oA 25), .ref (oA 26), .ref (oA 27), .int (nI (mi 28)), .ref (oA 29), .ref (oA 30), .int (nI (mi 31)), .ref (oA 32), .int (nI (mi 33)), .int (nI (mi 34))])), ((oA 9), .inl (cI, 4, .inl (fun j => nI ((M 9) j)))), ((oA 11), .inl (cI, 18, .inl (fun j => nI ((M 11) j)))), ((oA 20), .inl (cI, 23, .inl (fun j => nI ((M 20) j)))), ((oA 29), .inl (cI, 5, .inl (fun j => nI ((M 29) j)))), ((oA 30), .inl (cI, 5, .inl (fun j => nI ((M 30) j))))] H → va_D A [((oA 0), .inr (7, [.int 0, .long mt, .ref (oA 2), .int (nI (mi 3)), .int (nI (mi 4)), .int (nI (mi 5)), .int (nI (mi 6)), .int (nI (mi 7)), .int fa, .ref (oA 9), .ref (oA 10), .ref (oA 11), .ref (oA 12), .ref (oA 13), .ref (oA 14), .ref (oA 15), .ref (oA 16), .ref (oA 17), .ref (oA 18), .int (nI (mi 19)), .ref (oA 20), .ref (oA 21), .ref (oA 22), .ref (oA 23), .int (nI (mi 24)), .ref (oA 25), .ref (oA 26), .ref (oA 27), .int (nI (mi 28)), .ref (oA 29), .ref (oA 30), .int (nI (mi 31)), .ref (oA 32), .int (nI (mi 33)), .int (nI (mi 34))])), ((oA 9), .inl (cI, 4, .inl (fun j => nI ((M 9) j)))), ((oA 11), .inl (cI, 18, .inl (fun j => nI ((M 11) j)))), ((oA 20), .inl (cI, 23, .inl (fun j => nI ((M 20) j)))), ((oA 29), .inl (cI, 5, .inl (fun j => nI ((M 29) j)))), ((oA 30), .inl (cI, 5, .inl (fun j => nI ((M 30) j))))] → va_S A s.heap H locs → ∀ ls : Array Slot, lv_has ls 8 [(7, .int (nI i)), (6, .int (nI (m_ri M st i))), (5, .int (nI st)), (4, .int ((m_rn M (mi 31) st).2.2)), (3, .int ((m_rn M (mi 31) st).2.1)), (2, .int (nI ((m_rn M (mi 31) st).1))), (0, .ref (oA 0)), (1, .int (nI 2))] → W p l e (headSpec wsX7_rain (ly_rm 6)).room s m av below meth c H locs 0 0 (MQ below Qc av s 0 0 A) (F0 m 46 ls []) := by
          intro ub
          induction ub with
          | zero =>
            intro i hi_46 H locs hP hD hS ls hl
            obtain rfl : mi 31 = i := by omega
            refine lv_iload hx hb dX7_rain_46 (lv_at hl 0 rfl) ?_
            refine lv_aload_n hx hb dX7_rain_48 rfl (lv_at hl 6 rfl) ?_
            refine va_get (D := D) (ci := 7) (v := .int (nI (mi 31))) (C := RX7) (T := TX7) (N := 35) hx hb hts hiX7 hown hK hP 0 rfl rfl 31 (by decide) f138 (fun _ h9 => h9) rfl dX7_rain_49 ?_
            refine lv_icmp_ge (tgt := 105) hx hb dX7_rain_52 (by decide) (fun _ => ?_) (fun h_9 => absurd (nI_le (Nat.le_refl _) (by omega)) h_9)
            refine lv_iload hx hb dX7_rain_105 (lv_at hl 1 rfl) ?_
            refine lv_if_eq (tgt := 140) hx hb dX7_rain_107 (by decide) (fun c_2 => ?_) (fun c_2 => ?_)
            · refine lv_iinc (v := (nI (st + 1))) (lv' := [(5, .int (nI (st + 1))), (7, .int (nI (mi 31))), (6, .int (nI (m_ri M st (mi 31)))), (4, .int ((m_rn M (mi 31) st).2.2)), (3, .int ((m_rn M (mi 31) st).2.1)), (2, .int (nI ((m_rn M (mi 31) st).1))), (0, .ref (oA 0)), (1, .int (nI 2))]) hx hb dX7_rain_140 hl (k := 2) rfl (ly_add rfl rfl) (by decide) rfl (fun ls hl => ?_)
              refine lv_goto (tgt := 27) hx hb dX7_rain_143 (by decide) ?_
              have e_3 : m_rn M (mi 31) (st + 1) = ((m_rn M (mi 31) st).1, (m_rn M (mi 31) st).2.1, (m_rn M (mi 31) st).2.2) := by show m_rnB M (mi 31) st ((m_rn M (mi 31) st).1) ((m_rn M (mi 31) st).2.1) ((m_rn M (mi 31) st).2.2) = _; unfold m_rnB; rw [if_pos c_2]
              exact ih_27 (st + 1) (by omega) H locs (by first | exact hP.sub [0, 1, 2, 3, 4, 5] rfl | (rw [e_3]; exact hP.sub [0, 1, 2, 3, 4, 5] rfl)) (by first | exact hD.sub [0, 1, 2, 3, 4, 5] (by decide) rfl | (rw [e_3]; exact hD.sub [0, 1, 2, 3, 4, 5] (by decide) rfl)) hS ls (by first | exact lv_sub hl [0, 3, 4, 5, 6, 7] rfl | (rw [e_3]; exact lv_sub hl [0, 3, 4, 5, 6, 7] rfl))
            · refine lv_iinc (v := (nI ((m_rn M (mi 31) st).1 + 1))) (lv' := [(2, .int (nI ((m_rn M (mi 31) st).1 + 1))), (7, .int (nI (mi 31))), (6, .int (nI (m_ri M st (mi 31)))), (5, .int (nI st)), (4, .int ((m_rn M (mi 31) st).2.2)), (3, .int ((m_rn M (mi 31) st).2.1)), (0, .ref (oA 0)), (1, .int (nI 2))]) hx hb dX7_rain_110 hl (k := 5) rfl (ly_add rfl rfl) (by decide) rfl (fun ls hl => ?_)
              refine lv_iload_n hx hb dX7_rain_113 rfl (lv_at hl 5 rfl) ?_
              refine lv_iload hx hb dX7_rain_114 (lv_at hl 3 rfl) ?_
              refine lv_iand hx hb dX7_rain_116 ?_
              refine lv_istore_n (lv' := [(3, .int ((m_rn M (mi 31) st).2.1 &&& (nI st))), (2, .int (nI ((m_rn M (mi 31) st).1 + 1))), (7, .int (nI (mi 31))), (6, .int (nI (m_ri M st (mi 31)))), (5, .int (nI st)), (4, .int ((m_rn M (mi 31) st).2.2)), (0, .ref (oA 0)), (1, .int (nI 2))]) hx hb dX7_rain_117 rfl hl (by decide) rfl (fun ls hl => ?_)
              refine lv_iload hx hb dX7_rain_118 (lv_at hl 4 rfl) ?_
              have hPc_120 := hP.sub (ws' := []) [] rfl
              refine ly_r (va_runS (As := [.int (nI st)]) (rest := []) ⟨hx, hb, hml, hown, hts⟩ (c_X7_ones l D cI cC cZ cN (nI st)) (va_cwS 1 hts gX7_rain_X7_ones rfl rfl rfl (by decide +kernel) ⟨Nat.le_of_ble_eq_true rfl, Nat.le_of_ble_eq_true rfl⟩) (ly_ps hK hN hPc_120) rfl rfl hl.1 rfl (lv_room (Nat.le_of_ble_eq_true rfl)) dX7_rain_120 ⟨Nat.zero_le _, Nat.zero_le _⟩) ?_
              refine lv_iload hx hb dX7_rain_123 (lv_at hl 5 rfl) ?_
              refine lv_icmp_ge (tgt := 136) hx hb dX7_rain_125 (by decide) (fun c_4 => ?_) (fun c_4 => ?_)
              · refine lv_iload hx hb dX7_rain_136 (lv_at hl 5 rfl) ?_
                refine lv_istore (lv' := [(4, .int ((m_rn M (mi 31) st).2.2)), (3, .int ((m_rn M (mi 31) st).2.1 &&& (nI st))), (2, .int (nI ((m_rn M (mi 31) st).1 + 1))), (7, .int (nI (mi 31))), (6, .int (nI (m_ri M st (mi 31)))), (5, .int (nI st)), (0, .ref (oA 0)), (1, .int (nI 2))]) hx hb dX7_rain_138 hl (by decide) rfl (fun ls hl => ?_)
                refine lv_iinc (v := (nI (st + 1))) (lv' := [(5, .int (nI (st + 1))), (4, .int ((m_rn M (mi 31) st).2.2)), (3, .int ((m_rn M (mi 31) st).2.1 &&& (nI st))), (2, .int (nI ((m_rn M (mi 31) st).1 + 1))), (7, .int (nI (mi 31))), (6, .int (nI (m_ri M st (mi 31)))), (0, .ref (oA 0)), (1, .int (nI 2))]) hx hb dX7_rain_140 hl (k := 5) rfl (ly_add rfl rfl) (by decide) rfl (fun ls hl => ?_)
                refine lv_goto (tgt := 27) hx hb dX7_rain_143 (by decide) ?_
                have e_5 : m_rn M (mi 31) (st + 1) = ((m_rn M (mi 31) st).1 + 1, ((m_rn M (mi 31) st).2.1 &&& (nI st)), (m_rn M (mi 31) st).2.2) := by show m_rnB M (mi 31) st ((m_rn M (mi 31) st).1) ((m_rn M (mi 31) st).2.1) ((m_rn M (mi 31) st).2.2) = _; unfold m_rnB; rw [if_neg c_2, if_pos c_4]
                exact ih_27 (st + 1) (by omega) H locs (by first | exact hP.sub [0, 1, 2, 3, 4, 5] rfl | (rw [e_5]; exact hP.sub [0, 1, 2, 3, 4, 5] rfl)) (by first | exact hD.sub [0, 1, 2, 3, 4, 5] (by decide) rfl | (rw [e_5]; exact hD.sub [0, 1, 2, 3, 4, 5] (by decide) rfl)) hS ls (by first | exact lv_sub hl [0, 1, 2, 3, 6, 7] rfl | (rw [e_5]; exact lv_sub hl [0, 1, 2, 3, 6, 7] rfl))
              · refine lv_iload hx hb dX7_rain_128 (lv_at hl 4 rfl) ?_
                have hPc_130 := hP.sub (ws' := []) [] rfl
                refine ly_r (va_runS (As := [.int (nI st)]) (rest := []) ⟨hx, hb, hml, hown, hts⟩ (c_X7_ones l D cI cC cZ cN (nI st)) (va_cwS 1 hts gX7_rain_X7_ones rfl rfl rfl (by decide +kernel) ⟨Nat.le_of_ble_eq_true rfl, Nat.le_of_ble_eq_true rfl⟩) (ly_ps hK hN hPc_130) rfl rfl hl.1 rfl (lv_room (Nat.le_of_ble_eq_true rfl)) dX7_rain_130 ⟨Nat.zero_le _, Nat.zero_le _⟩) ?_
                refine lv_goto (tgt := 138) hx hb dX7_rain_133 (by decide) ?_
                refine lv_istore (lv' := [(4, .int (m_ones (nI st) 9)), (3, .int ((m_rn M (mi 31) st).2.1 &&& (nI st))), (2, .int (nI ((m_rn M (mi 31) st).1 + 1))), (7, .int (nI (mi 31))), (6, .int (nI (m_ri M st (mi 31)))), (5, .int (nI st)), (0, .ref (oA 0)), (1, .int (nI 2))]) hx hb dX7_rain_138 hl (by decide) rfl (fun ls hl => ?_)
                refine lv_iinc (v := (nI (st + 1))) (lv' := [(5, .int (nI (st + 1))), (4, .int (m_ones (nI st) 9)), (3, .int ((m_rn M (mi 31) st).2.1 &&& (nI st))), (2, .int (nI ((m_rn M (mi 31) st).1 + 1))), (7, .int (nI (mi 31))), (6, .int (nI (m_ri M st (mi 31)))), (0, .ref (oA 0)), (1, .int (nI 2))]) hx hb dX7_rain_140 hl (k := 5) rfl (ly_add rfl rfl) (by decide) rfl (fun ls hl => ?_)
                refine lv_goto (tgt := 27) hx hb dX7_rain_143 (by decide) ?_
                have e_6 : m_rn M (mi 31) (st + 1) = ((m_rn M (mi 31) st).1 + 1, ((m_rn M (mi 31) st).2.1 &&& (nI st)), (m_ones (nI st) 9)) := by show m_rnB M (mi 31) st ((m_rn M (mi 31) st).1) ((m_rn M (mi 31) st).2.1) ((m_rn M (mi 31) st).2.2) = _; unfold m_rnB; rw [if_neg c_2, if_neg c_4]
                exact ih_27 (st + 1) (by omega) H locs (by first | exact hP.sub [0, 1, 2, 3, 4, 5] rfl | (rw [e_6]; exact hP.sub [0, 1, 2, 3, 4, 5] rfl)) (by first | exact hD.sub [0, 1, 2, 3, 4, 5] (by decide) rfl | (rw [e_6]; exact hD.sub [0, 1, 2, 3, 4, 5] (by decide) rfl)) hS ls (by first | exact lv_sub hl [0, 1, 2, 3, 6, 7] rfl | (rw [e_6]; exact lv_sub hl [0, 1, 2, 3, 6, 7] rfl))
          | succ ub ih_46 =>
            intro i hi_46 H locs hP hD hS ls hl
            refine lv_iload hx hb dX7_rain_46 (lv_at hl 0 rfl) ?_
            refine lv_aload_n hx hb dX7_rain_48 rfl (lv_at hl 6 rfl) ?_
            refine va_get (D := D) (ci := 7) (v := .int (nI (mi 31))) (C := RX7) (T := TX7) (N := 35) hx hb hts hiX7 hown hK hP 0 rfl rfl 31 (by decide) f138 (fun _ h9 => h9) rfl dX7_rain_49 ?_
            refine lv_icmp_ge (tgt := 105) hx hb dX7_rain_52 (by decide) (fun h_9 => absurd h_9 (nI_ge (by omega) (by omega))) (fun _ => ?_)
            refine lv_iload hx hb dX7_rain_55 (lv_at hl 1 rfl) ?_
            refine lv_if_eq (tgt := 96) hx hb dX7_rain_57 (by decide) (fun c_7 => ?_) (fun c_7 => ?_)
            · refine lv_iconst (v := 0) hx hb dX7_rain_96 (by decide) ?_
              refine lv_istore (lv' := [(6, .int 0), (7, .int (nI i)), (5, .int (nI st)), (4, .int ((m_rn M (mi 31) st).2.2)), (3, .int ((m_rn M (mi 31) st).2.1)), (2, .int (nI ((m_rn M (mi 31) st).1))), (0, .ref (oA 0)), (1, .int (nI 2))]) hx hb dX7_rain_97 hl (by decide) rfl (fun ls hl => ?_)
              refine lv_iinc (v := (nI (i + 1))) (lv' := [(7, .int (nI (i + 1))), (6, .int 0), (5, .int (nI st)), (4, .int ((m_rn M (mi 31) st).2.2)), (3, .int ((m_rn M (mi 31) st).2.1)), (2, .int (nI ((m_rn M (mi 31) st).1))), (0, .ref (oA 0)), (1, .int (nI 2))]) hx hb dX7_rain_99 hl (k := 1) rfl (ly_add rfl rfl) (by decide) rfl (fun ls hl => ?_)
              refine lv_goto (tgt := 46) hx hb dX7_rain_102 (by decide) ?_
              have e_8 : m_ri M st (i + 1) = 0 := by show m_riB M st i (m_ri M st i) = _; unfold m_riB; rw [if_pos c_7]
              exact ih_46 (i + 1) (by omega) H locs (by first | exact hP.sub [0, 1, 2, 3, 4, 5] rfl | (rw [e_8]; exact hP.sub [0, 1, 2, 3, 4, 5] rfl)) (by first | exact hD.sub [0, 1, 2, 3, 4, 5] (by decide) rfl | (rw [e_8]; exact hD.sub [0, 1, 2, 3, 4, 5] (by decide) rfl)) hS ls (by first | exact lv_sub hl [0, 1, 2, 3, 4, 5, 6, 7] rfl | (rw [e_8]; exact lv_sub hl [0, 1, 2, 3, 4, 5, 6, 7] rfl))
            · refine lv_aload_n hx hb dX7_rain_60 rfl (lv_at hl 6 rfl) ?_
              refine lv_aload_n hx hb dX7_rain_61 rfl (lv_at hl 6 rfl) ?_
              refine va_get (D := D) (ci := 7) (v := .ref (oA 29)) (C := RX7) (T := TX7) (N := 35) hx hb hts hiX7 hown hK hP 0 rfl rfl 29 (by decide) f65 (fun _ h9 => h9) rfl dX7_rain_62 ?_
              refine lv_iload hx hb dX7_rain_65 (lv_at hl 0 rfl) ?_
              refine ly_iald hx hb hK hP 4 0 rfl rfl (k := i) (by decide) rfl (by omega) dX7_rain_67 ?_
              refine lv_iload hx hb dX7_rain_68 (lv_at hl 2 rfl) ?_
              have hPc_70 := hP.sub (ws' := [((oA 0), .inr (7, [.int 0, .long mt, .ref (oA 2), .int (nI (mi 3)), .int (nI (mi 4)), .int (nI (mi 5)), .int (nI (mi 6)), .int (nI (mi 7)), .int fa, .ref (oA 9), .ref (oA 10), .ref (oA 11), .ref (oA 12), .ref (oA 13), .ref (oA 14), .ref (oA 15), .ref (oA 16), .ref (oA 17), .ref (oA 18), .int (nI (mi 19)), .ref (oA 20), .ref (oA 21), .ref (oA 22), .ref (oA 23), .int (nI (mi 24)), .ref (oA 25), .ref (oA 26), .ref (oA 27), .int (nI (mi 28)), .ref (oA 29), .ref (oA 30), .int (nI (mi 31)), .ref (oA 32), .int (nI (mi 33)), .int (nI (mi 34))])), ((oA 9), .inl (cI, 4, .inl (fun j => nI ((M 9) j)))), ((oA 11), .inl (cI, 18, .inl (fun j => nI ((M 11) j)))), ((oA 20), .inl (cI, 23, .inl (fun j => nI ((M 20) j))))]) [0, 1, 2, 3] rfl
              refine ly_r (va_runV (As := [.int (nI ((M 29) i)), .int (nI st)]) (rest := []) ⟨hx, hb, hml, hown, hts⟩ (c_X7_feels l D cI cC cZ cN oA M mi fa mt ((M 29) i) st hn) (cwV 2 hts gX7_rain_X7_feels rfl rfl rfl (by decide +kernel) ⟨Nat.le_of_ble_eq_true rfl, Nat.le_of_ble_eq_true rfl⟩) (ly_pv hK hN hPc_70 0 7 rfl rfl rfl) rfl rfl hl.1 rfl (lv_room (Nat.le_of_ble_eq_true rfl)) dX7_rain_70 ⟨Nat.zero_le _, Nat.zero_le _⟩) ?_
              refine lv_aload_n hx hb dX7_rain_73 rfl (lv_at hl 6 rfl) ?_
              refine va_get (D := D) (ci := 7) (v := .ref (oA 30)) (C := RX7) (T := TX7) (N := 35) hx hb hts hiX7 hown hK hP 0 rfl rfl 30 (by decide) f68 (fun _ h9 => h9) rfl dX7_rain_74 ?_
              refine lv_iload hx hb dX7_rain_77 (lv_at hl 0 rfl) ?_
              refine ly_iald hx hb hK hP 5 0 rfl rfl (k := i) (by decide) rfl (by omega) dX7_rain_79 ?_
              refine lv_iconst (v := 1) hx hb dX7_rain_80 (by decide) ?_
              refine lv_icmp_ne (tgt := 88) hx hb dX7_rain_81 (by decide) (fun c_9 => ?_) (fun c_9 => ?_)
              · refine lv_iconst (v := 0) hx hb dX7_rain_88 (by decide) ?_
                refine lv_icmp_ne (tgt := 96) hx hb dX7_rain_89 (by decide) (fun c_10 => ?_) (fun c_10 => ?_)
                · refine lv_iconst (v := 0) hx hb dX7_rain_96 (by decide) ?_
                  refine lv_istore (lv' := [(6, .int 0), (7, .int (nI i)), (5, .int (nI st)), (4, .int ((m_rn M (mi 31) st).2.2)), (3, .int ((m_rn M (mi 31) st).2.1)), (2, .int (nI ((m_rn M (mi 31) st).1))), (0, .ref (oA 0)), (1, .int (nI 2))]) hx hb dX7_rain_97 hl (by decide) rfl (fun ls hl => ?_)
                  refine lv_iinc (v := (nI (i + 1))) (lv' := [(7, .int (nI (i + 1))), (6, .int 0), (5, .int (nI st)), (4, .int ((m_rn M (mi 31) st).2.2)), (3, .int ((m_rn M (mi 31) st).2.1)), (2, .int (nI ((m_rn M (mi 31) st).1))), (0, .ref (oA 0)), (1, .int (nI 2))]) hx hb dX7_rain_99 hl (k := 1) rfl (ly_add rfl rfl) (by decide) rfl (fun ls hl => ?_)
                  refine lv_goto (tgt := 46) hx hb dX7_rain_102 (by decide) ?_
                  have e_11 : m_ri M st (i + 1) = 0 := by show m_riB M st i (m_ri M st i) = _; unfold m_riB; rw [if_neg c_7, if_neg c_9, if_neg c_10]
                  exact ih_46 (i + 1) (by omega) H locs (by first | exact hP.sub [0, 1, 2, 3, 4, 5] rfl | (rw [e_11]; exact hP.sub [0, 1, 2, 3, 4, 5] rfl)) (by first | exact hD.sub [0, 1, 2, 3, 4, 5] (by decide) rfl | (rw [e_11]; exact hD.sub [0, 1, 2, 3, 4, 5] (by decide) rfl)) hS ls (by first | exact lv_sub hl [0, 1, 2, 3, 4, 5, 6, 7] rfl | (rw [e_11]; exact lv_sub hl [0, 1, 2, 3, 4, 5, 6, 7] rfl))
                · refine lv_iconst (v := 1) hx hb dX7_rain_92 (by decide) ?_
                  refine lv_goto (tgt := 97) hx hb dX7_rain_93 (by decide) ?_
                  refine lv_istore (lv' := [(6, .int 1), (7, .int (nI i)), (5, .int (nI st)), (4, .int ((m_rn M (mi 31) st).2.2)), (3, .int ((m_rn M (mi 31) st).2.1)), (2, .int (nI ((m_rn M (mi 31) st).1))), (0, .ref (oA 0)), (1, .int (nI 2))]) hx hb dX7_rain_97 hl (by decide) rfl (fun ls hl => ?_)
                  refine lv_iinc (v := (nI (i + 1))) (lv' := [(7, .int (nI (i + 1))), (6, .int 1), (5, .int (nI st)), (4, .int ((m_rn M (mi 31) st).2.2)), (3, .int ((m_rn M (mi 31) st).2.1)), (2, .int (nI ((m_rn M (mi 31) st).1))), (0, .ref (oA 0)), (1, .int (nI 2))]) hx hb dX7_rain_99 hl (k := 1) rfl (ly_add rfl rfl) (by decide) rfl (fun ls hl => ?_)
                  refine lv_goto (tgt := 46) hx hb dX7_rain_102 (by decide) ?_
                  have e_12 : m_ri M st (i + 1) = 1 := by show m_riB M st i (m_ri M st i) = _; unfold m_riB; rw [if_neg c_7, if_neg c_9, if_pos c_10]
                  exact ih_46 (i + 1) (by omega) H locs (by first | exact hP.sub [0, 1, 2, 3, 4, 5] rfl | (rw [e_12]; exact hP.sub [0, 1, 2, 3, 4, 5] rfl)) (by first | exact hD.sub [0, 1, 2, 3, 4, 5] (by decide) rfl | (rw [e_12]; exact hD.sub [0, 1, 2, 3, 4, 5] (by decide) rfl)) hS ls (by first | exact lv_sub hl [0, 1, 2, 3, 4, 5, 6, 7] rfl | (rw [e_12]; exact lv_sub hl [0, 1, 2, 3, 4, 5, 6, 7] rfl))
              · refine lv_iconst (v := 1) hx hb dX7_rain_84 (by decide) ?_
                refine lv_goto (tgt := 89) hx hb dX7_rain_85 (by decide) ?_
                refine lv_icmp_ne (tgt := 96) hx hb dX7_rain_89 (by decide) (fun c_13 => ?_) (fun c_13 => ?_)
                · refine lv_iconst (v := 0) hx hb dX7_rain_96 (by decide) ?_
                  refine lv_istore (lv' := [(6, .int 0), (7, .int (nI i)), (5, .int (nI st)), (4, .int ((m_rn M (mi 31) st).2.2)), (3, .int ((m_rn M (mi 31) st).2.1)), (2, .int (nI ((m_rn M (mi 31) st).1))), (0, .ref (oA 0)), (1, .int (nI 2))]) hx hb dX7_rain_97 hl (by decide) rfl (fun ls hl => ?_)
                  refine lv_iinc (v := (nI (i + 1))) (lv' := [(7, .int (nI (i + 1))), (6, .int 0), (5, .int (nI st)), (4, .int ((m_rn M (mi 31) st).2.2)), (3, .int ((m_rn M (mi 31) st).2.1)), (2, .int (nI ((m_rn M (mi 31) st).1))), (0, .ref (oA 0)), (1, .int (nI 2))]) hx hb dX7_rain_99 hl (k := 1) rfl (ly_add rfl rfl) (by decide) rfl (fun ls hl => ?_)
                  refine lv_goto (tgt := 46) hx hb dX7_rain_102 (by decide) ?_
                  have e_14 : m_ri M st (i + 1) = 0 := by show m_riB M st i (m_ri M st i) = _; unfold m_riB; rw [if_neg c_7, if_pos c_9, if_neg c_13]
                  exact ih_46 (i + 1) (by omega) H locs (by first | exact hP.sub [0, 1, 2, 3, 4, 5] rfl | (rw [e_14]; exact hP.sub [0, 1, 2, 3, 4, 5] rfl)) (by first | exact hD.sub [0, 1, 2, 3, 4, 5] (by decide) rfl | (rw [e_14]; exact hD.sub [0, 1, 2, 3, 4, 5] (by decide) rfl)) hS ls (by first | exact lv_sub hl [0, 1, 2, 3, 4, 5, 6, 7] rfl | (rw [e_14]; exact lv_sub hl [0, 1, 2, 3, 4, 5, 6, 7] rfl))
                · refine lv_iconst (v := 1) hx hb dX7_rain_92 (by decide) ?_
                  refine lv_goto (tgt := 97) hx hb dX7_rain_93 (by decide) ?_
                  refine lv_istore (lv' := [(6, .int 1), (7, .int (nI i)), (5, .int (nI st)), (4, .int ((m_rn M (mi 31) st).2.2)), (3, .int ((m_rn M (mi 31) st).2.1)), (2, .int (nI ((m_rn M (mi 31) st).1))), (0, .ref (oA 0)), (1, .int (nI 2))]) hx hb dX7_rain_97 hl (by decide) rfl (fun ls hl => ?_)
                  refine lv_iinc (v := (nI (i + 1))) (lv' := [(7, .int (nI (i + 1))), (6, .int 1), (5, .int (nI st)), (4, .int ((m_rn M (mi 31) st).2.2)), (3, .int ((m_rn M (mi 31) st).2.1)), (2, .int (nI ((m_rn M (mi 31) st).1))), (0, .ref (oA 0)), (1, .int (nI 2))]) hx hb dX7_rain_99 hl (k := 1) rfl (ly_add rfl rfl) (by decide) rfl (fun ls hl => ?_)
                  refine lv_goto (tgt := 46) hx hb dX7_rain_102 (by decide) ?_
                  have e_15 : m_ri M st (i + 1) = 1 := by show m_riB M st i (m_ri M st i) = _; unfold m_riB; rw [if_neg c_7, if_pos c_9, if_pos c_13]
                  exact ih_46 (i + 1) (by omega) H locs (by first | exact hP.sub [0, 1, 2, 3, 4, 5] rfl | (rw [e_15]; exact hP.sub [0, 1, 2, 3, 4, 5] rfl)) (by first | exact hD.sub [0, 1, 2, 3, 4, 5] (by decide) rfl | (rw [e_15]; exact hD.sub [0, 1, 2, 3, 4, 5] (by decide) rfl)) hS ls (by first | exact lv_sub hl [0, 1, 2, 3, 4, 5, 6, 7] rfl | (rw [e_15]; exact lv_sub hl [0, 1, 2, 3, 4, 5, 6, 7] rfl))
        exact hloop_46 (mi 31) 0 (by omega) H locs (hP.sub [0, 1, 2, 3, 4, 5] rfl) (hD.sub [0, 1, 2, 3, 4, 5] (by decide) rfl) hS ls (lv_sub hl [0, 1, 2, 3, 4, 5, 6, 7] rfl)
    exact hloop_27 N6 0 (by omega) H locs (hP.sub [0, 1, 2, 3, 4, 5] rfl) (hD.sub [0, 1, 2, 3, 4, 5] (by decide) rfl) hS ls (lv_sub hl [0, 1, 2, 3, 4, 5] rfl)
  exact hmain _ _ hP va_S.rf
