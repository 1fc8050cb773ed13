section LYF
variable {p : Program} {l : Launch} {e : Env} {R : Room} {s : State} {m : MethodId} {args : Array Value} {below : List Frame} {meth : Method} {c : Code} {H : Heap} {locs : List Loc} {cells slots : Nat} {Q : State → Prop}
variable {pc : Nat} {ls : Array Slot} {rest st0 : List Value} {A : Nat → Prop} {H0 : Heap}
variable {cc : ByteArray} {D : va_G} {ws : va_W} {tys : List (ClassId × FieldType)} {ad : Nat}
theorem ly_char {v : Nat} (h : v < 65536) : vp_nar .char (nI v) = nI v := by
  unfold vp_nar
  rw [(pk_charN h).1]
theorem ly_castN (hexec : p.tables.exec = Jvm.exec) (hb : c.code = cc) (hK : va_K D vwCl tys s) (hP : va_P D vwCl ws H) (hD : va_D A ws) (hS : va_S A H0 H locs) (q0 t0 : Nat) {cA : ClassId} {n : Nat} {f : Nat → Nat} (ha : ws[q0]? = some (ad, .inl (cA, n, .inl (fun j => nI (f j))))) (ht : tys[t0]? = some (cA, .char)) {i : Int32} {x : Int32} {k v : Nat} (hn : n < 2 ^ 31) (he : i = nI k) (hk : k < n) (hx : x = nI v) (hv : v < 65536) (hdg : decode cc pc = .ok (.castore, 1))
    (kk : ∀ (H1 : Heap) (locs1 : List Loc), va_P D vwCl (ws.set q0 (ad, .inl (cA, n, .inl (fun j => nI (va_up f k v j))))) H1 → va_D A (ws.set q0 (ad, .inl (cA, n, .inl (fun j => nI (va_up f k v j))))) → va_S A H0 H1 locs1 → W p l e R s m args below meth c H1 locs1 cells slots Q (F0 m (pc + 1) ls rest)) : W p l e R s m args below meth c H locs cells slots Q (F0 m pc ls (.int x :: .int i :: .ref ad :: rest)) := by
  refine va_cast hexec hb hK hP hD hS q0 t0 ha ht (i := i) (by rw [he]; exact vp_in_nI hk hn) hdg ?_
  rw [ly_clamp hn he hk, hx, ly_char hv, ly_updF f k v rfl]; exact kk
theorem ly_zastN (hexec : p.tables.exec = Jvm.exec) (hb : c.code = cc) (hK : va_K D vwCl tys s) (hP : va_P D vwCl ws H) (hD : va_D A ws) (hS : va_S A H0 H locs) (q0 t0 : Nat) {cA : ClassId} {n : Nat} {f : Nat → Nat} (ha : ws[q0]? = some (ad, .inl (cA, n, .inl (fun j => nI (f j))))) (ht : tys[t0]? = some (cA, .boolean)) {i : Int32} {x : Int32} {k v : Nat} (hn : n < 2 ^ 31) (he : i = nI k) (hk : k < n) (hx : x = nI v) (hv : v < 2) (hdg : decode cc pc = .ok (.bastore, 1))
    (kk : ∀ (H1 : Heap) (locs1 : List Loc), va_P D vwCl (ws.set q0 (ad, .inl (cA, n, .inl (fun j => nI (va_up f k v j))))) H1 → va_D A (ws.set q0 (ad, .inl (cA, n, .inl (fun j => nI (va_up f k v j))))) → va_S A H0 H1 locs1 → W p l e R s m args below meth c H1 locs1 cells slots Q (F0 m (pc + 1) ls rest)) : W p l e R s m args below meth c H locs cells slots Q (F0 m pc ls (.int x :: .int i :: .ref ad :: rest)) := by
  have hz : vp_nar .boolean (nI v) = nI v := by
    rcases (show v = 0 ∨ v = 1 by omega) with rfl | rfl <;> decide +kernel
  refine va_zast hexec hb hK hP hD hS q0 t0 ha ht (i := i) (by rw [he]; exact vp_in_nI hk hn) hdg ?_
  rw [ly_clamp hn he hk, hx, hz, ly_updF f k v rfl]; exact kk
end LYF
theorem nI_m1 {n : Nat} (h : 0 < n) : nI n - 1 = nI (n - 1) := by
  obtain ⟨k, rfl⟩ : ∃ k, n = k + 1 := ⟨n - 1, by omega⟩
  exact nI_pred k
theorem jin_ix {k n : Nat} (h : k < n) (hn : n ≤ 9) : ¬ jin (nI k) 0 (nI n - 1) = 0 := by
  rw [nI_m1 (by omega)]
  show ¬ jin (nI k) (nI 0) (nI (n - 1)) = 0
  rw [jin_nat (by omega) (by omega) (by omega), if_pos (by omega)]
  decide
theorem jin_no0 {n : Nat} {x : Int32} (hn : n = 0) : jin x 0 (nI n - 1) = 0 := by
  subst hn
  unfold jin
  by_cases h : x < 0
  · rw [if_pos h]
  · rw [if_neg h, if_pos]
    have h1 : ¬ x < 0 := h
    show nI 0 - 1 < x
    rw [Int32.lt_iff_toInt_lt] at h1 ⊢
    have e1 : (nI 0 - 1).toInt = -1 := by decide
    have e2 : (0 : Int32).toInt = 0 := by decide
    omega
theorem jin_of {x : Int32} {b : Nat} (hb : b < 2 ^ 31) (h : ¬ jin x 0 (nI b) = 0) : ∃ k, k ≤ b ∧ x = nI k := by
  unfold jin at h
  by_cases h1 : x < 0
  · rw [if_pos h1] at h; exact absurd rfl h
  · rw [if_neg h1] at h
    obtain ⟨j, hj, rfl⟩ := nI_of h1
    by_cases h2 : nI b < nI j
    · rw [if_pos h2] at h; exact absurd rfl h
    · exact ⟨j, Nat.not_lt.mp (fun z => h2 ((nI_ltI hb hj).mpr z)), rfl⟩
theorem jin_ix_of {x : Int32} {n : Nat} (hn : n ≤ 9) (h : ¬ jin x 0 (nI n - 1) = 0) : ∃ k, k < n ∧ x = nI k := by
  by_cases h0 : n = 0
  · exact absurd (jin_no0 h0) h
  · rw [nI_m1 (by omega)] at h
    obtain ⟨k, h1, h2⟩ := jin_of (by omega) h
    exact ⟨k, by omega, h2⟩
theorem jin_yes {k b : Nat} (h : k ≤ b) (hb : b < 2 ^ 31) : ¬ jin (nI k) 0 (nI b) = 0 := by
  show ¬ jin (nI k) (nI 0) (nI b) = 0
  rw [jin_nat (by omega) (by omega) hb, if_pos (by omega)]
  decide
