/-! MY LAYER: worlds that keep their addresses; contracts that read; contracts that write in place -/
abbrev ly_tys (cI cC cZ cN : ClassId) : List (ClassId × FieldType) := [(cI, .int), (cC, .char), (cZ, .boolean), (cN, .object "KneesLent$Now")]
/-- the links between nest mates -/
def ly_N (U : State) : Prop :=
  va_Nw (.methodLinkNest RX6 19 yX5_init RX6) U ∧ va_Nw (.methodLinkNest RX6 36 yX3_init RX6) U ∧ va_Nw (.methodLinkNest RX0 22 yX3_init RX6) U ∧ va_Nw (.methodLinkNest RX6 50 yX1_init RX6) U ∧
  va_Nw (.methodLinkNest RX6 57 yX2_init RX6) U ∧ va_Nw (.methodLinkNest RX5 108 yX6_within RX6) U ∧ va_Nw (.methodLinkNest RX4 62 yX6_bit RX6) U ∧ va_Nw (.methodLinkNest RX4 58 yX6_within RX6) U ∧
  va_Nw (.methodLinkNest RX3 51 yX6_bit RX6) U ∧ va_Nw (.methodLinkNest RX4 66 yX6_wear RX6) U ∧ va_Nw (.methodLinkNest RX2 51 yX6_bit RX6) U ∧ va_Nw (.methodLinkNest RX1 28 yX6_within RX6) U
theorem ly_N.warm {s U : State} (hW : s.WarmedH U.vm) (h : ly_N s) : ly_N U := by
  obtain ⟨h1, h2, h3, h4, h5, h6, h7, h8, h9, h10, h11, h12⟩ := h
  exact ⟨va_Nw.warmM hW h1, va_Nw.warmM hW h2, va_Nw.warmM hW h3, va_Nw.warmM hW h4, va_Nw.warmM hW h5, va_Nw.warmM hW h6, va_Nw.warmM hW h7, va_Nw.warmM hW h8, va_Nw.warmM hW h9, va_Nw.warmM hW h10, va_Nw.warmM hW h11, va_Nw.warmM hW h12⟩
theorem ly_N.same {u U : State} (hv : u.vm = U.vm) (h : ly_N u) : ly_N U := by
  obtain ⟨h1, h2, h3, h4, h5, h6, h7, h8, h9, h10, h11, h12⟩ := h
  exact ⟨va_Nw.same rfl hv h1, va_Nw.same rfl hv h2, va_Nw.same rfl hv h3, va_Nw.same rfl hv h4, va_Nw.same rfl hv h5, va_Nw.same rfl hv h6, va_Nw.same rfl hv h7, va_Nw.same rfl hv h8, va_Nw.same rfl hv h9, va_Nw.same rfl hv h10, va_Nw.same rfl hv h11, va_Nw.same rfl hv h12⟩
/-- a method's start -/
def ly_Pre (D : va_G) (tys : List (ClassId × FieldType)) (ws : va_W) (av : List Value) : Array Value → State → Prop := fun v U => v = av.toArray ∧ va_P D vwCl ws U.heap ∧ va_K D vwCl tys U ∧ ly_N U
theorem ly_blind {D : va_G} {tys : List (ClassId × FieldType)} {ws : va_W} {av : List Value} : FrameBlind (ly_Pre D tys ws av) := fun a U g mk h => ⟨h.1, h.2.1, va_K.moved (u := U) (U := U.calling g mk a) (Vm.Alike.refl U.vm) h.2.2.1, ly_N.same (u := U) (U := U.calling g mk a) rfl h.2.2.2⟩
theorem ly_pv {D : va_G} {tys : List (ClassId × FieldType)} {wc : va_W} {s : State} {H : Heap} {C : String} {b : Nat} {As : List Value} (hK : va_K D vwCl tys s) (hN : ly_N s) (hPc : va_P D vwCl wc H) (q0 ci : Nat) {q : vw_C} {fs : List Value} (hc : vwCl[ci]? = some q) (he : wc[q0]? = some (b, .inr (ci, fs))) (hC : q.1 = C) : PreV s H C b (ly_Pre D tys wc (.ref b :: As)) As :=
  ⟨ly_blind, by rw [← hC]; exact va_recv hK hPc hc he, fun U hU hW => ⟨rfl, by rw [hU]; exact hPc, va_K.moved hW.alike hK, hN.warm hW⟩⟩
theorem ly_ps {D : va_G} {tys : List (ClassId × FieldType)} {wc : va_W} {s : State} {H : Heap} {As : List Value} (hK : va_K D vwCl tys s) (hN : ly_N s) (hPc : va_P D vwCl wc H) : PreS s H (ly_Pre D tys wc As) As :=
  ⟨ly_blind, fun U hU hW => ⟨rfl, by rw [hU]; exact hPc, va_K.moved hW.alike hK, hN.warm hW⟩⟩
/-- the cells of a world -/
def ly_in (ws : va_W) : Nat → Prop := fun q => ∃ (k : Nat) (e : va_E), ws[k]? = some (q, e)
theorem ly_self {ws : va_W} {A : Nat → Prop} (h : va_D A ws) : va_D (ly_in ws) ws := ⟨h.1, fun k q hk => ⟨k, q.2, hk⟩⟩
/-- an end that writes in place -/
def ly_Q (D : va_G) (w0 : va_W) (post : Option Value → va_W → Prop) : Array Value → State → Outcome → State → Prop := fun _ st oc t =>
  ∃ (r : Option Value) (w1 : va_W), oc = .returned r ∧ post r w1 ∧ w1.map (·.1) = w0.map (·.1) ∧ va_P D vwCl w1 t.heap ∧ va_F (ly_in w0) st t
theorem ly_addr {A : Nat → Prop} {w1 w2 : va_W} (ha : w1.map (·.1) = w2.map (·.1)) (h : va_D A w2) : va_D A w1 := by
  have key : ∀ (k : Nat) (q : Nat × va_E), w1[k]? = some q → ∃ e : va_E, w2[k]? = some (q.1, e) := by
    intro k q hk
    have h1 : (w1.map (·.1))[k]? = some q.1 := by rw [List.getElem?_map, hk]; rfl
    rw [ha, List.getElem?_map] at h1
    cases h2 : w2[k]? with
    | none => rw [h2] at h1; cases h1
    | some x => rw [h2] at h1; exact ⟨x.2, by rw [← Option.some.inj h1]⟩
  refine ⟨fun i j x y hi hj hxy => ?_, fun k q hk => ?_⟩
  · obtain ⟨e1, g1⟩ := key i x hi
    obtain ⟨e2, g2⟩ := key j y hj
    exact h.1 i j _ _ g1 g2 hxy
  · obtain ⟨e1, g1⟩ := key k q hk
    exact h.2 k (q.1, e1) g1
theorem ly_of_map {ws w : va_W} {is : List Nat} (hs : is.map (fun i => ws[i]?) = w.map some) {k : Nat} {q : Nat × va_E} (hq : w[k]? = some q) : ∃ i, is[k]? = some i ∧ ws[i]? = some q := by
  have h1 : (is.map (fun i => ws[i]?))[k]? = some (some q) := by rw [hs, List.getElem?_map, hq]; rfl
  rw [List.getElem?_map] at h1
  cases hi : is[k]? with
  | none => rw [hi] at h1; cases h1
  | some i => rw [hi] at h1; exact ⟨i, rfl, Option.some.inj h1⟩
theorem ly_join {A0 : Nat → Prop} {D : va_G} {ws wc wr w1 : va_W} {H H1 : Heap} (hP : va_P D vwCl ws H) (hD : va_D A0 ws) (isC isR : List Nat) (hC : isC.map (fun i => ws[i]?) = wc.map some) (hR : isR.map (fun i => ws[i]?) = wr.map some) (hn : va_nd (isR ++ isC) = true)
    (hk : ∀ q : Nat, q < H.size → ¬ ly_in wc q → H1[q]? = H[q]?) (hP1 : va_P D vwCl w1 H1) (ha : w1.map (·.1) = wc.map (·.1)) : va_P D vwCl (wr ++ w1) H1 ∧ va_D A0 (wr ++ w1) := by
  have hmap : (isR ++ isC).map (fun i => ws[i]?) = (wr ++ wc).map some := by rw [List.map_append, List.map_append, hC, hR]
  have hDD : va_D A0 (wr ++ wc) := hD.sub (isR ++ isC) hn hmap
  refine ⟨va_P.app (fun k q hq => ?_) hP1, ly_addr (by rw [List.map_append, List.map_append, ha]) hDD⟩
  obtain ⟨i, h1, h2⟩ := ly_of_map hR hq
  have hl := (hP i q h2).lt
  refine (hP i q h2).kept (hk q.1 hl (fun ⟨k2, e, h3⟩ => ?_))
  have hw : k < wr.length := (List.getElem?_eq_some_iff.mp hq).1
  have e1 : (wr ++ wc)[k]? = some q := by rw [List.getElem?_append_left hw]; exact hq
  have e2 : (wr ++ wc)[wr.length + k2]? = some (q.1, e) := by rw [List.getElem?_append_right (by omega), show wr.length + k2 - wr.length = k2 by omega]; exact h3
  have := hDD.1 k (wr.length + k2) q (q.1, e) e1 e2 rfl
  omega
section LYC
variable {p : Program} {l : Launch} {e : Env} {R : Room} {s : State} {m : MethodId} {args : Array Value} {below : List Frame} {meth : Method} {c : Code} {H : Heap} {locs : List Loc} {cells slots : Nat} {Q : State → Prop}
variable {pc : Nat} {ls : Array Slot} {rest st0 : List Value} {a : Array Value} {A : Nat → Prop} {H0 : Heap}
/-- behind a call that reads -/
theorem ly_r {r : Int32} (hr : va_Run p l e R s m args below meth c H locs cells slots 0 0 (F0 m pc ls st0) rest (QcRead r a) (fun _ => False)) (kk : W p l e R s m args below meth c H locs cells slots Q (F0 m (pc + 3) ls (.int r :: rest))) : W p l e R s m args below meth c H locs cells slots Q (F0 m pc ls st0) := by
  intro T hT X
  obtain ⟨v, st₀, t, T', L, h0, X', hL, e1, e2, ⟨hv, hh⟩, st⟩ := hr T hT X
  cases hv
  obtain ⟨t2, a1, b1⟩ := kk T' (by rw [e1, hh, h0]) (Stand.forget X' (fun q h => (hL q h).elim))
  exact ⟨t2, st t2 a1, b1⟩
/-- behind a call that writes in place -/
theorem ly_m {D : va_G} {ws wc wr : va_W} {post : Option Value → va_W → Prop} (hr : va_Run p l e R s m args below meth c H locs cells slots 0 0 (F0 m pc ls st0) rest (ly_Q D wc post a) (ly_in wc)) (hP : va_P D vwCl ws H) (hD : va_D A ws) (hS : va_S A H0 H locs) (isC isR : List Nat) (hC : isC.map (fun i => ws[i]?) = wc.map some) (hR : isR.map (fun i => ws[i]?) = wr.map some) (hn : va_nd (isR ++ isC) = true)
    (kk : ∀ (r : Option Value) (w1 : va_W) (H1 : Heap) (locs1 : List Loc), post r w1 → w1.map (·.1) = wc.map (·.1) → va_P D vwCl (wr ++ w1) H1 → va_D A (wr ++ w1) → va_S A H0 H1 locs1 → W p l e R s m args below meth c H1 locs1 cells slots Q (F0 m (pc + 3) ls (r.toList ++ rest))) : W p l e R s m args below meth c H locs cells slots Q (F0 m pc ls st0) := by
  intro T hT X
  obtain ⟨v_1, st₀, t_1, T', L, h0, X', hL, e1, e2, ⟨r_1, w1, hv, hp, ha, hP1, hz, hk⟩, st⟩ := hr T hT X
  have hv_2 : v_1 = r_1 := Outcome.returned.inj hv
  rw [hv_2] at st
  rw [h0] at hz hk
  have hin : ∀ q, ly_in wc q → A q := by
    rintro q ⟨k, e, hq⟩
    obtain ⟨i, -, h2⟩ := ly_of_map hC hq
    exact hD.2 i _ h2
  obtain ⟨hPj, hDj⟩ := ly_join hP hD isC isR hC hR hn hk hP1 ha
  rw [← e1] at hPj
  obtain ⟨t2, a1, b1⟩ := kk r_1 w1 T'.heap (locs ++ L) hp ha hPj hDj
    ⟨Nat.le_trans hS.1 (by rw [e1]; exact hz), fun q h1 h2 => by rw [e1, hk q (Nat.lt_of_lt_of_le h1 hS.1) (fun z => h2 (hin q z))]; exact hS.2.1 q h1 h2, fun q hq => by
      rcases List.mem_append.mp hq with h | h
      · exact hS.2.2 q h
      · exact hin _ (hL q h)⟩ T' rfl X'
  exact ⟨t2, st t2 a1, b1⟩
/-- another name for the number on top -/
theorem ly_eqi {x y : Int32} (h : x = y) (k : W p l e R s m args below meth c H locs cells slots Q (F0 m pc ls (.int y :: rest))) : W p l e R s m args below meth c H locs cells slots Q (F0 m pc ls (.int x :: rest)) := h ▸ k
variable {cc : ByteArray} {D : va_G} {ws : va_W} {tys : List (ClassId × FieldType)} {ad : Nat}
theorem ly_clamp {n k : Nat} {i : Int32} (hn : n < 2 ^ 31) (he : i = nI k) (hk : k < n) : i.toNatClampNeg = k := by rw [he]; exact nI_clamp (by omega)
/-- an int row read, written, at a place that is a Nat -/
theorem ly_iald (hexec : p.tables.exec = Jvm.exec) (hb : c.code = cc) (hK : va_K D vwCl tys s) (hP : va_P D vwCl ws H) (q0 t0 : Nat) {cA : ClassId} {n : Nat} {f : Nat → Int32} (ha : ws[q0]? = some (ad, .inl (cA, n, .inl f))) (ht : tys[t0]? = some (cA, .int)) {i : Int32} {k : Nat} (hn : n < 2 ^ 31) (he : i = nI k) (hk : k < n) (hdg : decode cc pc = .ok (.iaload, 1))
    (kk : W p l e R s m args below meth c H locs cells slots Q (F0 m (pc + 1) ls (.int (f k) :: rest))) : W p l e R s m args below meth c H locs cells slots Q (F0 m pc ls (.int i :: .ref ad :: rest)) := by
  refine va_iald hexec hb hK hP q0 t0 ha ht (i := i) (by rw [he]; exact vp_in_nI hk hn) hdg ?_
  rw [ly_clamp hn he hk]; exact kk
theorem ly_cald (hexec : p.tables.exec = Jvm.exec) (hb : c.code = cc) (hK : va_K D vwCl tys s) (hP : va_P D vwCl ws H) (q0 t0 : Nat) {cA : ClassId} {n : Nat} {f : Nat → Int32} (ha : ws[q0]? = some (ad, .inl (cA, n, .inl f))) (ht : tys[t0]? = some (cA, .char)) {i : Int32} {k : Nat} (hn : n < 2 ^ 31) (he : i = nI k) (hk : k < n) (hdg : decode cc pc = .ok (.caload, 1))
    (kk : W p l e R s m args below meth c H locs cells slots Q (F0 m (pc + 1) ls (.int (f k) :: rest))) : W p l e R s m args below meth c H locs cells slots Q (F0 m pc ls (.int i :: .ref ad :: rest)) := by
  refine va_cald hexec hb hK hP q0 t0 ha ht (i := i) (by rw [he]; exact vp_in_nI hk hn) hdg ?_
  rw [ly_clamp hn he hk]; exact kk
theorem ly_zald (hexec : p.tables.exec = Jvm.exec) (hb : c.code = cc) (hK : va_K D vwCl tys s) (hP : va_P D vwCl ws H) (q0 t0 : Nat) {cA : ClassId} {n : Nat} {f : Nat → Int32} (ha : ws[q0]? = some (ad, .inl (cA, n, .inl f))) (ht : tys[t0]? = some (cA, .boolean)) {i : Int32} {k : Nat} (hn : n < 2 ^ 31) (he : i = nI k) (hk : k < n) (hdg : decode cc pc = .ok (.baload, 1))
    (kk : W p l e R s m args below meth c H locs cells slots Q (F0 m (pc + 1) ls (.int (f k) :: rest))) : W p l e R s m args below meth c H locs cells slots Q (F0 m pc ls (.int i :: .ref ad :: rest)) := by
  refine va_zald hexec hb hK hP q0 t0 ha ht (i := i) (by rw [he]; exact vp_in_nI hk hn) hdg ?_
  rw [ly_clamp hn he hk]; exact kk
theorem ly_iast (hexec : p.tables.exec = Jvm.exec) (hb : c.code = cc) (hK : va_K D vwCl tys s) (hP : va_P D vwCl ws H) (hD : va_D A ws) (hS : va_S A H0 H locs) (q0 t0 : Nat) {cA : ClassId} {n : Nat} {f : Nat → Int32} (ha : ws[q0]? = some (ad, .inl (cA, n, .inl f))) (ht : tys[t0]? = some (cA, .int)) {i : Int32} {x : Int32} {k : Nat} (hn : n < 2 ^ 31) (he : i = nI k) (hk : k < n) (hdg : decode cc pc = .ok (.iastore, 1))
    (kk : ∀ (H1 : Heap) (locs1 : List Loc), va_P D vwCl (ws.set q0 (ad, .inl (cA, n, .inl (upd f k x)))) H1 → va_D A (ws.set q0 (ad, .inl (cA, n, .inl (upd f k x)))) → va_S A H0 H1 locs1 → W p l e R s m args below meth c H1 locs1 cells slots Q (F0 m (pc + 1) ls rest)) : W p l e R s m args below meth c H locs cells slots Q (F0 m pc ls (.int x :: .int i :: .ref ad :: rest)) := by
  refine va_iast hexec hb hK hP hD hS q0 t0 ha ht (i := i) (by rw [he]; exact vp_in_nI hk hn) hdg ?_
  rw [ly_clamp hn he hk]; exact kk
end LYC
theorem ly_add {x y : Int32} {a b : Nat} (hx : x = nI a) (hy : y = nI b) : x + y = nI (a + b) := by rw [hx, hy]; exact nI_add a b
theorem ly_sub {x y : Int32} {a b : Nat} (hx : x = nI a) (hy : y = nI b) (h : b ≤ a) : x - y = nI (a - b) := by rw [hx, hy]; exact pk_sub h
theorem ly_mul {x y : Int32} {a b : Nat} (hx : x = nI a) (hy : y = nI b) : x * y = nI (a * b) := by rw [hx, hy]; exact pk_mul a b
/-- rooms by height -/
abbrev ly_rm (h : Nat) : Room := { frames := h, cells := 0, slots := 0, locals := 40 * h }
theorem ly_bool {x : Int32} (h : x = 0 ∨ x = 1) : narrow .boolean (.int x) = .int x := by rcases h with rfl | rfl <;> rfl
theorem ly_dec {x : Int32} {a : Nat} (hx : x = nI a) (h : 1 ≤ a) : x + Int32.ofInt (-1) = nI (a - 1) := by
  obtain ⟨b, rfl⟩ : ∃ b, a = b + 1 := ⟨a - 1, by omega⟩
  rw [hx]; exact pk_m1 b
theorem ly_i2c {x : Int32} {a : Nat} (hx : x = nI a) (h : a < 65536) : (x.toUInt32 % 65536).toInt32 = x := by
  rw [pk_char, hx, pk_tn (by omega), Nat.mod_eq_of_lt h]
/-- who has a knee (0: nobody, p + 1: p), as the class holds it -/
def ly_h (x : Nat) : Int32 := if x = 0 then -9 else nI (x - 1)
theorem ly_h_of {x : Int32} {a : Nat} (hx : x = nI a) : x = ly_h (a + 1) := by rw [hx]; rfl
section LYD
variable {p : Program} {l : Launch} {e : Env} {R : Room} {s : State} {m : MethodId} {args : Array Value} {below : List Frame} {meth : Method} {c : Code} {H : Heap} {locs : List Loc} {cells slots : Nat} {Q : State → Prop}
variable {pc : Nat} {ls : Array Slot} {rest st0 : List Value} {a : Array Value} {A : Nat → Prop} {H0 : Heap}
variable {cc : ByteArray} {D : va_G} {ws : va_W} {tys : List (ClassId × FieldType)} {ad : Nat}
theorem ly_updF {F : Nat → Int32} (f : Nat → Nat) (k v : Nat) {x : Int32} (hx : x = F v) : upd (fun j => F (f j)) k x = fun j => F (va_up f k v j) := by
  funext j
  unfold upd va_up
  by_cases h : j = k
  · rw [if_pos h, if_pos h, hx]
  · rw [if_neg h, if_neg h]
theorem ly_iastN (hexec : p.tables.exec = Jvm.exec) (hb : c.code = cc) (hK : va_K D vwCl tys s) (hP : va_P D vwCl ws H) (hD : va_D A ws) (hS : va_S A H0 H locs) (q0 t0 : Nat) {cA : ClassId} {n : Nat} {f : Nat → Nat} (ha : ws[q0]? = some (ad, .inl (cA, n, .inl (fun j => nI (f j))))) (ht : tys[t0]? = some (cA, .int)) {i : Int32} {x : Int32} {k v : Nat} (hn : n < 2 ^ 31) (he : i = nI k) (hk : k < n) (hx : x = nI v) (hdg : decode cc pc = .ok (.iastore, 1))
    (kk : ∀ (H1 : Heap) (locs1 : List Loc), va_P D vwCl (ws.set q0 (ad, .inl (cA, n, .inl (fun j => nI (va_up f k v j))))) H1 → va_D A (ws.set q0 (ad, .inl (cA, n, .inl (fun j => nI (va_up f k v j))))) → va_S A H0 H1 locs1 → W p l e R s m args below meth c H1 locs1 cells slots Q (F0 m (pc + 1) ls rest)) : W p l e R s m args below meth c H locs cells slots Q (F0 m pc ls (.int x :: .int i :: .ref ad :: rest)) := by
  refine ly_iast hexec hb hK hP hD hS q0 t0 ha ht hn he hk hdg ?_
  rw [ly_updF f k v hx]; exact kk
theorem ly_iastH (hexec : p.tables.exec = Jvm.exec) (hb : c.code = cc) (hK : va_K D vwCl tys s) (hP : va_P D vwCl ws H) (hD : va_D A ws) (hS : va_S A H0 H locs) (q0 t0 : Nat) {cA : ClassId} {n : Nat} {f : Nat → Nat} (ha : ws[q0]? = some (ad, .inl (cA, n, .inl (fun j => ly_h (f j))))) (ht : tys[t0]? = some (cA, .int)) {i : Int32} {x : Int32} {k v : Nat} (hn : n < 2 ^ 31) (he : i = nI k) (hk : k < n) (hx : x = ly_h v) (hdg : decode cc pc = .ok (.iastore, 1))
    (kk : ∀ (H1 : Heap) (locs1 : List Loc), va_P D vwCl (ws.set q0 (ad, .inl (cA, n, .inl (fun j => ly_h (va_up f k v j))))) H1 → va_D A (ws.set q0 (ad, .inl (cA, n, .inl (fun j => ly_h (va_up f k v j))))) → va_S A H0 H1 locs1 → W p l e R s m args below meth c H1 locs1 cells slots Q (F0 m (pc + 1) ls rest)) : W p l e R s m args below meth c H locs cells slots Q (F0 m pc ls (.int x :: .int i :: .ref ad :: rest)) := by
  refine ly_iast hexec hb hK hP hD hS q0 t0 ha ht hn he hk hdg ?_
  rw [ly_updF f k v hx]; exact kk
end LYD
