theorem ly_arr_eq {cA : ClassId} {n : Nat} {f1 f2 : Nat → Int32} (h : ∀ j, j < n → f1 j = f2 j) : vp_cell cA (n, .inl f1) = vp_cell cA (n, .inl f2) := by
  show arrV cA n (fun j => .int (f1 j)) = arrV cA n (fun j => .int (f2 j))
  unfold arrV
  congr 1
  apply congrArg
  funext j
  exact congrArg Value.int (h j.val j.isLt)
theorem ly_cong {D : va_G} {ws : va_W} {H : Heap} (hP : va_P D vwCl ws H) (q0 : Nat) {ad n : Nat} {cA : ClassId} {f1 f2 : Nat → Int32} (ha : ws[q0]? = some (ad, .inl (cA, n, .inl f1))) (h : ∀ j, j < n → f1 j = f2 j) : va_P D vwCl (ws.set q0 (ad, .inl (cA, n, .inl f2))) H := by
  intro k q hk
  by_cases hq : q0 = k
  · subst hq
    have hlt : q0 < ws.length := (List.getElem?_eq_some_iff.mp ha).1
    rw [List.getElem?_set_self hlt] at hk
    cases hk
    show H[ad]? = some (vp_cell cA (n, .inl f2))
    rw [← ly_arr_eq h]
    exact hP q0 _ ha
  · rw [List.getElem?_set_ne hq] at hk
    exact hP k q hk
theorem ly_min {x y : Int32} {a1 b1 : Nat} (hx : x = nI a1) (hy : y = nI b1) (ha : a1 < 2 ^ 31) (hb : b1 < 2 ^ 31) : (if y < x then y else x) = nI (min a1 b1) := by
  subst hx; subst hy
  by_cases h : b1 < a1
  · rw [if_pos ((nI_ltI hb ha).mpr h), Nat.min_eq_right (Nat.le_of_lt h)]
  · rw [if_neg (fun z => h ((nI_ltI hb ha).mp z)), Nat.min_eq_left (by omega)]
section LYE
variable {p : Program} {l : Launch} {e : Env} {R : Room} {s : State} {m : MethodId} {args : Array Value} {below : List Frame} {meth : Method} {c : Code} {H : Heap} {locs : List Loc} {cells slots : Nat} {Q : State → Prop}
variable {pc : Nat} {ls : Array Slot} {rest st0 : List Value} {A : Nat → Prop} {H0 : Heap}
variable {cc : ByteArray} {D : va_G} {ws : va_W} {tys : List (ClassId × FieldType)} {ad : Nat}
/-- a whole row copied onto another of the same length -/
theorem ly_acopy (hexec : p.tables.exec = Jvm.exec) (hb : c.code = cc) (hml : c.maxLocals = ls.size) {own : String} {index : Nat} (hown : s.vm.findClass own = some m.cls) (hlink : (Cond.methodLink own index arraycopyName).before args s = true) (hnat : (Cond.native arraycopyName).before args s = true) (hstat : (Cond.static arraycopyName).before args s = true) (hini : (Cond.initialized "java/lang/System").before args s = true)
    (hK : va_K D vwCl tys s) (hP : va_P D vwCl ws H) (hD : va_D A ws) (hS : va_S A H0 H locs) (q0 q1 t0 : Nat) {a0 : Nat} {c0 : ClassId} {n1 : Nat} {f1 g1 : Nat → Int32} (ha0 : ws[q0]? = some (a0, .inl (c0, n1, .inl f1))) (ha1 : ws[q1]? = some (ad, .inl (c0, n1, .inl g1))) (ht0 : tys[t0]? = some (c0, .int)) {n2 : Int32} (hn : n2 = nI n1) (hz : n1 < 2 ^ 31)
    (hframes : 1 ≤ R.frames) (hlocals : (rest.map fun v => v.category).sum + (nativeFrameWords "java/lang/System" "arraycopy" 5 + 11) ≤ R.locals) (hdg : decode cc pc = .ok (.invokestatic index, 3))
    (kk : ∀ (H1 : Heap) (locs1 : List Loc), va_P D vwCl (ws.set q1 (ad, .inl (c0, n1, .inl f1))) H1 → va_D A (ws.set q1 (ad, .inl (c0, n1, .inl f1))) → va_S A H0 H1 locs1 → W p l e R s m args below meth c H1 locs1 cells slots Q (F0 m (pc + 3) ls rest)) : W p l e R s m args below meth c H locs cells slots Q (F0 m pc ls (.int n2 :: .int 0 :: .ref ad :: .int 0 :: .ref a0 :: rest)) := by
  have e0 : (0 : Int32).toNatClampNeg = 0 := by decide
  have en : n2.toNatClampNeg = n1 := by rw [hn]; exact nI_clamp hz
  refine va_copyi hexec hb hml hown hlink hnat hstat hini hK hP hD hS q0 q1 t0 t0 ha0 ha1 ht0 ht0 rfl (by decide) (by decide) (by rw [hn]; exact nI_pos hz) (by rw [e0, en]; omega) (by rw [e0, en]; omega) (fun _ _ => rfl) hframes hlocals hdg (fun H1 locs1 hP1 hD1 hS1 => ?_)
  have hlt : q1 < ws.length := (List.getElem?_eq_some_iff.mp ha1).1
  have hP2 := ly_cong hP1 q1 (List.getElem?_set_self hlt) (f2 := f1) (fun j hj => by rw [e0, en]; unfold va_cpy; rw [if_pos ⟨by omega, by omega⟩]; congr 1; omega)
  rw [List.set_set] at hP2
  exact kk H1 locs1 hP2 (hD.set ha1) hS1
/-- a row of references, all there, read at a place that is a Nat -/
theorem ly_aldq (hexec : p.tables.exec = Jvm.exec) (hb : c.code = cc) (hK : va_K D vwCl tys s) (hP : va_P D vwCl ws H) (q0 t0 : Nat) {cA : ClassId} {C : String} {n : Nat} {r1 : Nat → Nat} (ha : ws[q0]? = some (ad, .inl (cA, n, .inr (.inr (.inr (.inr (fun j => some (r1 j)))))))) (ht : tys[t0]? = some (cA, .object C)) {i : Int32} {k : Nat} (hn : n < 2 ^ 31) (he : i = nI k) (hk : k < n) (hdg : decode cc pc = .ok (.aaload, 1))
    (kk : W p l e R s m args below meth c H locs cells slots Q (F0 m (pc + 1) ls (.ref (r1 k) :: rest))) : W p l e R s m args below meth c H locs cells slots Q (F0 m pc ls (.int i :: .ref ad :: rest)) := by
  refine va_aldq hexec hb hK hP q0 t0 ha ht (i := i) (by rw [he]; exact vp_in_nI hk hn) hdg ?_
  rw [ly_clamp hn he hk]; exact kk
end LYE
theorem ly_pred {x : Int32} {a : Nat} (hx : x = nI (a + 1)) : x - 1 = nI a := by rw [hx]; exact nI_pred a
theorem ly_shm : ∀ k, k < 32 → ((nI k &&& 31).toBitVec.smod 32).toNat = k := by decide +kernel
theorem ly_shl1 {k : Nat} (h : k < 31) : (1 : Int32) <<< (nI k &&& 31) = nI (2 ^ k) := by
  have h1 := pk_shlN (n := 1) (nI k &&& 31) k (ly_shm k (by omega)) (by rw [Nat.one_mul]; exact Nat.pow_lt_pow_right (by decide) (by omega))
  rw [Nat.one_mul] at h1
  exact h1
theorem ly_ornat (a b : Nat) : nI a ||| nI b = nI (a ||| b) := by
  apply Int32.toBitVec_inj.mp
  apply BitVec.eq_of_toNat_eq
  show ((nI a).toBitVec ||| (nI b).toBitVec).toNat = (nI (a ||| b)).toBitVec.toNat
  show ((BitVec.ofNat 32 a) ||| (BitVec.ofNat 32 b)).toNat = (BitVec.ofNat 32 (a ||| b)).toNat
  rw [BitVec.toNat_or, BitVec.toNat_ofNat, BitVec.toNat_ofNat, BitVec.toNat_ofNat, Nat.or_mod_two_pow]
theorem ly_or1 {x : Int32} {a k : Nat} (hx : x = nI a) (h : k < 31) : x ||| ((1 : Int32) <<< (nI k &&& 31)) = nI (a ||| 2 ^ k) := by rw [hx, ly_shl1 h, ly_ornat]
