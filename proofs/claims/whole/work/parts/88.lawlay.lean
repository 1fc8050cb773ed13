/-! THE CLAIM OUT OF ONE WALK OF THE LAW'S BODY. Your part is whole_start (and what it stands on); all else here is the same for every law, but numbers. -/
def R_law : String := "KneesLentLaw"
def lw_P (b : Addr) (xs : List Int32) (args : Array Value) (s : State) : Prop := args = #[.ref b] ∧ s.IntsAt b xs ∧ xs.length ≤ 448 ∧ (Jvm.Cond.and given_1 narrow_1).before args s = true
def lw_Q (_ : Array Value) (s : State) (o : Outcome) (t : State) : Prop := o = .returned (some (.int 1)) ∧ Framed s o t [] 600000 7302250
def lw_Z (below : List Frame) (a : Array Value) (s : State) : State → Prop := fun t => ∃ o, t.status = .running ∧ Ended t below o ∧ lw_Q a s o t
/-- the law's own end, with 1 on the stack, nothing written that was there before, its room as the claim has it -/
theorem lw_ret {p : Program} {l : Launch} {e : Env} {s : State} {m : MethodId} {below : List Frame} {meth : Method} {c : Code} {b : Nat} (hx : p.tables.exec = Jvm.exec) (hb : c.code = code) (hr : meth.sig.returnType = ret) (hlocks : meth.locks = false) {pc : Nat} {H : Heap} {ls : Array Slot} (hdg : decode code pc = .ok (.ireturn, 1)) : W p l e room_1 s m #[Value.ref b] below meth c H [] 600000 7302250 (lw_Z below #[Value.ref b] s) (F0 m pc ls [.int 1]) := by
  intro T hT X
  obtain ⟨fs, hret, hrun, hended, hW, hframe⟩ := X.leave (v := some (.int 1)) (hlocks := hlocks) (fun h => by rw [hr] at h; cases h)
  have hmeth' : T.vm.method? m = some meth := X.method'
  refine ⟨T.setFrames fs, ?_, .returned (some (.int 1)), hrun, hended, rfl, ⟨_, rfl⟩, hW, hframe⟩
  jvm_step X.here [X.here.top, hx, hb, hdg, hmeth', hr, ret, narrow_b1]
  (try refine ⟨rfl, ?_⟩); (try refine ⟨rfl, ?_⟩)
  first | (intro acts; rw [hret _ acts rfl rfl rfl]) | rw [hret _ _ rfl rfl rfl]
  exact Steps.refl _
/-- what holds at the law's entry: the machine, the code, the tables' words (any of lw_tbl by 'hts w (by decide +kernel)'), the script of L ints xs at the cell b, what the Statement gives of the start (any of its parts by flat_of_before) -/
def lw_At (p : Program) (s : State) (m : MethodId) (meth : Method) (c : Code) (b L : Nat) (xs : Nat → Int32) : Prop :=
  p.tables.exec = Jvm.exec ∧ c.code = code ∧ meth.sig.returnType = ret ∧ c.maxLocals = 4 ∧ s.vm.findClass R_law = some m.cls ∧ (∀ w ∈ lw_tbl, w.before #[Value.ref b] s = true) ∧ va_X b L xs s s.heap ∧ b < s.heap.size ∧ meth.locks = false ∧ (Jvm.Cond.and given_1 narrow_1).before #[Value.ref b] s = true
/-! the law: its invariant, its calls -/
abbrev lw_A (s : State) : Nat → Prop := fun q => s.heap.size ≤ q
/-- at the loop's head: both objects, apart, as XInv has them -/
def lw_I (D : va_G) (cI cC cZ cN : ClassId) (x0 m0 : Nat) (s : State) (H : Heap) (locs : List Loc) : Prop := ∃ wX wM : va_W, XInv cI cC cZ cN x0 m0 wX wM ∧ va_P D vwCl wX H ∧ va_P D vwCl wM H ∧ va_D (lw_A s) wX ∧ va_D (lw_A s) wM ∧ (∀ q, ly_in wX q → ¬ ly_in wM q) ∧ va_S (lw_A s) s.heap H locs
/-- what stays -/
def lw_C (p : Program) (s : State) (m : MethodId) (meth : Method) (c : Code) (b L : Nat) (xs : Nat → Int32) (D : va_G) (cI cC cZ cN : ClassId) (ts : Nat → Nat) : Prop := lw_At p s m meth c b L xs ∧ L ≤ 448 ∧ va_K D vwCl (ly_tys cI cC cZ cN) s ∧ ly_N s ∧ st_Z ts (lw_A s) s ∧ ∀ w ∈ wsL_law, w.before #[Value.ref b] s = true
theorem XInv.hx {cI cC cZ cN : ClassId} {x0 m0 : Nat} {wX wM : va_W} (h : XInv cI cC cZ cN x0 m0 wX wM) : ∃ fs, wX[0]? = some (x0, .inr (6, fs)) := by
  obtain ⟨t, a, a2, b, ba, ia, lt, nx, kn, s0, tr, an, xv, iv, pv, tx, nm, rr, g, g2, d, ho, le, sd, sh, sl, hv, kp, jd, jh, jl, wf, lf, rf, oA, M, mi, fa, mt, rfl, rfl, rfl, rfl, R⟩ := h
  exact ⟨_, rfl⟩
theorem XInv.hm {cI cC cZ cN : ClassId} {x0 m0 : Nat} {wX wM : va_W} (h : XInv cI cC cZ cN x0 m0 wX wM) : ∃ fs, wM[0]? = some (m0, .inr (7, fs)) := by
  obtain ⟨t, a, a2, b, ba, ia, lt, nx, kn, s0, tr, an, xv, iv, pv, tx, nm, rr, g, g2, d, ho, le, sd, sh, sl, hv, kp, jd, jh, jl, wf, lf, rf, oA, M, mi, fa, mt, rfl, rfl, rfl, rfl, R⟩ := h
  exact ⟨_, rfl⟩
theorem ly_in_map {w1 w2 : va_W} (ha : w1.map (·.1) = w2.map (·.1)) {q : Nat} (h : ly_in w1 q) : ly_in w2 q := by
  obtain ⟨k, e, hk⟩ := h
  have h1 : (w1.map (·.1))[k]? = some q := by rw [List.getElem?_map, hk]; rfl
  rw [ha, List.getElem?_map] at h1
  cases h2 : w2[k]? with
  | none => rw [h2] at h1; cases h1
  | some x =>
    rw [h2] at h1
    exact ⟨k, x.2, by rw [h2, ← Option.some.inj h1]⟩
theorem lw_fin {D : va_G} {cI cC cZ cN : ClassId} {x0 m0 : Nat} {s : State} {H : Heap} {locs : List Loc} {wX wM w1 w2 w3 : va_W} (hI : XInv cI cC cZ cN x0 m0 w3 w2) (hls : lsub w1 w3) (ha1 : w1.map (·.1) = wX.map (·.1)) (ha2 : w2.map (·.1) = wM.map (·.1)) (hP1 : va_P D vwCl w1 H) (hP2 : va_P D vwCl w2 H) (hDX : va_D (lw_A s) wX) (hDM : va_D (lw_A s) wM) (hdis : ∀ q, ly_in wX q → ¬ ly_in wM q) (hS : va_S (lw_A s) s.heap H locs) : lw_I D cI cC cZ cN x0 m0 s H locs := by
  have hD1 : va_D (lw_A s) w1 := ly_addr ha1 hDX
  refine ⟨w3, w2, hI, (hls D H (lw_A s)).1 hP1, hP2, (hls D H (lw_A s)).2 hD1, ly_addr ha2 hDM, fun q h1 h2 => ?_, hS⟩
  obtain ⟨k, e, hk⟩ := h1
  have h3 : ly_in w1 q := ((hls D H (ly_in w1)).2 (ly_self hD1)).2 k (q, e) hk
  exact hdis q (ly_in_map ha1 h3) (ly_in_map ha2 h2)
section LWM
variable {p : Program} {l : Launch} {e : Env} {R : Room} {s : State} {m : MethodId} {args : Array Value} {below : List Frame} {meth : Method} {c : Code} {H : Heap} {locs : List Loc} {cells slots : Nat} {Q : State → Prop}
variable {pc : Nat} {ls : Array Slot} {rest st0 : List Value} {a : Array Value} {A : Nat → Prop} {H0 : Heap}
/-- behind a call that writes in one of two worlds -/
theorem lw_m2 {D : va_G} {wc wo : va_W} {post : Option Value → va_W → Prop} (hr : va_Run p l e R s m args below meth c H locs cells slots 0 0 (F0 m pc ls st0) rest (ly_Q D wc post a) (ly_in wc)) (hPo : va_P D vwCl wo H) (hDc : va_D A wc) (hdis : ∀ q, ly_in wo q → ¬ ly_in wc q) (hS : va_S A H0 H locs)
    (kk : ∀ (r : Option Value) (w1 : va_W) (H1 : Heap) (locs1 : List Loc), post r w1 → w1.map (·.1) = wc.map (·.1) → va_P D vwCl w1 H1 → va_P D vwCl wo H1 → va_S A H0 H1 locs1 → W p l e R s m args below meth c H1 locs1 cells slots Q (F0 m (pc + 3) ls (r.toList ++ rest))) : W p l e R s m args below meth c H locs cells slots Q (F0 m pc ls st0) := by
  intro T hT X
  obtain ⟨v_1, st₀, t_1, T', L, h0, X', hL, e1, e2, ⟨r_1, w1, hv, hp, ha, hP1, hz, hk⟩, st⟩ := hr T hT X
  have hv_2 : v_1 = r_1 := Outcome.returned.inj hv
  rw [hv_2] at st
  rw [h0] at hz hk
  have hin : ∀ q, ly_in wc q → A q := fun q ⟨k, e, hq⟩ => hDc.2 k (q, e) hq
  have hPo1 : va_P D vwCl wo t_1.heap := fun k q hq => (hPo k q hq).kept (hk q.1 (hPo k q hq).lt (hdis q.1 ⟨k, q.2, hq⟩))
  rw [← e1] at hP1 hPo1
  obtain ⟨t2, a1, b1⟩ := kk r_1 w1 T'.heap (locs ++ L) hp ha hP1 hPo1
    ⟨Nat.le_trans hS.1 (by rw [e1]; exact hz), fun q h1 h2 => by rw [e1, hk q (Nat.lt_of_lt_of_le h1 hS.1) (fun z => h2 (hin q z))]; exact hS.2.1 q h1 h2, fun q hq => by
      rcases List.mem_append.mp hq with h | h
      · exact hS.2.2 q h
      · exact hin _ (hL q h)⟩ T' rfl X'
  exact ⟨t2, st t2 a1, b1⟩
end LWM
