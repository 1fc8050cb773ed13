/-! rooms raised, worlds widened -/
theorem ly_room {s : State} {pl : Platform} {r r2 : Room} (h1 : r.frames ≤ r2.frames) (h2 : r.locals ≤ r2.locals) (h3 : r.cells ≤ r2.cells) (h4 : r.slots ≤ r2.slots) (h : s.hasRoom pl r2 = true) : s.hasRoom pl r = true := by
  unfold State.hasRoom at h ⊢
  simp only [Bool.and_eq_true, decide_eq_true_eq] at h ⊢
  obtain ⟨⟨⟨⟨a1, a2, a3, a4, a5, a6⟩, b1⟩, c1⟩, d1⟩ := h
  exact ⟨⟨⟨⟨by omega, by omega, by omega, by omega, by omega, a6⟩, by omega⟩, by omega⟩, d1⟩
theorem ly_up {l : Launch} {y : MethodName} {cs : List Cond} {r r2 : Room} {Pc Pc2 : Array Value → State → Prop} {Qc Qc2 : Array Value → State → Outcome → State → Prop} {mc ms : Nat} {free free2 : Addr → Prop} (hM : Met l y cs r Pc Qc mc ms free) (h1 : r.frames ≤ r2.frames) (h2 : r.locals ≤ r2.locals) (h3 : r.cells ≤ r2.cells) (h4 : r.slots ≤ r2.slots)
    (hP : ∀ a s, Pc2 a s → Pc a s) (hQ : ∀ a s o t, Pc2 a s → Qc a s o t → Qc2 a s o t) (hf : ∀ q, free q → free2 q) : Met l y cs r2 Pc2 Qc2 mc ms free2 := by
  intro p e g1 g2 g3 s m args below hfr happ hp hk
  have happ2 : (headSpec cs r).appliesLoose y e.platform s = true := by
    unfold Spec.appliesLoose at happ ⊢
    rw [hfr] at happ ⊢
    simp only [Bool.and_eq_true] at happ ⊢
    obtain ⟨⟨x1, x2⟩, x3⟩ := happ
    exact ⟨⟨x1, ly_room h1 h2 h3 h4 x2⟩, x3⟩
  obtain ⟨n1, o1, k1, k2, k3, k4, L1, k5, k6⟩ := hM p e g1 g2 g3 s m args below hfr happ2 (hP _ _ hp) hk
  exact ⟨n1, o1, k1, k2, k3, hQ _ _ _ _ hp k4, L1, k5, fun q hq => hf _ (k6 q hq)⟩
theorem ly_fm {ws : va_W} : ∀ {is : List Nat} {wc : va_W}, is.map (fun i => ws[i]?) = wc.map some → is.filterMap (fun i => ws[i]?) = wc
  | [], [], _ => rfl
  | [], _ :: _, h => by simp at h
  | _ :: _, [], h => by simp at h
  | i :: is, x :: xs, h => by
    simp only [List.map_cons, List.cons.injEq] at h
    rw [List.filterMap_cons, h.1, ly_fm h.2]
/-- a reading contract in a wider world -/
theorem ly_wR {l : Launch} {y : MethodName} {cs : List Cond} {D : va_G} {tys : List (ClassId × FieldType)} {ws wc : va_W} {av : List Value} {h h2 : Nat} {x : Int32} (hM : Met l y cs (ly_rm h) (ly_Pre D tys wc av) (QcRead x) 0 0 (fun _ => False)) (hh : h ≤ h2) (isC : List Nat) (hC : isC.map (fun i => ws[i]?) = wc.map some) :
    Met l y cs (ly_rm h2) (ly_Pre D tys ws av) (ly_Q D ws (fun r w => r = some (.int x) ∧ w = ws)) 0 0 (ly_in ws) := by
  refine ly_up hM hh (Nat.mul_le_mul_left 40 hh) (Nat.le_refl _) (Nat.le_refl _) (fun a s hp => ⟨hp.1, hp.2.1.sub isC (ly_fm hC), hp.2.2.1, hp.2.2.2⟩) (fun a s o t hp hq => ?_) (fun q hq => hq.elim)
  refine ⟨some (.int x), ws, hq.1, ⟨rfl, rfl⟩, rfl, by rw [hq.2]; exact hp.2.1, ?_⟩
  exact ⟨by rw [hq.2]; exact Nat.le_refl _, fun q _ _ => by rw [hq.2]⟩
/-- a writing contract in a wider world -/
theorem ly_wM {l : Launch} {y : MethodName} {cs : List Cond} {D : va_G} {tys : List (ClassId × FieldType)} {ws wc wr : va_W} {av : List Value} {h h2 : Nat} {post post2 : Option Value → va_W → Prop} (hM : Met l y cs (ly_rm h) (ly_Pre D tys wc av) (ly_Q D wc post) 0 0 (ly_in wc)) (hh : h ≤ h2) (hD : va_D (fun _ => True) ws) (isC isR : List Nat) (hC : isC.map (fun i => ws[i]?) = wc.map some) (hR : isR.map (fun i => ws[i]?) = wr.map some) (hn : va_nd (isR ++ isC) = true)
    (hp2 : ∀ r w1, post r w1 → ∃ (w2 : va_W) (is2 : List Nat), is2.map (fun i => (wr ++ w1)[i]?) = w2.map some ∧ post2 r w2 ∧ w2.map (·.1) = ws.map (·.1)) :
    Met l y cs (ly_rm h2) (ly_Pre D tys ws av) (ly_Q D ws post2) 0 0 (ly_in ws) := by
  have hin : ∀ q, ly_in wc q → ly_in ws q := by
    rintro q ⟨k, e, hq⟩
    obtain ⟨i, -, h3⟩ := ly_of_map hC hq
    exact ⟨i, e, h3⟩
  refine ly_up hM hh (Nat.mul_le_mul_left 40 hh) (Nat.le_refl _) (Nat.le_refl _) (fun a s hp => ⟨hp.1, hp.2.1.sub isC (ly_fm hC), hp.2.2.1, hp.2.2.2⟩) (fun a s o t hp hq => ?_) hin
  obtain ⟨r, w1, e1, e2, e3, e4, e5, e6⟩ := hq
  obtain ⟨hPj, hDj⟩ := ly_join hp.2.1 hD isC isR hC hR hn e6 e4 e3
  obtain ⟨w2, is2, f1, f2, f3⟩ := hp2 r w1 e2
  exact ⟨r, w2, e1, f2, f3, hPj.sub is2 (ly_fm f1), e5, fun q g1 g2 => e6 q g1 (fun z => g2 (hin q z))⟩
/-- the same, of a method that reads static tables -/
theorem ly_wX {l : Launch} {y : MethodName} {cs : List Cond} {D : va_G} {tys : List (ClassId × FieldType)} {ws wc wr : va_W} {av : List Value} {h h2 : Nat} {ts : Nat → Nat} {post post2 : Option Value → va_W → Prop} (hM : Met l y cs (ly_rm h) (ly_PreX D tys wc av (st_Z ts (ly_in wc))) (ly_Q D wc post) 0 0 (ly_in wc)) (hh : h ≤ h2) (hD : va_D (fun _ => True) ws) (isC isR : List Nat) (hC : isC.map (fun i => ws[i]?) = wc.map some) (hR : isR.map (fun i => ws[i]?) = wr.map some) (hn : va_nd (isR ++ isC) = true)
    (hp2 : ∀ r w1, post r w1 → ∃ (w2 : va_W) (is2 : List Nat), is2.map (fun i => (wr ++ w1)[i]?) = w2.map some ∧ post2 r w2 ∧ w2.map (·.1) = ws.map (·.1)) :
    Met l y cs (ly_rm h2) (ly_PreX D tys ws av (st_Z ts (ly_in ws))) (ly_Q D ws post2) 0 0 (ly_in ws) := by
  have hin : ∀ q, ly_in wc q → ly_in ws q := by
    rintro q ⟨k, e, hq⟩
    obtain ⟨i, -, h3⟩ := ly_of_map hC hq
    exact ⟨i, e, h3⟩
  refine ly_up hM hh (Nat.mul_le_mul_left 40 hh) (Nat.le_refl _) (Nat.le_refl _) (fun a s hp => ⟨⟨hp.1.1, hp.1.2.1.sub isC (ly_fm hC), hp.1.2.2.1, hp.1.2.2.2⟩, (hp.2.at (show va_S (ly_in ws) s.heap s.heap [] from va_S.rf) hin).2 s rfl (Vm.Alike.refl s.vm)⟩) (fun a s o t hp hq => ?_) hin
  obtain ⟨r, w1, e1, e2, e3, e4, e5, e6⟩ := hq
  obtain ⟨hPj, hDj⟩ := ly_join hp.1.2.1 hD isC isR hC hR hn e6 e4 e3
  obtain ⟨w2, is2, f1, f2, f3⟩ := hp2 r w1 e2
  exact ⟨r, w2, e1, f2, f3, hPj.sub is2 (ly_fm f1), e5, fun q g1 g2 => e6 q g1 (fun z => g2 (hin q z))⟩
