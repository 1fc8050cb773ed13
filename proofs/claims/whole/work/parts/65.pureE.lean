/-! the value stays small -/
theorem m_pl_v (tx : Nat → Nat) (ln : Nat) (htx : ∀ j, tx j < 256) (hln : ln ≤ 180) : ∀ u v0 v1 v2 v3 v4 v5 v6, m_I ln u v1 v2 v3 v4 v5 v6 → (m_pl tx ln u v0 v1 v2 v3 v4 v5 v6).2.2.2.2.1 ≤ 999
  | 0, _, _, _, _, _, _, _, h => h.1.2.2.1
  | u + 1, v0, v1, v2, v3, v4, v5, v6, h => by
    rw [m_pl_s]
    split
    · exact h.1.2.2.1
    · rename_i c1
      split
      · exact h.1.2.2.1
      · rename_i c2
        have hB : ∀ b, m_well (m_tk tx ln b v1 v2 v3 v4 v5).2.2.2.2.2 = 0 → (m_pl1 tx ln (fun R M => m_pl tx ln u (v0 + 1) R.2.1 R.2.2.1 R.2.2.2.1 R.2.2.2.2.1 R.2.2.2.2.2 M) (m_tk tx ln b v1 v2 v3 v4 v5) v6).2.2.2.2.1 ≤ 999 := by
          intro b hn
          rw [m_pl1_s, if_pos hn, m_pl2_s]
          split
          · exact m_pl_v tx ln htx hln u _ _ _ _ _ _ _ (m_invB htx hln h c1 c2 _ _ rfl hn rfl)
          · exact m_pl_v tx ln htx hln u _ _ _ _ _ _ _ (m_invB htx hln h c1 c2 _ _ rfl hn rfl)
        have h0 : m_well (m_tk tx ln 0 v1 v2 v3 v4 v5).2.2.2.2.2 = 0 := by
          by_cases z : m_well (m_tk tx ln 0 v1 v2 v3 v4 v5).2.2.2.2.2 = 0
          · exact z
          · exact absurd rfl (((m_tk_J tx ln 0 v1 v2 v3 v4 v5 htx hln h.1).2.2 z).2.2)
        split
        · split
          · exact hB 0 h0
          · rename_i c4
            by_cases z : m_well (m_tk tx ln 1 v1 v2 v3 v4 v5).2.2.2.2.2 = 0
            · exact hB 1 z
            · rw [m_pl1_s, if_neg z, m_pl2_s]
              split
              · exact m_pl_v tx ln htx hln u _ _ _ _ _ _ _ (m_invA htx hln h c1 c2 c4 rfl _ _ _ rfl rfl rfl)
              · exact m_pl_v tx ln htx hln u _ _ _ _ _ _ _ (m_invA htx hln h c1 c2 c4 rfl _ _ _ rfl rfl rfl)
        · exact hB 0 h0
/-! a parish read anew: what the model lays down -/
theorem cp_seq (c : Nat) (F : Nat → Nat) (v : Nat → Nat → Nat) (h0 : v 0 = F) (hs : ∀ n, v (n + 1) = va_up (v n) n (v n (c + n))) : ∀ n, n ≤ c → ∀ i, v n i = if i < n then F (c + i) else F i
  | 0, _, i => by rw [if_neg (Nat.not_lt_zero _), h0]
  | n + 1, h, i => by
    have ih := cp_seq c F v h0 hs n (by omega)
    rw [hs n]
    by_cases e : i = n
    · rw [e, up_at, ih (c + n), if_neg (by omega), if_pos (by omega)]
    · rw [up_ne _ _ e, ih i]
      by_cases h2 : i < n
      · rw [if_pos h2, if_pos (by omega)]
      · rw [if_neg h2, if_neg (by omega)]
theorem z0_at (M : Nat → Nat → Nat) : ∀ n i, m_z0 M n i = if i < n then 0 else M 20 i
  | 0, i => by rw [if_neg (Nat.not_lt_zero _)]; rfl
  | n + 1, i => by
    show va_up (m_z0 M n) n 0 i = _
    by_cases h : i = n
    · rw [h, up_at, if_pos (Nat.lt_succ_self n)]
    · rw [up_ne _ _ h, z0_at M n i]
      by_cases h2 : i < n
      · rw [if_pos h2, if_pos (by omega)]
      · rw [if_neg h2, if_neg (by omega)]
theorem zf_at (M : Nat → Nat → Nat) (i : Nat) : (m_zf M 5).1 i = (if i < 5 then M 16 (5 + i) else M 16 i) ∧ (m_zf M 5).2 i = (if i < 5 then M 17 (5 + i) else M 17 i) :=
  ⟨cp_seq 5 (M 16) (fun n => (m_zf M n).1) rfl (fun _ => rfl) 5 (Nat.le_refl _) i, cp_seq 5 (M 17) (fun n => (m_zf M n).2) rfl (fun _ => rfl) 5 (Nat.le_refl _) i⟩
theorem zp_at (M : Nat → Nat → Nat) (i : Nat) : (m_zp M 6).1 i = (if i < 6 then M 13 (6 + i) else M 13 i) ∧ (m_zp M 6).2.1 i = (if i < 6 then M 14 (6 + i) else M 14 i) ∧ (m_zp M 6).2.2 i = (if i < 6 then M 15 (6 + i) else M 15 i) :=
  ⟨cp_seq 6 (M 13) (fun n => (m_zp M n).1) rfl (fun _ => rfl) 6 (Nat.le_refl _) i, cp_seq 6 (M 14) (fun n => (m_zp M n).2.1) rfl (fun _ => rfl) 6 (Nat.le_refl _) i, cp_seq 6 (M 15) (fun n => (m_zp M n).2.2) rfl (fun _ => rfl) 6 (Nat.le_refl _) i⟩
theorem zk_at (M : Nat → Nat → Nat) (mf : Nat → Nat) (n : Nat) (h : n ≤ 9) (i : Nat) : (m_zk M mf n).1 i = (if i < n then M 10 (9 + i) else M 10 i) ∧ (m_zk M mf n).2.1 i = (if i < n then M 11 (9 + i) else M 11 i) ∧ (m_zk M mf n).2.2.1 i = (if i < n then M 12 (9 + i) else M 12 i) :=
  ⟨cp_seq 9 (M 10) (fun n => (m_zk M mf n).1) rfl (fun _ => rfl) n h i, cp_seq 9 (M 11) (fun n => (m_zk M mf n).2.1) rfl (fun _ => rfl) n h i, cp_seq 9 (M 12) (fun n => (m_zk M mf n).2.2.1) rfl (fun _ => rfl) n h i⟩
theorem zs_at (M : Nat → Nat → Nat) (mf : Nat → Nat) (hm : mf 0 ≤ 9) : ∀ n, n ≤ 9 → ∀ i, (m_zk M mf n).2.2.2 i = if 11 ≤ i ∧ i < 11 + n then (if mf 0 ≤ i - 11 then 0 else M 12 (9 + (i - 11))) else (if i < 23 then 0 else M 20 i)
  | 0, _, i => by
    rw [if_neg (by omega)]
    exact z0_at M 23 i
  | n + 1, h, i => by
    have ih := zs_at M mf hm n (by omega)
    have e9 : (va_up (m_zk M mf n).2.2.1 n ((m_zk M mf n).2.2.1 (9 + n))) n = M 12 (9 + n) := by
      rw [up_at, (zk_at M mf n (by omega) (9 + n)).2.2, if_neg (by omega)]
    show va_up (m_zk M mf n).2.2.2 (11 + n) (if (nI (mf 0)) ≤ (nI n) then 0 else (va_up (m_zk M mf n).2.2.1 n ((m_zk M mf n).2.2.1 (9 + n))) n) i = _
    rw [e9]
    by_cases e : i = 11 + n
    · have q : i - 11 = n := by omega
      rw [e, up_at, if_pos (show 11 ≤ 11 + n ∧ 11 + n < 11 + (n + 1) by omega), show 11 + n - 11 = n by omega]
      by_cases z : mf 0 ≤ n
      · rw [if_pos z, if_pos (nI_le z (by omega))]
      · rw [if_neg z, if_neg (fun y => z ((nI_leI (by omega) (by omega)).mp y))]
    · rw [up_ne _ _ e, ih i]
      by_cases h2 : 11 ≤ i ∧ i < 11 + n
      · rw [if_pos h2, if_pos (show 11 ≤ i ∧ i < 11 + (n + 1) by omega)]
      · rw [if_neg h2, if_neg (show ¬ (11 ≤ i ∧ i < 11 + (n + 1)) by omega)]
/-- how many, once settled -/
def m_NN (E : Nat → Nat → Nat) : Nat → Nat := va_up (va_up (E 9) 0 (E 9 2)) 1 (va_up (E 9) 0 (E 9 2) 3)
/-- the rows that seats() sees -/
def m_SS (E : Nat → Nat → Nat) : Nat → Nat → Nat := va_up (va_up (va_up E 9 (m_NN E)) 11 (m_zk E (m_NN E) 9).2.1) 16 (m_zf E 5).1
def m_SZ (E : Nat → Nat → Nat) : Int32 × Nat × (Nat → Nat) := m_ss (m_SS E) 6 (m_sv (m_SS E) 0 3125 0 (E 18)).1 0 (m_sv (m_SS E) 0 3125 0 (E 18)).2
/-- the rows, once settled -/
def m_ST (E : Nat → Nat → Nat) : Nat → Nat → Nat := va_up (va_up (va_up (va_up (va_up (va_up (va_up (va_up (va_up (va_up (va_up (va_up E 9 (m_NN E)) 10 (m_zk E (m_NN E) 9).1) 11 (m_zk E (m_NN E) 9).2.1) 12 (m_zk E (m_NN E) 9).2.2.1) 13 (m_zp E 6).1) 14 (m_zp E 6).2.1) 15 (m_zp E 6).2.2) 16 (m_zf E 5).1) 17 (m_zf E 5).2) 18 (m_SZ E).2.2) 20 (m_zk E (m_NN E) 9).2.2.2) 22 (va_up (va_up (E 22) 0 0) 1 0)
/-- tables -/
def tR (g M : Nat → Nat → Nat) (T : Nat) : Prop := g 0 2 = T ∧ ∀ f, f < 5 → g 9 f = if m_kneesOf M f (M 9 0) = 0 then 0 else M 18 f + 1
theorem m_kn_congr {M M2 : Nat → Nat → Nat} (h : ∀ j, M 11 j = M2 11 j) (f : Nat) : ∀ i, m_kneesOf M f i = m_kneesOf M2 f i
  | 0 => rfl
  | i + 1 => by
    show m_kneesOfB M f i _ = m_kneesOfB M2 f i _
    unfold m_kneesOfB
    rw [m_kn_congr h f i, h i]
theorem settled {g E : Nat → Nat → Nat} (G : gOK g) (hP : rd_P g E) (hB : ∀ j, E 10 j ≤ 1 ∧ E 11 j ≤ 4) : pR (pl_tab g) (m_ST E) ∧ nR (pl_tab g) (fun _ => 0) (fun _ => 0) (pl_tab g 3) (m_ST E 20) ∧ tR (pl_tab g) (m_ST E) (m_SZ E).2.1 ∧ gOK (pl_tab g) ∧ ∀ j, m_ST E 10 j ≤ 1 ∧ m_ST E 11 j ≤ 4 := by
  obtain ⟨p1, p2, p3, p4, p5⟩ := hP
  have hn9 : g 0 0 ≤ 9 := G.1.1
  have hm6 : g 0 1 ≤ 6 := G.1.2
  have n0 : m_NN E 0 = g 0 0 := p1
  have n1 : m_NN E 1 = g 0 1 := p2
  have hk := fun i => zk_at E (m_NN E) 9 (Nat.le_refl _) i
  have hS0 : m_SS E 9 0 = g 0 0 := p1
  have hS1 : ∀ k, k < g 0 0 → m_SS E 11 k = g 2 k := fun k h => by
    show (m_zk E (m_NN E) 9).2.1 k = g 2 k
    rw [(hk k).2.1, if_pos (by omega)]
    exact (p3 k h).2.1
  have hS2 : ∀ f, f < 5 → m_SS E 16 f = g 7 f := fun f h => by
    show (m_zf E 5).1 f = g 7 f
    rw [(zf_at E f).1, if_pos h]
    exact (p5 f h).1
  have ht := st_tab hS0 hS1 hS2 6 0 (g 9) (E 18) (by omega) rfl
  have hs := zs_at E (m_NN E) (by rw [n0]; exact hn9) 9 (Nat.le_refl _)
  have hG : gOK (pl_tab g) := ⟨G.1, G.2⟩
  have hz : ∀ i, i < 11 ∨ 20 ≤ i → i < 23 → m_ST E 20 i = 0 := fun i h1 h2 => by
    show (m_zk E (m_NN E) 9).2.2.2 i = 0
    rw [hs i, if_neg (show ¬ (11 ≤ i ∧ i < 11 + 9) by omega), if_pos h2]
  refine ⟨⟨n0, n1, fun k h => ?_, fun q h => ?_, fun f h => ?_⟩, ⟨⟨(hz 0 (by omega) (by omega)).symm, Nat.zero_le _⟩, ⟨(hz 20 (by omega) (by omega)).symm, Nat.zero_le _⟩, ⟨(hz 21 (by omega) (by omega)).symm, Nat.zero_le _⟩, ⟨(hz 22 (by omega) (by omega)).symm, Nat.zero_le _⟩, ⟨(hz 10 (by omega) (by omega)).symm, Nat.zero_lt_succ _⟩, fun k h => ⟨(hz (1 + k) (by have h9 : k < g 0 0 := h; omega) (by have h9 : k < g 0 0 := h; omega)).symm, Nat.zero_le _⟩, fun k _ h2 => hz (1 + k) (by omega) (by omega), fun k h => ?_, fun k => (G.2 k).2.2.1, fun _ _ _ _ _ z => absurd rfl z⟩, ⟨?_, fun f h => ?_⟩, hG, fun j => ?_⟩
  · have h9 : k < g 0 0 := h
    show (m_zk E (m_NN E) 9).1 k = g 1 k ∧ (m_zk E (m_NN E) 9).2.1 k = g 2 k ∧ (m_zk E (m_NN E) 9).2.2.1 k = g 3 k
    rw [(hk k).1, (hk k).2.1, (hk k).2.2, if_pos (by omega), if_pos (by omega), if_pos (by omega)]
    exact p3 k h9
  · have h9 : q < g 0 1 := h
    show (m_zp E 6).1 q = g 4 q ∧ (m_zp E 6).2.1 q = g 5 q ∧ (m_zp E 6).2.2 q = g 6 q
    rw [(zp_at E q).1, (zp_at E q).2.1, (zp_at E q).2.2, if_pos (by omega), if_pos (by omega), if_pos (by omega)]
    exact p4 q h9
  · show (m_zf E 5).1 f = g 7 f ∧ (m_zf E 5).2 f = g 8 f
    rw [(zf_at E f).1, (zf_at E f).2, if_pos h, if_pos h]
    exact p5 f h
  · have h9 : k < g 0 0 := h
    show g 3 k = (m_zk E (m_NN E) 9).2.2.2 (11 + k)
    rw [hs (11 + k), if_pos (show 11 ≤ 11 + k ∧ 11 + k < 11 + 9 by omega), if_neg (show ¬ m_NN E 0 ≤ 11 + k - 11 by rw [n0]; omega), show 11 + k - 11 = k by omega]
    exact (p3 k h9).2.2.symm
  · show (s_tab g 7 0 (g 9)).1 = (m_SZ E).2.1
    unfold m_SZ
    exact ht.1
  · have h1 := ht.2 f h
    show (s_tab g 7 0 (g 9)).2 f = if m_kneesOf (m_ST E) f (m_NN E 0) = 0 then 0 else (m_SZ E).2.2 f + 1
    unfold m_SZ
    rw [m_kn_congr (M := m_ST E) (M2 := m_SS E) (fun _ => rfl) f]
    exact h1
  · show (m_zk E (m_NN E) 9).1 j ≤ 1 ∧ (m_zk E (m_NN E) 9).2.1 j ≤ 4
    rw [(hk j).1, (hk j).2.1]
    split
    · exact ⟨(hB _).1, (hB _).2⟩
    · exact ⟨(hB _).1, (hB _).2⟩
