/-! the law's invariant: the bounds of the state, of its past and of its images -/
def INV (N : Nat) (S : AS) : Prop := Wf N S.1 ∧ S.2.2.1 ≤ 8 ∧ (∀ i, i < S.2.2.1 → Wf N (rowP S.2.1 i)) ∧ S.2.2.2.2.1 < 4 ∧ (∀ i, i < 2 → flG S.2.2.2.2.1 i ≠ 0 → Wf N (rowP S.2.2.2.1 i)) ∧ TR S.2.2.2.2.2.1 S.2.2.2.2.2.2.1
theorem INV_up {N : Nat} {S : AS} (h : INV N S) : INV (N + 1) S := by
  obtain ⟨a, b, c, d, e, f⟩ := h
  exact ⟨Wf_up a, b, fun i hi => Wf_up (c i hi), d, fun i hi hz => Wf_up (e i hi hz), f⟩
theorem remP_row {u pa : Nat → Nat} {pm i : Nat} (hpm : pm ≤ 8) (hi : i < remN pm) : (∀ j, j < 131 → u j = rowP (remP u pa pm) i j) ∨ ∃ i2, i2 < pm ∧ ∀ j, j < 131 → rowP pa i2 j = rowP (remP u pa pm) i j := by
  unfold remN at hi
  by_cases e : pm = 8
  · subst e
    rw [if_pos rfl] at hi
    by_cases e7 : i = 7
    · subst e7
      refine Or.inl fun j hj => ?_
      unfold rowP remP
      rw [if_pos rfl, pk_cpy_in (by omega) (by omega)]
      exact congrArg u (by omega)
    · refine Or.inr ⟨i + 1, by omega, fun j hj => ?_⟩
      unfold rowP remP
      rw [if_pos rfl, pk_cpy_out (by omega), pk_cpy_in (by omega) (by omega)]
      exact congrArg pa (by omega)
  · rw [if_neg e] at hi
    by_cases e7 : i = pm
    · subst e7
      refine Or.inl fun j hj => ?_
      unfold rowP remP
      rw [if_neg e, pk_cpy_in (by omega) (by omega)]
      exact congrArg u (by omega)
    · refine Or.inr ⟨i, by omega, fun j hj => ?_⟩
      unfold rowP remP
      rw [if_neg e, pk_cpy_out (by omega)]
theorem INV_chg {N : Nat} {S : AS} {u2 : Nat → Nat} (h : INV N S) (h2 : Wf (N + 1) u2) : INV (N + 1) (chg S u2) := by
  obtain ⟨a, b, c, d, e, f⟩ := INV_up h
  refine ⟨h2, ?_, fun i hi => ?_, d, e, f⟩
  · show remN S.2.2.1 ≤ 8
    unfold remN
    split <;> omega
  · show Wf (N + 1) (rowP (remP S.1 S.2.1 S.2.2.1) i)
    rcases remP_row (u := S.1) (pa := S.2.1) b hi with z | ⟨i2, h3, z⟩
    · exact Wf_congr z a
    · exact Wf_congr z (c i2 h3)
theorem INV_beg {N : Nat} {S : AS} (h : INV N S) (v w : Int32) : INV (N + 1) (nBeg S v w) := by
  unfold nBeg
  split
  · rename_i hc
    obtain ⟨k, k0, k1, rfl⟩ := rngN (by omega) hc.1
    obtain ⟨c, c0, c1, rfl⟩ := rngN (by omega) hc.2
    rw [tOf_nI (by omega), tOf_nI (by omega)]
    exact INV_chg h ((Wf_beg (Wfb.of (Wf_up h.1)) k0 k1 c0 c1 (by omega)).wf)
  · exact INV_up h
theorem INV_set {N : Nat} {S : AS} (h : INV N S) (v w : Int32) : INV (N + 1) (nSet S v w) := by
  unfold nSet
  split
  · rename_i hc
    obtain ⟨k, k0, k1, rfl⟩ := rngN (by omega) hc.1
    have hc2 := hc.2
    rw [tOf_nI (by omega)] at hc2 ⊢
    have h1 := setHi_le k
    obtain ⟨x, x0, x1, rfl⟩ := rngN (by omega) hc2 (setLo_le k)
    rw [tOf_nI (by omega)]
    exact INV_chg h ((Wf_set (Wfb.of (Wf_up h.1)) (by omega) x0 x1 (by omega)).wf)
  · exact INV_up h
theorem INV_arr {N : Nat} {S : AS} (h : INV N S) (v : Int32) : INV (N + 1) (nArr S v) := by
  unfold nArr
  split
  · rename_i hc
    split
    · exact INV_up h
    · split
      · exact INV_up h
      · split
        · exact INV_up h
        · rename_i h4
          have hK := h.1.1
          obtain ⟨t, t0, t1, rfl⟩ := rngN (by omega) hc
          rw [tOf_nI (by omega)] at h4 ⊢
          exact INV_chg h (((Wf_arr (Wfb.of h.1) (show t < S.1 4 by omega) (Nat.not_lt.mp h4) (rd_BK _ _) (by omega)).up (by omega)).wf)
  · exact INV_up h
theorem rlL_b (tx : Nat → Nat) (k : Nat) : rlN tx k ≤ 10 ∧ ∀ j, j < rlN tx k → rlL tx k j < 6 := by
  unfold rlN rlL
  induction k with
  | zero => exact ⟨Nat.zero_le _, fun j hj => absurd hj (Nat.not_lt_zero _)⟩
  | succ k ih =>
    show (rlStep (rlS tx k) (tx k) k).1 ≤ 10 ∧ ∀ j, j < (rlStep (rlS tx k) (tx k) k).1 → (rlStep (rlS tx k) (tx k) k).2.1 j < 6
    generalize rlS tx k = s at ih ⊢
    obtain ⟨n, L, ek, ep⟩ := s
    obtain ⟨h1, h2⟩ := ih
    dsimp only at h1 h2
    unfold rlStep
    dsimp only
    split
    · exact ⟨h1, h2⟩
    · split
      · rename_i hb
        split
        · exact ⟨h1, h2⟩
        · refine ⟨by show n + 1 ≤ 10; omega, fun j hj => ?_⟩
          have hj : j < n + 1 := hj
          show va_up L n (tx k - 65) j < 6
          unfold va_up
          split
          · omega
          · exact h2 j (by omega)
      · split
        · exact ⟨h1, h2⟩
        · exact ⟨h1, h2⟩
theorem INV_lis {N : Nat} {S : AS} (h : INV N S) : INV (N + 1) (nLis S) := by
  unfold nLis
  split
  · exact INV_up h
  · exact INV_chg h ((Wf_lis (Wfb.of (Wf_up h.1)) (rlL_b _ _).1 (rlL_b _ _).2 (by omega)).wf)
theorem INV_mov {N : Nat} {S : AS} (h : INV N S) (a b c : Int32) : INV (N + 1) (nMov S a b c) := by
  unfold nMov
  split
  · rename_i hc
    have hK := h.1.1
    obtain ⟨f, t, n, rfl, rfl, rfl, ho, -, f4, t4, n8⟩ := aCos_ok hK.2 (by omega) hc
    rw [tOf_nI (by omega), tOf_nI (by omega), tOf_nI (by omega)]
    exact INV_chg h (((Wf_mov (Wfb.of h.1) ho).up (by omega)).wf)
  · exact INV_up h
theorem INV_tes {N : Nat} {S : AS} (h : INV N S) (v : Int32) : INV (N + 1) (nTes S v) := by
  unfold nTes
  split
  · rename_i hc
    have hK := h.1.1
    obtain ⟨t, t0, t1, rfl⟩ := rngN (by omega) hc.1
    rw [tOf_nI (by omega)]
    exact INV_chg h (((Wf_tes (Wfb.of h.1) (show t < 4 by omega)).up (by omega)).wf)
  · exact INV_up h
theorem INV_pau {N : Nat} {S : AS} (h : INV N S) (v : Int32) : INV (N + 1) (nPau S v) := by
  unfold nPau
  split
  · rename_i hc
    obtain ⟨k, k0, k1, rfl⟩ := rngN (by omega) hc
    rw [tOf_nI (by omega)]
    exact INV_chg h (((Wf_pau (Wfb.of h.1)).up (by omega)).wf)
  · exact INV_up h
theorem INV_dep {N : Nat} {S : AS} (h : INV N S) (v : Int32) : INV (N + 1) (nDep S v) := by
  unfold nDep
  split
  · rename_i hc
    have hK := h.1.1
    obtain ⟨t, t0, t1, rfl⟩ := rngN (by omega) hc
    rw [tOf_nI (by omega)]
    split
    · exact INV_up h
    · rename_i h0
      exact INV_chg h (((Wf_dep (Wfb.of h.1) (show t < 4 by omega) (rea_12 (Classical.not_not.mp h0))).up (by omega)).wf)
  · exact INV_up h
theorem INV_mak {N : Nat} {S : AS} (h : INV N S) (v : Int32) : INV (N + 1) (nMak S v) := by
  unfold nMak
  split
  · rename_i hc
    obtain ⟨d, d0, d1, rfl⟩ := rngN (by omega) hc
    rw [tOf_nI (by omega)]
    cases hz : vis d S.1 [] 0 none with
    | none => exact INV_up h
    | some z =>
      obtain ⟨z1, -, z3⟩ := vis_ok hz
      exact INV_chg h (((Wf_row (Wfb.of h.1) z1).up (by omega)).wf)
  · exact INV_up h
theorem INV_und {N : Nat} {S : AS} (h : INV N S) : INV (N + 1) (nUnd S) := by
  unfold nUnd
  obtain ⟨a, b, c, d, e, f⟩ := INV_up h
  split
  · exact ⟨a, b, c, d, e, f⟩
  · rename_i h0
    exact ⟨Wf_congr (fun j hj => row_und hj) (c (S.2.2.1 - 1) (by omega)), by show S.2.2.1 - 1 ≤ 8; omega, fun i hi => c i (by have : i < S.2.2.1 - 1 := hi; omega), d, e, f⟩
theorem INV_wri {N : Nat} {S : AS} (h : INV N S) (v : Int32) : INV (N + 1) (nWri S v) := by
  unfold nWri
  obtain ⟨a, b, c, d, e, f⟩ := INV_up h
  split
  · rename_i hc
    obtain ⟨k, k0, k1, rfl⟩ := rngN (by omega) hc.1
    rw [tOf_nI (by omega)]
    exact ⟨a, b, c, d, e, TR_up f (by have := f.1; have := hc.2; omega) (by omega)⟩
  · exact ⟨a, b, c, d, e, f⟩
theorem INV_wip {N : Nat} {S : AS} (h : INV N S) : INV (N + 1) (nWip S) := by
  obtain ⟨a, b, c, d, e, f⟩ := INV_up h
  exact ⟨a, b, c, d, e, Nat.zero_le _, fun j hj => absurd hj (Nat.not_lt_zero _)⟩
theorem INV_kee {N : Nat} {S : AS} (h : INV N S) (v : Int32) : INV (N + 1) (nKee S v) := by
  unfold nKee
  obtain ⟨a, b, c, d, e, f⟩ := INV_up h
  split
  · rename_i hc
    obtain ⟨t, t0, t1, rfl⟩ := rngN (by omega) hc
    rw [tOf_nI (by omega)]
    refine ⟨a, b, c, (flG_flS d (i := t) (k := t) (by omega) (by omega)).2.2, fun k hk hz => ?_, f⟩
    show Wf (N + 1) (rowP (va_cpy S.1 S.2.2.2.1 0 (131 * t) 131) k)
    by_cases ek : k = t
    · subst ek
      refine Wf_congr (fun j hj => ?_) a
      unfold rowP
      rw [pk_cpy_in (by omega) (by omega)]
      exact congrArg S.1 (by omega)
    · refine Wf_congr (fun j hj => ?_) (e k hk (by rw [← (flG_flS d (i := t) (k := k) (by omega) hk).2.1 ek]; exact hz))
      unfold rowP
      rw [pk_cpy_out (by omega)]
  · exact ⟨a, b, c, d, e, f⟩
theorem INV_bak {N : Nat} {S : AS} (h : INV N S) (v : Int32) : INV (N + 1) (nBak S v) := by
  unfold nBak
  split
  · rename_i hc
    obtain ⟨t, t0, t1, rfl⟩ := rngN (by omega) hc.1
    have h2 := hc.2
    rw [tOf_nI (by omega)] at h2 ⊢
    exact INV_chg h (Wf_up (Wf_congr (fun j hj => row_bak hj) (h.2.2.2.2.1 t (by omega) h2)))
  · exact INV_up h
theorem INV_0 : INV 0 (u00, (fun _ => 0), 0, (fun _ => 0), 0, (fun _ => 0), 0, (-9), (-9), (-9)) := by
  refine ⟨?_, by show (0 : Nat) ≤ 8; omega, fun i hi => absurd hi (Nat.not_lt_zero _), by show (0 : Nat) < 4; omega, fun i hi h => absurd ?_ h, TR_0⟩
  · show Wf 0 u00
    have l0 : u00 0 = 1 := rfl
    have l1 : u00 1 = 120 := rfl
    have l2 : u00 2 = 4 := rfl
    have l3 : u00 3 = 5 := rfl
    have l4 : u00 4 = 3 := rfl
    have l5 : u00 5 = 6 := rfl
    have lz : ∀ j, 6 ≤ j → u00 j = 0 := fun j hj => u00_z hj
    generalize u00 = u at l0 l1 l2 l3 l4 l5 lz
    refine ⟨by omega, by omega, by omega, by omega, by omega, by omega, by rw [lz _ (by omega)]; omega, fun j hj => by rw [lz _ (by omega)]; omega, fun t ht => ?_, fun t ht => ?_, fun t k ht hk => ?_, fun k hk => ?_⟩
    · unfold mny tst tat
      rw [lz _ (by omega), lz _ (by omega), lz _ (by omega), lz _ (by omega)]
      omega
    · unfold mny
      rw [lz _ (by omega)]
      omega
    · unfold dst knd
      rw [lz _ (by omega), lz _ (by omega)]
      omega
    · rcases (show k = 0 ∨ k = 1 ∨ k = 2 ∨ k = 3 ∨ k = 4 ∨ k = 5 ∨ 6 ≤ k by omega) with rfl | rfl | rfl | rfl | rfl | rfl | q
      · omega
      · omega
      · omega
      · omega
      · omega
      · omega
      · rw [lz k q]; omega
  · show flG 0 i = 0
    unfold flG
    split <;> rfl
