/-! the text read as wagons, byte by byte: (stage, how many, first of the latest word, wagons, destinations, kinds, fault, its place) -/
abbrev RS : Type := Nat × Nat × Nat × Nat × (Nat → Nat) × (Nat → Nat) × Nat × Nat
def rwStep (s : RS) (b k : Nat) : RS := match s with
  | (st, mn, fs, n, B, K, ek, ep) =>
    if ek ≠ 0 then (st, mn, fs, n, B, K, ek, ep)
    else if st < 2 ∧ 65 ≤ b ∧ b ≤ 70 then (if 8 < n + mn then (st, mn, fs, n, B, K, 3, k) else (2, 1, n, n + mn, va_cpy (fun _ => b - 65) B 0 n mn, va_cpy (fun _ => 0) K 0 n mn, 0, 0))
    else if st = 0 ∧ 49 ≤ b ∧ b ≤ 56 then (1, b - 48, fs, n, B, K, 0, 0)
    else if st = 2 ∧ (b = 102 ∨ b = 120) then (3, mn, fs, n, B, va_cpy (fun _ => if b = 102 then 1 else 2) K 0 fs (n - fs), 0, 0)
    else if b = 32 ∧ st ≠ 1 then (0, mn, fs, n, B, K, 0, 0)
    else (st, mn, fs, n, B, K, 1, k)
def rwS (tx : Nat → Nat) : Nat → RS
  | 0 => (0, 1, 0, 0, fun _ => 0, fun _ => 0, 0, 0)
  | k + 1 => rwStep (rwS tx k) (tx k) k
def rwFin (s : RS) (ln : Nat) : RS := match s with
  | (st, mn, fs, n, B, K, ek, ep) => if ek = 0 ∧ st = 1 then (st, mn, fs, n, B, K, 2, ln) else (st, mn, fs, n, B, K, ek, ep)
def rwR (tx : Nat → Nat) (ln : Nat) : RS := rwFin (rwS tx ln) ln
def rdN (tx : Nat → Nat) (ln : Nat) : Nat := (rwR tx ln).2.2.2.1
def rdB (tx : Nat → Nat) (ln : Nat) : Nat → Nat := (rwR tx ln).2.2.2.2.1
def rdK (tx : Nat → Nat) (ln : Nat) : Nat → Nat := (rwR tx ln).2.2.2.2.2.1
def rdE (tx : Nat → Nat) (ln : Nat) : Nat := (rwR tx ln).2.2.2.2.2.2.1
def rdP (tx : Nat → Nat) (ln : Nat) : Nat := (rwR tx ln).2.2.2.2.2.2.2
def wkE (e : Nat) : Int32 := if e = 0 then -9 else nI e
def wpE (e p : Nat) : Int32 := if e = 0 then -9 else nI p
def rwI (tx : Nat → Nat) (k st mn fs n : Nat) (rb rk : Nat → Nat) (wk wp : Int32) : Prop :=
  ∃ (B K : Nat → Nat) (ek ep : Nat), rwS tx k = (st, mn, fs, n, B, K, ek, ep) ∧ (∀ j, j < n → rb j = B j ∧ rk j = K j) ∧ fs ≤ n ∧ n ≤ 8 ∧ mn ≤ 8 ∧ st ≤ 3 ∧ ek < 100 ∧ wk = wkE ek ∧ wp = wpE ek ep
theorem wkE_9 {e : Nat} (h : e < 100) : wkE e = -9 ↔ e = 0 := by
  unfold wkE
  constructor
  · intro z
    by_cases h0 : e = 0
    · exact h0
    · rw [if_neg h0] at z
      exact absurd z (nI_m9 (by omega))
  · intro z
    rw [if_pos z]
theorem inN {lo hi n : Nat} (h1 : lo < 2147483648) (h2 : n < 2147483648) (h3 : hi < 2147483648) : (nI lo ≤ nI n ∧ nI n ≤ nI hi) ↔ (lo ≤ n ∧ n ≤ hi) := by rw [nI_leI h1 h2, nI_leI h2 h3]
section RW
variable {tx : Nat → Nat} {k st mn fs n : Nat} {rb rk : Nat → Nat} {wk wp : Int32}
theorem rwI_b (h : rwI tx k st mn fs n rb rk wk wp) : fs ≤ n ∧ n ≤ 8 ∧ mn ≤ 8 ∧ st ≤ 3 := by
  obtain ⟨B, K, ek, ep, -, -, h1, h2, h3, h4, -⟩ := h
  exact ⟨h1, h2, h3, h4⟩
theorem rwI_0 (h : rwI tx k st mn fs n rb rk (-9) wp) : ∃ B K ep, rwS tx k = (st, mn, fs, n, B, K, 0, ep) ∧ (∀ j, j < n → rb j = B j ∧ rk j = K j) ∧ fs ≤ n ∧ n ≤ 8 ∧ mn ≤ 8 ∧ st ≤ 3 ∧ wp = -9 := by
  obtain ⟨B, K, ek, ep, e, hj, h1, h2, h3, h4, h5, h6, h7⟩ := h
  have h0 : ek = 0 := (wkE_9 h5).mp h6.symm
  subst h0
  exact ⟨B, K, ep, e, hj, h1, h2, h3, h4, h7⟩
theorem rwI_letter (h : rwI tx k st mn fs n rb rk (-9) wp) (h1 : st < 2) (h2 : 65 ≤ tx k ∧ tx k ≤ 70) (h3 : n + mn ≤ 8) : rwI tx (k + 1) 2 1 n (n + mn) (va_cpy (fun _ => tx k - 65) rb 0 n mn) (va_cpy (fun _ => 0) rk 0 n mn) (-9) wp := by
  obtain ⟨B, K, ep, e, hj, a1, a2, a3, a4, a5⟩ := rwI_0 h
  refine ⟨va_cpy (fun _ => tx k - 65) B 0 n mn, va_cpy (fun _ => 0) K 0 n mn, 0, 0, ?_, ?_, by omega, h3, by omega, by omega, by omega, rfl, a5⟩
  · show rwStep (rwS tx k) (tx k) k = _
    rw [e]
    unfold rwStep
    dsimp only
    rw [if_neg (show ¬ (0 : Nat) ≠ 0 by decide), if_pos ⟨h1, h2⟩, if_neg (by omega)]
  · intro j hjn
    by_cases hz : j < n
    · rw [pk_cpy_out (by omega), pk_cpy_out (by omega), pk_cpy_out (by omega), pk_cpy_out (by omega)]
      exact hj j hz
    · rw [pk_cpy_in (by omega) (by omega), pk_cpy_in (by omega) (by omega), pk_cpy_in (by omega) (by omega), pk_cpy_in (by omega) (by omega)]
      exact ⟨rfl, rfl⟩
theorem rwI_many (h : rwI tx k st mn fs n rb rk (-9) wp) (h1 : st < 2) (h2 : 65 ≤ tx k ∧ tx k ≤ 70) (h3 : 8 < n + mn) : rwI tx (k + 1) st mn fs n rb rk (nI 3) (nI k) := by
  obtain ⟨B, K, ep, e, hj, a1, a2, a3, a4, a5⟩ := rwI_0 h
  refine ⟨B, K, 3, k, ?_, hj, a1, a2, a3, a4, by omega, rfl, rfl⟩
  show rwStep (rwS tx k) (tx k) k = _
  rw [e]
  unfold rwStep
  dsimp only
  rw [if_neg (show ¬ (0 : Nat) ≠ 0 by decide), if_pos ⟨h1, h2⟩, if_pos h3]
theorem rwI_digit (h : rwI tx k 0 mn fs n rb rk (-9) wp) (h2 : 49 ≤ tx k ∧ tx k ≤ 56) : rwI tx (k + 1) 1 (tx k - 48) fs n rb rk (-9) wp := by
  obtain ⟨B, K, ep, e, hj, a1, a2, a3, a4, a5⟩ := rwI_0 h
  refine ⟨B, K, 0, 0, ?_, hj, a1, a2, by omega, by omega, by omega, rfl, a5⟩
  show rwStep (rwS tx k) (tx k) k = _
  rw [e]
  unfold rwStep
  dsimp only
  rw [if_neg (show ¬ (0 : Nat) ≠ 0 by decide), if_neg (by omega), if_pos ⟨rfl, h2⟩]
theorem rwI_kind (h : rwI tx k 2 mn fs n rb rk (-9) wp) (h2 : tx k = 102 ∨ tx k = 120) : rwI tx (k + 1) 3 mn fs n rb (va_cpy (fun _ => if tx k = 102 then 1 else 2) rk 0 fs (n - fs)) (-9) wp := by
  obtain ⟨B, K, ep, e, hj, a1, a2, a3, a4, a5⟩ := rwI_0 h
  refine ⟨B, va_cpy (fun _ => if tx k = 102 then 1 else 2) K 0 fs (n - fs), 0, 0, ?_, ?_, a1, a2, a3, by omega, by omega, rfl, a5⟩
  · show rwStep (rwS tx k) (tx k) k = _
    rw [e]
    unfold rwStep
    dsimp only
    rw [if_neg (show ¬ (0 : Nat) ≠ 0 by decide), if_neg (by omega), if_neg (by omega), if_pos ⟨rfl, h2⟩]
  · intro j hjn
    refine ⟨(hj j hjn).1, ?_⟩
    by_cases hz : j < fs
    · rw [pk_cpy_out (by omega), pk_cpy_out (by omega)]
      exact (hj j hjn).2
    · rw [pk_cpy_in (by omega) (by omega), pk_cpy_in (by omega) (by omega)]
theorem rwI_blank (h : rwI tx k st mn fs n rb rk (-9) wp) (h1 : st ≠ 1) (h2 : tx k = 32) : rwI tx (k + 1) 0 mn fs n rb rk (-9) wp := by
  obtain ⟨B, K, ep, e, hj, a1, a2, a3, a4, a5⟩ := rwI_0 h
  refine ⟨B, K, 0, 0, ?_, hj, a1, a2, a3, by omega, by omega, rfl, a5⟩
  show rwStep (rwS tx k) (tx k) k = _
  rw [e]
  unfold rwStep
  dsimp only
  rw [if_neg (show ¬ (0 : Nat) ≠ 0 by decide), if_neg (by omega), if_neg (by omega), if_neg (by omega), if_pos ⟨h2, h1⟩]
theorem rwI_bad (h : rwI tx k st mn fs n rb rk (-9) wp) (h1 : ¬ (st < 2 ∧ 65 ≤ tx k ∧ tx k ≤ 70)) (h2 : ¬ (st = 0 ∧ 49 ≤ tx k ∧ tx k ≤ 56)) (h3 : ¬ (st = 2 ∧ (tx k = 102 ∨ tx k = 120))) (h4 : ¬ (tx k = 32 ∧ st ≠ 1)) : rwI tx (k + 1) st mn fs n rb rk (nI 1) (nI k) := by
  obtain ⟨B, K, ep, e, hj, a1, a2, a3, a4, a5⟩ := rwI_0 h
  refine ⟨B, K, 1, k, ?_, hj, a1, a2, a3, a4, by omega, rfl, rfl⟩
  show rwStep (rwS tx k) (tx k) k = _
  rw [e]
  unfold rwStep
  dsimp only
  rw [if_neg (show ¬ (0 : Nat) ≠ 0 by decide), if_neg h1, if_neg h2, if_neg h3, if_neg h4]
/-- once a fault is found, nothing changes -/
theorem rwS_frz {B K : Nat → Nat} {ek ep : Nat} (h : rwS tx k = (st, mn, fs, n, B, K, ek, ep)) (h0 : ek ≠ 0) : ∀ j, k ≤ j → rwS tx j = (st, mn, fs, n, B, K, ek, ep) := by
  intro j hj
  induction j with
  | zero => rw [show k = 0 by omega] at h; exact h
  | succ j ih =>
    by_cases e : k = j + 1
    · subst e; exact h
    · show rwStep (rwS tx j) (tx j) j = _
      rw [ih (by omega)]
      unfold rwStep
      dsimp only
      rw [if_pos h0]
/-- the end of the walk -/
def rwE (tx : Nat → Nat) (ln n : Nat) (rb rk : Nat → Nat) (wk wp : Int32) : Prop := n = rdN tx ln ∧ (∀ j, j < n → rb j = rdB tx ln j ∧ rk j = rdK tx ln j) ∧ n ≤ 8 ∧ wk = wkE (rdE tx ln) ∧ wp = wpE (rdE tx ln) (rdP tx ln)
theorem rwE_of {B K : Nat → Nat} {ek ep ln : Nat} (h : rwR tx ln = (st, mn, fs, n, B, K, ek, ep)) (hj : ∀ j, j < n → rb j = B j ∧ rk j = K j) (hn : n ≤ 8) (h1 : wk = wkE ek) (h2 : wp = wpE ek ep) : rwE tx ln n rb rk wk wp := by
  unfold rwE rdN rdB rdK rdE rdP
  rw [h]
  exact ⟨rfl, hj, hn, h1, h2⟩
theorem rwE_err {ln : Nat} (h : rwI tx k st mn fs n rb rk wk wp) (hk : k ≤ ln) (h0 : ¬ wk = -9) : rwE tx ln n rb rk wk wp := by
  obtain ⟨B, K, ek, ep, e, hj, a1, a2, a3, a4, a5, a6, a7⟩ := h
  have hne : ek ≠ 0 := fun z => h0 (a6.trans ((wkE_9 a5).mpr z))
  refine rwE_of (B := B) (K := K) (ek := ek) (ep := ep) (st := st) (mn := mn) (fs := fs) ?_ hj a2 a6 a7
  unfold rwR
  rw [rwS_frz e hne ln hk]
  unfold rwFin
  dsimp only
  rw [if_neg (fun z => hne z.1)]
theorem rwE_2 {ln : Nat} (h : rwI tx ln 1 mn fs n rb rk (-9) wp) : rwE tx ln n rb rk (nI 2) (nI ln) := by
  obtain ⟨B, K, ep, e, hj, a1, a2, a3, a4, a5⟩ := rwI_0 h
  refine rwE_of (B := B) (K := K) (ek := 2) (ep := ln) (st := 1) (mn := mn) (fs := fs) ?_ hj a2 rfl rfl
  unfold rwR
  rw [e]
  unfold rwFin
  dsimp only
  rw [if_pos ⟨rfl, rfl⟩]
theorem rwE_ok {ln : Nat} (h : rwI tx ln st mn fs n rb rk (-9) wp) (h1 : st ≠ 1) : rwE tx ln n rb rk (-9) wp := by
  obtain ⟨B, K, ep, e, hj, a1, a2, a3, a4, a5⟩ := rwI_0 h
  refine rwE_of (B := B) (K := K) (ek := 0) (ep := ep) (st := st) (mn := mn) (fs := fs) ?_ hj a2 rfl a5
  unfold rwR
  rw [e]
  unfold rwFin
  dsimp only
  rw [if_neg (fun z => h1 z.2)]
end RW
/-! the text read as a list of trains: (trains, destinations, fault, its place) -/
abbrev RLS : Type := Nat × (Nat → Nat) × Nat × Nat
def rlStep (s : RLS) (b k : Nat) : RLS := match s with
  | (n, L, ek, ep) => if ek ≠ 0 then (n, L, ek, ep) else if 65 ≤ b ∧ b ≤ 70 then (if n = 10 then (n, L, 4, k) else (n + 1, va_up L n (b - 65), 0, 0)) else if b = 32 then (n, L, 0, 0) else (n, L, 1, k)
def rlS (tx : Nat → Nat) : Nat → RLS
  | 0 => (0, fun _ => 0, 0, 0)
  | k + 1 => rlStep (rlS tx k) (tx k) k
def rlI (tx : Nat → Nat) (k n : Nat) (rt : Nat → Nat) (wk wp : Int32) : Prop :=
  ∃ (L : Nat → Nat) (ek ep : Nat), rlS tx k = (n, L, ek, ep) ∧ (∀ j, j < n → rt j = L j) ∧ n ≤ 10 ∧ ek < 100 ∧ wk = wkE ek ∧ wp = wpE ek ep
section RL
variable {tx : Nat → Nat} {k n : Nat} {rt : Nat → Nat} {wk wp : Int32}
theorem rlI_b (h : rlI tx k n rt wk wp) : n ≤ 10 := by
  obtain ⟨L, ek, ep, -, -, h1, -⟩ := h
  exact h1
theorem rlI_0 (h : rlI tx k n rt (-9) wp) : ∃ L ep, rlS tx k = (n, L, 0, ep) ∧ (∀ j, j < n → rt j = L j) ∧ n ≤ 10 ∧ wp = -9 := by
  obtain ⟨L, ek, ep, e, hj, h1, h5, h6, h7⟩ := h
  have h0 : ek = 0 := (wkE_9 h5).mp h6.symm
  subst h0
  exact ⟨L, ep, e, hj, h1, h7⟩
theorem rlI_letter (h : rlI tx k n rt (-9) wp) (h2 : 65 ≤ tx k ∧ tx k ≤ 70) (h3 : n ≠ 10) : rlI tx (k + 1) (n + 1) (va_up rt n (tx k - 65)) (-9) wp := by
  obtain ⟨L, ep, e, hj, a1, a2⟩ := rlI_0 h
  refine ⟨va_up L n (tx k - 65), 0, 0, ?_, ?_, by omega, by omega, rfl, a2⟩
  · show rlStep (rlS tx k) (tx k) k = _
    rw [e]
    unfold rlStep
    dsimp only
    rw [if_neg (show ¬ (0 : Nat) ≠ 0 by decide), if_pos h2, if_neg h3]
  · intro j hj2
    unfold va_up
    split
    · rfl
    · exact hj j (by omega)
theorem rlI_many (h : rlI tx k n rt (-9) wp) (h2 : 65 ≤ tx k ∧ tx k ≤ 70) (h3 : n = 10) : rlI tx (k + 1) n rt (nI 4) (nI k) := by
  obtain ⟨L, ep, e, hj, a1, a2⟩ := rlI_0 h
  refine ⟨L, 4, k, ?_, hj, a1, by omega, rfl, rfl⟩
  show rlStep (rlS tx k) (tx k) k = _
  rw [e]
  unfold rlStep
  dsimp only
  rw [if_neg (show ¬ (0 : Nat) ≠ 0 by decide), if_pos h2, if_pos h3]
theorem rlI_blank (h : rlI tx k n rt (-9) wp) (h2 : ¬ (65 ≤ tx k ∧ tx k ≤ 70)) (h3 : tx k = 32) : rlI tx (k + 1) n rt (-9) wp := by
  obtain ⟨L, ep, e, hj, a1, a2⟩ := rlI_0 h
  refine ⟨L, 0, 0, ?_, hj, a1, by omega, rfl, a2⟩
  show rlStep (rlS tx k) (tx k) k = _
  rw [e]
  unfold rlStep
  dsimp only
  rw [if_neg (show ¬ (0 : Nat) ≠ 0 by decide), if_neg h2, if_pos h3]
theorem rlI_bad (h : rlI tx k n rt (-9) wp) (h2 : ¬ (65 ≤ tx k ∧ tx k ≤ 70)) (h3 : tx k ≠ 32) : rlI tx (k + 1) n rt (nI 1) (nI k) := by
  obtain ⟨L, ep, e, hj, a1, a2⟩ := rlI_0 h
  refine ⟨L, 1, k, ?_, hj, a1, by omega, rfl, rfl⟩
  show rlStep (rlS tx k) (tx k) k = _
  rw [e]
  unfold rlStep
  dsimp only
  rw [if_neg (show ¬ (0 : Nat) ≠ 0 by decide), if_neg h2, if_neg h3]
theorem rlS_frz {L : Nat → Nat} {ek ep : Nat} (h : rlS tx k = (n, L, ek, ep)) (h0 : ek ≠ 0) : ∀ j, k ≤ j → rlS tx j = (n, L, ek, ep) := by
  intro j hj
  induction j with
  | zero => rw [show k = 0 by omega] at h; exact h
  | succ j ih =>
    by_cases e : k = j + 1
    · subst e; exact h
    · show rlStep (rlS tx j) (tx j) j = _
      rw [ih (by omega)]
      unfold rlStep
      dsimp only
      rw [if_pos h0]
theorem rlE_err {ln : Nat} (h : rlI tx k n rt wk wp) (hk : k ≤ ln) (h0 : ¬ wk = -9) : rlI tx ln n rt wk wp := by
  obtain ⟨L, ek, ep, e, hj, a2, a5, a6, a7⟩ := h
  have hne : ek ≠ 0 := fun z => h0 (a6.trans ((wkE_9 a5).mpr z))
  exact ⟨L, ek, ep, rlS_frz e hne ln hk, hj, a2, a5, a6, a7⟩
end RL
