/-! arriving, listing -/
def setF (S : AS) (fk fp : Int32) : AS := (S.1, S.2.1, S.2.2.1, S.2.2.2.1, S.2.2.2.2.1, S.2.2.2.2.2.1, S.2.2.2.2.2.2.1, fk, fp, S.2.2.2.2.2.2.2.2.2)
def arrS (u : Nat → Nat) (t : Nat) (B K : Nat → Nat) : Nat → (Nat → Nat)
  | 0 => u
  | q + 1 => va_up (va_up (va_up (va_up (va_up (va_up (arrS u t B K q) (23 + 27 * t + (3 + 3 * (mny u t + q))) (u 7 + q)) (23 + 27 * t + (3 + 3 * (mny u t + q) + 1)) (B q)) (23 + 27 * t + (3 + 3 * (mny u t + q) + 2)) (K q)) (23 + 27 * t + 0) (mny u t + q + 1)) (23 + 27 * t + 1) 0) 7 (u 7 + q + 1)
theorem arrS_at {u : Nat → Nat} {t : Nat} {B K : Nat → Nat} (q : Nat) : mny (arrS u t B K q) t = mny u t + q ∧ arrS u t B K q 7 = u 7 + q ∧ ∀ j, j < 23 → j ≠ 7 → arrS u t B K q j = u j := by
  induction q with
  | zero => exact ⟨rfl, rfl, fun _ _ _ => rfl⟩
  | succ q ih =>
    refine ⟨?_, ?_, ?_⟩
    · show va_up _ 7 _ (23 + 27 * t + 0) = _
      unfold va_up
      rw [if_neg (by omega), if_neg (by omega), if_pos rfl]
      omega
    · show va_up _ 7 _ 7 = _
      unfold va_up
      rw [if_pos rfl]
      omega
    · intro j hj h7
      show va_up _ 7 _ j = _
      unfold va_up
      rw [if_neg h7, if_neg (by omega), if_neg (by omega), if_neg (by omega), if_neg (by omega), if_neg (by omega)]
      exact ih.2.2 j hj h7
theorem arrS_congr {u : Nat → Nat} {t : Nat} {B K B2 K2 : Nat → Nat} {q : Nat} (h : ∀ j, j < q → B j = B2 j ∧ K j = K2 j) : arrS u t B K q = arrS u t B2 K2 q := by
  induction q with
  | zero => rfl
  | succ q ih =>
    unfold arrS
    rw [ih (fun j hj => h j (by omega)), (h q (by omega)).1, (h q (by omega)).2]
def rdL (tx : Nat → Nat) (ln : Nat) : List Nat := rowL (rdK tx ln) (rdN tx ln)
def aArr (u tx : Nat → Nat) (ln : Nat) (v : Int32) : Int32 := if inR 0 (u 4 - 1) v then (if rdE tx ln ≠ 0 then -2 else if ¬ u 0 ≤ gap (kds u (tOf v) (mny u (tOf v)) ++ rdL tx ln) then -2 else if u 5 < mny u (tOf v) + rdN tx ln then -3 else nI (mny u (tOf v) + rdN tx ln)) else -1
def nArr (S : AS) (v : Int32) : AS := if inR 0 (S.1 4 - 1) v then (if rdE S.2.2.2.2.2.1 S.2.2.2.2.2.2.1 ≠ 0 then setF S (nI (rdE S.2.2.2.2.2.1 S.2.2.2.2.2.2.1)) (nI (rdP S.2.2.2.2.2.1 S.2.2.2.2.2.2.1)) else if ¬ S.1 0 ≤ gap (kds S.1 (tOf v) (mny S.1 (tOf v)) ++ rdL S.2.2.2.2.2.1 S.2.2.2.2.2.2.1) then S else if S.1 5 < mny S.1 (tOf v) + rdN S.2.2.2.2.2.1 S.2.2.2.2.2.2.1 then S else chg S (arrS S.1 (tOf v) (rdB S.2.2.2.2.2.1 S.2.2.2.2.2.2.1) (rdK S.2.2.2.2.2.1 S.2.2.2.2.2.2.1) (rdN S.2.2.2.2.2.1 S.2.2.2.2.2.2.1))) else S
def rlN (tx : Nat → Nat) (ln : Nat) : Nat := (rlS tx ln).1
def rlL (tx : Nat → Nat) (ln : Nat) : Nat → Nat := (rlS tx ln).2.1
def rlE (tx : Nat → Nat) (ln : Nat) : Nat := (rlS tx ln).2.2.1
def rlP (tx : Nat → Nat) (ln : Nat) : Nat := (rlS tx ln).2.2.2
def lisF (u L : Nat → Nat) (n k : Nat) : Nat → Nat := va_cpy L (va_up u 12 n) 0 13 k
def aLis (tx : Nat → Nat) (ln : Nat) : Int32 := if rlE tx ln ≠ 0 then -2 else nI (rlN tx ln)
def nLis (S : AS) : AS := if rlE S.2.2.2.2.2.1 S.2.2.2.2.2.2.1 ≠ 0 then setF S (nI (rlE S.2.2.2.2.2.1 S.2.2.2.2.2.2.1)) (nI (rlP S.2.2.2.2.2.1 S.2.2.2.2.2.2.1)) else chg S (lisF S.1 (rlL S.2.2.2.2.2.1 S.2.2.2.2.2.2.1) (rlN S.2.2.2.2.2.1 S.2.2.2.2.2.2.1) (rlN S.2.2.2.2.2.1 S.2.2.2.2.2.2.1))
theorem rlI_end {tx : Nat → Nat} {ln n : Nat} {rt : Nat → Nat} {wk wp : Int32} (h : rlI tx ln n rt wk wp) : n = rlN tx ln ∧ (∀ j, j < n → rt j = rlL tx ln j) ∧ n ≤ 10 ∧ rlE tx ln < 100 ∧ wk = wkE (rlE tx ln) ∧ wp = wpE (rlE tx ln) (rlP tx ln) := by
  obtain ⟨L, ek, ep, e, hj, h1, h2, h3, h4⟩ := h
  unfold rlN rlL rlE rlP
  rw [e]
  exact ⟨rfl, hj, h1, h2, h3, h4⟩
theorem rwS_b (tx : Nat → Nat) (k : Nat) : (rwS tx k).2.2.2.2.2.2.1 < 100 ∧ (∀ j, j < (rwS tx k).2.2.2.1 → (rwS tx k).2.2.2.2.2.1 j < 3 ∧ (rwS tx k).2.2.2.2.1 j < 6) := by
  induction k with
  | zero => exact ⟨(by decide : (0 : Nat) < 100), fun j hj => absurd hj (Nat.not_lt_zero _)⟩
  | succ k ih =>
    show (rwStep (rwS tx k) (tx k) k).2.2.2.2.2.2.1 < 100 ∧ _
    show _ ∧ (∀ j, j < (rwStep (rwS tx k) (tx k) k).2.2.2.1 → (rwStep (rwS tx k) (tx k) k).2.2.2.2.2.1 j < 3 ∧ (rwStep (rwS tx k) (tx k) k).2.2.2.2.1 j < 6)
    generalize rwS tx k = s at ih ⊢
    obtain ⟨st, mn, fs, n, B, K, ek, ep⟩ := s
    obtain ⟨h1, h2⟩ := ih
    dsimp only at h1 h2
    unfold rwStep
    dsimp only
    split
    · exact ⟨h1, h2⟩
    · split
      · split
        · exact ⟨(by decide : (3 : Nat) < 100), h2⟩
        · rename_i hb _
          refine ⟨(by decide : (0 : Nat) < 100), fun j hj => ?_⟩
          dsimp only at hj ⊢
          by_cases hz : j < n
          · rw [pk_cpy_out (by omega), pk_cpy_out (by omega)]
            exact h2 j hz
          · rw [pk_cpy_in (by omega) (by omega), pk_cpy_in (by omega) (by omega)]
            omega
      · split
        · exact ⟨(by decide : (0 : Nat) < 100), h2⟩
        · split
          · refine ⟨(by decide : (0 : Nat) < 100), fun j hj => ?_⟩
            dsimp only at hj ⊢
            refine ⟨?_, (h2 j hj).2⟩
            by_cases hz : fs ≤ j ∧ j < fs + (n - fs)
            · rw [pk_cpy_in hz.1 hz.2]
              split <;> omega
            · rw [pk_cpy_out (by omega)]
              exact (h2 j hj).1
          · split
            · exact ⟨(by decide : (0 : Nat) < 100), h2⟩
            · exact ⟨(by decide : (1 : Nat) < 100), h2⟩
theorem rd_b (tx : Nat → Nat) (ln : Nat) : rdE tx ln < 100 ∧ (∀ j, j < rdN tx ln → rdK tx ln j < 3 ∧ rdB tx ln j < 6) := by
  have h := rwS_b tx ln
  unfold rdE rdN rdK rdB rwR
  generalize rwS tx ln = s at h ⊢
  obtain ⟨st, mn, fs, n, B, K, ek, ep⟩ := s
  obtain ⟨h1, h2⟩ := h
  dsimp only at h1 h2
  unfold rwFin
  dsimp only
  split
  · exact ⟨(by decide : (2 : Nat) < 100), h2⟩
  · exact ⟨h1, h2⟩
theorem wkE_ne {e : Nat} (h : e ≠ 0) : wkE e = nI e := if_neg h
theorem wpE_ne {e p : Nat} (h : e ≠ 0) : wpE e p = nI p := if_neg h
theorem rowL_all {r : Nat → Nat} {n : Nat} {L : List Nat} (h : rowL r n = L) (hk : ∀ x ∈ L, x < 3) {j : Nat} (hj : j < n) : r j < 3 := by
  refine hk _ ?_
  rw [← h]
  exact List.mem_map.mpr ⟨j, List.mem_range.mpr hj, rfl⟩
theorem arr_all {u K : Nat → Nat} {t a n : Nat} (h1 : ∀ z, z < a → knd u t z < 3) (h2 : ∀ j, j < n → K j < 3) : ∀ x ∈ kds u t a ++ rowL K n, x < 3 := by
  intro x hx
  rcases List.mem_append.mp hx with h | h
  · obtain ⟨z, hz, rfl⟩ := List.mem_map.mp h
    exact h1 z (List.mem_range.mp hz)
  · obtain ⟨z, hz, rfl⟩ := List.mem_map.mp h
    exact h2 z (List.mem_range.mp hz)
theorem cpy_congr {f f2 g : Nat → Nat} {dp n : Nat} (h : ∀ j, j < n → f j = f2 j) : va_cpy f g 0 dp n = va_cpy f2 g 0 dp n := by
  funext j
  by_cases hz : dp ≤ j ∧ j < dp + n
  · rw [pk_cpy_in hz.1 hz.2, pk_cpy_in hz.1 hz.2, Nat.zero_add]
    exact h _ (by omega)
  · rw [pk_cpy_out (by omega), pk_cpy_out (by omega)]
