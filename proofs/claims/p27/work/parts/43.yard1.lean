/-! counting the wagons of the next train; moving wagons in the class's rows -/
def fiy (u : Nat → Nat) : Nat → Nat
  | 0 => 0
  | n + 1 => fiy u n + bnt u n
theorem fiy_le (u : Nat → Nat) (h : ∀ t, t < 4 → mny u t ≤ 8) (n : Nat) (hn : n ≤ 4) : fiy u n ≤ 8 * n := by
  induction n with
  | zero => exact Nat.le_refl _
  | succ n ih =>
    have h1 := ih (by omega)
    have h2 := h n (by omega)
    have h3 : bnt u n ≤ mny u n := bnd_le u n (u 13) (mny u n)
    show fiy u n + bnt u n ≤ _
    omega
theorem fiy_ge {u : Nat → Nat} {t n : Nat} (h : t < n) : bnt u t ≤ fiy u n := by
  induction n with
  | zero => omega
  | succ n ih =>
    show _ ≤ fiy u n + bnt u n
    by_cases e : t = n
    · subst e; omega
    · have := ih (by omega); omega
theorem oth_no {u : Nat → Nat} {t n : Nat} (h : oth u t n = false) : fiy u n = if t < n then bnt u t else 0 := by
  induction n with
  | zero => rfl
  | succ n ih =>
    unfold oth at h
    rw [Bool.or_eq_false_iff] at h
    have ih := ih h.1
    show fiy u n + bnt u n = _
    rw [ih]
    by_cases e : n = t
    · subst e
      rw [if_neg (by omega), if_pos (by omega)]
      omega
    · have h2 := h.2
      simp [e] at h2
      rw [h2]
      by_cases e2 : t < n
      · rw [if_pos e2, if_pos (by omega)]; rfl
      · rw [if_neg e2, if_neg (by omega)]
theorem oth_yes {u : Nat → Nat} {t n : Nat} (h : oth u t n = true) : (if t < n then bnt u t else 0) < fiy u n := by
  induction n with
  | zero => unfold oth at h; cases h
  | succ n ih =>
    show _ < fiy u n + bnt u n
    unfold oth at h
    rw [Bool.or_eq_true] at h
    by_cases ho : oth u t n = true
    · have := ih ho
      by_cases e2 : t < n
      · rw [if_pos e2] at this; rw [if_pos (by omega)]; omega
      · rw [if_neg e2] at this
        by_cases e3 : t < n + 1
        · rw [if_pos e3, show t = n by omega]; omega
        · rw [if_neg e3]; omega
    · rcases h with h | h
      · exact absurd h ho
      · rw [Bool.and_eq_true, decide_eq_true_eq, decide_eq_true_eq] at h
        have hf : oth u t n = false := by rcases Bool.eq_false_or_eq_true (oth u t n) with z | z; exact absurd z ho; exact z
        rw [oth_no hf]
        by_cases e2 : t < n
        · rw [if_pos e2, if_pos (by omega)]; omega
        · rw [if_neg e2, if_neg (by omega)]; omega
theorem mufS_lt {u : Nat → Nat} {n : Nat} (hn : n ≤ 4) : (mufS u n = 4 → fiy u n = 0) ∧ (mufS u n < 4 → mufS u n < n ∧ 0 < bnt u (mufS u n) ∧ mny u (mufS u n) ≤ bnt u (mufS u n) ∧ fiy u n = bnt u (mufS u n)) := by
  induction n with
  | zero => exact ⟨fun _ => rfl, fun h => absurd h (by unfold mufS; omega)⟩
  | succ n ih =>
    obtain ⟨h1, h2⟩ := ih (by omega)
    have hs : mufS u (n + 1) = if mufS u n = 5 then 5 else if bnt u n = 0 then mufS u n else if mufS u n ≠ 4 ∨ bnt u n < mny u n then 5 else n := rfl
    have hf : fiy u (n + 1) = fiy u n + bnt u n := rfl
    by_cases e5 : mufS u n = 5
    · rw [if_pos e5] at hs; rw [hs]
      exact ⟨fun h => absurd h (by decide), fun h => absurd h (by decide)⟩
    · rw [if_neg e5] at hs
      by_cases e0 : bnt u n = 0
      · rw [if_pos e0] at hs; rw [hs, hf, e0]
        exact ⟨fun h => by rw [h1 h], fun h => by
          obtain ⟨a, b, c, d⟩ := h2 h
          exact ⟨by omega, b, c, by omega⟩⟩
      · rw [if_neg e0] at hs
        by_cases ec : mufS u n ≠ 4 ∨ bnt u n < mny u n
        · rw [if_pos ec] at hs; rw [hs]
          exact ⟨fun h => absurd h (by decide), fun h => absurd h (by decide)⟩
        · rw [if_neg ec] at hs; rw [hs, hf]
          have e4 : mufS u n = 4 := by omega
          refine ⟨fun h => by omega, fun _ => ⟨by omega, by omega, by omega, by rw [h1 e4]; omega⟩⟩
theorem fiy_0 {u : Nat → Nat} {n : Nat} (h : fiy u n = 0) : mufS u n = 4 := by
  induction n with
  | zero => rfl
  | succ n ih =>
    have hf : fiy u (n + 1) = fiy u n + bnt u n := rfl
    unfold mufS
    rw [ih (by omega), if_neg (by decide), if_pos (by omega)]
theorem mufS_mk {u : Nat → Nat} {t n : Nat} (hn : n ≤ 4) (ht : t < n) (h1 : 0 < bnt u t) (h2 : mny u t ≤ bnt u t) (h3 : fiy u n = bnt u t) : mufS u n = t := by
  induction n with
  | zero => omega
  | succ n ih =>
    have hf : fiy u (n + 1) = fiy u n + bnt u n := rfl
    unfold mufS
    by_cases e : t = n
    · subst e
      rw [fiy_0 (by omega), if_neg (by decide), if_neg (by omega), if_neg (by omega)]
    · have hg := fiy_ge (u := u) (show t < n by omega)
      rw [ih (by omega) (by omega) (by omega), if_neg (by omega), if_pos (by omega)]
theorem muf_yes {u : Nat → Nat} {t : Nat} (h4 : u 4 ≤ 4) (h12 : u 12 ≠ 0) (ht : t < u 4) (h0 : 0 < mny u t) (h1 : bnt u t = mny u t) (h3 : fiy u (u 4) = mny u t) : muf u = nI t := by
  unfold muf
  rw [if_neg h12, mufS_mk h4 ht (by omega) (by omega) (by omega), if_pos (by omega)]
theorem muf_two {u : Nat → Nat} {t : Nat} (h4 : u 4 ≤ 4) (h12 : u 12 ≠ 0) (ht : t < u 4) (h0 : 0 < mny u t) (h1 : bnt u t = mny u t) (h3 : fiy u (u 4) ≠ mny u t) : muf u = -9 := by
  unfold muf
  rw [if_neg h12, if_neg]
  intro hl
  obtain ⟨a, b, c, d⟩ := (mufS_lt h4).2 hl
  by_cases e : mufS u (u 4) = t
  · rw [e] at d; omega
  · have k1 := oth_yes (u := u) (t := mufS u (u 4)) (n := u 4) (oth_at ht (fun z => e z.symm) (by omega))
    rw [if_pos a] at k1
    omega
theorem muf_none {u : Nat → Nat} (h4 : u 4 ≤ 4) (h12 : u 12 ≠ 0) (h : ∀ t, t < u 4 → ¬ (0 < mny u t ∧ bnt u t = mny u t)) : muf u = -9 := by
  unfold muf
  rw [if_neg h12, if_neg]
  intro hl
  obtain ⟨a, b, c, d⟩ := (mufS_lt h4).2 hl
  have hb : bnt u (mufS u (u 4)) ≤ mny u (mufS u (u 4)) := bnd_le u _ (u 13) (mny u _)
  exact h _ a ⟨by omega, by omega⟩
theorem max_0 {a b : Nat} (ha : a < 1073741824) (hb : b < 1073741824) : (if nI 0 < nI a - nI b then nI a - nI b else nI 0) = nI (a - b) := by
  rcases Nat.lt_or_ge a b with z | z
  · have h := pk_sneg (by omega : b < 2 ^ 30) z
    rw [if_neg (fun w : nI 0 < nI a - nI b => absurd (show (0 : Int32) < 0 from Int32.lt_trans w h) Int32.lt_irrefl), show a - b = 0 by omega]
  · rw [pk_sub z]
    rcases Nat.eq_zero_or_pos (a - b) with y | y
    · rw [y]; rfl
    · rw [if_pos ((nI_ltI (by omega) (by omega)).mpr y)]
def shL (le : Nat → Nat) (f t n : Nat) : Nat → Nat := va_up (va_up le f (le f - n)) t (le t + n)
def shW (le wg : Nat → Nat) (f t n : Nat) : Nat → Nat := va_cpy wg wg (f * 8 + le f - n) (t * 8 + le t) n
theorem YA_shift {u st ds le wg : Nat → Nat} {f t n : Nat} (hY : YA u st ds le wg) (hG : GU u) (ho : okM u f t n) : YA (nxU u f t n) st ds (shL le f t n) (shW le wg f t n) := by
  obtain ⟨y1, y2, y3, y4⟩ := hY
  obtain ⟨hf, ht, hne, hn1, hn, -⟩ := id ho
  have hfit := (okM_fit ho).1
  have h4 := hG.1
  have h5 := hG.2.1
  have hmf := hG.2.2.2.2.1 f (by omega)
  refine ⟨fun k hk => ?_, fun k hk => ?_, fun z hz => ?_, fun z k hz hk => ?_⟩
  · rw [y1 k hk]
    exact (carU_lo (by omega) (by omega) (by omega) (by omega)).symm
  · rw [nx_12] at hk
    have := hG.2.2.2.2.2.2.2
    rw [y2 k hk]
    exact (carU_lo (by omega) (by omega) (by omega) (by omega)).symm
  · rw [nx_4] at hz
    unfold shL va_up
    by_cases e2 : z = t
    · subst e2
      rw [if_pos rfl, carU_mny_t (by omega) (by omega) hne, y3 z hz]
    · rw [if_neg e2]
      by_cases e1 : z = f
      · subst e1
        rw [if_pos rfl, carU_mny_f (by omega) (by omega) hne, y3 z hz]
      · rw [if_neg e1, carU_mny_o (by omega) (by omega) (by omega) e1 e2 (by omega), y3 z hz]
  · rw [nx_4] at hz
    have hC := (nx_GU hG ho).2.2.2.2.1 z (by omega)
    have hc : ∀ c, c < 3 → nxU u f t n (23 + 27 * z + (3 + 3 * k + c)) = if z = t ∧ mny u t ≤ k ∧ k < mny u t + n then u (23 + 27 * f + (3 + 3 * (mny u f - n + (k - mny u t)) + c)) else u (23 + 27 * z + (3 + 3 * k + c)) := fun c hc => carU_cell (by omega) (by omega) hc (by omega) (by omega) hne (by omega) hn
    have e : enc (nxU u f t n) z k = if z = t ∧ mny u t ≤ k ∧ k < mny u t + n then enc u f (mny u f - n + (k - mny u t)) else enc u z k := by
      have c0 := hc 0 (by omega)
      have c1 := hc 1 (by omega)
      have c2 := hc 2 (by omega)
      show (nxU u f t n (23 + 27 * z + (3 + 3 * k + 0)) * 6 + nxU u f t n (23 + 27 * z + (3 + 3 * k + 1))) * 3 + nxU u f t n (23 + 27 * z + (3 + 3 * k + 2)) = _
      rw [c0, c1, c2]
      split <;> rfl
    rw [e]
    unfold shW
    rw [y3 f hf, y3 t ht]
    by_cases hz2 : z = t ∧ mny u t ≤ k ∧ k < mny u t + n
    · obtain ⟨rfl, a1, a2⟩ := hz2
      rw [if_pos ⟨rfl, a1, a2⟩, pk_cpy_in (by omega) (by omega), show f * 8 + mny u f - n + (z * 8 + k - (z * 8 + mny u z)) = f * 8 + (mny u f - n + (k - mny u z)) by omega]
      exact y4 f _ hf (by omega)
    · rw [if_neg hz2]
      have hkz : k < mny u z := by
        by_cases e2 : z = t
        · subst e2
          rw [carU_mny_t (by omega) (by omega) hne] at hk
          rcases Nat.lt_or_ge k (mny u z) with y | y
          · exact y
          · exact absurd ⟨rfl, y, hk⟩ hz2
        · by_cases e1 : z = f
          · subst e1
            rw [carU_mny_f (by omega) (by omega) hne] at hk
            omega
          · rw [carU_mny_o (by omega) (by omega) (by omega) e1 e2 (by omega)] at hk
            exact hk
      rw [pk_cpy_out ?_]
      · exact y4 z k hz hkz
      · rcases Nat.lt_trichotomy z t with q | q | q
        · left; omega
        · subst q; left; omega
        · right; omega
theorem YA_back {u st ds le wg : Nat → Nat} {f t n : Nat} (hY : YA u st ds le wg) (hG : GU u) (ho : okM u f t n) : YA u st ds (shL (shL le f t n) t f n) (shW (shL le f t n) (shW le wg f t n) t f n) := by
  obtain ⟨y1, y2, y3, y4⟩ := hY
  obtain ⟨hf, ht, hne, hn1, hn, -⟩ := id ho
  have hfit := (okM_fit ho).1
  have h4 := hG.1
  have h5 := hG.2.1
  have hmf := hG.2.2.2.2.1 f (by omega)
  have yf := y3 f hf
  have yt := y3 t ht
  have l1 : shL le f t n t = mny u t + n := by unfold shL va_up; rw [if_pos rfl, yt]
  have l2 : shL le f t n f = mny u f - n := by unfold shL va_up; rw [if_neg hne, if_pos rfl, yf]
  refine ⟨y1, y2, fun z hz => ?_, fun z k hz hk => ?_⟩
  · show va_up (va_up (shL le f t n) t (shL le f t n t - n)) f (shL le f t n f + n) z = _
    rw [l1, l2]
    unfold va_up
    by_cases e1 : z = f
    · subst e1
      rw [if_pos rfl]; omega
    · rw [if_neg e1]
      by_cases e2 : z = t
      · subst e2
        rw [if_pos rfl]; omega
      · rw [if_neg e2]
        unfold shL va_up
        rw [if_neg e2, if_neg e1]
        exact y3 z hz
  · have hm := hG.2.2.2.2.1 z (by omega)
    unfold shW
    rw [l1, l2, yf, yt]
    by_cases hz2 : z = f ∧ mny u f - n ≤ k
    · obtain ⟨rfl, a1⟩ := hz2
      rw [pk_cpy_in (by omega) (by omega), pk_cpy_in (by omega) (by omega), show z * 8 + mny u z - n + (t * 8 + (mny u t + n) - n + (z * 8 + k - (z * 8 + (mny u z - n))) - (t * 8 + mny u t)) = z * 8 + k by omega]
      exact y4 z k hz hk
    · rw [pk_cpy_out ?_, pk_cpy_out ?_]
      · exact y4 z k hz hk
      · rcases Nat.lt_trichotomy z t with q | q | q
        · left; omega
        · subst q; left; omega
        · right; omega
      · rcases Nat.lt_trichotomy z f with q | q | q
        · left; omega
        · subst q; left
          have : ¬ mny u z - n ≤ k := fun w => hz2 ⟨rfl, w⟩
          omega
        · right; omega
theorem nI_m1 {n : Nat} (h : n < 2147483648) : ¬ nI n = -1 := by
  intro e
  have := congrArg Int32.toInt e
  rw [nI_toInt h] at this
  have h9 : (-1 : Int32).toInt = -1 := by decide
  omega
theorem oth_gt {u : Nat → Nat} {t : Nat} (ht : t < u 4) (hb : bnt u t = mny u t) (h : mny u t < fiy u (u 4)) : oth u t (u 4) = true := by
  rcases Bool.eq_false_or_eq_true (oth u t (u 4)) with z | z
  · exact z
  · have := oth_no z
    rw [if_pos ht] at this
    omega
theorem oth_le {u : Nat → Nat} {t : Nat} (ht : t < u 4) (hb : bnt u t = mny u t) (h : fiy u (u 4) ≤ mny u t) : ¬ oth u t (u 4) = true := by
  intro z
  have := oth_yes z
  rw [if_pos ht] at this
  omega
