/-! facts for the calls that ask -/
theorem rngL {v : Int32} {n : Nat} (hn : n < 2147483648) (h0 : 0 ≤ v) (h : ¬ nI n ≤ v) : ∃ k, k < n ∧ v = nI k := by
  have h0' : ¬ v < 0 := Int32.not_lt.mpr h0
  obtain ⟨k, hk, rfl⟩ := nI_of h0'
  exact ⟨k, Nat.not_le.mp fun z => h ((nI_leI hn hk).mpr z), rfl⟩
theorem costI_cases (u : Nat → Nat) (f t n : Nat) : costI u f t n < 0 ∨ (n ≤ mny u f ∧ mny u t + n ≤ u 5 ∧ costI u f t n = nI (mins u f t n)) := by
  unfold costI
  by_cases h1 : mny u f < n
  · rw [if_pos h1]; exact Or.inl (by decide)
  · rw [if_neg h1]
    by_cases h2 : ¬ u 0 ≤ gap (kds u f (mny u f - n))
    · rw [if_pos h2]; exact Or.inl (by decide)
    · rw [if_neg h2]
      by_cases h3 : ¬ u 0 ≤ gap (kds u t (mny u t) ++ kdf u f (mny u f - n) n)
      · rw [if_pos h3]; exact Or.inl (by decide)
      · rw [if_neg h3]
        by_cases h4 : u 5 < mny u t + n
        · rw [if_pos h4]; exact Or.inl (by decide)
        · rw [if_neg h4]; exact Or.inr ⟨by omega, by omega, rfl⟩
theorem aCos_nn {u : Nat → Nat} {vf vt vn : Int32} (h4 : u 4 ≤ 4) (h : ¬ aCos u vf vt vn < 0) : ∃ f t n, vf = nI f ∧ vt = nI t ∧ vn = nI n ∧ f ≤ u 4 - 1 ∧ t ≤ u 4 - 1 ∧ f ≠ t ∧ 1 ≤ n ∧ n ≤ 8 ∧ n ≤ mny u f ∧ mny u t + n ≤ u 5 ∧ aCos u vf vt vn = nI (mins u f t n) := by
  unfold aCos at h ⊢
  by_cases ha : ((nI 0 ≤ vf ∧ vf ≤ nI (u 4 - 1)) ∧ (nI 0 ≤ vt ∧ vt ≤ nI (u 4 - 1)) ∧ vf ≠ vt ∧ nI 1 ≤ vn ∧ vn ≤ nI 8)
  · rw [if_pos ha] at h ⊢
    obtain ⟨h1, h2, h3, h5, h6⟩ := ha
    obtain ⟨f, -, f1, rfl⟩ := rngN (by omega) h1
    obtain ⟨t, -, t1, rfl⟩ := rngN (by omega) h2
    obtain ⟨n, n0, n1, rfl⟩ := rngN (by omega) ⟨h5, h6⟩
    rw [tOf_nI (by omega), tOf_nI (by omega), tOf_nI (by omega)] at h ⊢
    rcases costI_cases u f t n with z | ⟨z1, z2, z3⟩
    · exact absurd z h
    · exact ⟨f, t, n, rfl, rfl, rfl, f1, t1, fun e => h3 (by rw [e]), n0, n1, z1, z2, z3⟩
  · rw [if_neg ha] at h
    exact absurd (by decide) h
theorem mins_le {u : Nat → Nat} {f t n : Nat} (h2 : u 2 ≤ 20) (hf : f < 4) (ht : t < 4) (hn : n ≤ 8) : mins u f t n ≤ 39 := by
  unfold mins
  repeat' split
  all_goals omega
theorem fnP_at {u : Nat → Nat} {v : Int32} {t j n : Nat} (hj : j < n) (h0 : fnP u v t j = none) (h : nI (num u t j) = v) : fnP u v t n = some j := by
  induction n with
  | zero => omega
  | succ n ih =>
    unfold fnP
    by_cases e : j = n
    · subst e
      rw [h0]
      simp [h]
    · rw [ih (by omega)]
theorem fnT_at {u : Nat → Nat} {v : Int32} {t j n : Nat} (hj : t < n) (h0 : fnT u v t = none) (h : fnP u v t (mny u t) = some j) : fnT u v n = some (t, j) := by
  induction n with
  | zero => omega
  | succ n ih =>
    unfold fnT
    by_cases e : t = n
    · subst e
      rw [h0]
      simp [h]
    · rw [ih (by omega)]
theorem mufS_5 {u : Nat → Nat} {q n : Nat} (h : q ≤ n) (h5 : mufS u q = 5) : mufS u n = 5 := by
  induction n with
  | zero => rw [show q = 0 by omega] at h5; exact h5
  | succ n ih =>
    by_cases e : q = n + 1
    · subst e; exact h5
    · unfold mufS
      rw [if_pos (ih (by omega))]
theorem spr_le (u : Nat → Nat) (n : Nat) : spr u n ≤ n := by
  induction n with
  | zero => exact Nat.le_refl _
  | succ n ih => unfold spr; split <;> omega
theorem flG_lt {fl : Nat} (h : fl < 4) (i : Nat) : flG fl i < 2 := by
  unfold flG
  split <;> omega
theorem mf_4 {n : Nat} {fo : Int32} (h : (n = 4 ∧ fo = -9) ∨ (n < 4 ∧ fo = nI n)) (h2 : fo = -9) : n = 4 ∧ fo = -9 := by
  rcases h with h | ⟨h, e⟩
  · exact h
  · exact absurd (e.symm.trans h2) (nI_m9 (by omega))
theorem mf_5a {u : Nat → Nat} {q : Nat} {fo : Int32} (h : (mufS u q = 4 ∧ fo = -9) ∨ (mufS u q < 4 ∧ fo = nI (mufS u q))) (h2 : ¬ fo = -9) (hb : 0 < bnt u q) : mufS u (q + 1) = 5 := by
  rcases h with ⟨-, e⟩ | ⟨h, -⟩
  · exact absurd e h2
  · unfold mufS
    rw [if_neg (by omega), if_neg (by omega), if_pos (Or.inl (by omega))]
theorem mf_5b {u : Nat → Nat} {q : Nat} (hb : 0 < bnt u q) (hlt : bnt u q < mny u q) (hfo4 : mufS u q = 4) : mufS u (q + 1) = 5 := by
  unfold mufS
  rw [if_neg (by omega), if_neg (by omega), if_pos (Or.inr hlt)]
theorem mf_0 {u : Nat → Nat} {q : Nat} {fo : Int32} (hb : bnt u q = 0) (h : (mufS u q = 4 ∧ fo = -9) ∨ (mufS u q < 4 ∧ fo = nI (mufS u q))) : (mufS u (q + 1) = 4 ∧ fo = -9) ∨ (mufS u (q + 1) < 4 ∧ fo = nI (mufS u (q + 1))) := by
  have e : mufS u (q + 1) = mufS u q := by
    conv => lhs; unfold mufS
    rw [if_pos hb]
    split
    · omega
    · rfl
  rw [e]
  exact h
theorem mf_q {u : Nat → Nat} {q : Nat} (h4 : mufS u q = 4) (hb : 0 < bnt u q) (hge : mny u q ≤ bnt u q) (hq : q < 4) : (mufS u (q + 1) = 4 ∧ nI q = -9) ∨ (mufS u (q + 1) < 4 ∧ nI q = nI (mufS u (q + 1))) := by
  have e : mufS u (q + 1) = q := by
    unfold mufS
    rw [if_neg (by omega), if_neg (by omega), if_neg (by omega)]
  rw [e]
  exact Or.inr ⟨hq, rfl⟩
