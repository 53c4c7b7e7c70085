theorem spr_gt {s k : Nat} (hs : s ≤ 4) (hk : k ≤ 4) : nI k < nI s - nI 1 ↔ k < s - 1 := by
  rcases (show s = 0 ∨ s = 1 ∨ s = 2 ∨ s = 3 ∨ s = 4 by omega) with rfl | rfl | rfl | rfl | rfl <;> rcases (show k = 0 ∨ k = 1 ∨ k = 2 ∨ k = 3 ∨ k = 4 by omega) with rfl | rfl | rfl | rfl | rfl <;> decide
def nxN (mf n : Nat) : Nat := if mf < n + 1 then 1 else n + 1
def nxT1 (mf t n : Nat) : Nat := if mf < n + 1 then t + 1 else t
def nxT (K mf t n : Nat) : Nat := if nxT1 mf t n = K then 0 else nxT1 mf t n
def nxF (K mf f t n : Nat) : Nat := if nxT1 mf t n = K then f + 1 else f
def noteC (bm : Int32) (bn k m : Nat) : Prop := bm = -9 ∨ m < bn ∨ (m = bn ∧ ¬ bm ≤ nI k)
theorem noteC_no {bm : Int32} {bn k m : Nat} (h1 : ¬ bm = -9) (h2 : bn ≤ m) (h3 : m ≠ bn ∨ bm ≤ nI k) : ¬ noteC bm bn k m := by
  rintro (h | h | ⟨h, h4⟩)
  · exact h1 h
  · omega
  · rcases h3 with h3 | h3
    · exact h3 h
    · exact h4 h3
theorem nq_decZ {x : Nat} {dd : Int} (h : Int32.ofInt dd = -1) : nI x + Int32.ofInt dd = nI x - 1 := by rw [h, Int32.sub_eq_add_neg]
/-- what the reference's calls about a yard want of it -/
def BPs (u : Nat → Nat) : Prop := u 4 ≤ 4 ∧ (∀ t, t < 4 → mny u t ≤ 8) ∧ (∀ t j, t < 4 → j < 8 → dst u t j < 6) ∧ u 13 < 6 ∧ u 12 ≤ 10
def skpC (u : Nat → Nat) (f t n : Nat) (bm : Int32) (bn mi : Nat) : Prop := costI u f t n < 0 ∨ (¬ bm = -9 ∧ bn < mi + mins u f t n)
def wiC (u : Nat → Nat) (k : Nat) : Prop := 0 < k ∧ spr u (u 4) - 1 ≤ k ∧ muf u = -9
/-- the best row behind note(k, mi) at the yard u, tr the rows tried -/
def noted (u : Nat → Nat) (k mi : Nat) (tr be : Nat → Nat) (bm : Int32) (bn : Nat) (be2 : Nat → Nat) (bm2 : Int32) (bn2 : Nat) : Prop :=
  ((noteC bm bn k mi ∧ ¬ muf u = -9) → be2 = va_cpy tr be 0 0 9 ∧ bm2 = nI k ∧ bn2 = mi) ∧ (¬ (noteC bm bn k mi ∧ ¬ muf u = -9) → be2 = be ∧ bm2 = bm ∧ bn2 = bn)
