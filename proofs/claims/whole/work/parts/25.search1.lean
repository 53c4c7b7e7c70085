theorem spr_gt {s k : Nat} (hs : s ≤ 4) (hk : k ≤ 4) : nI k < nI s - nI 1 ↔ k < s - 1 := by
  rcases (show s = 0 ∨ s = 1 ∨ s = 2 ∨ s = 3 ∨ s = 4 by omega) with rfl | rfl | rfl | rfl | rfl <;> rcases (show k = 0 ∨ k = 1 ∨ k = 2 ∨ k = 3 ∨ k = 4 by omega) with rfl | rfl | rfl | rfl | rfl <;> decide
def nxN (mf n : Nat) : Nat := if mf < n + 1 then 1 else n + 1
def nxT1 (mf t n : Nat) : Nat := if mf < n + 1 then t + 1 else t
def nxT (K mf t n : Nat) : Nat := if nxT1 mf t n = K then 0 else nxT1 mf t n
def nxF (K mf f t n : Nat) : Nat := if nxT1 mf t n = K then f + 1 else f
def noteC (bm : Int32) (bn k m : Nat) : Prop := bm = -9 ∨ m < bn ∨ (m = bn ∧ ¬ bm ≤ nI k)
theorem noteC_no {bm : Int32} {bn k m : Nat} (h1 : ¬ bm = -9) (h2 : bn ≤ m) (h3 : m ≠ bn ∨ bm ≤ nI k) : ¬ noteC bm bn k m := by
  rintro (h | h | ⟨h, h4⟩)
  · exact h1 h
  · omega
  · rcases h3 with h3 | h3
    · exact h3 h
    · exact h4 h3
