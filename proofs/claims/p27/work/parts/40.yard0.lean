/-! the landed class's yard beside the reference's row u -/
def enc (u : Nat → Nat) (t k : Nat) : Nat := (num u t k * 6 + dst u t k) * 3 + knd u t k
def YA (u st ds le wg : Nat → Nat) : Prop := (∀ k, k < 4 → st k = u k) ∧ (∀ k, k < u 12 → ds k = u (13 + k)) ∧ (∀ t, t < u 4 → le t = mny u t) ∧ ∀ t k, t < u 4 → k < mny u t → wg (t * 8 + k) = enc u t k
theorem yst {u st ds le wg : Nat → Nat} (h : YA u st ds le wg) {k : Nat} (hk : k < 4) : nI (st k) = nI (u k) := congrArg nI (h.1 k hk)
theorem yds {u st ds le wg : Nat → Nat} (h : YA u st ds le wg) {k : Nat} (hk : k < u 12) : nI (ds k) = nI (u (13 + k)) := congrArg nI (h.2.1 k hk)
theorem yle {u st ds le wg : Nat → Nat} (h : YA u st ds le wg) {t : Nat} (ht : t < u 4) : nI (le t) = nI (mny u t) := congrArg nI (h.2.2.1 t ht)
theorem ywg {u st ds le wg : Nat → Nat} (h : YA u st ds le wg) {t k : Nat} (ht : t < u 4) (hk : k < mny u t) : nI (wg (t * 8 + k)) = nI (enc u t k) := congrArg nI (h.2.2.2 t k ht hk)
def gok (s : Nat × Nat × Nat) (k : Nat) : Prop := s.1 ≤ 99 ∧ s.2.1 < 3 ∧ s.2.2 ≤ k
theorem gok_step {s : Nat × Nat × Nat} {k x : Nat} (h : gok s k) (hx : x < 3) : gok (gstep s x) (k + 1) := by
  refine ⟨gstep_le h.1, ?_, ?_⟩
  · unfold gstep
    split
    · exact h.2.1
    · exact hx
  · unfold gstep
    split
    · exact Nat.succ_le_succ h.2.2
    · exact Nat.zero_le _
theorem kdf_fold (u : Nat → Nat) (t i n : Nat) (s : Nat × Nat × Nat) : (kdf u t i (n + 1)).foldl gstep s = gstep ((kdf u t i n).foldl gstep s) (knd u t (i + n)) := by rw [kdf_succ, List.foldl_append]; rfl
theorem kdf_0 (u : Nat → Nat) (t n : Nat) : kdf u t 0 n = kds u t n := by
  unfold kdf kds
  exact List.map_congr_left fun j _ => by rw [Nat.zero_add]
theorem enc_k {u : Nat → Nat} {t k : Nat} (h : knd u t k < 3) : enc u t k % 3 = knd u t k := by unfold enc; omega
theorem enc_d {u : Nat → Nat} {t k : Nat} (h : knd u t k < 3) (h2 : dst u t k < 6) : enc u t k / 3 % 6 = dst u t k := by unfold enc; omega
theorem enc_n {u : Nat → Nat} {t k : Nat} (h : knd u t k < 3) (h2 : dst u t k < 6) : enc u t k / 18 = num u t k := by unfold enc; omega
/-- the numbers are small enough for one int -/
def GN (u : Nat → Nat) : Prop := ∀ t k, t < 4 → k < 8 → num u t k ≤ 600000
theorem enc_b {u : Nat → Nat} {t k : Nat} (hG : GU u) (hN : GN u) (ht : t < 4) (hk : k < 8) : enc u t k < 2147483648 ∧ knd u t k < 3 ∧ dst u t k < 6 := by
  have h1 := hN t k ht hk
  have h2 := hG.2.2.2.2.2.1 t k ht hk
  unfold enc
  omega
theorem isb_2 (u : Nat → Nat) (f t n : Nat) (hn : n ≤ mny u f) : ((kdf u f (mny u f - n) (mny u f - (mny u f - n))).foldl gstep (((kdf u t 0 (mny u t - 0)).foldl gstep (99, 0, 0)).1, ((kdf u t 0 (mny u t - 0)).foldl gstep (99, 0, 0)).2.1, ((kdf u t 0 (mny u t - 0)).foldl gstep (99, 0, 0)).2.2)).1 = gap (kds u t (mny u t) ++ kdf u f (mny u f - n) n) := by
  unfold gap gfold
  rw [List.foldl_append, Nat.sub_zero, kdf_0, show mny u f - (mny u f - n) = n by omega]
theorem abs_sub {f t : Nat} (hf : f < 4) (ht : t < 4) : (if 0 ≤ nI f - nI t then nI f - nI t else 0 - (nI f - nI t)) = nI (if t < f then f - t else t - f) := by
  rcases (show f = 0 ∨ f = 1 ∨ f = 2 ∨ f = 3 by omega) with rfl | rfl | rfl | rfl <;> rcases (show t = 0 ∨ t = 1 ∨ t = 2 ∨ t = 3 by omega) with rfl | rfl | rfl | rfl <;> decide
theorem min_a {u : Nat → Nat} {f t n q : Nat} (h : knd u f (mny u f - n + q) = 2) (hq : q < n) : u 2 + n + 2 * (if t < f then f - t else t - f) + 5 = mins u f t n := by
  unfold mins
  rw [if_pos (show 2 ∈ kdf u f (mny u f - n) n from List.mem_map.mpr ⟨q, List.mem_range.mpr hq, h⟩)]
theorem min_b {u : Nat → Nat} {f t n q : Nat} (hq : q = n) (h : ∀ j, j < q → knd u f (mny u f - n + j) ≠ 2) : u 2 + n + 2 * (if t < f then f - t else t - f) = mins u f t n := by
  subst hq
  have hz : ¬ 2 ∈ kdf u f (mny u f - q) q := fun z => by
    obtain ⟨j, hj, e⟩ := List.mem_map.mp z
    exact h j (List.mem_range.mp hj) e
  unfold mins
  rw [if_neg hz, Nat.add_zero]
