/-! the past: the class's ring beside the reference's rows -/
def rowP (pa : Nat → Nat) (i : Nat) : Nat → Nat := fun j => pa (131 * i + j)
theorem mny_congr {u w : Nat → Nat} (h : ∀ j, j < 131 → u j = w j) {t : Nat} (ht : t < 4) : mny u t = mny w t := by
  unfold mny
  exact h _ (by omega)
theorem YRel_congr {y : YT} {u w : Nat → Nat} (h : ∀ j, j < 131 → u j = w j) (hG : GU u) (hR : YRel y u) : YRel y w := by
  obtain ⟨a, st, ds, le, wg, te, K, C, ck, mv, mm, tg, gn, wc, tn, g1, g2, g3⟩ := y
  obtain ⟨⟨y1, y2, y3, y4⟩, r1, r2, r3, r4, r5, r6, r7, r8, r9, r10⟩ := hR
  have h4 := hG.1
  have h12 := hG.2.2.2.2.2.2.2
  have e4 := h 4 (by omega)
  have e12 := h 12 (by omega)
  refine ⟨⟨fun k hk => (y1 k hk).trans (h k (by omega)), fun k hk => (y2 k (by omega)).trans (h _ (by omega)), fun t ht => (y3 t (by omega)).trans (mny_congr h (by omega)), fun t k ht hk => ?_⟩, r1.trans e4, r2.trans (h 5 (by omega)), r3.trans e12, r4.trans (h 6 (by omega)), r5.trans (h 8 (by omega)), r6.trans (h 9 (by omega)), r7.trans (h 10 (by omega)), r8.trans (h 11 (by omega)), r9.trans (h 7 (by omega)), fun t ht => ?_⟩
  · rw [← mny_congr h (by omega)] at hk
    have h8 := hG.2.2.2.2.1 t (by omega)
    rw [y4 t k (by omega) hk]
    unfold enc num dst knd
    rw [h _ (by omega), h _ (by omega), h _ (by omega)]
  · rw [r10 t (by omega)]
    unfold tst tat
    rw [h _ (by omega), h _ (by omega)]
def HR (hs : Nat → Option YT) (f : Nat → Option Nat) (nx ct : Nat) (pa : Nat → Nat) (pm : Nat) : Prop :=
  nx < 8 ∧ ct = pm ∧ pm ≤ 8 ∧ (∀ k, k < 8 → f k = adO (hs k)) ∧ ∀ i, i < pm → GU (rowP pa i) ∧ ∃ y, hs ((nx + 8 - pm + i) % 8) = some y ∧ YRel y (rowP pa i)
theorem GU_congr {u w : Nat → Nat} (h : ∀ j, j < 131 → u j = w j) (hG : GU u) : GU w := by
  obtain ⟨a1, a2, a3, a4, a5, a6, a7, a8⟩ := hG
  refine ⟨by rw [← h 4 (by omega)]; exact a1, by rw [← h 5 (by omega)]; exact a2, by rw [← h 2 (by omega)]; exact a3, by rw [← h 0 (by omega)]; exact a4, fun t ht => by rw [← mny_congr h ht]; exact a5 t ht, fun t j ht hj => ?_, by rw [← h 13 (by omega)]; exact a7, by rw [← h 12 (by omega)]; exact a8⟩
  have := a6 t j ht hj
  unfold dst knd at *
  rw [← h _ (by omega), ← h _ (by omega)]
  exact this
theorem HR_add {hs hs2 : Nat → Option YT} {f f2 : Nat → Option Nat} {nx ct pm : Nat} {u pa : Nat → Nat} {y : YT} (h : HR hs f nx ct pa pm) (h1 : ∀ k, k < 8 → f2 k = adO (hs2 k)) (h2 : ∀ k, k ≠ nx → hs2 k = hs k) (h3 : hs2 nx = some y) (hG : GU u) (hR : YRel y u) : HR hs2 f2 ((nx + 1) % 8) (Nat.min (ct + 1) 8) (remP u pa pm) (remN pm) := by
  obtain ⟨b1, b2, b3, b4, b5⟩ := h
  subst b2
  by_cases e : ct = 8
  · subst e
    have en : remN 8 = 8 := rfl
    rw [en]
    refine ⟨by omega, rfl, by omega, h1, fun i hi => ?_⟩
    by_cases e7 : i = 7
    · subst e7
      have hc : ∀ j, j < 131 → u j = rowP (remP u pa 8) 7 j := fun j hj => by
        unfold rowP remP
        rw [if_pos rfl, pk_cpy_in (by omega) (by omega)]
        exact congrArg u (by omega)
      refine ⟨GU_congr hc hG, y, ?_, YRel_congr hc hG hR⟩
      rw [show ((nx + 1) % 8 + 8 - 8 + 7) % 8 = nx by omega]
      exact h3
    · have hc : ∀ j, j < 131 → rowP pa (i + 1) j = rowP (remP u pa 8) i j := fun j hj => by
        unfold rowP remP
        rw [if_pos rfl, pk_cpy_out (by omega), pk_cpy_in (by omega) (by omega)]
        exact congrArg pa (by omega)
      obtain ⟨c1, z, c2, c3⟩ := b5 (i + 1) (by omega)
      refine ⟨GU_congr hc c1, z, ?_, YRel_congr hc c1 c3⟩
      rw [h2 _ (by omega), ← c2]
      exact congrArg hs (by omega)
  · have en : remN ct = ct + 1 := if_neg e
    rw [en]
    refine ⟨by omega, ?_, by omega, h1, fun i hi => ?_⟩
    · exact Nat.min_eq_left (by omega)
    · by_cases e7 : i = ct
      · subst e7
        have hc : ∀ j, j < 131 → u j = rowP (remP u pa i) i j := fun j hj => by
          unfold rowP remP
          rw [if_neg e, pk_cpy_in (by omega) (by omega)]
          exact congrArg u (by omega)
        refine ⟨GU_congr hc hG, y, ?_, YRel_congr hc hG hR⟩
        rw [show ((nx + 1) % 8 + 8 - (i + 1) + i) % 8 = nx by omega]
        exact h3
      · have hc : ∀ j, j < 131 → rowP pa i j = rowP (remP u pa ct) i j := fun j hj => by
          unfold rowP remP
          rw [if_neg e, pk_cpy_out (by omega)]
        obtain ⟨c1, z, c2, c3⟩ := b5 i (by omega)
        refine ⟨GU_congr hc c1, z, ?_, YRel_congr hc c1 c3⟩
        rw [h2 _ (by omega), ← c2]
        exact congrArg hs (by omega)
theorem HR_undo {hs : Nat → Option YT} {f : Nat → Option Nat} {nx ct pm : Nat} {pa : Nat → Nat} (h : HR hs f nx ct pa pm) (h1 : 1 ≤ pm) : HR hs f ((nx + 8 - 1) % 8) (ct - 1) pa (pm - 1) ∧ GU (rowP pa (pm - 1)) ∧ ∃ y, hs ((nx + 8 - 1) % 8) = some y ∧ YRel y (rowP pa (pm - 1)) := by
  obtain ⟨b1, b2, b3, b4, b5⟩ := h
  obtain ⟨c1, z, c2, c3⟩ := b5 (pm - 1) (by omega)
  refine ⟨⟨by omega, by omega, by omega, b4, fun i hi => ?_⟩, c1, z, ?_, c3⟩
  · obtain ⟨d1, y, d2, d3⟩ := b5 i (by omega)
    refine ⟨d1, y, ?_, d3⟩
    rw [← d2]
    exact congrArg hs (by omega)
  · rw [← c2]
    exact congrArg hs (by omega)
def IR (is : Nat → Option YT) (fi : Nat → Option Nat) (im : Nat → Nat) (fl : Nat) : Prop :=
  fl < 4 ∧ (∀ k, k < 2 → fi k = adO (is k)) ∧ ∀ i, i < 2 → (flG fl i = 0 → is i = none) ∧ (flG fl i ≠ 0 → GU (rowP im i) ∧ ∃ y, is i = some y ∧ YRel y (rowP im i))
theorem flG_flS {fl i k : Nat} (_hf : fl < 4) (hi : i < 2) (hk : k < 2) : (k = i → flG (flS fl i) k ≠ 0) ∧ (k ≠ i → flG (flS fl i) k = flG fl k) ∧ flS fl i < 4 := by
  unfold flG flS
  rcases (show i = 0 ∨ i = 1 by omega) with rfl | rfl <;> rcases (show k = 0 ∨ k = 1 by omega) with rfl | rfl
  · simp only [if_true]; refine ⟨fun _ => ?_, fun h => absurd rfl h, ?_⟩ <;> split <;> omega
  · simp only [if_true, if_neg (show ¬ (1 : Nat) = 0 by decide)]; refine ⟨fun h => absurd h (by decide), fun _ => ?_, ?_⟩ <;> split <;> omega
  · simp only [if_true, if_neg (show ¬ (1 : Nat) = 0 by decide)]; refine ⟨fun h => absurd h (by decide), fun _ => ?_, ?_⟩ <;> split <;> omega
  · simp only [if_neg (show ¬ (1 : Nat) = 0 by decide)]; refine ⟨fun _ => ?_, fun h => absurd rfl h, ?_⟩ <;> split <;> omega
theorem IR_keep {is is2 : Nat → Option YT} {fi fi2 : Nat → Option Nat} {im u : Nat → Nat} {fl i : Nat} {y : YT} (h : IR is fi im fl) (hi : i < 2) (h1 : ∀ k, k < 2 → fi2 k = adO (is2 k)) (h2 : ∀ k, k ≠ i → is2 k = is k) (h3 : is2 i = some y) (hG : GU u) (hR : YRel y u) : IR is2 fi2 (va_cpy u im 0 (131 * i) 131) (flS fl i) := by
  obtain ⟨b1, b2, b3⟩ := h
  refine ⟨(flG_flS b1 hi hi).2.2, h1, fun k hk => ?_⟩
  obtain ⟨c1, c2, -⟩ := flG_flS b1 hi hk
  by_cases e : k = i
  · subst e
    refine ⟨fun z => absurd z (c1 rfl), fun _ => ?_⟩
    have hc : ∀ j, j < 131 → u j = rowP (va_cpy u im 0 (131 * k) 131) k j := fun j hj => by
      unfold rowP
      rw [pk_cpy_in (by omega) (by omega)]
      exact congrArg u (by omega)
    exact ⟨GU_congr hc hG, y, h3, YRel_congr hc hG hR⟩
  · rw [c2 e, h2 k e]
    obtain ⟨d1, d2⟩ := b3 k hk
    refine ⟨d1, fun z => ?_⟩
    obtain ⟨e1, y2, e2, e3⟩ := d2 z
    have hc : ∀ j, j < 131 → rowP im k j = rowP (va_cpy u im 0 (131 * i) 131) k j := fun j hj => by
      unfold rowP
      rw [pk_cpy_out (by omega)]
    exact ⟨GU_congr hc e1, y2, e2, YRel_congr hc e1 e3⟩
