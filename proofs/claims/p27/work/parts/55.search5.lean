/-! the bound as the class counts it -/
def isW (u : Nat → Nat) (t j : Nat) : Bool := decide (dst u t j = u 13)
def mnS (p : Nat → Nat → Bool) (L : Nat → Nat) (t : Nat) : Nat → Nat × Bool
  | 0 => ((if (cwt (p t) (L t)).2.1 < L t then 1 else 0), decide ((cwt (p t) (L t)).2.1 < (cwt (p t) (L t)).1))
  | z + 1 => if z ≠ t ∧ 0 < (cwt (p z) (L z)).1 then ((mnS p L t z).1 + 1, (mnS p L t z).2 || decide ((cwt (p z) (L z)).2.2 < (cwt (p z) (L z)).1)) else mnS p L t z
def nd (p : Nat → Nat → Bool) (L : Nat → Nat) (K t : Nat) : Nat := if (mnS p L t K).2 = true then (mnS p L t K).1 + 1 else (mnS p L t K).1
def ndM (p : Nat → Nat → Bool) (L : Nat → Nat) (K : Nat) : Nat → Nat
  | 0 => nd p L K 0
  | k + 1 => Nat.min (ndM p L K k) (nd p L K (k + 1))
def needU (u : Nat → Nat) : Nat := ndM (isW u) (mny u) (u 4) (u 4 - 1)
section ND
variable {p : Nat → Nat → Bool} {L : Nat → Nat} {K t : Nat}
theorem mnS_eq (k : Nat) : (mnS p L t k).1 = bi (hU (p t) (L t)) + sE (fun z => bi (z ≠ t ∧ hW (p z) (L z))) k ∧ ((mnS p L t k).2 = true ↔ nMix p L k t) := by
  induction k with
  | zero =>
    have h := cwt_ok (p t) (L t)
    constructor
    · show (if _ then 1 else 0) = _ + 0
      rcases Classical.em (hU (p t) (L t)) with z | z
      · rw [bi_1 z, if_pos (h.2.2.2.2.1.mpr z)]
      · rw [bi_0 z, if_neg (fun w => z (h.2.2.2.2.1.mp w))]
    · show decide _ = true ↔ _
      rw [decide_eq_true_iff, h.2.2.2.2.2.1]
      exact ⟨fun z => Or.inl z, fun z => z.elim id (fun ⟨y, hy, _⟩ => absurd hy (Nat.not_lt_zero _))⟩
  | succ k ih =>
    have h := cwt_ok (p k) (L k)
    have hmix : nMix p L (k + 1) t ↔ nMix p L k t ∨ (k ≠ t ∧ hO (p k) (L k)) := by
      constructor
      · rintro (z | ⟨y, h1, h2, h3⟩)
        · exact Or.inl (Or.inl z)
        · by_cases e : y = k
          · subst e; exact Or.inr ⟨h2, h3⟩
          · exact Or.inl (Or.inr ⟨y, by omega, h2, h3⟩)
      · rintro ((z | ⟨y, h1, h2, h3⟩) | ⟨h2, h3⟩)
        · exact Or.inl z
        · exact Or.inr ⟨y, by omega, h2, h3⟩
        · exact Or.inr ⟨k, by omega, h2, h3⟩
    rw [hmix]
    unfold mnS sE
    by_cases e : k ≠ t ∧ 0 < (cwt (p k) (L k)).1
    · rw [if_pos e, bi_1 (P := k ≠ t ∧ hW (p k) (L k)) ⟨e.1, h.2.2.2.1.mp e.2⟩]
      dsimp only
      refine ⟨by omega, ?_⟩
      rw [Bool.or_eq_true, ih.2, decide_eq_true_iff, h.2.2.2.2.2.2]
      exact or_congr_right ⟨fun z => ⟨e.1, z⟩, fun z => z.2⟩
    · rw [if_neg e, bi_0 (P := k ≠ t ∧ hW (p k) (L k)) (fun z => e ⟨z.1, h.2.2.2.1.mpr z.2⟩)]
      refine ⟨by omega, ?_⟩
      rw [ih.2]
      exact ⟨fun z => Or.inl z, fun z => z.elim id (fun y => absurd ⟨y.1, h.2.2.2.1.mpr (hO_W y.2)⟩ e)⟩
theorem nd_eq : nd p L K t = nNeed p L K t := by
  have h := mnS_eq (p := p) (L := L) (t := t) K
  unfold nd nNeed
  rcases Classical.em (nMix p L K t) with z | z
  · rw [if_pos (h.2.mpr z), bi_1 z, h.1]
  · rw [if_neg (fun w => z (h.2.mp w)), bi_0 z, h.1]; rfl
theorem ndM_le (k : Nat) : ∀ t, t ≤ k → ndM p L K k ≤ nd p L K t := by
  induction k with
  | zero => intro t ht; rw [show t = 0 by omega]; exact Nat.le_refl _
  | succ k ih =>
    intro t ht
    show Nat.min _ _ ≤ _
    by_cases e : t = k + 1
    · subst e; exact Nat.min_le_right _ _
    · exact Nat.le_trans (Nat.min_le_left _ _) (ih t (by omega))
theorem ndM_at (k : Nat) : ∃ t, t ≤ k ∧ ndM p L K k = nd p L K t := by
  induction k with
  | zero => exact ⟨0, Nat.le_refl _, rfl⟩
  | succ k ih =>
    obtain ⟨t, h1, h2⟩ := ih
    rcases Nat.le_total (ndM p L K k) (nd p L K (k + 1)) with z | z
    · exact ⟨t, by omega, (Nat.min_eq_left z).trans h2⟩
    · exact ⟨k + 1, Nat.le_refl _, Nat.min_eq_right z⟩
theorem nd_b (k : Nat) : (mnS p L t k).1 ≤ k + 1 := by
  induction k with
  | zero => show (if _ then 1 else 0) ≤ _; split <;> omega
  | succ k ih => unfold mnS; split <;> first | (show _ + 1 ≤ _; omega) | omega
end ND
theorem needU_step {u : Nat → Nat} {f t n : Nat} (hC : Cw u) (ho : okM u f t n) : needU u ≤ needU (nxU u f t n) + 1 := by
  obtain ⟨h4, h5, h8⟩ := id hC
  obtain ⟨hf, ht, hne, hn1, hn, -⟩ := id ho
  have hfit := (okM_fit ho).1
  unfold needU
  rw [nx_4]
  obtain ⟨z, hz, e⟩ := ndM_at (p := isW (nxU u f t n)) (L := mny (nxU u f t n)) (K := u 4) (u 4 - 1)
  rw [e, nd_eq]
  refine Nat.le_trans (ndM_le (u 4 - 1) z hz) ?_
  rw [nd_eq]
  refine need_step (f := f) (a := t) (n := n) hf ht (by omega) hne hn (carU_mny_f (by omega) (by omega) hne) (carU_mny_t (by omega) (by omega) hne) (fun z hz h1 h2 => carU_mny_o (by omega) (by omega) (by omega) h1 h2 (by omega)) (fun z j hz hj h1 => ?_) (fun j hj => ?_)
  · have hj8 : j < 8 := Nat.lt_of_lt_of_le hj ((nx_Cw hC ho).2.2 z (by omega))
    unfold isW
    rw [nx_13]
    have e1 : dst (nxU u f t n) z j = dst u z j := by
      rw [nx_dst hC ho (by omega) hj8, if_neg]
      rintro ⟨rfl, h2, h3⟩
      rcases h1 with h1 | h1
      · exact h1 rfl
      · omega
    rw [e1]
  · unfold isW
    rw [nx_13]
    have e1 : dst (nxU u f t n) t (mny u t + j) = dst u f (mny u f - n + j) := by
      rw [nx_dst hC ho (by omega) (by omega), if_pos ⟨rfl, by omega, by omega⟩]
      exact congrArg (dst u f) (by omega)
    rw [e1]
theorem bnd_all {u : Nat → Nat} {t d n : Nat} (h : n ≤ bnd u t d n) : ∀ j, j < n → dst u t j = d := by
  induction n with
  | zero => intro j hj; omega
  | succ n ih =>
    intro j hj
    have hb := bnd_le u t d n
    unfold bnd at h
    by_cases e : dst u t n = d
    · rw [if_pos e] at h
      by_cases e2 : j = n
      · subst e2; exact e
      · exact ih (by omega) j (by omega)
    · rw [if_neg e] at h
      omega
theorem mufS_at (u : Nat → Nat) (n : Nat) (hn : n ≤ 4) : (mufS u n = 4 → ∀ z, z < n → bnt u z = 0) ∧ (mufS u n < 4 → mufS u n < n ∧ mny u (mufS u n) ≤ bnt u (mufS u n) ∧ ∀ z, z < n → z ≠ mufS u n → bnt u z = 0) := by
  induction n with
  | zero => exact ⟨fun _ z hz => absurd hz (Nat.not_lt_zero _), fun h => absurd (show (4 : Nat) < 4 from h) (by decide)⟩
  | succ n ih =>
    obtain ⟨i1, i2⟩ := ih (by omega)
    unfold mufS
    by_cases h5 : mufS u n = 5
    · rw [if_pos h5]
      exact ⟨fun h => absurd h (by decide), fun h => absurd h (by decide)⟩
    · rw [if_neg h5]
      by_cases h0 : bnt u n = 0
      · rw [if_pos h0]
        refine ⟨fun h z hz => ?_, fun h => ?_⟩
        · by_cases e : z = n
          · subst e; exact h0
          · exact i1 h z (by omega)
        · obtain ⟨j1, j2, j3⟩ := i2 h
          refine ⟨by omega, j2, fun z hz hne => ?_⟩
          by_cases e : z = n
          · subst e; exact h0
          · exact j3 z (by omega) hne
      · rw [if_neg h0]
        by_cases h4 : mufS u n ≠ 4 ∨ bnt u n < mny u n
        · rw [if_pos h4]
          exact ⟨fun h => absurd h (by decide), fun h => absurd h (by decide)⟩
        · rw [if_neg h4]
          have h44 : mufS u n = 4 := Classical.byContradiction fun z => h4 (Or.inl z)
          refine ⟨fun h => absurd h (by omega), fun _ => ⟨by omega, ?_, fun z hz hne => i1 h44 z (by omega)⟩⟩
          rcases Nat.lt_or_ge (bnt u n) (mny u n) with y | y
          · exact absurd (Or.inr y) h4
          · exact y
theorem need_made {u : Nat → Nat} (h4 : u 4 ≤ 4) (h : ¬ muf u = -9) : needU u = 0 := by
  have hm : u 12 ≠ 0 ∧ mufS u (u 4) < 4 := by
    unfold muf at h
    by_cases e : u 12 = 0
    · rw [if_pos e] at h; exact absurd rfl h
    · rw [if_neg e] at h
      refine ⟨e, ?_⟩
      rcases Nat.lt_or_ge (mufS u (u 4)) 4 with y | y
      · exact y
      · rw [if_neg (by omega)] at h; exact absurd rfl h
  obtain ⟨h1, h2, h3⟩ := (mufS_at u (u 4) h4).2 hm.2
  refine Nat.le_zero.mp (Nat.le_trans (ndM_le (u 4 - 1) (mufS u (u 4)) (by omega)) ?_)
  rw [nd_eq]
  have hall := bnd_all h2
  have hnU : ¬ hU (isW u (mufS u (u 4))) (mny u (mufS u (u 4))) := fun ⟨j, j1, j2⟩ => by
    unfold isW at j2
    rw [decide_eq_false_iff_not] at j2
    exact j2 (hall j j1)
  have hnW : ∀ z, z < u 4 → z ≠ mufS u (u 4) → ¬ hW (isW u z) (mny u z) := fun z hz hne ⟨j, j1, j2⟩ => by
    unfold isW at j2
    rw [decide_eq_true_iff] at j2
    exact bnd_zero (h3 z hz hne) j1 j2
  have hs : ∀ k, k ≤ u 4 → sE (fun z => bi (z ≠ mufS u (u 4) ∧ hW (isW u z) (mny u z))) k = 0 := fun k => by
    induction k with
    | zero => intro _; rfl
    | succ k ih =>
      intro hk
      show sE _ k + bi _ = 0
      rw [ih (by omega), bi_0 (fun w => hnW k (by omega) w.1 w.2)]
  unfold nNeed
  rw [bi_0 hnU, hs _ (Nat.le_refl _), bi_0]
  · exact Nat.le_refl _
  · rintro (z | ⟨z, z1, z2, z3⟩)
    · exact hnU (hI_U z)
    · exact hnW z z1 z2 (hO_W z3)
/-- too few moves left -/
theorem vis_need {b : BST} {d : Nat} {u : Nat → Nat} {m : Nat} {row : List MV} (hC : Cw u) (h : d < needU u) : vis d u row m b = b :=
  vis_id (b := b) (fun d u _ => Cw u ∧ d < needU u) (fun d u m row h1 h2 => by rw [need_made h1.1.1 h2] at h1; exact absurd h1.2 (Nat.not_lt_zero _)) (fun d u m f t n h1 ho => ⟨nx_Cw h1.1 ho, by have := needU_step h1.1 ho; omega⟩) d u m row ⟨hC, h⟩
theorem mins_ge {u : Nat → Nat} {f t n : Nat} (hne : f ≠ t) (hn : 1 ≤ n) : u 2 + 3 ≤ mins u f t n := by
  unfold mins
  have : 1 ≤ (if t < f then f - t else t - f) := by split <;> omega
  omega
/-- too many minutes needed -/
theorem vis_costly {d : Nat} {u : Nat → Nat} {m bm : Nat} {row r : List MV} (hC : Cw u) (h : bm < m + needU u * (u 2 + 3)) : vis d u row m (some (bm, r)) = some (bm, r) :=
  vis_id (b := some (bm, r)) (fun _ u m => Cw u ∧ bm < m + needU u * (u 2 + 3)) (fun d u m row h1 h2 => by
    have h3 := h1.2
    rw [need_made h1.1.1 h2, Nat.zero_mul] at h3
    unfold rec1
    rw [if_neg]
    unfold btr
    dsimp only
    rw [decide_eq_false (by omega), decide_eq_false (show ¬ m = bm by omega)]
    rw [Bool.false_and, Bool.or_false]
    decide) (fun d u m f t n h1 ho => ⟨nx_Cw h1.1 ho, by
    have h2 := needU_step h1.1 ho
    have h3 := mins_ge (u := u) ho.2.2.1 ho.2.2.2.1
    have h4 := h1.2
    rw [nx_2]
    have h5 : needU u * (u 2 + 3) ≤ (needU (nxU u f t n) + 1) * (u 2 + 3) := Nat.mul_le_mul_right _ h2
    rw [Nat.add_mul, Nat.one_mul] at h5
    omega⟩) d u m row ⟨hC, h⟩
