/-! the class cuts its search short by a lower bound on the moves that are still needed; why that loses nothing -/
def cwt (p : Nat → Bool) : Nat → Nat × Nat × Nat
  | 0 => (0, 0, 0)
  | k + 1 => if p k = true then ((cwt p k).1 + 1, (if (cwt p k).2.1 = k then k + 1 else (cwt p k).2.1), (cwt p k).2.2 + 1) else ((cwt p k).1, (cwt p k).2.1, 0)
def hW (p : Nat → Bool) (k : Nat) : Prop := ∃ j, j < k ∧ p j = true
def hU (p : Nat → Bool) (k : Nat) : Prop := ∃ j, j < k ∧ p j = false
def hI (p : Nat → Bool) (k : Nat) : Prop := ∃ i j, i < j ∧ j < k ∧ p i = false ∧ p j = true
def hO (p : Nat → Bool) (k : Nat) : Prop := ∃ i j, i < j ∧ j < k ∧ p i = true ∧ p j = false
theorem hW_up {p : Nat → Bool} {k : Nat} : hW p (k + 1) ↔ hW p k ∨ p k = true := by
  constructor
  · rintro ⟨j, h1, h2⟩
    by_cases e : j = k
    · subst e; exact Or.inr h2
    · exact Or.inl ⟨j, by omega, h2⟩
  · rintro (⟨j, h1, h2⟩ | h)
    · exact ⟨j, by omega, h2⟩
    · exact ⟨k, by omega, h⟩
theorem hU_up {p : Nat → Bool} {k : Nat} : hU p (k + 1) ↔ hU p k ∨ p k = false := by
  constructor
  · rintro ⟨j, h1, h2⟩
    by_cases e : j = k
    · subst e; exact Or.inr h2
    · exact Or.inl ⟨j, by omega, h2⟩
  · rintro (⟨j, h1, h2⟩ | h)
    · exact ⟨j, by omega, h2⟩
    · exact ⟨k, by omega, h⟩
theorem hI_up {p : Nat → Bool} {k : Nat} : hI p (k + 1) ↔ hI p k ∨ (hU p k ∧ p k = true) := by
  constructor
  · rintro ⟨i, j, h1, h2, h3, h4⟩
    by_cases e : j = k
    · subst e; exact Or.inr ⟨⟨i, h1, h3⟩, h4⟩
    · exact Or.inl ⟨i, j, h1, by omega, h3, h4⟩
  · rintro (⟨i, j, h1, h2, h3, h4⟩ | ⟨⟨i, h1, h3⟩, h4⟩)
    · exact ⟨i, j, h1, by omega, h3, h4⟩
    · exact ⟨i, k, h1, by omega, h3, h4⟩
theorem hO_up {p : Nat → Bool} {k : Nat} : hO p (k + 1) ↔ hO p k ∨ (hW p k ∧ p k = false) := by
  constructor
  · rintro ⟨i, j, h1, h2, h3, h4⟩
    by_cases e : j = k
    · subst e; exact Or.inr ⟨⟨i, h1, h3⟩, h4⟩
    · exact Or.inl ⟨i, j, h1, by omega, h3, h4⟩
  · rintro (⟨i, j, h1, h2, h3, h4⟩ | ⟨⟨i, h1, h3⟩, h4⟩)
    · exact ⟨i, j, h1, by omega, h3, h4⟩
    · exact ⟨i, k, h1, by omega, h3, h4⟩
theorem hI_U {p : Nat → Bool} {k : Nat} (h : hI p k) : hU p k := by
  obtain ⟨i, j, h1, h2, h3, h4⟩ := h
  exact ⟨i, by omega, h3⟩
theorem hO_W {p : Nat → Bool} {k : Nat} (h : hO p k) : hW p k := by
  obtain ⟨i, j, h1, h2, h3, h4⟩ := h
  exact ⟨i, by omega, h3⟩
theorem cwt_ok (p : Nat → Bool) (k : Nat) : (cwt p k).2.1 ≤ (cwt p k).1 ∧ (cwt p k).1 ≤ k ∧ (cwt p k).2.2 ≤ (cwt p k).1 ∧ (0 < (cwt p k).1 ↔ hW p k) ∧ ((cwt p k).2.1 < k ↔ hU p k) ∧ ((cwt p k).2.1 < (cwt p k).1 ↔ hI p k) ∧ ((cwt p k).2.2 < (cwt p k).1 ↔ hO p k) := by
  induction k with
  | zero =>
    refine ⟨Nat.le_refl _, Nat.le_refl _, Nat.le_refl _, ⟨fun h => absurd h (Nat.lt_irrefl _), ?_⟩, ⟨fun h => absurd h (Nat.lt_irrefl _), ?_⟩, ⟨fun h => absurd h (Nat.lt_irrefl _), ?_⟩, ⟨fun h => absurd h (Nat.lt_irrefl _), ?_⟩⟩
    · rintro ⟨j, h, -⟩; omega
    · rintro ⟨j, h, -⟩; omega
    · rintro ⟨i, j, -, h, -⟩; omega
    · rintro ⟨i, j, -, h, -⟩; omega
  | succ k ih =>
    obtain ⟨a1, a2, a3, a4, a5, a6, a7⟩ := ih
    rw [hW_up, hU_up, hI_up, hO_up]
    unfold cwt
    cases hp : p k with
    | true =>
      rw [if_pos rfl]
      dsimp only
      have hf : ¬ (true = false) := by decide
      by_cases e : (cwt p k).2.1 = k
      · rw [if_pos e]
        have hnU : ¬ hU p k := fun z => by have := a5.mpr z; omega
        have hnI : ¬ hI p k := fun z => hnU (hI_U z)
        refine ⟨by omega, by omega, by omega, ⟨fun _ => Or.inr rfl, fun _ => by omega⟩, ⟨fun z => by omega, fun z => ?_⟩, ⟨fun z => by omega, fun z => ?_⟩, ⟨fun z => Or.inl (a7.mp (by omega)), fun z => ?_⟩⟩
        · rcases z with z | z
          · exact absurd z hnU
          · exact absurd z hf
        · rcases z with z | z
          · exact absurd z hnI
          · exact absurd z.1 hnU
        · rcases z with z | z
          · have := a7.mpr z; omega
          · exact absurd z.2 hf
      · rw [if_neg e]
        have hUk : hU p k := a5.mp (by omega)
        refine ⟨by omega, by omega, by omega, ⟨fun _ => Or.inr rfl, fun _ => by omega⟩, ⟨fun z => Or.inl hUk, fun z => by omega⟩, ⟨fun z => Or.inr ⟨hUk, rfl⟩, fun z => by omega⟩, ⟨fun z => Or.inl (a7.mp (by omega)), fun z => ?_⟩⟩
        rcases z with z | z
        · have := a7.mpr z; omega
        · exact absurd z.2 hf
    | false =>
      rw [if_neg (by decide)]
      dsimp only
      have hf : ¬ (false = true) := by decide
      refine ⟨a1, by omega, by omega, ⟨fun z => Or.inl (a4.mp z), fun z => ?_⟩, ⟨fun _ => Or.inr rfl, fun _ => by omega⟩, ⟨fun z => Or.inl (a6.mp z), fun z => ?_⟩, ⟨fun z => Or.inr ⟨a4.mp z, rfl⟩, fun z => ?_⟩⟩
      · rcases z with z | z
        · exact a4.mpr z
        · exact absurd z hf
      · rcases z with z | z
        · exact a6.mpr z
        · exact absurd z.2 hf
      · rcases z with z | z
        · exact a4.mpr (hO_W z)
        · exact a4.mpr z.1
/-- a sum over the tracks -/
def sE (e : Nat → Nat) : Nat → Nat
  | 0 => 0
  | k + 1 => sE e k + e k
theorem sE_le {e e2 : Nat → Nat} {f a : Nat} (hne : f ≠ a) (k : Nat) (h : ∀ z, z < k → z ≠ f → z ≠ a → e z ≤ e2 z) : sE e k + (if f < k then e2 f else 0) + (if a < k then e2 a else 0) ≤ sE e2 k + (if f < k then e f else 0) + (if a < k then e a else 0) := by
  induction k with
  | zero => simp [sE]
  | succ k ih =>
    have hi := ih (fun z hz => h z (by omega))
    unfold sE
    by_cases h1 : k = f
    · subst h1
      rw [if_neg (Nat.lt_irrefl _), if_neg (Nat.lt_irrefl _)] at hi
      rw [if_pos (Nat.lt_succ_self _), if_pos (Nat.lt_succ_self _)]
      by_cases h2 : a < k
      · rw [if_pos h2, if_pos h2] at hi
        rw [if_pos (by omega), if_pos (by omega)]
        omega
      · rw [if_neg h2, if_neg h2] at hi
        rw [if_neg (by omega), if_neg (by omega)]
        omega
    · by_cases h2 : k = a
      · subst h2
        rw [if_neg (Nat.lt_irrefl k), if_neg (Nat.lt_irrefl k)] at hi
        rw [if_pos (Nat.lt_succ_self k), if_pos (Nat.lt_succ_self k)]
        by_cases h2 : f < k
        · rw [if_pos h2, if_pos h2] at hi
          rw [if_pos (by omega), if_pos (by omega)]
          omega
        · rw [if_neg h2, if_neg h2] at hi
          rw [if_neg (by omega), if_neg (by omega)]
          omega
      · have h3 := h k (by omega) h1 h2
        have e1 : f < k + 1 ↔ f < k := by omega
        have e2 : a < k + 1 ↔ a < k := by omega
        simp only [e1, e2]
        omega
noncomputable def bi (P : Prop) : Nat := @ite Nat P (Classical.propDecidable P) 1 0
theorem bi_1 {P : Prop} (h : P) : bi P = 1 := by unfold bi; exact if_pos h
theorem bi_0 {P : Prop} (h : ¬ P) : bi P = 0 := by unfold bi; exact if_neg h
theorem bi_le (P : Prop) : bi P ≤ 1 := by
  rcases Classical.em P with h | h
  · rw [bi_1 h]; exact Nat.le_refl _
  · rw [bi_0 h]; exact Nat.zero_le _
theorem bi_mono {P Q : Prop} (h : P → Q) : bi P ≤ bi Q := by
  rcases Classical.em P with z | z
  · rw [bi_1 z, bi_1 (h z)]; exact Nat.le_refl _
  · rw [bi_0 z]; exact Nat.zero_le _
/-- what a made-up yard on track t still needs -/
def nMix (p : Nat → Nat → Bool) (L : Nat → Nat) (K t : Nat) : Prop := hI (p t) (L t) ∨ ∃ z, z < K ∧ z ≠ t ∧ hO (p z) (L z)
noncomputable def nNeed (p : Nat → Nat → Bool) (L : Nat → Nat) (K t : Nat) : Nat := bi (hU (p t) (L t)) + sE (fun z => bi (z ≠ t ∧ hW (p z) (L z))) K + bi (nMix p L K t)
section NEED
variable {p q : Nat → Nat → Bool} {L M : Nat → Nat} {K f a n t : Nat}
theorem need_step (hf : f < K) (ha : a < K) (_ht : t < K) (hne : f ≠ a) (hn : n ≤ L f) (hMf : M f = L f - n) (hMa : M a = L a + n) (hMo : ∀ z, z < K → z ≠ f → z ≠ a → M z = L z)
    (hq : ∀ z j, z < K → j < M z → z ≠ a ∨ j < L a → q z j = p z j) (hqa : ∀ j, j < n → q a (L a + j) = p f (L f - n + j)) : nNeed p L K t ≤ nNeed q M K t + 1 := by
  -- what stays on every track but f
  have kW : ∀ z, z < K → z ≠ f → hW (p z) (L z) → hW (q z) (M z) := fun z hz h1 ⟨j, h2, h3⟩ => by
    by_cases e : z = a
    · subst e; exact ⟨j, by omega, by rw [hq z j hz (by omega) (Or.inr h2)]; exact h3⟩
    · have := hMo z hz h1 e
      exact ⟨j, by omega, by rw [hq z j hz (by omega) (Or.inl e)]; exact h3⟩
  have kU : ∀ z, z < K → z ≠ f → hU (p z) (L z) → hU (q z) (M z) := fun z hz h1 ⟨j, h2, h3⟩ => by
    by_cases e : z = a
    · subst e; exact ⟨j, by omega, by rw [hq z j hz (by omega) (Or.inr h2)]; exact h3⟩
    · have := hMo z hz h1 e
      exact ⟨j, by omega, by rw [hq z j hz (by omega) (Or.inl e)]; exact h3⟩
  have kI : ∀ z, z < K → z ≠ f → hI (p z) (L z) → hI (q z) (M z) := fun z hz h1 ⟨i, j, h0, h2, h3, h4⟩ => by
    by_cases e : z = a
    · subst e; exact ⟨i, j, h0, by omega, by rw [hq z i hz (by omega) (Or.inr (by omega))]; exact h3, by rw [hq z j hz (by omega) (Or.inr (by omega))]; exact h4⟩
    · have := hMo z hz h1 e
      exact ⟨i, j, h0, by omega, by rw [hq z i hz (by omega) (Or.inl e)]; exact h3, by rw [hq z j hz (by omega) (Or.inl e)]; exact h4⟩
  have kO : ∀ z, z < K → z ≠ f → hO (p z) (L z) → hO (q z) (M z) := fun z hz h1 ⟨i, j, h0, h2, h3, h4⟩ => by
    by_cases e : z = a
    · subst e; exact ⟨i, j, h0, by omega, by rw [hq z i hz (by omega) (Or.inr (by omega))]; exact h3, by rw [hq z j hz (by omega) (Or.inr (by omega))]; exact h4⟩
    · have := hMo z hz h1 e
      exact ⟨i, j, h0, by omega, by rw [hq z i hz (by omega) (Or.inl e)]; exact h3, by rw [hq z j hz (by omega) (Or.inl e)]; exact h4⟩
  -- what a takes over when f loses its last wanted wagons though one stood below an unwanted one
  have kA : hO (p f) (L f) → ¬ hW (q f) (M f) → hW (q a) (M a) ∧ hU (q a) (M a) ∧ (hW (p a) (L a) → hO (q a) (M a)) ∧ (hU (p a) (L a) → hI (q a) (M a)) := fun ⟨i, j, h0, h2, h3, h4⟩ h5 => by
    have hi : L f - n ≤ i := by
      rcases Nat.lt_or_ge i (L f - n) with z | z
      · exact absurd ⟨i, by omega, by rw [hq f i hf (by omega) (Or.inl hne)]; exact h3⟩ h5
      · exact z
    have ei : q a (L a + (i - (L f - n))) = true := by rw [hqa _ (by omega), show L f - n + (i - (L f - n)) = i by omega]; exact h3
    have ej : q a (L a + (j - (L f - n))) = false := by rw [hqa _ (by omega), show L f - n + (j - (L f - n)) = j by omega]; exact h4
    refine ⟨⟨_, by omega, ei⟩, ⟨_, by omega, ej⟩, fun ⟨k, k1, k2⟩ => ⟨k, _, ?_, ?_, by rw [hq a k ha (by omega) (Or.inr k1)]; exact k2, ej⟩, fun ⟨k, k1, k2⟩ => ⟨k, _, ?_, ?_, by rw [hq a k ha (by omega) (Or.inr k1)]; exact k2, ei⟩⟩ <;> omega
  have kB : hI (p f) (L f) → ¬ hU (q f) (M f) → hW (q a) (M a) ∧ (hW (p a) (L a) → hO (q a) (M a)) := fun ⟨i, j, h0, h2, h3, h4⟩ h5 => by
    have hi : L f - n ≤ i := by
      rcases Nat.lt_or_ge i (L f - n) with z | z
      · exact absurd ⟨i, by omega, by rw [hq f i hf (by omega) (Or.inl hne)]; exact h3⟩ h5
      · exact z
    have ei : q a (L a + (i - (L f - n))) = false := by rw [hqa _ (by omega), show L f - n + (i - (L f - n)) = i by omega]; exact h3
    have ej : q a (L a + (j - (L f - n))) = true := by rw [hqa _ (by omega), show L f - n + (j - (L f - n)) = j by omega]; exact h4
    refine ⟨⟨_, by omega, ej⟩, fun ⟨k, k1, k2⟩ => ⟨k, _, ?_, ?_, by rw [hq a k ha (by omega) (Or.inr k1)]; exact k2, ei⟩⟩ <;> omega
  have hs := sE_le (e := fun z => bi (z ≠ t ∧ hW (p z) (L z))) (e2 := fun z => bi (z ≠ t ∧ hW (q z) (M z))) hne K (fun z hz h1 h2 => bi_mono fun w => ⟨w.1, kW z hz h1 w.2⟩)
  rw [if_pos hf, if_pos hf, if_pos ha, if_pos ha] at hs
  have ga : bi (a ≠ t ∧ hW (p a) (L a)) ≤ bi (a ≠ t ∧ hW (q a) (M a)) := bi_mono fun w => ⟨w.1, kW a ha hne.symm w.2⟩
  have b1 := bi_le (f ≠ t ∧ hW (p f) (L f))
  have b2 := bi_le (nMix p L K t)
  have b3 := bi_le (hU (p t) (L t))
  -- the mixed others stay, but f
  have kM : ∀ z, z < K → z ≠ t → z ≠ f → hO (p z) (L z) → nMix q M K t := fun z hz h1 h2 h3 => Or.inr ⟨z, hz, h1, kO z hz h2 h3⟩
  unfold nNeed
  by_cases e1 : f = t
  · subst e1
    rw [bi_0 (P := f ≠ f ∧ hW (p f) (L f)) (fun z => z.1 rfl), bi_0 (P := f ≠ f ∧ hW (q f) (M f)) (fun z => z.1 rfl)] at hs
    rcases Classical.em (nMix p L K f → nMix q M K f) with z | z
    · have := bi_mono z
      omega
    · have hm : nMix p L K f := Classical.byContradiction fun w => z fun w2 => absurd w2 w
      have hm2 : ¬ nMix q M K f := fun w => z fun _ => w
      rcases Classical.em (hU (p f) (L f) → hU (q f) (M f)) with y | y
      · have := bi_mono y
        omega
      · have hu : hU (p f) (L f) := Classical.byContradiction fun w => y fun w2 => absurd w2 w
        have hu2 : ¬ hU (q f) (M f) := fun w => y fun _ => w
        rcases hm with hm | ⟨z1, h1, h2, h3⟩
        · obtain ⟨c1, c2⟩ := kB hm hu2
          rcases Classical.em (hW (p a) (L a)) with x | x
          · exact absurd (Or.inr ⟨a, ha, hne.symm, c2 x⟩) hm2
          · rw [bi_0 (P := a ≠ f ∧ hW (p a) (L a)) (fun w => x w.2), bi_1 (P := a ≠ f ∧ hW (q a) (M a)) ⟨hne.symm, c1⟩] at hs
            omega
        · exact absurd (kM z1 h1 h2 h2 h3) hm2
  · have hU' : bi (hU (p t) (L t)) ≤ bi (hU (q t) (M t)) := bi_mono (kU t _ht (fun z => e1 z.symm))
    rcases Classical.em (nMix p L K t → nMix q M K t) with z | z
    · have := bi_mono z
      omega
    · have hm : nMix p L K t := Classical.byContradiction fun w => z fun w2 => absurd w2 w
      have hm2 : ¬ nMix q M K t := fun w => z fun _ => w
      have hOf : hO (p f) (L f) := by
        rcases hm with hm | ⟨z1, h1, h2, h3⟩
        · exact absurd (Or.inl (kI t _ht (fun z => e1 z.symm) hm)) hm2
        · rcases Classical.em (z1 = f) with x | x
          · exact x ▸ h3
          · exact absurd (kM z1 h1 h2 x h3) hm2
      rcases Classical.em (hW (q f) (M f)) with y | y
      · rw [bi_1 (P := f ≠ t ∧ hW (q f) (M f)) ⟨e1, y⟩] at hs
        omega
      · obtain ⟨c1, c2, c3, c4⟩ := kA hOf y
        by_cases e2 : a = t
        · subst e2
          rcases Classical.em (hU (p a) (L a)) with x | x
          · exact absurd (Or.inl (c4 x)) hm2
          · rw [bi_0 x, bi_1 c2]
            omega
        · rcases Classical.em (hW (p a) (L a)) with x | x
          · exact absurd (Or.inr ⟨a, ha, e2, c3 x⟩) hm2
          · rw [bi_0 (P := a ≠ t ∧ hW (p a) (L a)) (fun w => x w.2), bi_1 (P := a ≠ t ∧ hW (q a) (M a)) ⟨e2, c1⟩] at hs
            omega
end NEED
