/-! the bounds, change by change -/
def Wfb (B : Nat) (u : Nat → Nat) : Prop :=
  (2 ≤ u 4 ∧ u 4 ≤ 4) ∧ (1 ≤ u 5 ∧ u 5 ≤ 8) ∧ u 0 ≤ 3 ∧ (10 ≤ u 1 ∧ u 1 ≤ 600) ∧ (1 ≤ u 2 ∧ u 2 ≤ 20) ∧ u 3 ≤ 30 ∧ u 12 ≤ 10 ∧ (∀ j, j < 10 → u (13 + j) < 6) ∧
  (∀ t, t < 4 → mny u t ≤ 8 ∧ tst u t ≤ 1 ∧ tat u t ≤ u 6) ∧ (∀ t, t < u 4 → mny u t ≤ u 5) ∧ (∀ t k, t < 4 → k < 8 → dst u t k < 6 ∧ knd u t k < 3) ∧ ∀ k, k < 131 → u k ≤ B
theorem Wfb.wf {N : Nat} {u : Nat → Nat} (h : Wfb (1000 * N + 600) u) : Wf N u := h
theorem Wfb.of {N : Nat} {u : Nat → Nat} (h : Wf N u) : Wfb (1000 * N + 600) u := h
theorem Wfb.up {B B2 : Nat} {u : Nat → Nat} (h : Wfb B u) (hB : B ≤ B2) : Wfb B2 u := by
  obtain ⟨a, b, c, d, e, f, g, i, j, k, m, n⟩ := h
  exact ⟨a, b, c, d, e, f, g, i, j, k, m, fun x hx => Nat.le_trans (n x hx) hB⟩
theorem Wf_up {N : Nat} {u : Nat → Nat} (h : Wf N u) : Wf (N + 1) u := (Wfb.up (Wfb.of h) (by omega)).wf
theorem Wf_congr {N : Nat} {u w : Nat → Nat} (h : ∀ j, j < 131 → u j = w j) (hW : Wf N u) : Wf N w := by
  obtain ⟨a, b, c, d, e, f, g, i, j, k, m, n⟩ := hW
  have e6 := h 6 (by omega)
  have e4 := h 4 (by omega)
  have e5 := h 5 (by omega)
  refine ⟨by rw [← e4]; exact a, by rw [← e5]; exact b, by rw [← h 0 (by omega)]; exact c, by rw [← h 1 (by omega)]; exact d, by rw [← h 2 (by omega)]; exact e, by rw [← h 3 (by omega)]; exact f, by rw [← h 12 (by omega)]; exact g, fun x hx => by rw [← h _ (by omega)]; exact i x hx, fun t ht => ?_, fun t ht => ?_, fun t x ht hx => ?_, fun x hx => by rw [← h x hx]; exact n x hx⟩
  · have := j t ht
    unfold mny tst tat at this ⊢
    rw [← h _ (by omega), ← h _ (by omega), ← h _ (by omega), ← e6]
    exact this
  · rw [← e4] at ht
    have := k t ht
    unfold mny at this ⊢
    rw [← h _ (by omega), ← e5]
    exact this
  · have := m t x ht hx
    unfold dst knd at this ⊢
    rw [← h _ (by omega), ← h _ (by omega)]
    exact this
/-- every cell: the low ones, those of the tracks, those of the wagons -/
theorem wf_all {P : Nat → Prop} (h0 : ∀ k, k < 23 → P k) (hm : ∀ z, z < 4 → P (23 + 27 * z + 0)) (h1 : ∀ z c, z < 4 → c = 1 ∨ c = 2 → P (23 + 27 * z + c)) (hc : ∀ z j c, z < 4 → j < 8 → c < 3 → P (23 + 27 * z + (3 + 3 * j + c))) : ∀ k, k < 131 → P k := by
  intro k hk
  by_cases h : k < 23
  · exact h0 k h
  · have e : k = 23 + 27 * ((k - 23) / 27) + (k - 23) % 27 := by omega
    have hz : (k - 23) / 27 < 4 := by omega
    generalize (k - 23) / 27 = z at e hz
    have hr : (k - 23) % 27 < 27 := by omega
    generalize (k - 23) % 27 = r at e hr
    subst e
    rcases (show r = 0 ∨ (r = 1 ∨ r = 2) ∨ 3 ≤ r by omega) with q | q | q
    · subst q; exact hm z hz
    · exact h1 z r hz q
    · have e2 : r = 3 + 3 * ((r - 3) / 3) + (r - 3) % 3 := by omega
      rw [e2]
      exact hc z _ _ hz (by omega) (by omega)
theorem Wf_pau {B k : Nat} {u : Nat → Nat} (h : Wfb B u) : Wfb (B + k) (pauF u k) := by
  obtain ⟨⟨a1, a2⟩, ⟨b1, b2⟩, c0, ⟨d1, d2⟩, ⟨e1, e2⟩, f3, g12, hd, ht0, hm0, hc0, hb0⟩ := id h
  have ho : ∀ j, j ≠ 6 → pauF u k j = u j := fun j hj => up_o hj
  have h6 : pauF u k 6 = u 6 + k := up_i
  refine ⟨by rw [ho 4 (by omega)]; exact ⟨a1, a2⟩, by rw [ho 5 (by omega)]; exact ⟨b1, b2⟩, by rw [ho 0 (by omega)]; exact c0, by rw [ho 1 (by omega)]; exact ⟨d1, d2⟩, by rw [ho 2 (by omega)]; exact ⟨e1, e2⟩, by rw [ho 3 (by omega)]; exact f3, ?_, ?_, fun t ht => ?_, fun t ht => ?_, fun t x ht hk => ?_, wf_all ?_ ?_ ?_ ?_⟩
  · rw [ho 12 (by omega)]; exact g12
  · intro j hj; rw [ho _ (by omega)]; exact hd j hj
  · have := ht0 t ht
    unfold mny tst tat at this ⊢
    rw [ho _ (by omega), ho _ (by omega), ho _ (by omega), h6]
    omega
  · rw [ho 4 (by omega)] at ht
    have := hm0 t ht
    unfold mny at this ⊢
    rw [ho _ (by omega), ho 5 (by omega)]
    exact this
  · have := hc0 t x ht hk
    unfold dst knd at this ⊢
    rw [ho _ (by omega), ho _ (by omega)]
    exact this
  · intro j hj
    have := hb0 j (by omega)
    by_cases e : j = 6
    · subst e; rw [h6]; omega
    · rw [ho j e]; omega
  · intro z hz; have := hb0 (23 + 27 * z + 0) (by omega); rw [ho _ (by omega)]; omega
  · intro z c hz hc; have := hb0 (23 + 27 * z + c) (by omega); rw [ho _ (by omega)]; omega
  · intro z j c hz hj hc; have := hb0 (23 + 27 * z + (3 + 3 * j + c)) (by omega); rw [ho _ (by omega)]; omega
theorem Wf_tes {B t : Nat} {u : Nat → Nat} (h : Wfb B u) (ht4 : t < 4) : Wfb (B + 1000) (tesF u t) := by
  obtain ⟨⟨a1, a2⟩, ⟨b1, b2⟩, c0, ⟨d1, d2⟩, ⟨e1, e2⟩, f3, g12, hd, ht0, hm0, hc0, hb0⟩ := id h
  have ho : ∀ j, j ≠ 6 → j ≠ 23 + 27 * t + 1 → j ≠ 23 + 27 * t + 2 → tesF u t j = u j := fun j h1 h2 h3 => by
    unfold tesF
    rw [up_o h3, up_o h2, up_o h1]
  have h6 : tesF u t 6 = u 6 + (u 3 + 2 * mny u t) := by
    unfold tesF
    rw [up_o (by omega), up_o (by omega), up_i]
  have hs1 : tesF u t (23 + 27 * t + 1) = 1 := by
    unfold tesF
    rw [up_o (by omega), up_i]
  have hs2 : tesF u t (23 + 27 * t + 2) = u 6 + (u 3 + 2 * mny u t) := by
    unfold tesF
    rw [up_i]
  have hmt := (ht0 t ht4).1
  have hl : ∀ j, j < 23 → j ≠ 6 → tesF u t j = u j := fun j h1 h2 => ho j h2 (by omega) (by omega)
  have hb6 := hb0 6 (by omega)
  refine ⟨by rw [hl 4 (by omega) (by omega)]; exact ⟨a1, a2⟩, by rw [hl 5 (by omega) (by omega)]; exact ⟨b1, b2⟩, by rw [hl 0 (by omega) (by omega)]; exact c0, by rw [hl 1 (by omega) (by omega)]; exact ⟨d1, d2⟩, by rw [hl 2 (by omega) (by omega)]; exact ⟨e1, e2⟩, by rw [hl 3 (by omega) (by omega)]; exact f3, ?_, ?_, fun z hz => ?_, fun z hz => ?_, fun z x hz hk => ?_, wf_all ?_ ?_ ?_ ?_⟩
  · rw [hl 12 (by omega) (by omega)]; exact g12
  · intro j hj; rw [hl _ (by omega) (by omega)]; exact hd j hj
  · have := ht0 z hz
    unfold mny tst tat at this ⊢
    rw [h6, ho (23 + 27 * z + 0) (by omega) (by omega) (by omega)]
    by_cases e : z = t
    · subst e; rw [hs1, hs2]; omega
    · rw [ho _ (by omega) (by omega) (by omega), ho _ (by omega) (by omega) (by omega)]; omega
  · rw [hl 4 (by omega) (by omega)] at hz
    have := hm0 z hz
    unfold mny at this ⊢
    rw [ho _ (by omega) (by omega) (by omega), hl 5 (by omega) (by omega)]
    exact this
  · have := hc0 z x hz hk
    unfold dst knd at this ⊢
    rw [ho _ (by omega) (by omega) (by omega), ho _ (by omega) (by omega) (by omega)]
    exact this
  · intro j hj
    have := hb0 j (by omega)
    by_cases e : j = 6
    · subst e; rw [h6]; omega
    · rw [hl j hj e]; omega
  · intro z hz; have := hb0 (23 + 27 * z + 0) (by omega); rw [ho _ (by omega) (by omega) (by omega)]; omega
  · intro z c hz hc
    have := hb0 (23 + 27 * z + c) (by omega)
    by_cases e : z = t
    · subst e
      rcases hc with rfl | rfl
      · rw [hs1]; omega
      · rw [hs2]; omega
    · rw [ho _ (by omega) (by omega) (by omega)]; omega
  · intro z j c hz hj hc; have := hb0 (23 + 27 * z + (3 + 3 * j + c)) (by omega); rw [ho _ (by omega) (by omega) (by omega)]; omega
theorem Wf_set {B k x : Nat} {u : Nat → Nat} (h : Wfb B u) (hk : k < 4) (h1 : setLo k ≤ x) (h2 : x ≤ setHi k) (hB : 600 ≤ B) : Wfb B (va_up u k x) := by
  obtain ⟨⟨a1, a2⟩, ⟨b1, b2⟩, c0, ⟨d1, d2⟩, ⟨e1, e2⟩, f3, g12, hd, ht0, hm0, hc0, hb0⟩ := id h
  have ho : ∀ j, j ≠ k → va_up u k x j = u j := fun j hj => up_o hj
  have hi : va_up u k x k = x := up_i
  have hx : x ≤ 600 := Nat.le_trans h2 (setHi_le k)
  refine ⟨by rw [ho 4 (by omega)]; exact ⟨a1, a2⟩, by rw [ho 5 (by omega)]; exact ⟨b1, b2⟩, ?_, ?_, ?_, ?_, by rw [ho 12 (by omega)]; exact g12, fun j hj => by rw [ho _ (by omega)]; exact hd j hj, fun z hz => ?_, fun z hz => ?_, fun z y hz hy => ?_, fun j hj => ?_⟩
  · by_cases e : k = 0
    · subst e; rw [hi]; exact h2
    · rw [ho 0 (by omega)]; exact c0
  · by_cases e : k = 1
    · subst e; rw [hi]; exact ⟨h1, h2⟩
    · rw [ho 1 (by omega)]; exact ⟨d1, d2⟩
  · by_cases e : k = 2
    · subst e; rw [hi]; exact ⟨h1, h2⟩
    · rw [ho 2 (by omega)]; exact ⟨e1, e2⟩
  · by_cases e : k = 3
    · subst e; rw [hi]; exact h2
    · rw [ho 3 (by omega)]; exact f3
  · have := ht0 z hz
    unfold mny tst tat at this ⊢
    rw [ho _ (by omega), ho _ (by omega), ho _ (by omega), ho 6 (by omega)]
    exact this
  · rw [ho 4 (by omega)] at hz
    have := hm0 z hz
    unfold mny at this ⊢
    rw [ho _ (by omega), ho 5 (by omega)]
    exact this
  · have := hc0 z y hz hy
    unfold dst knd at this ⊢
    rw [ho _ (by omega), ho _ (by omega)]
    exact this
  · by_cases e : j = k
    · subst e; rw [hi]; omega
    · rw [ho j e]; exact hb0 j hj
theorem Wf_beg {B k c : Nat} {u : Nat → Nat} (h : Wfb B u) (hk1 : 2 ≤ k) (hk2 : k ≤ 4) (hc1 : 1 ≤ c) (hc2 : c ≤ 8) (hB : 600 ≤ B) : Wfb B (begF u k c) := by
  obtain ⟨⟨a1, a2⟩, ⟨b1, b2⟩, c0, ⟨d1, d2⟩, ⟨e1, e2⟩, f3, g12, hd, ht0, hm0, hc0, hb0⟩ := id h
  have hz : ∀ j, 6 ≤ j → j < 131 → begF u k c j = 0 := fun j h1 h2 => begF_z h1 h2
  refine ⟨by rw [begF_4]; exact ⟨hk1, hk2⟩, by rw [begF_5]; exact ⟨hc1, hc2⟩, by rw [begF_lo (by omega)]; exact c0, by rw [begF_lo (by omega)]; exact ⟨d1, d2⟩, by rw [begF_lo (by omega)]; exact ⟨e1, e2⟩, by rw [begF_lo (by omega)]; exact f3, by rw [hz _ (by omega) (by omega)]; omega, fun j hj => by rw [hz _ (by omega) (by omega)]; omega, fun t ht => ?_, fun t ht => ?_, fun t x ht hx => ?_, fun j hj => ?_⟩
  · unfold mny tst tat
    rw [hz _ (by omega) (by omega), hz _ (by omega) (by omega), hz _ (by omega) (by omega), hz _ (by omega) (by omega)]
    omega
  · rw [begF_4] at ht
    unfold mny
    rw [hz _ (by omega) (by omega)]
    omega
  · unfold dst knd
    rw [hz _ (by omega) (by omega), hz _ (by omega) (by omega)]
    omega
  · by_cases e : j < 4
    · rw [begF_lo e]; exact hb0 j hj
    · by_cases e4 : j = 4
      · subst e4; rw [begF_4]; omega
      · by_cases e5 : j = 5
        · subst e5; rw [begF_5]; omega
        · rw [hz j (by omega) hj]; omega
theorem Wf_dep {B t : Nat} {u : Nat → Nat} (h : Wfb B u) (ht4 : t < 4) (hl1 : 1 ≤ u 12) : Wfb (B + 10) (depF u t) := by
  obtain ⟨⟨a1, a2⟩, ⟨b1, b2⟩, c0, ⟨d1, d2⟩, ⟨e1, e2⟩, f3, g12, hd, ht0, hm0, hc0, hb0⟩ := id h
  have hlo : ∀ j, j < 10 → depF u t j = u j := fun j hj => by rw [depF_lo (by omega), if_neg (by omega), if_neg (by omega), if_neg (by omega)]
  have hhi : ∀ j, 23 ≤ j → j ≠ 23 + 27 * t + 0 → j ≠ 23 + 27 * t + 1 → depF u t j = u j := fun j h1 h2 h3 => depF_hi g12 h1 h2 h3
  obtain ⟨z0, z1⟩ := depF_01 (t := t) g12
  have hmt := (ht0 t ht4).1
  have e12 : depF u t 12 = u 12 - 1 := depF_lo (by omega)
  have e10 : depF u t 10 = u 10 + 1 := depF_lo (by omega)
  have e11 : depF u t 11 = u 11 + mny u t := depF_lo (by omega)
  have hdd : ∀ j, j < 10 → depF u t (13 + j) < 6 ∧ depF u t (13 + j) ≤ B := fun j hj => by
    by_cases e : j < u 12 - 1
    · rw [depF_d e g12]
      have := hd (j + 1) (by omega)
      have hb := hb0 (13 + (j + 1)) (by omega)
      rw [show 14 + j = 13 + (j + 1) by omega]
      exact ⟨this, hb⟩
    · have e2 : depF u t (13 + j) = u (13 + j) := by
        unfold depF
        rw [up_o (by omega)]
        unfold depL
        rw [pk_cpy_out (by omega)]
        unfold dep4
        rw [up_o (by omega), up_o (by omega), up_o (by omega), up_o (by omega)]
      rw [e2]
      exact ⟨hd j hj, hb0 _ (by omega)⟩
  refine ⟨by rw [hlo 4 (by omega)]; exact ⟨a1, a2⟩, by rw [hlo 5 (by omega)]; exact ⟨b1, b2⟩, by rw [hlo 0 (by omega)]; exact c0, by rw [hlo 1 (by omega)]; exact ⟨d1, d2⟩, by rw [hlo 2 (by omega)]; exact ⟨e1, e2⟩, by rw [hlo 3 (by omega)]; exact f3, by rw [e12]; omega, fun j hj => (hdd j hj).1, fun z hz => ?_, fun z hz => ?_, fun z x hz hx => ?_, wf_all ?_ ?_ ?_ ?_⟩
  · have := ht0 z hz
    unfold mny tst tat at this ⊢
    rw [hlo 6 (by omega), hhi (23 + 27 * z + 2) (by omega) (by omega) (by omega)]
    by_cases e : z = t
    · subst e; rw [z0, z1]; omega
    · rw [hhi _ (by omega) (by omega) (by omega), hhi _ (by omega) (by omega) (by omega)]; exact this
  · rw [hlo 4 (by omega)] at hz
    have := hm0 z hz
    unfold mny at this ⊢
    rw [hlo 5 (by omega)]
    by_cases e : z = t
    · subst e; rw [z0]; omega
    · rw [hhi _ (by omega) (by omega) (by omega)]; exact this
  · have := hc0 z x hz hx
    unfold dst knd at this ⊢
    rw [hhi _ (by omega) (by omega) (by omega), hhi _ (by omega) (by omega) (by omega)]
    exact this
  · intro j hj
    have := hb0 j (by omega)
    by_cases e : j < 10
    · rw [hlo j e]; omega
    · by_cases e2 : 13 ≤ j
      · obtain ⟨i, rfl⟩ : ∃ i, j = 13 + i := ⟨j - 13, by omega⟩
        have := (hdd i (by omega)).2
        omega
      · rcases (show j = 10 ∨ j = 11 ∨ j = 12 by omega) with rfl | rfl | rfl
        · rw [e10]; omega
        · rw [e11]; omega
        · rw [e12]; omega
  · intro z hz
    have := hb0 (23 + 27 * z + 0) (by omega)
    by_cases e : z = t
    · subst e; rw [z0]; omega
    · rw [hhi _ (by omega) (by omega) (by omega)]; omega
  · intro z c hz hc
    have := hb0 (23 + 27 * z + c) (by omega)
    by_cases e : z = t ∧ c = 1
    · obtain ⟨rfl, rfl⟩ := e; rw [z1]; omega
    · rw [hhi _ (by omega) (by omega) (by omega)]; omega
  · intro z j c hz hj hc; have := hb0 (23 + 27 * z + (3 + 3 * j + c)) (by omega); rw [hhi _ (by omega) (by omega) (by omega)]; omega
theorem Wf_mov {B f t n : Nat} {u : Nat → Nat} (h : Wfb B u) (ho : okM u f t n) : Wfb (B + 39) (nxU u f t n) := by
  obtain ⟨⟨a1, a2⟩, ⟨b1, b2⟩, c0, ⟨d1, d2⟩, ⟨e1, e2⟩, f3, g12, hd, ht0, hm0, hc0, hb0⟩ := id h
  obtain ⟨hf, ht, hne, hn1, hn, -⟩ := id ho
  have hfit := (okM_fit ho).1
  have hmi := mins_le (t := t) e2 (show f < 4 by omega) (show t < 4 by omega) (show n ≤ 8 by have := (ht0 f (by omega)).1; omega)
  have hl : ∀ j, j < 23 → j ≠ 6 → j ≠ 8 → j ≠ 9 → nxU u f t n j = u j := fun j h h6 h8 h9 => carU_lo h h6 h8 h9
  have h6 : nxU u f t n 6 = u 6 + mins u f t n := by
    show carU u f t n (mins u f t n) 6 = _
    unfold carU
    rw [up_o (by omega), up_o (by omega), up_i]
  have h8 : nxU u f t n 8 = u 8 + 1 := by
    show carU u f t n (mins u f t n) 8 = _
    unfold carU
    rw [up_o (by omega), up_i]
  have h9 : nxU u f t n 9 = u 9 + mins u f t n := by
    show carU u f t n (mins u f t n) 9 = _
    unfold carU
    rw [up_i]
  have hmn : ∀ z, z < 4 → mny (nxU u f t n) z = if z = t then mny u t + n else if z = f then mny u f - n else mny u z := fun z hz => by
    by_cases e1 : z = t
    · subst e1; rw [if_pos rfl]; exact carU_mny_t (by omega) (by omega) hne
    · rw [if_neg e1]
      by_cases e2 : z = f
      · subst e2; rw [if_pos rfl]; exact carU_mny_f (by omega) (by omega) hne
      · rw [if_neg e2]; exact carU_mny_o (by omega) (by omega) (by omega) e2 e1 (by omega)
  have htt : ∀ z c, z < 4 → c = 1 ∨ c = 2 → nxU u f t n (23 + 27 * z + c) = if c = 1 ∧ (z = f ∨ z = t) then 0 else u (23 + 27 * z + c) := fun z c hz hc => carU_tt hz (by omega) (by omega) (by omega) hc
  have hcl : ∀ z j c, z < 4 → j < 8 → c < 3 → nxU u f t n (23 + 27 * z + (3 + 3 * j + c)) = if z = t ∧ mny u t ≤ j ∧ j < mny u t + n then u (23 + 27 * f + (3 + 3 * (mny u f - n + (j - mny u t)) + c)) else u (23 + 27 * z + (3 + 3 * j + c)) := fun z j c hz hj hc => carU_cell hz hj hc (by omega) (by omega) hne (by omega) hn
  have hmf := (ht0 f (by omega)).1
  have hb6 := hb0 6 (by omega)
  have hb8 := hb0 8 (by omega)
  have hb9 := hb0 9 (by omega)
  refine ⟨by rw [hl 4 (by omega) (by omega) (by omega) (by omega)]; exact ⟨a1, a2⟩, by rw [hl 5 (by omega) (by omega) (by omega) (by omega)]; exact ⟨b1, b2⟩, by rw [hl 0 (by omega) (by omega) (by omega) (by omega)]; exact c0, by rw [hl 1 (by omega) (by omega) (by omega) (by omega)]; exact ⟨d1, d2⟩, by rw [hl 2 (by omega) (by omega) (by omega) (by omega)]; exact ⟨e1, e2⟩, by rw [hl 3 (by omega) (by omega) (by omega) (by omega)]; exact f3, by rw [hl 12 (by omega) (by omega) (by omega) (by omega)]; exact g12, fun j hj => by rw [hl _ (by omega) (by omega) (by omega) (by omega)]; exact hd j hj, fun z hz => ?_, fun z hz => ?_, fun z x hz hx => ?_, wf_all ?_ ?_ ?_ ?_⟩
  · have := ht0 z hz
    rw [hmn z hz, h6]
    refine ⟨?_, ?_, ?_⟩
    · split
      · omega
      · split <;> omega
    · show nxU u f t n (23 + 27 * z + 1) ≤ 1
      rw [htt z 1 hz (Or.inl rfl)]
      have h1 : u (23 + 27 * z + 1) ≤ 1 := this.2.1
      split <;> omega
    · show nxU u f t n (23 + 27 * z + 2) ≤ _
      rw [htt z 2 hz (Or.inr rfl), if_neg (by omega)]
      have h1 : u (23 + 27 * z + 2) ≤ u 6 := this.2.2
      omega
  · rw [hl 4 (by omega) (by omega) (by omega) (by omega)] at hz
    rw [hmn z (by omega), hl 5 (by omega) (by omega) (by omega) (by omega)]
    have := hm0 z hz
    have := hm0 f hf
    split
    · omega
    · split <;> omega
  · have c1 := hcl z x 1 hz hx (by omega)
    have c2 := hcl z x 2 hz hx (by omega)
    show nxU u f t n (23 + 27 * z + (3 + 3 * x + 1)) < 6 ∧ nxU u f t n (23 + 27 * z + (3 + 3 * x + 2)) < 3
    rw [c1, c2]
    by_cases e : z = t ∧ mny u t ≤ x ∧ x < mny u t + n
    · rw [if_pos e, if_pos e]
      exact hc0 f (mny u f - n + (x - mny u t)) (by omega) (by omega)
    · rw [if_neg e, if_neg e]
      exact hc0 z x hz hx
  · intro j hj
    have := hb0 j (by omega)
    by_cases e6 : j = 6
    · subst e6; rw [h6]; omega
    · by_cases e8 : j = 8
      · subst e8; rw [h8]; omega
      · by_cases e9 : j = 9
        · subst e9; rw [h9]; omega
        · rw [hl j hj e6 e8 e9]; omega
  · intro z hz
    show mny (nxU u f t n) z ≤ _
    rw [hmn z hz]
    have h1 : mny u z ≤ B := hb0 (23 + 27 * z + 0) (by omega)
    have h2 : mny u f ≤ B := hb0 (23 + 27 * f + 0) (by omega)
    split
    · omega
    · split <;> omega
  · intro z c hz hc
    rw [htt z c hz hc]
    have := hb0 (23 + 27 * z + c) (by omega)
    split <;> omega
  · intro z j c hz hj hc
    rw [hcl z j c hz hj hc]
    by_cases e : z = t ∧ mny u t ≤ j ∧ j < mny u t + n
    · rw [if_pos e]
      have := hb0 (23 + 27 * f + (3 + 3 * (mny u f - n + (j - mny u t)) + c)) (by omega)
      omega
    · rw [if_neg e]
      have := hb0 (23 + 27 * z + (3 + 3 * j + c)) (by omega)
      omega
theorem Wf_row {u : Nat → Nat} {r : List MV} : ∀ {B : Nat}, Wfb B u → okRow u r → Wfb (B + 39 * r.length) (rowU u r) := by
  induction r generalizing u with
  | nil => exact fun h _ => h
  | cons y r ih =>
    intro B h ho
    have := ih (Wf_mov h ho.1) ho.2
    exact this.up (by rw [List.length_cons]; omega)
theorem Wf_lis {B n : Nat} {u L : Nat → Nat} (h : Wfb B u) (hn : n ≤ 10) (hL : ∀ j, j < n → L j < 6) (hB : 600 ≤ B) : Wfb B (lisF u L n n) := by
  obtain ⟨⟨a1, a2⟩, ⟨b1, b2⟩, c0, ⟨d1, d2⟩, ⟨e1, e2⟩, f3, g12, hd, ht0, hm0, hc0, hb0⟩ := id h
  have hl : ∀ j, j < 12 → lisF u L n n j = u j := fun j h => lisF_o hn (Or.inl h)
  have hh : ∀ j, 23 ≤ j → lisF u L n n j = u j := fun j h => lisF_o hn (Or.inr h)
  have hdd : ∀ j, j < 10 → lisF u L n n (13 + j) < 6 := fun j hj => by
    by_cases e : j < n
    · rw [lisF_d e]; exact hL j e
    · have e2 : lisF u L n n (13 + j) = u (13 + j) := by
        unfold lisF
        rw [pk_cpy_out (by omega), up_o (by omega)]
      rw [e2]; exact hd j hj
  refine ⟨by rw [hl 4 (by omega)]; exact ⟨a1, a2⟩, by rw [hl 5 (by omega)]; exact ⟨b1, b2⟩, by rw [hl 0 (by omega)]; exact c0, by rw [hl 1 (by omega)]; exact ⟨d1, d2⟩, by rw [hl 2 (by omega)]; exact ⟨e1, e2⟩, by rw [hl 3 (by omega)]; exact f3, by rw [lisF_12]; exact hn, hdd, fun z hz => ?_, fun z hz => ?_, fun z x hz hx => ?_, fun j hj => ?_⟩
  · have := ht0 z hz
    unfold mny tst tat at this ⊢
    rw [hh _ (by omega), hh _ (by omega), hh _ (by omega), hl 6 (by omega)]
    exact this
  · rw [hl 4 (by omega)] at hz
    have := hm0 z hz
    unfold mny at this ⊢
    rw [hh _ (by omega), hl 5 (by omega)]
    exact this
  · have := hc0 z x hz hx
    unfold dst knd at this ⊢
    rw [hh _ (by omega), hh _ (by omega)]
    exact this
  · by_cases e : j < 12
    · rw [hl j e]; exact hb0 j hj
    · by_cases e2 : 23 ≤ j
      · rw [hh j e2]; exact hb0 j hj
      · by_cases e3 : j = 12
        · subst e3; rw [lisF_12]; omega
        · obtain ⟨i, rfl⟩ : ∃ i, j = 13 + i := ⟨j - 13, by omega⟩
          have := hdd i (by omega)
          omega
theorem arrS_mo {u : Nat → Nat} {t z : Nat} {B K : Nat → Nat} (hz : z < 4) (ht : t < 4) (hne : z ≠ t) (q : Nat) (hq : mny u t + q ≤ 8) : mny (arrS u t B K q) z = mny u z := by
  induction q with
  | zero => rfl
  | succ q ih =>
    show arrS u t B K (q + 1) (23 + 27 * z + 0) = _
    rw [show arrS u t B K (q + 1) = va_up (va_up (va_up (va_up (va_up (va_up (arrS u t B K q) (23 + 27 * t + (3 + 3 * (mny u t + q))) (u 7 + q)) (23 + 27 * t + (3 + 3 * (mny u t + q) + 1)) (B q)) (23 + 27 * t + (3 + 3 * (mny u t + q) + 2)) (K q)) (23 + 27 * t + 0) (mny u t + q + 1)) (23 + 27 * t + 1) 0) 7 (u 7 + q + 1) from rfl]
    rw [up_o (by omega), up_o (by omega), up_o (by omega), up_o (by omega), up_o (by omega), up_o (by omega)]
    exact ih (by omega)
theorem arrS_cl {u : Nat → Nat} {t z j c : Nat} {B K : Nat → Nat} (hz : z < 4) (hj : j < 8) (hc : c < 3) (ht : t < 4) (q : Nat) (hq : mny u t + q ≤ 8) : arrS u t B K q (23 + 27 * z + (3 + 3 * j + c)) = if z = t ∧ mny u t ≤ j ∧ j < mny u t + q then (if c = 0 then u 7 + (j - mny u t) else if c = 1 then B (j - mny u t) else K (j - mny u t)) else u (23 + 27 * z + (3 + 3 * j + c)) := by
  induction q with
  | zero => rw [if_neg (by omega)]; rfl
  | succ q ih =>
    rw [arr_cell hz hj hc ht (by rw [(arrS_at (u := u) (t := t) (B := B) (K := K) q).1]; omega) (by omega), ih (by omega)]
    by_cases e : z = t ∧ j = mny u t + q
    · rw [if_pos e, if_pos (show z = t ∧ mny u t ≤ j ∧ j < mny u t + (q + 1) by omega), show j - mny u t = q by omega]
    · rw [if_neg e]
      by_cases e2 : z = t ∧ mny u t ≤ j ∧ j < mny u t + q
      · rw [if_pos e2, if_pos (show z = t ∧ mny u t ≤ j ∧ j < mny u t + (q + 1) by omega)]
      · rw [if_neg e2, if_neg (show ¬ (z = t ∧ mny u t ≤ j ∧ j < mny u t + (q + 1)) by omega)]
theorem Wf_arr {B t n : Nat} {u Bf Kf : Nat → Nat} (h : Wfb B u) (ht : t < u 4) (hfit : mny u t + n ≤ u 5) (hBK : ∀ j, j < n → Kf j < 3 ∧ Bf j < 6) (hB : 600 ≤ B) : Wfb (B + 10) (arrS u t Bf Kf n) := by
  obtain ⟨⟨a1, a2⟩, ⟨b1, b2⟩, c0, ⟨d1, d2⟩, ⟨e1, e2⟩, f3, g12, hd, ht0, hm0, hc0, hb0⟩ := id h
  obtain ⟨m0, m7, ml⟩ := arrS_at (u := u) (t := t) (B := Bf) (K := Kf) n
  have hl : ∀ j, j < 23 → j ≠ 7 → arrS u t Bf Kf n j = u j := ml
  have hb7 := hb0 7 (by omega)
  have hmt := (ht0 t (by omega)).1
  refine ⟨by rw [hl 4 (by omega) (by omega)]; exact ⟨a1, a2⟩, by rw [hl 5 (by omega) (by omega)]; exact ⟨b1, b2⟩, by rw [hl 0 (by omega) (by omega)]; exact c0, by rw [hl 1 (by omega) (by omega)]; exact ⟨d1, d2⟩, by rw [hl 2 (by omega) (by omega)]; exact ⟨e1, e2⟩, by rw [hl 3 (by omega) (by omega)]; exact f3, by rw [hl 12 (by omega) (by omega)]; exact g12, fun j hj => by rw [hl _ (by omega) (by omega)]; exact hd j hj, fun z hz => ?_, fun z hz => ?_, fun z x hz hx => ?_, wf_all ?_ ?_ ?_ ?_⟩
  · have := ht0 z hz
    rw [hl 6 (by omega) (by omega)]
    refine ⟨?_, ?_, ?_⟩
    · by_cases e : z = t
      · subst e; rw [m0]; omega
      · rw [arrS_mo hz (by omega) e n (by omega)]; exact this.1
    · show arrS u t Bf Kf n (23 + 27 * z + 1) ≤ 1
      rw [arrS_tt hz (by omega) (Or.inl rfl) n (by omega)]
      have h1 : u (23 + 27 * z + 1) ≤ 1 := this.2.1
      split <;> omega
    · show arrS u t Bf Kf n (23 + 27 * z + 2) ≤ _
      rw [arrS_tt hz (by omega) (Or.inr rfl) n (by omega), if_neg (by omega)]
      exact this.2.2
  · rw [hl 4 (by omega) (by omega)] at hz
    rw [hl 5 (by omega) (by omega)]
    by_cases e : z = t
    · subst e; rw [m0]; exact hfit
    · rw [arrS_mo (by omega) (by omega) e n (by omega)]; exact hm0 z hz
  · have k1 := arrS_cl (u := u) (B := Bf) (K := Kf) (c := 1) hz hx (by omega) (show t < 4 by omega) n (by omega)
    have k2 := arrS_cl (u := u) (B := Bf) (K := Kf) (c := 2) hz hx (by omega) (show t < 4 by omega) n (by omega)
    show arrS u t Bf Kf n (23 + 27 * z + (3 + 3 * x + 1)) < 6 ∧ arrS u t Bf Kf n (23 + 27 * z + (3 + 3 * x + 2)) < 3
    rw [k1, k2]
    by_cases e : z = t ∧ mny u t ≤ x ∧ x < mny u t + n
    · rw [if_pos e, if_pos e, if_neg (by omega), if_pos rfl, if_neg (by omega), if_neg (by omega)]
      have := hBK (x - mny u t) (by omega)
      exact ⟨this.2, this.1⟩
    · rw [if_neg e, if_neg e]
      exact hc0 z x hz hx
  · intro j hj
    have := hb0 j (by omega)
    by_cases e7 : j = 7
    · subst e7; rw [m7]; omega
    · rw [hl j hj e7]; omega
  · intro z hz
    by_cases e : z = t
    · subst e
      show mny (arrS u z Bf Kf n) z ≤ _
      rw [m0]; omega
    · show mny (arrS u t Bf Kf n) z ≤ _
      rw [arrS_mo hz (by omega) e n (by omega)]
      have h1 : mny u z ≤ B := hb0 (23 + 27 * z + 0) (by omega)
      omega
  · intro z c hz hc
    rw [arrS_tt hz (by omega) hc n (by omega)]
    have := hb0 (23 + 27 * z + c) (by omega)
    split <;> omega
  · intro z j c hz hj hc
    rw [arrS_cl hz hj hc (by omega) n (by omega)]
    have := hb0 (23 + 27 * z + (3 + 3 * j + c)) (by omega)
    by_cases e : z = t ∧ mny u t ≤ j ∧ j < mny u t + n
    · rw [if_pos e]
      have := hBK (j - mny u t) (by omega)
      split
      · omega
      · split <;> omega
    · rw [if_neg e]; omega
