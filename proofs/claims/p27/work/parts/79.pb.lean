/-! p27: wagons have numbers of their own; where they stand -/
def su (e : Nat → Nat) : Nat → Nat
  | 0 => 0
  | n + 1 => su e n + e n
theorem wgs_su (u : Nat → Nat) (n : Nat) : wgs u n = su (mny u) n := by
  induction n with
  | zero => rfl
  | succ n ih => show wgs u n + mny u n = su (mny u) n + mny u n; rw [ih]
theorem su_congr {e e2 : Nat → Nat} {n : Nat} (h : ∀ z, z < n → e2 z = e z) : su e2 n = su e n := by
  induction n with
  | zero => rfl
  | succ n ih => show su e2 n + e2 n = su e n + e n; rw [ih (fun z hz => h z (by omega)), h n (by omega)]
theorem su_one {e e2 : Nat → Nat} {f : Nat} (k : Nat) (h : ∀ z, z ≠ f → z < k → e2 z = e z) : su e2 k + (if f < k then e f else 0) = su e k + (if f < k then e2 f else 0) := by
  induction k with
  | zero => rfl
  | succ k ih =>
    have h1 := ih (fun z hz hk => h z hz (by omega))
    have h2 := h k
    show (su e2 k + e2 k) + _ = (su e k + e k) + _
    rcases Nat.lt_trichotomy f k with hf | hf | hf
    · simp only [if_pos hf] at h1
      simp only [if_pos (show f < k + 1 by omega)]
      have h3 := h2 (by omega) (by omega)
      omega
    · simp only [if_neg (show ¬ f < k by omega)] at h1
      simp only [if_pos (show f < k + 1 by omega)]
      subst hf
      omega
    · simp only [if_neg (show ¬ f < k by omega)] at h1
      simp only [if_neg (show ¬ f < k + 1 by omega)]
      have h3 := h2 (by omega) (by omega)
      omega
theorem su_two {e e2 : Nat → Nat} {f t k : Nat} (hne : f ≠ t) (hf : f < k) (ht : t < k) (h : ∀ z, z ≠ f → z ≠ t → z < k → e2 z = e z) (hs : e2 f + e2 t = e f + e t) : su e2 k = su e k := by
  have q1 := su_one (e := e) (e2 := fun z => if z = f then e2 f else e z) (f := f) k (fun z hz _ => if_neg hz)
  have q2 := su_one (e := fun z => if z = f then e2 f else e z) (e2 := e2) (f := t) k (fun z hz hk => by
    show e2 z = if z = f then e2 f else e z
    by_cases y : z = f
    · subst y; rw [if_pos rfl]
    · rw [if_neg y]; exact h z y hz hk)
  rw [if_pos hf, if_pos hf, if_pos rfl] at q1
  rw [if_pos ht, if_pos ht, if_neg (fun z => hne z.symm)] at q2
  omega
theorem su_zero (n : Nat) : su (fun _ => 0) n = 0 := by
  induction n with
  | zero => rfl
  | succ n ih => exact ih
def WG (u : Nat → Nat) : Prop := (∀ t k, t < u 4 → k < mny u t → num u t k < u 7) ∧ (∀ t k t2 k2, t < u 4 → k < mny u t → t2 < u 4 → k2 < mny u t2 → num u t k = num u t2 k2 → t = t2 ∧ k = k2) ∧ wgs u (u 4) + u 11 = u 7
theorem WG_same {u w : Nat → Nat} (h4 : w 4 = u 4) (h7 : w 7 = u 7) (h11 : w 11 = u 11) (hm : ∀ t, t < u 4 → mny w t = mny u t) (hn : ∀ t k, t < u 4 → k < mny u t → num w t k = num u t k) (h : WG u) : WG w := by
  obtain ⟨a, b, c⟩ := h
  refine ⟨fun t k ht hk => ?_, fun t k t2 k2 ht hk ht2 hk2 e => ?_, ?_⟩
  · rw [h4] at ht
    rw [hm t ht] at hk
    rw [hn t k ht hk, h7]
    exact a t k ht hk
  · rw [h4] at ht ht2
    rw [hm t ht] at hk
    rw [hm t2 ht2] at hk2
    rw [hn t k ht hk, hn t2 k2 ht2 hk2] at e
    exact b t k t2 k2 ht hk ht2 hk2 e
  · rw [h4, h7, h11, ← c, wgs_su, wgs_su, su_congr hm]
theorem WG_congr {u w : Nat → Nat} (h4 : u 4 ≤ 4) (h8 : ∀ t, t < 4 → mny u t ≤ 8) (h : ∀ j, j < 131 → w j = u j) (hW : WG u) : WG w := by
  refine WG_same (h 4 (by omega)) (h 7 (by omega)) (h 11 (by omega)) (fun t ht => ?_) (fun t k ht hk => ?_) hW
  · unfold mny; exact h _ (by omega)
  · have := h8 t (by omega); unfold num; exact h _ (by omega)
theorem WG_beg {u : Nat → Nat} {K C : Nat} (hK : K ≤ 4) : WG (begF u K C) := by
  have hz : ∀ j, 6 ≤ j → j < 131 → begF u K C j = 0 := fun j h1 h2 => begF_z h1 h2
  have hm : ∀ t, t < 4 → mny (begF u K C) t = 0 := fun t ht => by unfold mny; exact hz _ (by omega) (by omega)
  refine ⟨fun t k ht hk => ?_, fun t k t2 k2 ht hk ht2 hk2 e => ?_, ?_⟩
  · rw [begF_4] at ht; rw [hm t (by omega)] at hk; omega
  · rw [begF_4] at ht; rw [hm t (by omega)] at hk; omega
  · rw [begF_4, hz 11 (by omega) (by omega), hz 7 (by omega) (by omega), wgs_su, su_congr (e := fun _ => 0) (fun z hz => hm z (by omega)), su_zero]
theorem WG_dep {u : Nat → Nat} {t : Nat} (h4 : u 4 ≤ 4) (h8 : ∀ t, t < 4 → mny u t ≤ 8) (g12 : u 12 ≤ 10) (ht : t < u 4) (h : WG u) : WG (depF u t) := by
  obtain ⟨a, b, c⟩ := h
  have e4 : depF u t 4 = u 4 := by rw [depF_lo (by omega), if_neg (by omega), if_neg (by omega), if_neg (by omega)]
  have e7 : depF u t 7 = u 7 := by rw [depF_lo (by omega), if_neg (by omega), if_neg (by omega), if_neg (by omega)]
  have e11 : depF u t 11 = u 11 + mny u t := depF_lo (by omega)
  have hm : ∀ z, z < 4 → mny (depF u t) z = if z = t then 0 else mny u z := fun z hz => by
    unfold mny
    by_cases e : z = t
    · subst e; rw [if_pos rfl]; exact (depF_01 g12).1
    · rw [if_neg e]; exact depF_hi g12 (by omega) (by omega) (by omega)
  have hn : ∀ z k, z < 4 → k < 8 → num (depF u t) z k = num u z k := fun z k hz hk => by
    unfold num
    exact depF_hi g12 (by omega) (by omega) (by omega)
  refine ⟨fun z k hz hk => ?_, fun z k z2 k2 hz hk hz2 hk2 e => ?_, ?_⟩
  · rw [e4] at hz
    rw [hm z (by omega)] at hk
    by_cases y : z = t
    · rw [if_pos y] at hk; omega
    · rw [if_neg y] at hk
      have := h8 z (by omega)
      rw [hn z k (by omega) (by omega), e7]
      exact a z k hz hk
  · rw [e4] at hz hz2
    rw [hm z (by omega)] at hk
    rw [hm z2 (by omega)] at hk2
    by_cases y : z = t
    · rw [if_pos y] at hk; omega
    · by_cases y2 : z2 = t
      · rw [if_pos y2] at hk2; omega
      · rw [if_neg y] at hk
        rw [if_neg y2] at hk2
        have := h8 z (by omega)
        have := h8 z2 (by omega)
        rw [hn z k (by omega) (by omega), hn z2 k2 (by omega) (by omega)] at e
        exact b z k z2 k2 hz hk hz2 hk2 e
  · rw [e4, e7, e11, wgs_su]
    have q := su_one (e := mny u) (e2 := mny (depF u t)) (f := t) (u 4) (fun z hz hk => by rw [hm z (by omega), if_neg hz])
    rw [if_pos ht, if_pos ht, hm t (by omega), if_pos rfl] at q
    rw [wgs_su] at c
    omega
theorem nx_num {u : Nat → Nat} {f t n : Nat} (hG : GU u) (ho : okM u f t n) {z j : Nat} (hz : z < 4) (hj : j < 8) : num (nxU u f t n) z j = if z = t ∧ mny u t ≤ j ∧ j < mny u t + n then num u f (mny u f - n + (j - mny u t)) else num u z j := by
  obtain ⟨hf, ht, hne, hn1, hn, -⟩ := id ho
  have hfit := (okM_fit ho).1
  have h4 := hG.1
  have h5 := hG.2.1
  exact carU_cell (c := 0) hz hj (by omega) (by omega) (by omega) hne (by omega) hn
theorem nx_mny {u : Nat → Nat} {f t n : Nat} (hG : GU u) (ho : okM u f t n) {z : Nat} (hz : z < 4) : mny (nxU u f t n) z = if z = t then mny u t + n else if z = f then mny u f - n else mny u z := by
  obtain ⟨hf, ht, hne, hn1, hn, -⟩ := id ho
  have hfit := (okM_fit ho).1
  have h4 := hG.1
  have h5 := hG.2.1
  by_cases e1 : z = t
  · subst e1; rw [if_pos rfl]; exact carU_mny_t (by omega) (by omega) hne
  · rw [if_neg e1]
    by_cases e2 : z = f
    · subst e2; rw [if_pos rfl]; exact carU_mny_f (by omega) (by omega) hne
    · rw [if_neg e2]; exact carU_mny_o (by omega) (by omega) (by omega) e2 e1 (by omega)
theorem WG_mov {u : Nat → Nat} {f t n : Nat} (hG : GU u) (ho : okM u f t n) (h : WG u) : WG (nxU u f t n) := by
  obtain ⟨a, b, c⟩ := h
  obtain ⟨hf, ht, hne, hn1, hn, -⟩ := id ho
  have hfit := (okM_fit ho).1
  have h4 := hG.1
  have h5 := hG.2.1
  have h8 := hG.2.2.2.2.1
  have e7 : nxU u f t n 7 = u 7 := carU_lo (by omega) (by omega) (by omega) (by omega)
  have e11 : nxU u f t n 11 = u 11 := carU_lo (by omega) (by omega) (by omega) (by omega)
  -- where a wagon came from
  have src : ∀ z k, z < u 4 → k < mny (nxU u f t n) z → ∃ z0 k0, z0 < u 4 ∧ k0 < mny u z0 ∧ num (nxU u f t n) z k = num u z0 k0 ∧ ((z = t ∧ mny u t ≤ k ∧ z0 = f ∧ k0 = mny u f - n + (k - mny u t)) ∨ (¬ (z = t ∧ mny u t ≤ k) ∧ z0 = z ∧ k0 = k ∧ (z = f → k < mny u f - n))) := fun z k hz hk => by
    have hmz := h8 z (by omega)
    have hmf := h8 f (by omega)
    rw [nx_mny hG ho (by omega)] at hk
    by_cases e1 : z = t
    · subst e1
      rw [if_pos rfl] at hk
      by_cases e2 : mny u z ≤ k
      · exact ⟨f, mny u f - n + (k - mny u z), hf, by omega, by rw [nx_num hG ho (by omega) (by omega), if_pos ⟨rfl, e2, hk⟩], Or.inl ⟨rfl, e2, rfl, rfl⟩⟩
      · exact ⟨z, k, hz, by omega, by rw [nx_num hG ho (by omega) (by omega), if_neg (fun y => e2 y.2.1)], Or.inr ⟨fun y => e2 y.2, rfl, rfl, fun y => absurd y.symm hne⟩⟩
    · rw [if_neg e1] at hk
      have e3 : k < mny u z ∧ (z = f → k < mny u f - n) := by
        by_cases e2 : z = f
        · rw [if_pos e2] at hk; subst e2; exact ⟨by omega, fun _ => hk⟩
        · rw [if_neg e2] at hk; exact ⟨hk, fun y => absurd y e2⟩
      exact ⟨z, k, hz, e3.1, by rw [nx_num hG ho (by omega) (by omega), if_neg (fun y => e1 y.1)], Or.inr ⟨fun y => e1 y.1, rfl, rfl, e3.2⟩⟩
  refine ⟨fun z k hz hk => ?_, fun z k z2 k2 hz hk hz2 hk2 e => ?_, ?_⟩
  · rw [nx_4] at hz
    obtain ⟨z0, k0, g1, g2, g3, -⟩ := src z k hz hk
    rw [g3, e7]
    exact a z0 k0 g1 g2
  · rw [nx_4] at hz hz2
    obtain ⟨z0, k0, g1, g2, g3, g4⟩ := src z k hz hk
    obtain ⟨y0, j0, i1, i2, i3, i4⟩ := src z2 k2 hz2 hk2
    rw [g3, i3] at e
    obtain ⟨q1, q2⟩ := b z0 k0 y0 j0 g1 g2 i1 i2 e
    rcases g4 with ⟨a1, a2, a3, a4⟩ | ⟨a1, a2, a3, a4⟩ <;> rcases i4 with ⟨b1, b2, b3, b4⟩ | ⟨b1, b2, b3, b4⟩
    · exact ⟨by omega, by omega⟩
    · have := b4 (by omega); omega
    · have := a4 (by omega); omega
    · exact ⟨by omega, by omega⟩
  · rw [nx_4, e7, e11, ← c, wgs_su, wgs_su]
    have := su_two (e := mny u) (e2 := mny (nxU u f t n)) hne hf ht (fun z z1 z2 z3 => by rw [nx_mny hG ho (by omega), if_neg z2, if_neg z1]) (by rw [nx_mny hG ho (by omega), nx_mny hG ho (by omega), if_neg hne, if_pos rfl, if_pos rfl]; omega)
    omega
theorem WG_row {u : Nat → Nat} {r : List MV} (hG : GU u) (ho : okRow u r) (h : WG u) : WG (rowU u r) := by
  induction r generalizing u with
  | nil => exact h
  | cons y r ih => exact ih (nx_GU hG ho.1) ho.2 (WG_mov hG ho.1 h)
theorem WG_arr {u B K : Nat → Nat} {t n : Nat} (h4 : u 4 ≤ 4) (h5 : u 5 ≤ 8) (h8 : ∀ t, t < 4 → mny u t ≤ 8) (ht : t < u 4) (hfit : mny u t + n ≤ u 5) (h : WG u) : WG (arrS u t B K n) := by
  obtain ⟨a, b, c⟩ := h
  obtain ⟨e1, e7, elo⟩ := arrS_at (u := u) (t := t) (B := B) (K := K) n
  have hm : ∀ z, z < 4 → mny (arrS u t B K n) z = if z = t then mny u t + n else mny u z := fun z hz => by
    by_cases e : z = t
    · subst e; rw [if_pos rfl]; exact e1
    · rw [if_neg e]; exact arrS_mo hz (by omega) e n (by omega)
  have hn : ∀ z k, z < 4 → k < 8 → num (arrS u t B K n) z k = if z = t ∧ mny u t ≤ k ∧ k < mny u t + n then u 7 + (k - mny u t) else num u z k := fun z k hz hk => by
    have := arrS_cl (u := u) (t := t) (z := z) (j := k) (c := 0) (B := B) (K := K) hz hk (by omega) (by omega) n (by omega)
    rw [if_pos rfl] at this
    exact this
  have e4 := elo 4 (by omega) (by omega)
  have e11 := elo 11 (by omega) (by omega)
  have src : ∀ z k, z < u 4 → k < mny (arrS u t B K n) z → (z = t ∧ mny u t ≤ k ∧ k < mny u t + n ∧ num (arrS u t B K n) z k = u 7 + (k - mny u t)) ∨ (k < mny u z ∧ num (arrS u t B K n) z k = num u z k) := fun z k hz hk => by
    have := h8 z (by omega)
    rw [hm z (by omega)] at hk
    by_cases y : z = t
    · subst y
      rw [if_pos rfl] at hk
      by_cases y2 : mny u z ≤ k
      · exact Or.inl ⟨rfl, y2, hk, by rw [hn z k (by omega) (by omega), if_pos ⟨rfl, y2, hk⟩]⟩
      · exact Or.inr ⟨by omega, by rw [hn z k (by omega) (by omega), if_neg (fun q => y2 q.2.1)]⟩
    · rw [if_neg y] at hk
      exact Or.inr ⟨hk, by rw [hn z k (by omega) (by omega), if_neg (fun q => y q.1)]⟩
  refine ⟨fun z k hz hk => ?_, fun z k z2 k2 hz hk hz2 hk2 e => ?_, ?_⟩
  · rw [e4] at hz
    rcases src z k hz hk with ⟨q1, q2, q3, q4⟩ | ⟨q1, q2⟩
    · rw [q4, e7]; omega
    · have := a z k hz q1
      rw [q2, e7]; omega
  · rw [e4] at hz hz2
    rcases src z k hz hk with ⟨q1, q2, q3, q4⟩ | ⟨q1, q2⟩ <;> rcases src z2 k2 hz2 hk2 with ⟨r1, r2, r3, r4⟩ | ⟨r1, r2⟩
    · rw [q4, r4] at e; exact ⟨by omega, by omega⟩
    · have := a z2 k2 hz2 r1
      rw [q4, r2] at e; omega
    · have := a z k hz q1
      rw [q2, r4] at e; omega
    · rw [q2, r2] at e
      exact b z k z2 k2 hz q1 hz2 r1 e
  · rw [e4, e7, e11, ← c, wgs_su, wgs_su]
    have q := su_one (e := mny u) (e2 := mny (arrS u t B K n)) (f := t) (u 4) (fun z hz hk => by rw [hm z (by omega), if_neg hz])
    rw [if_pos ht, if_pos ht, hm t (by omega), if_pos rfl] at q
    omega
/-- what holds of the yard and of its images -/
def GI (S : AS) : Prop := WG S.1 ∧ ∀ i, i < 2 → flG S.2.2.2.2.1 i ≠ 0 → WG (rowP S.2.2.2.1 i)
theorem GI_eq {S T : AS} (h : EqS S T) (k : GI S) : GI T := by
  obtain ⟨h1, h2, h3, -, -⟩ := h
  unfold GI at k ⊢
  rw [← h1, ← h2, ← h3]
  exact k
theorem GI_chg {S : AS} {u2 : Nat → Nat} (h : GI S) (k : WG u2) : GI (chg S u2) := ⟨k, h.2⟩
theorem GI_wrs {S : AS} (cs : List Int32) (h : GI S) : GI (wrs S cs) := by
  obtain ⟨h1, h2, h3⟩ := wrs_1 cs S
  unfold GI
  rw [h1, h2, h3]
  exact h
theorem wf_m8 {N : Nat} {u : Nat → Nat} (h : Wf N u) : ∀ t, t < 4 → mny u t ≤ 8 := fun t ht => (h.2.2.2.2.2.2.2.2.1 t ht).1
theorem GI_op {N : Nat} {S : AS} (hI : INV N S) (h : GI S) (o : Op) : GI (opN S o) := by
  obtain ⟨k, v, w, x, cs⟩ := o
  have hG := wf_GU hI.1
  have hm := wf_m8 hI.1
  have h4 := hI.1.1
  match k with
  | 0 =>
    show GI (nBeg S v w)
    unfold nBeg
    split
    · rename_i hc
      obtain ⟨k, k0, k1, rfl⟩ := rngN (by omega) hc.1
      exact GI_chg h (WG_beg (by rw [tOf_nI (by omega)]; omega))
    · exact h
  | 1 =>
    show GI (nSet S v w)
    unfold nSet
    split
    · rename_i hc
      obtain ⟨k, k0, k1, rfl⟩ := rngN (by omega) hc.1
      rw [tOf_nI (by omega)]
      exact GI_chg h (WG_same (up_o (by omega)) (up_o (by omega)) (up_o (by omega)) (fun t ht => up_o (by omega)) (fun t j ht hj => up_o (by omega)) h.1)
    · exact h
  | 2 =>
    show GI (nLis (wrs (nWip S) cs))
    have h1 : GI (wrs (nWip S) cs) := GI_wrs cs h
    unfold nLis
    split
    · exact h1
    · have hl : ∀ j, j < 12 ∨ 23 ≤ j → lisF (wrs (nWip S) cs).1 (rlL (wrs (nWip S) cs).2.2.2.2.2.1 (wrs (nWip S) cs).2.2.2.2.2.2.1) (rlN (wrs (nWip S) cs).2.2.2.2.2.1 (wrs (nWip S) cs).2.2.2.2.2.2.1) (rlN (wrs (nWip S) cs).2.2.2.2.2.1 (wrs (nWip S) cs).2.2.2.2.2.2.1) j = (wrs (nWip S) cs).1 j := fun j hj => lisF_o (rlL_b _ _).1 hj
      exact GI_chg h1 (WG_same (hl _ (by omega)) (hl _ (by omega)) (hl _ (by omega)) (fun t ht => hl _ (by omega)) (fun t j ht hj => hl _ (by omega)) h1.1)
  | 3 =>
    show GI (nArr (wrs (nWip S) cs) v)
    have h1 : GI (wrs (nWip S) cs) := GI_wrs cs h
    have e1 : (wrs (nWip S) cs).1 = S.1 := (wrs_1 cs (nWip S)).1
    generalize wrs (nWip S) cs = T at h1 e1
    unfold nArr
    rw [e1]
    rw [← e1] at hG hm h4
    split
    · rename_i hc
      rw [← e1] at hc
      split
      · exact h1
      · split
        · exact h1
        · split
          · exact h1
          · rename_i q4
            obtain ⟨t, t0, t1, rfl⟩ := rngN (by omega) hc
            rw [← e1] at q4 ⊢
            rw [tOf_nI (by omega)] at q4 ⊢
            exact GI_chg h1 (WG_arr hG.1 hG.2.1 hm (by omega) (Nat.not_lt.mp q4) h1.1)
    · exact h1
  | 4 =>
    show GI (nTes S v)
    unfold nTes
    split
    · rename_i hc
      obtain ⟨t, t0, t1, rfl⟩ := rngN (by omega) hc.1
      rw [tOf_nI (by omega)]
      have hl : ∀ j, j ≠ 6 → j ≠ 23 + 27 * t + 1 → j ≠ 23 + 27 * t + 2 → tesF S.1 t j = S.1 j := fun j h1 h2 h3 => by
        unfold tesF
        rw [up_o h3, up_o h2, up_o h1]
      exact GI_chg h (WG_same (hl _ (by omega) (by omega) (by omega)) (hl _ (by omega) (by omega) (by omega)) (hl _ (by omega) (by omega) (by omega)) (fun z hz => hl _ (by omega) (by omega) (by omega)) (fun z j hz hj => hl _ (by omega) (by have := hm z (by omega); omega) (by have := hm z (by omega); omega)) h.1)
    · exact h
  | 5 =>
    show GI (nPau S v)
    unfold nPau
    split
    · exact GI_chg h (WG_same (up_o (by omega)) (up_o (by omega)) (up_o (by omega)) (fun t ht => up_o (by omega)) (fun t j ht hj => up_o (by omega)) h.1)
    · exact h
  | 6 =>
    show GI (nDep S v)
    unfold nDep
    split
    · rename_i hc
      split
      · exact h
      · obtain ⟨t, t0, t1, rfl⟩ := rngN (by omega) hc
        rw [tOf_nI (by omega)]
        exact GI_chg h (WG_dep hG.1 hm hI.1.2.2.2.2.2.2.1 (by omega) h.1)
    · exact h
  | 7 =>
    show GI (nMak S v)
    unfold nMak
    split
    · cases hz : vis (tOf v) S.1 [] 0 none with
      | none => exact h
      | some z => exact GI_chg h (WG_row hG (vis_ok hz).1 h.1)
    · exact h
  | 8 =>
    show GI (nKee S v)
    unfold nKee
    split
    · rename_i hc
      obtain ⟨t, t0, t1, rfl⟩ := rngN (by omega) hc
      rw [tOf_nI (by omega)]
      refine ⟨h.1, fun k hk hz => ?_⟩
      show WG (rowP (va_cpy S.1 S.2.2.2.1 0 (131 * t) 131) k)
      by_cases ek : k = t
      · subst ek
        refine WG_congr hG.1 hm (fun j hj => ?_) h.1
        unfold rowP
        rw [pk_cpy_in (by omega) (by omega)]
        exact congrArg S.1 (by omega)
      · have hz2 : flG S.2.2.2.2.1 k ≠ 0 := by rw [← (flG_flS hI.2.2.2.1 (i := t) (k := k) (by omega) hk).2.1 ek]; exact hz
        have hW2 := hI.2.2.2.2.1 k hk hz2
        refine WG_congr hW2.1.2 (wf_m8 hW2) (fun j hj => ?_) (h.2 k hk hz2)
        unfold rowP
        rw [pk_cpy_out (by omega)]
    · exact h
  | 9 =>
    show GI (nBak S v)
    unfold nBak
    split
    · rename_i hc
      obtain ⟨t, t0, t1, rfl⟩ := rngN (by omega) hc.1
      have h2 := hc.2
      rw [tOf_nI (by omega)] at h2 ⊢
      have hW2 := hI.2.2.2.2.1 t (by omega) h2
      exact GI_chg h (WG_congr hW2.1.2 (wf_m8 hW2) (fun j hj => (row_bak hj).symm) (h.2 t (by omega) h2))
    · exact h
  | n + 10 =>
    show GI (nMov S v w x)
    unfold nMov
    split
    · rename_i hc
      obtain ⟨f, t, n, rfl, rfl, rfl, ho, -, g1, g2, g3⟩ := aCos_ok hG.1 (by omega) hc
      rw [tOf_nI (by omega), tOf_nI (by omega), tOf_nI (by omega)]
      exact GI_chg h (WG_mov hG ho h.1)
    · exact h
theorem GI_0 : GI (u00, (fun _ => 0), 0, (fun _ => 0), 0, (fun _ => 0), 0, (-9), (-9), (-9)) := by
  have hm : ∀ t, t < 4 → mny u00 t = 0 := fun t ht => by
    rcases (show t = 0 ∨ t = 1 ∨ t = 2 ∨ t = 3 by omega) with rfl | rfl | rfl | rfl <;> rfl
  refine ⟨⟨fun t k ht hk => ?_, fun t k t2 k2 ht hk ht2 hk2 e => ?_, ?_⟩, fun i hi hz => absurd ?_ hz⟩
  · have h4 : u00 4 = 3 := rfl
    have ht2 : t < u00 4 := ht
    have hk2 : k < mny u00 t := hk
    rw [hm t (by omega)] at hk2; omega
  · have h4 : u00 4 = 3 := rfl
    have ht2 : t < u00 4 := ht
    have hk2 : k < mny u00 t := hk
    rw [hm t (by omega)] at hk2; omega
  · rfl
  · rcases (show i = 0 ∨ i = 1 by omega) with rfl | rfl <;> rfl
