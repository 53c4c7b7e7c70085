/-! the cheapest rows: the search as it is meant, over all rows; what a move does to a yard -/
abbrev MV : Type := Nat × Nat × Nat
abbrev BST : Type := Option (Nat × List MV)
abbrev VIS : Type := (Nat → Nat) → List MV → Nat → BST → BST
def btr (b : BST) (m k : Nat) : Bool := match b with
  | none => true
  | some z => decide (m < z.1) || (decide (m = z.1) && decide (k < z.2.length))
def rec1 (b : BST) (m : Nat) (row : List MV) : BST := if btr b m row.length = true then some (m, row) else b
def made (u : Nat → Nat) : Prop := ¬ muf u = -9
def stp (V : VIS) (u : Nat → Nat) (row : List MV) (m f t n : Nat) (b : BST) : BST := if f = t ∨ costI u f t n < 0 then b else V (carU u f t n (mins u f t n)) (row ++ [(f, t, n)]) (m + mins u f t n) b
def fN (V : VIS) (u : Nat → Nat) (row : List MV) (m f t : Nat) : Nat → BST → BST
  | 0, b => b
  | n + 1, b => stp V u row m f t (n + 1) (fN V u row m f t n b)
def fT (V : VIS) (u : Nat → Nat) (row : List MV) (m f : Nat) : Nat → BST → BST
  | 0, b => b
  | t + 1, b => fN V u row m f t (mny u f) (fT V u row m f t b)
def fF (V : VIS) (u : Nat → Nat) (row : List MV) (m : Nat) : Nat → BST → BST
  | 0, b => b
  | f + 1, b => fT V u row m f (u 4) (fF V u row m f b)
def vis : Nat → VIS
  | 0, u, row, m, b => if ¬ muf u = -9 then rec1 b m row else b
  | d + 1, u, row, m, b => if ¬ muf u = -9 then rec1 b m row else fF (vis d) u row m (u 4) b
/-- what the moves need of a yard -/
def Cw (u : Nat → Nat) : Prop := u 4 ≤ 4 ∧ u 5 ≤ 8 ∧ ∀ t, t < 4 → mny u t ≤ 8
/-- a move that can be made -/
def okM (u : Nat → Nat) (f t n : Nat) : Prop := f < u 4 ∧ t < u 4 ∧ f ≠ t ∧ 1 ≤ n ∧ n ≤ mny u f ∧ ¬ costI u f t n < 0
theorem okM_fit {u : Nat → Nat} {f t n : Nat} (h : okM u f t n) : mny u t + n ≤ u 5 ∧ costI u f t n = nI (mins u f t n) := by
  rcases costI_cases u f t n with z | ⟨-, z2, z3⟩
  · exact absurd z h.2.2.2.2.2
  · exact ⟨z2, z3⟩
section CAR
variable {u : Nat → Nat} {f t n k : Nat}
theorem carU_lo {j : Nat} (h : j < 23) (h6 : j ≠ 6) (h8 : j ≠ 8) (h9 : j ≠ 9) : carU u f t n k j = u j := by
  unfold carU va_up
  rw [if_neg h9, if_neg h8, if_neg h6]
  exact car4_lo h
theorem carU_hi {j : Nat} (h : 23 ≤ j) : carU u f t n k j = car4 u f t n j := by
  unfold carU va_up
  rw [if_neg (by omega), if_neg (by omega), if_neg (by omega)]
theorem carU_mny_f (hf : f < 4) (ht : t < 4) (hne : f ≠ t) : mny (carU u f t n k) f = mny u f - n := by
  unfold mny
  rw [carU_hi (by omega)]
  unfold car4 va_up
  rw [if_neg (by omega), if_neg (by omega), if_neg (by omega), if_pos rfl]
  rfl
theorem carU_mny_t (hf : f < 4) (ht : t < 4) (hne : f ≠ t) : mny (carU u f t n k) t = mny u t + n := by
  unfold mny
  rw [carU_hi (by omega)]
  unfold car4 va_up
  rw [if_neg (by omega), if_neg (by omega), if_pos rfl]
  rfl
theorem carU_mny_o {z : Nat} (hz : z < 4) (hf : f < 4) (ht : t < 4) (h1 : z ≠ f) (h2 : z ≠ t) (hm : mny u t + n ≤ 8) : mny (carU u f t n k) z = mny u z := by
  unfold mny
  rw [carU_hi (by omega)]
  unfold car4 va_up
  rw [if_neg (by omega), if_neg (by omega), if_neg (by omega), if_neg (by omega)]
  unfold carB
  rw [pk_cpy_out (by unfold mny at *; omega)]
/-- a wagon's cell c (0 number, 1 destination, 2 kind) at a place j of a track z, behind the move -/
theorem carU_cell {z j c : Nat} (hz : z < 4) (hj : j < 8) (hc : c < 3) (hf : f < 4) (ht : t < 4) (hne : f ≠ t) (hm : mny u t + n ≤ 8) (hn : n ≤ mny u f) :
    carU u f t n k (23 + 27 * z + (3 + 3 * j + c)) = if z = t ∧ mny u t ≤ j ∧ j < mny u t + n then u (23 + 27 * f + (3 + 3 * (mny u f - n + (j - mny u t)) + c)) else u (23 + 27 * z + (3 + 3 * j + c)) := by
  rw [carU_hi (by omega)]
  unfold car4 va_up
  rw [if_neg (by omega), if_neg (by omega), if_neg (by omega), if_neg (by omega)]
  unfold carB
  by_cases h : z = t ∧ mny u t ≤ j ∧ j < mny u t + n
  · obtain ⟨rfl, h1, h2⟩ := h
    rw [if_pos ⟨rfl, h1, h2⟩, pk_cpy_in (by omega) (by omega)]
    exact congrArg u (by omega)
  · rw [if_neg h, pk_cpy_out ?_]
    rcases Nat.lt_trichotomy z t with q | q | q
    · left; omega
    · subst q
      rcases Nat.lt_or_ge j (mny u z) with y | y
      · left; omega
      · right
        have : ¬ j < mny u z + n := fun w => h ⟨rfl, y, w⟩
        omega
    · right; omega
theorem carU_big {j : Nat} (h : 131 ≤ j) (hf : f < 4) (ht : t < 4) (hm : mny u t + n ≤ 8) : carU u f t n k j = u j := by
  rw [carU_hi (by omega)]
  unfold car4 va_up
  rw [if_neg (by omega), if_neg (by omega), if_neg (by omega), if_neg (by omega)]
  unfold carB
  rw [pk_cpy_out (by omega)]
end CAR
theorem bnd_congr {u w : Nat → Nat} {t d n : Nat} (h : ∀ j, j < n → dst u t j = dst w t j) : bnd u t d n = bnd w t d n := by
  induction n with
  | zero => rfl
  | succ n ih =>
    unfold bnd
    rw [ih (fun j hj => h j (by omega)), h n (by omega)]
theorem bnd_mono {u : Nat → Nat} {t d a b : Nat} (h : a ≤ b) : bnd u t d a ≤ bnd u t d b := by
  induction b with
  | zero => rw [show a = 0 by omega]; exact Nat.le_refl _
  | succ b ih =>
    by_cases e : a = b + 1
    · subst e; exact Nat.le_refl _
    · have := ih (by omega)
      show _ ≤ bnd u t d b + _
      omega
theorem bnd_zero {u : Nat → Nat} {t d n : Nat} (h : bnd u t d n = 0) {j : Nat} (hj : j < n) : dst u t j ≠ d := by
  induction n with
  | zero => omega
  | succ n ih =>
    unfold bnd at h
    by_cases e : j = n
    · subst e
      intro z
      rw [if_pos z] at h
      omega
    · exact ih (by omega) (by omega)
theorem bnd_of {u : Nat → Nat} {t d n : Nat} (h : ∀ j, j < n → dst u t j ≠ d) : bnd u t d n = 0 := by
  induction n with
  | zero => rfl
  | succ n ih =>
    unfold bnd
    rw [ih (fun j hj => h j (by omega)), if_neg (h n (by omega))]
theorem bnd_pos {u : Nat → Nat} {t d n : Nat} (h : 0 < bnd u t d n) : ∃ j, j < n ∧ dst u t j = d := by
  rcases Classical.em (∃ j, j < n ∧ dst u t j = d) with z | z
  · exact z
  · rw [bnd_of (fun j hj e => z ⟨j, hj, e⟩)] at h
    omega
section OK
variable {u : Nat → Nat} {f t n : Nat}
abbrev nxU (u : Nat → Nat) (f t n : Nat) : Nat → Nat := carU u f t n (mins u f t n)
theorem nx_13 : nxU u f t n 13 = u 13 := carU_lo (by omega) (by omega) (by omega) (by omega)
theorem nx_12 : nxU u f t n 12 = u 12 := carU_lo (by omega) (by omega) (by omega) (by omega)
theorem nx_4 : nxU u f t n 4 = u 4 := carU_lo (by omega) (by omega) (by omega) (by omega)
theorem nx_2 : nxU u f t n 2 = u 2 := carU_lo (by omega) (by omega) (by omega) (by omega)
theorem nx_5 : nxU u f t n 5 = u 5 := carU_lo (by omega) (by omega) (by omega) (by omega)
theorem nx_0 : nxU u f t n 0 = u 0 := carU_lo (by omega) (by omega) (by omega) (by omega)
theorem nx_Cw (h : Cw u) (hm : okM u f t n) : Cw (nxU u f t n) := by
  obtain ⟨h4, h5, h8⟩ := h
  obtain ⟨hf, ht, hne, hn1, hn, -⟩ := id hm
  have hfit := (okM_fit hm).1
  refine ⟨?_, ?_, ?_⟩
  · rw [nx_4]; exact h4
  · rw [nx_5]; exact h5
  · intro z hz
    by_cases e1 : z = f
    · subst e1
      rw [carU_mny_f (by omega) (by omega) hne]
      have := h8 z hz
      omega
    · by_cases e2 : z = t
      · subst e2
        rw [carU_mny_t (by omega) (by omega) hne]
        omega
      · rw [carU_mny_o hz (by omega) (by omega) e1 e2 (by omega)]
        exact h8 z hz
theorem nx_dst (h : Cw u) (hm : okM u f t n) {z j : Nat} (hz : z < 4) (hj : j < 8) : dst (nxU u f t n) z j = if z = t ∧ mny u t ≤ j ∧ j < mny u t + n then dst u f (mny u f - n + (j - mny u t)) else dst u z j := by
  obtain ⟨h4, h5, h8⟩ := h
  obtain ⟨hf, ht, hne, hn1, hn, -⟩ := id hm
  have hfit := (okM_fit hm).1
  exact carU_cell (c := 1) hz hj (by omega) (by omega) (by omega) hne (by omega) hn
/-- a track other than the one left keeps its wagons for the next train -/
theorem nx_bnt_o (h : Cw u) (hm : okM u f t n) {z : Nat} (hz : z < u 4) (hzf : z ≠ f) (hb : 0 < bnt u z) : 0 < bnt (nxU u f t n) z := by
  obtain ⟨h4, h5, h8⟩ := id h
  obtain ⟨hf, ht, hne, hn1, hn, -⟩ := id hm
  have hfit := (okM_fit hm).1
  unfold bnt at hb ⊢
  rw [nx_13]
  have h8z := h8 z (by omega)
  by_cases e2 : z = t
  · subst e2
    rw [carU_mny_t (by omega) (by omega) hne]
    have e : bnd (nxU u f z n) z (u 13) (mny u z) = bnd u z (u 13) (mny u z) := bnd_congr fun j hj => by
      rw [nx_dst h hm (by omega) (by omega), if_neg (by omega)]
    have := bnd_mono (u := nxU u f z n) (t := z) (d := u 13) (Nat.le_add_right (mny u z) n)
    omega
  · rw [carU_mny_o (by omega) (by omega) (by omega) hzf e2 (by omega)]
    have e : bnd (nxU u f t n) z (u 13) (mny u z) = bnd u z (u 13) (mny u z) := bnd_congr fun j hj => by
      rw [nx_dst h hm (by omega) (by omega), if_neg (by omega)]
    omega
theorem nx_bnt_0 (h : Cw u) (hm : okM u f t n) (hall : ∀ z, z < u 4 → bnt u z = 0) {z : Nat} (hz : z < u 4) : bnt (nxU u f t n) z = 0 := by
  obtain ⟨h4, h5, h8⟩ := id h
  obtain ⟨hf, ht, hne, hn1, hn, -⟩ := id hm
  have hfit := (okM_fit hm).1
  have hC := nx_Cw h hm
  unfold bnt
  rw [nx_13]
  refine bnd_of fun j hj => ?_
  have hj8 : j < 8 := Nat.lt_of_lt_of_le hj (hC.2.2 z (by omega))
  rw [nx_dst h hm (by omega) hj8]
  split
  · rename_i hc
    exact bnd_zero (hall f hf) (by omega)
  · rename_i hc
    refine bnd_zero (hall z hz) ?_
    by_cases e1 : z = f
    · subst e1
      rw [carU_mny_f (by omega) (by omega) hne] at hj
      omega
    · by_cases e2 : z = t
      · subst e2
        rw [carU_mny_t (by omega) (by omega) hne] at hj
        rcases Nat.lt_or_ge j (mny u z) with y | y
        · exact y
        · exact absurd ⟨rfl, y, hj⟩ hc
      · rw [carU_mny_o (by omega) (by omega) (by omega) e1 e2 (by omega)] at hj
        exact hj
end OK
theorem spr_step {u w : Nat → Nat} {f : Nat} (n : Nat) (h : ∀ z, z < n → z ≠ f → 0 < bnt u z → 0 < bnt w z) : spr u n ≤ spr w n + (if f < n then 1 else 0) := by
  induction n with
  | zero => exact Nat.zero_le _
  | succ n ih =>
    have ih := ih (fun z hz => h z (by omega))
    show spr u n + _ ≤ spr w n + _ + _
    by_cases e : n = f
    · subst e
      rw [if_neg (by omega)] at ih
      rw [if_pos (by omega : n < n + 1)]
      split <;> split <;> omega
    · have hn := h n (by omega) e
      by_cases hb : 0 < bnt u n
      · rw [if_pos hb, if_pos (hn hb)]
        split at ih <;> split <;> omega
      · rw [if_neg hb]
        split at ih <;> split <;> split <;> omega
theorem spr_0 {u : Nat → Nat} {n : Nat} : spr u n = 0 ↔ ∀ z, z < n → bnt u z = 0 := by
  induction n with
  | zero => exact ⟨fun _ z hz => absurd hz (Nat.not_lt_zero _), fun _ => rfl⟩
  | succ n ih =>
    show spr u n + _ = 0 ↔ _
    constructor
    · intro h z hz
      by_cases e : z = n
      · subst e
        split at h <;> omega
      · exact ih.mp (by omega) z (by omega)
    · intro h
      rw [ih.mpr (fun z hz => h z (by omega)), if_neg (by have := h n (by omega); omega)]
theorem mufS_spr (u : Nat → Nat) (n : Nat) (hn : n ≤ 4) : (mufS u n = 4 → spr u n = 0) ∧ (mufS u n < 4 → spr u n = 1) := by
  induction n with
  | zero => exact ⟨fun _ => rfl, fun h => absurd h (by unfold mufS; omega)⟩
  | succ n ih =>
    obtain ⟨h1, h2⟩ := ih (by omega)
    constructor
    · intro h
      unfold mufS at h
      show spr u n + _ = 0
      split at h
      · omega
      · split at h
        · rw [h1 h, if_neg (by omega)]
        · split at h <;> omega
    · intro h
      unfold mufS at h
      show spr u n + _ = 1
      split at h
      · omega
      · split at h
        · rw [h2 h, if_neg (by omega)]
        · split at h
          · omega
          · rename_i h5 h6 h7
            have h4 : mufS u n = 4 := by
              rcases Classical.em (mufS u n = 4) with z | z
              · exact z
              · exact absurd (Or.inl z) h7
            rw [h1 h4, if_pos (by omega)]
theorem made_spr {u : Nat → Nat} (h4 : u 4 ≤ 4) (h : ¬ muf u = -9) : spr u (u 4) = 1 ∧ u 12 ≠ 0 := by
  unfold muf at h
  by_cases h12 : u 12 = 0
  · rw [if_pos h12] at h; exact absurd rfl h
  · rw [if_neg h12] at h
    by_cases hs : mufS u (u 4) < 4
    · exact ⟨(mufS_spr u (u 4) h4).2 hs, h12⟩
    · rw [if_neg hs] at h; exact absurd rfl h
theorem fN_id {V : VIS} {u : Nat → Nat} {row : List MV} {m f t : Nat} {b : BST} (k : Nat) (h : ∀ n, 1 ≤ n → n ≤ k → stp V u row m f t n b = b) : fN V u row m f t k b = b := by
  induction k with
  | zero => rfl
  | succ k ih =>
    show stp V u row m f t (k + 1) (fN V u row m f t k b) = b
    rw [ih (fun n h1 h2 => h n h1 (by omega))]
    exact h (k + 1) (by omega) (by omega)
theorem fT_id {V : VIS} {u : Nat → Nat} {row : List MV} {m f : Nat} {b : BST} (k : Nat) (h : ∀ t n, t < k → 1 ≤ n → n ≤ mny u f → stp V u row m f t n b = b) : fT V u row m f k b = b := by
  induction k with
  | zero => rfl
  | succ k ih =>
    show fN V u row m f k (mny u f) (fT V u row m f k b) = b
    rw [ih (fun t n h1 => h t n (by omega))]
    exact fN_id _ (fun n => h k n (by omega))
theorem fF_id {V : VIS} {u : Nat → Nat} {row : List MV} {m : Nat} {b : BST} (k : Nat) (h : ∀ f t n, f < k → t < u 4 → 1 ≤ n → n ≤ mny u f → stp V u row m f t n b = b) : fF V u row m k b = b := by
  induction k with
  | zero => rfl
  | succ k ih =>
    show fT V u row m k (u 4) (fF V u row m k b) = b
    rw [ih (fun f t n h1 => h f t n (by omega))]
    exact fT_id _ (fun t n => h k t n (by omega))
/-- where nothing better can be reached, the search leaves what it has -/
theorem vis_id {b : BST} (P : Nat → (Nat → Nat) → Nat → Prop) (h1 : ∀ d u m row, P d u m → ¬ muf u = -9 → rec1 b m row = b) (h2 : ∀ d u m f t n, P (d + 1) u m → okM u f t n → P d (nxU u f t n) (m + mins u f t n)) : ∀ d u m row, P d u m → vis d u row m b = b := by
  intro d
  induction d with
  | zero =>
    intro u m row hP
    unfold vis
    split
    · rename_i hm
      exact h1 0 u m row hP hm
    · rfl
  | succ d ih =>
    intro u m row hP
    unfold vis
    split
    · rename_i hm
      exact h1 (d + 1) u m row hP hm
    · refine fF_id _ fun f t n hf ht hn1 hn => ?_
      unfold stp
      split
      · rfl
      · rename_i hc
        have ho : okM u f t n := ⟨hf, ht, fun e => hc (Or.inl e), hn1, hn, fun e => hc (Or.inr e)⟩
        exact ih _ _ _ (h2 d u m f t n hP ho)
/-- the tracks with wagons of the next train are too many -/
theorem vis_spread {b : BST} {d : Nat} {u : Nat → Nat} {m : Nat} {row : List MV} (hC : Cw u) (h : d + 1 < spr u (u 4)) : vis d u row m b = b := by
  refine vis_id (fun d u _ => Cw u ∧ d + 1 < spr u (u 4)) ?_ ?_ d u m row ⟨hC, h⟩
  · rintro d u m row ⟨hC, hP⟩ hm
    have := (made_spr hC.1 hm).1
    omega
  · rintro d u m f t n ⟨hC, hP⟩ ho
    refine ⟨nx_Cw hC ho, ?_⟩
    have h9 := spr_step (u := u) (w := nxU u f t n) (f := f) (u 4) (fun z hz hzf => nx_bnt_o hC ho hz hzf)
    rw [if_pos ho.1] at h9
    rw [nx_4]
    omega
theorem vis_none {b : BST} {d : Nat} {u : Nat → Nat} {m : Nat} {row : List MV} (hC : Cw u) (h : u 12 = 0 ∨ spr u (u 4) = 0) : vis d u row m b = b := by
  refine vis_id (fun d u _ => Cw u ∧ (u 12 = 0 ∨ spr u (u 4) = 0)) ?_ ?_ d u m row ⟨hC, h⟩
  · rintro d u m row ⟨hC, hP⟩ hm
    have := made_spr hC.1 hm
    omega
  · rintro d u m f t n ⟨hC, hP⟩ ho
    refine ⟨nx_Cw hC ho, ?_⟩
    rcases hP with hP | hP
    · exact Or.inl (by rw [nx_12]; exact hP)
    · refine Or.inr ?_
      rw [nx_4]
      exact spr_0.mpr fun z hz => nx_bnt_0 hC ho (spr_0.mp hP) hz
/-- what is dearer than the best row stays out -/
theorem vis_dear {d : Nat} {u : Nat → Nat} {m bm : Nat} {row r : List MV} (h : bm < m) : vis d u row m (some (bm, r)) = some (bm, r) := by
  refine vis_id (fun _ _ m => bm < m) ?_ ?_ d u m row h
  · intro d u m row hP _
    unfold rec1 btr
    rw [if_neg]
    simp
    omega
  · intro d u m f t n hP _
    show bm < m + _
    omega
