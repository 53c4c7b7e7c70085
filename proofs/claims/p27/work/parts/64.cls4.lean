/-! wagons and trains that the text brings -/
theorem rowL_gf (K : Nat → Nat) (s : Nat × Nat × Nat) (q : Nat) : (rowL K (q + 1)).foldl gstep s = gstep ((rowL K q).foldl gstep s) (K q) := by rw [rowL_succ, List.foldl_append]; rfl
theorem sw_gap (u : Nat → Nat) (t n : Nat) (K : Nat → Nat) : ((rowL K n).foldl gstep ((kdf u t 0 (mny u t - 0)).foldl gstep (99, 0, 0))).1 = gap (kds u t (mny u t) ++ rowL K n) := by
  unfold gap gfold
  rw [List.foldl_append, Nat.sub_zero, kdf_0]
theorem arr_cell {u : Nat → Nat} {t z k c q : Nat} {B K : Nat → Nat} (hz : z < 4) (hk : k < 8) (hc : c < 3) (ht : t < 4) (hq : mny (arrS u t B K q) t < 8) (h7 : 23 ≤ 23 + 27 * z) : arrS u t B K (q + 1) (23 + 27 * z + (3 + 3 * k + c)) = if z = t ∧ k = mny u t + q then (if c = 0 then u 7 + q else if c = 1 then B q else K q) else arrS u t B K q (23 + 27 * z + (3 + 3 * k + c)) := by
  have h := (arrS_at (u := u) (t := t) (B := B) (K := K) q).1
  rw [h] at hq
  rw [show arrS u t B K (q + 1) = va_up (va_up (va_up (va_up (va_up (va_up (arrS u t B K q) (23 + 27 * t + (3 + 3 * (mny u t + q))) (u 7 + q)) (23 + 27 * t + (3 + 3 * (mny u t + q) + 1)) (B q)) (23 + 27 * t + (3 + 3 * (mny u t + q) + 2)) (K q)) (23 + 27 * t + 0) (mny u t + q + 1)) (23 + 27 * t + 1) 0) 7 (u 7 + q + 1) from rfl]
  unfold va_up
  rw [if_neg (by omega), if_neg (by omega), if_neg (by omega)]
  by_cases e : z = t ∧ k = mny u t + q
  · rw [if_pos e]
    rcases (show c = 0 ∨ c = 1 ∨ c = 2 by omega) with rfl | rfl | rfl
    · rw [if_neg (by omega), if_neg (by omega), if_pos (by omega), if_pos rfl]
    · rw [if_neg (by omega), if_pos (by omega), if_neg (show ¬ (1 : Nat) = 0 by decide), if_pos rfl]
    · rw [if_pos (by omega), if_neg (show ¬ (2 : Nat) = 0 by decide), if_neg (show ¬ (2 : Nat) = 1 by decide)]
  · rw [if_neg e, if_neg ?_, if_neg ?_, if_neg ?_] <;> omega
theorem YA_arr {u st ds le wg : Nat → Nat} {t q : Nat} {B K : Nat → Nat} (hY : YA (arrS u t B K q) st ds le wg) (hK4 : u 4 ≤ 4) (h12 : u 12 ≤ 10) (ht : t < u 4) (hm : ∀ z, z < u 4 → mny (arrS u t B K q) z ≤ 8) (hq : mny u t + q < 8) :
    YA (arrS u t B K (q + 1)) st ds (va_up le t (mny u t + q + 1)) (va_up wg (t * 8 + (mny u t + q)) (((u 7 + q) * 6 + B q) * 3 + K q)) := by
  obtain ⟨y1, y2, y3, y4⟩ := hY
  have a0 := arrS_at (u := u) (t := t) (B := B) (K := K) q
  have a1 := arrS_at (u := u) (t := t) (B := B) (K := K) (q + 1)
  have e4 : arrS u t B K q 4 = u 4 := a0.2.2 4 (by omega) (by omega)
  have e4' : arrS u t B K (q + 1) 4 = u 4 := a1.2.2 4 (by omega) (by omega)
  have e12 : arrS u t B K q 12 = u 12 := a0.2.2 12 (by omega) (by omega)
  have e12' : arrS u t B K (q + 1) 12 = u 12 := a1.2.2 12 (by omega) (by omega)
  have hmo : ∀ z, z < u 4 → z ≠ t → mny (arrS u t B K (q + 1)) z = mny (arrS u t B K q) z := fun z hz hne => by
    have h := a0.1
    unfold mny at h ⊢
    show va_up _ 7 _ (23 + 27 * z + 0) = _
    unfold va_up
    unfold mny at *
    rw [if_neg (by omega), if_neg (by omega), if_neg (by omega), if_neg (by omega), if_neg (by omega), if_neg (by omega)]
  refine ⟨fun k hk => ?_, fun k hk => ?_, fun z hz => ?_, fun z k hz hk => ?_⟩
  · rw [y1 k hk, a0.2.2 k (by omega) (by omega), a1.2.2 k (by omega) (by omega)]
  · rw [e12'] at hk
    rw [y2 k (by omega), a0.2.2 _ (by omega) (by omega), a1.2.2 _ (by omega) (by omega)]
  · rw [e4'] at hz
    unfold va_up
    by_cases e : z = t
    · subst e
      rw [if_pos rfl, a1.1]; omega
    · rw [if_neg e, y3 z (by omega), hmo z hz e]
  · rw [e4'] at hz
    have hk8 : k < 8 := by
      by_cases e : z = t
      · subst e; rw [a1.1] at hk; omega
      · rw [hmo z hz e] at hk
        have := hm z hz
        omega
    have hc : ∀ c, c < 3 → _ := fun c hc => arr_cell (u := u) (t := t) (z := z) (k := k) (c := c) (q := q) (B := B) (K := K) (by omega) hk8 hc (by omega) (by rw [a0.1]; exact hq) (by omega)
    have c0 := hc 0 (by omega)
    have c1 := hc 1 (by omega)
    have c2 := hc 2 (by omega)
    have e : enc (arrS u t B K (q + 1)) z k = if z = t ∧ k = mny u t + q then ((u 7 + q) * 6 + B q) * 3 + K q else enc (arrS u t B K q) z k := by
      show (arrS u t B K (q + 1) (23 + 27 * z + (3 + 3 * k + 0)) * 6 + arrS u t B K (q + 1) (23 + 27 * z + (3 + 3 * k + 1))) * 3 + arrS u t B K (q + 1) (23 + 27 * z + (3 + 3 * k + 2)) = _
      rw [c0, c1, c2]
      split
      · rfl
      · rfl
    rw [e]
    unfold va_up
    by_cases h : z = t ∧ k = mny u t + q
    · rw [if_pos h, if_pos (by omega)]
    · have hne : z * 8 + k ≠ t * 8 + (mny u t + q) := by
        intro w
        apply h
        omega
      rw [if_neg h, if_neg hne]
      refine y4 z k (by omega) ?_
      by_cases e : z = t
      · subst e
        rw [a1.1] at hk
        rw [a0.1]
        have : k ≠ mny u z + q := fun w => h ⟨rfl, w⟩
        omega
      · rw [hmo z hz e] at hk
        exact hk
theorem ti_te (te : Nat → Int32) (t i : Nat) : upd (if i = 0 then te else upd te t (-1)) t (-1) = if i + 1 = 0 then te else upd te t (-1) := by
  rw [if_neg (show ¬ i + 1 = 0 by omega)]
  by_cases h : i = 0
  · rw [if_pos h]
  · rw [if_neg h]
    funext j
    unfold upd
    split <;> rfl
theorem arr_mny {u : Nat → Nat} {t q K4 : Nat} {B K : Nat → Nat} (hm : ∀ z, z < K4 → mny (arrS u t B K q) z ≤ 8) (_ht : t < K4) (hq : mny u t + q < 8) : ∀ z, z < K4 → mny (arrS u t B K (q + 1)) z ≤ 8 := by
  intro z hz
  by_cases e : z = t
  · subst e
    rw [(arrS_at (u := u) (t := z) (B := B) (K := K) (q + 1)).1]
    omega
  · have h := hm z hz
    have a0 := (arrS_at (u := u) (t := t) (B := B) (K := K) q).1
    have : mny (arrS u t B K (q + 1)) z = mny (arrS u t B K q) z := by
      unfold mny at a0 ⊢
      show va_up _ 7 _ (23 + 27 * z + 0) = _
      unfold va_up
      unfold mny at *
      rw [if_neg (by omega), if_neg (by omega), if_neg (by omega), if_neg (by omega), if_neg (by omega), if_neg (by omega)]
    omega
def lsO (k : Nat) : Nat := match k with | 1 => 10 | 2 => 1 | _ => 0
def grO (k : Nat) : Nat := match k with | 0 => 3 | 1 => 600 | 2 => 20 | _ => 30
