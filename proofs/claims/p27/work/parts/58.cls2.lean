theorem enc_nx {u : Nat → Nat} {f t n z k : Nat} (hG : GU u) (ho : okM u f t n) (hz : z < 4) (hk : k < 8) : enc (nxU u f t n) z k = if z = t ∧ mny u t ≤ k ∧ k < mny u t + n then enc u f (mny u f - n + (k - mny u t)) else enc u z k := by
  obtain ⟨hf, ht, hne, hn1, hn, -⟩ := id ho
  have hfit := (okM_fit ho).1
  have h4 := hG.1
  have h5 := hG.2.1
  have hc : ∀ c, c < 3 → nxU u f t n (23 + 27 * z + (3 + 3 * k + c)) = if z = t ∧ mny u t ≤ k ∧ k < mny u t + n then u (23 + 27 * f + (3 + 3 * (mny u f - n + (k - mny u t)) + c)) else u (23 + 27 * z + (3 + 3 * k + c)) := fun c hc => carU_cell hz hk hc (by omega) (by omega) hne (by omega) hn
  have c0 := hc 0 (by omega)
  have c1 := hc 1 (by omega)
  have c2 := hc 2 (by omega)
  show (nxU u f t n (23 + 27 * z + (3 + 3 * k + 0)) * 6 + nxU u f t n (23 + 27 * z + (3 + 3 * k + 1))) * 3 + nxU u f t n (23 + 27 * z + (3 + 3 * k + 2)) = _
  rw [c0, c1, c2]
  split <;> rfl
theorem YA_back2 {u st ds le wg : Nat → Nat} {f t n : Nat} (hY : YA (nxU u f t n) st ds le wg) (hG : GU u) (ho : okM u f t n) : YA u st ds (shL le t f n) (shW le wg t f n) := by
  obtain ⟨y1, y2, y3, y4⟩ := hY
  obtain ⟨hf, ht, hne, hn1, hn, -⟩ := id ho
  have hfit := (okM_fit ho).1
  have h4 := hG.1
  have h5 := hG.2.1
  have hmf := hG.2.2.2.2.1 f (by omega)
  rw [nx_4] at y3 y4
  rw [nx_12] at y2
  have l1 : le t = mny u t + n := by rw [y3 t ht, carU_mny_t (by omega) (by omega) hne]
  have l2 : le f = mny u f - n := by rw [y3 f hf, carU_mny_f (by omega) (by omega) hne]
  have l3 : ∀ z, z < u 4 → z ≠ f → z ≠ t → le z = mny u z := fun z hz e1 e2 => by rw [y3 z hz, carU_mny_o (by omega) (by omega) (by omega) e1 e2 (by omega)]
  have h12 := hG.2.2.2.2.2.2.2
  refine ⟨fun k hk => (y1 k hk).trans (carU_lo (by omega) (by omega) (by omega) (by omega)), fun k hk => (y2 k hk).trans (carU_lo (by omega) (by omega) (by omega) (by omega)), fun z hz => ?_, fun z k hz hk => ?_⟩
  · unfold shL va_up
    by_cases e1 : z = f
    · subst e1
      rw [if_pos rfl]; omega
    · rw [if_neg e1]
      by_cases e2 : z = t
      · subst e2
        rw [if_pos rfl]; omega
      · rw [if_neg e2]
        exact l3 z hz e1 e2
  · have hm := hG.2.2.2.2.1 z (by omega)
    unfold shW
    rw [l1, l2]
    by_cases hz2 : z = f ∧ mny u f - n ≤ k
    · obtain ⟨rfl, a1⟩ := hz2
      rw [pk_cpy_in (by omega) (by omega)]
      have e := y4 t (mny u t + (k - (mny u z - n))) ht (by rw [carU_mny_t (by omega) (by omega) hne]; omega)
      rw [enc_nx hG ho (by omega) (by omega), if_pos ⟨rfl, by omega, by omega⟩] at e
      rw [show mny u z - n + (mny u t + (k - (mny u z - n)) - mny u t) = k by omega] at e
      rw [← e]
      exact congrArg wg (by omega)
    · rw [pk_cpy_out ?_]
      · have hk2 : k < mny (nxU u f t n) z := by
          by_cases e1 : z = f
          · subst e1
            rw [carU_mny_f (by omega) (by omega) hne]
            have : ¬ mny u z - n ≤ k := fun w => hz2 ⟨rfl, w⟩
            omega
          · by_cases e2 : z = t
            · subst e2
              rw [carU_mny_t (by omega) (by omega) hne]; omega
            · rw [carU_mny_o (by omega) (by omega) (by omega) e1 e2 (by omega)]; exact hk
        have e := y4 z k hz hk2
        rw [enc_nx hG ho (by omega) (by omega), if_neg] at e
        · exact e
        · rintro ⟨rfl, a1, a2⟩
          omega
      · rcases Nat.lt_trichotomy z f with q | q | q
        · left; omega
        · subst q; left
          have : ¬ mny u z - n ≤ k := fun w => hz2 ⟨rfl, w⟩
          omega
        · right; omega
theorem cp3 {f g : Nat → Nat} {i : Nat} (hi : i < 3) : va_cpy f g 0 0 3 i = f i := by
  rw [pk_cpy_in (by omega) (by omega)]
  exact congrArg f (by omega)
/-- the search's state: what is kept from call to call -/
def SK (u st ds le wg : Nat → Nat) (rmv rmi bmv bmi hb : Nat) (wf wt wn bf bt bn : Nat → Nat) (ro : List MV) (mt : Nat) (bb : BST) : Prop := YA u st ds le wg ∧ RRc rmv rmi wf wt wn ro mt ∧ BRc hb bmv bmi bf bt bn bb
theorem RRc_drop2 {mv mi c m : Nat} {wf wt wn : Nat → Nat} {row : List MV} {x : MV} (hr : RRc (mv + 1) (mi + c) wf wt wn (row ++ [x]) (m + c)) (hm : m ≤ 40 * row.length) : RRc mv mi wf wt wn row m := by
  have h := RRc_drop hr hm
  rw [Nat.add_sub_cancel, Nat.add_sub_cancel] at h
  exact h
