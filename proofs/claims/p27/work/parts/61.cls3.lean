theorem pm_sw {α : Type} (A B C : List α) : (A ++ (B ++ C)).Perm (B ++ (A ++ C)) := by
  rw [← List.append_assoc, ← List.append_assoc]
  exact List.Perm.append_right C List.perm_append_comm
theorem pm_en {α : Type} (A B : List α) : (A ++ B).Perm (B ++ A) := List.perm_append_comm
theorem cpyF {α : Type} {f g : Nat → α} {i n : Nat} (hi : i < n) : va_cpy f g 0 0 n i = f i := by
  rw [pk_cpy_in (by omega) (by omega)]
  exact congrArg f (by omega)
theorem YA_cpy {u st ds le wg st2 ds2 le2 wg2 : Nat → Nat} (hY : YA u st ds le wg) (hG : GU u) : YA u (va_cpy st st2 0 0 4) (va_cpy ds ds2 0 0 10) (va_cpy le le2 0 0 4) (va_cpy wg wg2 0 0 32) := by
  obtain ⟨y1, y2, y3, y4⟩ := hY
  have h4 := hG.1
  have h12 := hG.2.2.2.2.2.2.2
  refine ⟨fun k hk => ?_, fun k hk => ?_, fun k hk => ?_, fun t k ht hk => ?_⟩
  · rw [cpyF (by omega)]; exact y1 k hk
  · rw [cpyF (by omega)]; exact y2 k hk
  · rw [cpyF (by omega)]; exact y3 k hk
  · have := hG.2.2.2.2.1 t (by omega)
    rw [cpyF (by omega)]; exact y4 t k ht hk
theorem RRc_nil (wf wt wn : Nat → Nat) : RRc 0 0 wf wt wn [] 0 := ⟨rfl, rfl, Nat.le_refl _, Nat.zero_le _, fun i x h => by rw [List.getElem?_nil] at h; exact absurd h (by simp)⟩
theorem fiy_spr0 {u : Nat → Nat} {n : Nat} (h : fiy u n = 0) : spr u n = 0 := by
  induction n with
  | zero => rfl
  | succ n ih =>
    have h2 : fiy u n + bnt u n = 0 := h
    show spr u n + (if 0 < bnt u n then 1 else 0) = 0
    rw [ih (by omega), if_neg (by omega)]
/-- the next train's wagons that are counted behind `a` others -/
theorem bnd_split {u : Nat → Nat} {t d a : Nat} {w : Nat → Nat} {z s : Nat} (k : Nat) (h : ∀ j, j < k → dst w z (a + j) = dst u t (s + j)) : bnd w z d (a + k) + bnd u t d s = bnd w z d a + bnd u t d (s + k) := by
  induction k with
  | zero => exact rfl
  | succ k ih =>
    have h1 := ih (fun j hj => h j (by omega))
    have h2 := h k (by omega)
    show (bnd w z d (a + k) + (if dst w z (a + k) = d then 1 else 0)) + _ = _ + (bnd u t d (s + k) + (if dst u t (s + k) = d then 1 else 0))
    rw [h2]
    omega
theorem nx_bnt_sum {u : Nat → Nat} {f t n : Nat} (h : Cw u) (hm : okM u f t n) : bnt (nxU u f t n) f + bnt (nxU u f t n) t = bnt u f + bnt u t := by
  obtain ⟨hK, hC, hl⟩ := h
  obtain ⟨hf, ht, hne, hn1, hn, -⟩ := id hm
  have hfit := (okM_fit hm).1
  have e1 : mny (nxU u f t n) f = mny u f - n := carU_mny_f (by omega) (by omega) hne
  have e2 : mny (nxU u f t n) t = mny u t + n := carU_mny_t (by omega) (by omega) hne
  have hmf := hl f (by omega)
  unfold bnt
  rw [e1, e2, nx_13]
  have q1 : bnd (nxU u f t n) f (u 13) (mny u f - n) = bnd u f (u 13) (mny u f - n) := bnd_congr fun j hj => by
    rw [nx_dst ⟨hK, hC, hl⟩ hm (by omega) (by omega), if_neg (fun z => hne z.1)]
  have q2 : bnd (nxU u f t n) t (u 13) (mny u t) = bnd u t (u 13) (mny u t) := bnd_congr fun j hj => by
    rw [nx_dst ⟨hK, hC, hl⟩ hm (by omega) (by omega), if_neg (by omega)]
  have q3 := bnd_split (u := u) (w := nxU u f t n) (t := f) (z := t) (d := u 13) (a := mny u t) (s := mny u f - n) n (fun j hj => by
    rw [nx_dst ⟨hK, hC, hl⟩ hm (by omega) (by omega), if_pos (by omega), show mny u t + j - mny u t = j by omega])
  rw [show mny u f - n + n = mny u f by omega] at q3
  omega
theorem fiy_two {u w : Nat → Nat} {f t : Nat} (hne : f ≠ t) (h : ∀ z, z ≠ f → z ≠ t → z < 4 → bnt w z = bnt u z) (k : Nat) (hk : k ≤ 4) : fiy w k + ((if f < k then bnt u f else 0) + (if t < k then bnt u t else 0)) = fiy u k + ((if f < k then bnt w f else 0) + (if t < k then bnt w t else 0)) := by
  induction k with
  | zero => rfl
  | succ k ih =>
    have h1 := ih (by omega)
    have h2 := h k
    show (fiy w k + bnt w k) + _ = (fiy u k + bnt u k) + _
    rcases Nat.lt_trichotomy f k with hf | hf | hf
    · rcases Nat.lt_trichotomy t k with ht | ht | ht
      · simp only [if_pos hf, if_pos ht] at h1
        simp only [if_pos (show f < k + 1 by omega), if_pos (show t < k + 1 by omega)]
        have h3 := h2 (by omega) (by omega) (by omega)
        omega
      · simp only [if_pos hf, if_neg (show ¬ t < k by omega)] at h1
        simp only [if_pos (show f < k + 1 by omega), if_pos (show t < k + 1 by omega)]
        subst ht
        omega
      · simp only [if_pos hf, if_neg (show ¬ t < k by omega)] at h1
        simp only [if_pos (show f < k + 1 by omega), if_neg (show ¬ t < k + 1 by omega)]
        have h3 := h2 (by omega) (by omega) (by omega)
        omega
    · rcases Nat.lt_trichotomy t k with ht | ht | ht
      · simp only [if_neg (show ¬ f < k by omega), if_pos ht] at h1
        simp only [if_pos (show f < k + 1 by omega), if_pos (show t < k + 1 by omega)]
        subst hf
        omega
      · exact absurd (hf.trans ht.symm) hne
      · simp only [if_neg (show ¬ f < k by omega), if_neg (show ¬ t < k by omega)] at h1
        simp only [if_pos (show f < k + 1 by omega), if_neg (show ¬ t < k + 1 by omega)]
        subst hf
        omega
    · rcases Nat.lt_trichotomy t k with ht | ht | ht
      · simp only [if_neg (show ¬ f < k by omega), if_pos ht] at h1
        simp only [if_neg (show ¬ f < k + 1 by omega), if_pos (show t < k + 1 by omega)]
        have h3 := h2 (by omega) (by omega) (by omega)
        omega
      · simp only [if_neg (show ¬ f < k by omega), if_neg (show ¬ t < k by omega)] at h1
        simp only [if_neg (show ¬ f < k + 1 by omega), if_pos (show t < k + 1 by omega)]
        subst ht
        omega
      · simp only [if_neg (show ¬ f < k by omega), if_neg (show ¬ t < k by omega)] at h1
        simp only [if_neg (show ¬ f < k + 1 by omega), if_neg (show ¬ t < k + 1 by omega)]
        have h3 := h2 (by omega) (by omega) (by omega)
        omega
theorem nx_fiy {u : Nat → Nat} {f t n : Nat} (h : Cw u) (hm : okM u f t n) : fiy (nxU u f t n) (u 4) = fiy u (u 4) := by
  have hs := nx_bnt_sum h hm
  obtain ⟨hK, hC, hl⟩ := id h
  obtain ⟨hf, ht, hne, hn1, hn, -⟩ := id hm
  have hfit := (okM_fit hm).1
  have q := fiy_two (u := u) (w := nxU u f t n) hne (fun z z1 z2 z4 => by
    have e : mny (nxU u f t n) z = mny u z := carU_mny_o z4 (by omega) (by omega) z1 z2 (by omega)
    have := hl z z4
    unfold bnt
    rw [e, nx_13]
    exact bnd_congr fun j hj => by rw [nx_dst h hm z4 (by omega), if_neg (fun y => z2 y.1)]) (u 4) hK
  rw [if_pos hf, if_pos hf, if_pos ht, if_pos ht] at q
  omega
/-- a made up train stands on one track -/
theorem made_fiy {u : Nat → Nat} (h4 : u 4 ≤ 4) (h : ¬ muf u = -9) : ∃ t, t < u 4 ∧ fiy u (u 4) = bnt u t ∧ mny u t ≤ bnt u t := by
  have hm : u 12 ≠ 0 ∧ mufS u (u 4) < 4 := by
    unfold muf at h
    by_cases e : u 12 = 0
    · rw [if_pos e] at h; exact absurd rfl h
    · rw [if_neg e] at h
      refine ⟨e, ?_⟩
      rcases Nat.lt_or_ge (mufS u (u 4)) 4 with y | y
      · exact y
      · rw [if_neg (by omega)] at h; exact absurd rfl h
  obtain ⟨h1, h2, h3⟩ := (mufS_at u (u 4) h4).2 hm.2
  generalize mufS u (u 4) = t at h1 h2 h3
  refine ⟨t, h1, ?_, h2⟩
  have : ∀ k, k ≤ u 4 → fiy u k = if t < k then bnt u t else 0 := fun k => by
    induction k with
    | zero => intro _; rfl
    | succ k ih =>
      intro hk
      show fiy u k + bnt u k = _
      rw [ih (by omega)]
      by_cases e : k = t
      · subst e; rw [if_neg (by omega), if_pos (by omega)]; omega
      · rw [h3 k (by omega) e]
        by_cases e2 : t < k
        · rw [if_pos e2, if_pos (by omega)]; omega
        · rw [if_neg e2, if_neg (by omega)]
  rw [this _ (Nat.le_refl _), if_pos h1]
theorem bnt_le (u : Nat → Nat) (t : Nat) : bnt u t ≤ mny u t := bnd_le u t (u 13) (mny u t)
def fitK (u : Nat → Nat) : Prop := ∀ t, t < u 4 → mny u t ≤ u 5
theorem nx_fit {u : Nat → Nat} {f t n : Nat} (h : Cw u) (hM : fitK u) (hm : okM u f t n) : fitK (nxU u f t n) := by
  intro z hz
  rw [nx_4] at hz
  rw [nx_5]
  obtain ⟨hK, hC, hl⟩ := id h
  obtain ⟨hf, ht, hne, hn1, hn, -⟩ := id hm
  have hfit := (okM_fit hm).1
  by_cases e1 : z = f
  · subst e1
    have e : mny (nxU u z t n) z = mny u z - n := carU_mny_f (by omega) (by omega) hne
    have := hM z hz
    omega
  · by_cases e2 : z = t
    · subst e2
      have e : mny (nxU u f z n) z = mny u z + n := carU_mny_t (by omega) (by omega) hne
      omega
    · have e : mny (nxU u f t n) z = mny u z := carU_mny_o (by omega) (by omega) (by omega) e1 e2 (by omega)
      have := hM z hz
      omega
/-- more than a track holds is never made up -/
theorem vis_full {b : BST} {d : Nat} {u : Nat → Nat} {m : Nat} {row : List MV} (hC : Cw u) (hM : fitK u) (h : u 5 < fiy u (u 4)) : vis d u row m b = b := by
  refine vis_id (b := b) (fun _ u _ => Cw u ∧ fitK u ∧ u 5 < fiy u (u 4)) ?_ ?_ d u m row ⟨hC, hM, h⟩
  · rintro d u m row ⟨hC, hM, hP⟩ hm
    obtain ⟨t, ht, h1, h2⟩ := made_fiy hC.1 hm
    have h3 := hM t ht
    have h4 := bnt_le u t
    omega
  · rintro d u m f t n ⟨hC, hM, hP⟩ ho
    refine ⟨nx_Cw hC ho, nx_fit hC hM ho, ?_⟩
    rw [nx_4, nx_5, nx_fiy hC ho]
    exact hP
