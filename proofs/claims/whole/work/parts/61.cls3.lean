theorem pm_sw {α : Type} (A B C : List α) : (A ++ (B ++ C)).Perm (B ++ (A ++ C)) := by
  rw [← List.append_assoc, ← List.append_assoc]
  exact List.Perm.append_right C List.perm_append_comm
theorem pm_en {α : Type} (A B : List α) : (A ++ B).Perm (B ++ A) := List.perm_append_comm
theorem cpyF {α : Type} {f g : Nat → α} {i n : Nat} (hi : i < n) : va_cpy f g 0 0 n i = f i := by
  rw [pk_cpy_in (by omega) (by omega)]
  exact congrArg f (by omega)
theorem YA_cpy {u st ds le wg st2 ds2 le2 wg2 : Nat → Nat} (hY : YA u st ds le wg) (hG : GU u) : YA u (va_cpy st st2 0 0 4) (va_cpy ds ds2 0 0 10) (va_cpy le le2 0 0 4) (va_cpy wg wg2 0 0 32) := by
  obtain ⟨y1, y2, y3, y4⟩ := hY
  have h4 := hG.1
  have h12 := hG.2.2.2.2.2.2.2
  refine ⟨fun k hk => ?_, fun k hk => ?_, fun k hk => ?_, fun t k ht hk => ?_⟩
  · rw [cpyF (by omega)]; exact y1 k hk
  · rw [cpyF (by omega)]; exact y2 k hk
  · rw [cpyF (by omega)]; exact y3 k hk
  · have := hG.2.2.2.2.1 t (by omega)
    rw [cpyF (by omega)]; exact y4 t k ht hk
theorem RRc_nil (wf wt wn : Nat → Nat) : RRc 0 0 wf wt wn [] 0 := ⟨rfl, rfl, Nat.le_refl _, Nat.zero_le _, fun i x h => by rw [List.getElem?_nil] at h; exact absurd h (by simp)⟩
theorem fiy_spr0 {u : Nat → Nat} {n : Nat} (h : fiy u n = 0) : spr u n = 0 := by
  induction n with
  | zero => rfl
  | succ n ih =>
    have h2 : fiy u n + bnt u n = 0 := h
    show spr u n + (if 0 < bnt u n then 1 else 0) = 0
    rw [ih (by omega), if_neg (by omega)]
