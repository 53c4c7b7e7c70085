/-! the class's search beside the search as it is meant -/
theorem cwt_b (p : Nat → Bool) {k : Nat} (hk : k ≤ 8) : (cwt p k).1 ≤ 8 ∧ (cwt p k).2.1 ≤ 8 ∧ (cwt p k).2.2 ≤ 8 := by
  have h := cwt_ok p k
  omega
theorem cwt_t {p : Nat → Bool} {k x y z : Nat} (h : p k = true) (hx : x = (cwt p k).1) (hy : y = (cwt p k).2.1) (hz : z = (cwt p k).2.2) : x + 1 = (cwt p (k + 1)).1 ∧ (y = k → y + 1 = (cwt p (k + 1)).2.1) ∧ (y ≠ k → y = (cwt p (k + 1)).2.1) ∧ z + 1 = (cwt p (k + 1)).2.2 := by
  unfold cwt
  rw [if_pos h]
  dsimp only
  refine ⟨by omega, fun e => ?_, fun e => ?_, by omega⟩
  · rw [if_pos (by omega)]; omega
  · rw [if_neg (by omega)]; omega
theorem cwt_f {p : Nat → Bool} {k x y : Nat} (h : ¬ p k = true) (hx : x = (cwt p k).1) (hy : y = (cwt p k).2.1) : x = (cwt p (k + 1)).1 ∧ y = (cwt p (k + 1)).2.1 ∧ 0 = (cwt p (k + 1)).2.2 := by
  unfold cwt
  rw [if_neg h]
  exact ⟨hx, hy, rfl⟩
def WA (u wa wi wo : Nat → Nat) (k : Nat) : Prop := ∀ z, z < k → wa z = (cwt (isW u z) (mny u z)).1 ∧ wi z = (cwt (isW u z) (mny u z)).2.1 ∧ wo z = (cwt (isW u z) (mny u z)).2.2
theorem WA_up {u wa wi wo : Nat → Nat} {k : Nat} (h : WA u wa wi wo k) : WA u (va_up wa k (cwt (isW u k) (mny u k)).1) (va_up wi k (cwt (isW u k) (mny u k)).2.1) (va_up wo k (cwt (isW u k) (mny u k)).2.2) (k + 1) := by
  intro z hz
  unfold va_up
  by_cases e : z = k
  · subst e
    rw [if_pos rfl, if_pos rfl, if_pos rfl]
    exact ⟨rfl, rfl, rfl⟩
  · rw [if_neg e, if_neg e, if_neg e]
    exact h z (by omega)
theorem mix_b {A : Bool} {D : Prop} [Decidable D] {y v : Nat} (hy : y = if A = true then 1 else 0) (h : v = if y ≠ 0 ∨ D then 1 else 0) : v = if (A || decide D) = true then 1 else 0 := by
  rw [h, hy]
  cases A with
  | true => rw [if_pos (Or.inl (by decide)), Bool.true_or, if_pos rfl]
  | false =>
    rw [Bool.false_or]
    by_cases e : D
    · rw [if_pos (Or.inr e), if_pos (decide_eq_true e)]
    · rw [if_neg (fun z => z.elim (fun w => w rfl) e), if_neg (fun w => e (of_decide_eq_true w))]
theorem mn_up {p : Nat → Nat → Bool} {L : Nat → Nat} {t z x y v : Nat} (h : z ≠ t ∧ 0 < (cwt (p z) (L z)).1) (hx : x = (mnS p L t z).1) (hy : y = if (mnS p L t z).2 = true then 1 else 0) (hv : v = if y ≠ 0 ∨ (cwt (p z) (L z)).2.2 < (cwt (p z) (L z)).1 then 1 else 0) : x + 1 = (mnS p L t (z + 1)).1 ∧ v = if (mnS p L t (z + 1)).2 = true then 1 else 0 := by
  unfold mnS
  rw [if_pos h]
  exact ⟨by show x + 1 = _ + 1; rw [hx], mix_b hy hv⟩
theorem mn_skip {p : Nat → Nat → Bool} {L : Nat → Nat} {t z x y : Nat} (h : ¬ (z ≠ t ∧ 0 < (cwt (p z) (L z)).1)) (hx : x = (mnS p L t z).1) (hy : y = if (mnS p L t z).2 = true then 1 else 0) : x = (mnS p L t (z + 1)).1 ∧ y = if (mnS p L t (z + 1)).2 = true then 1 else 0 := by
  unfold mnS
  rw [if_neg h]
  exact ⟨hx, hy⟩
theorem mn_0 {p : Nat → Nat → Bool} {L : Nat → Nat} {t x y : Nat} (hx : x = if (cwt (p t) (L t)).2.1 < L t then 1 else 0) (hy : y = if (cwt (p t) (L t)).2.1 < (cwt (p t) (L t)).1 then 1 else 0) : x = (mnS p L t 0).1 ∧ y = if (mnS p L t 0).2 = true then 1 else 0 := by
  refine ⟨hx, ?_⟩
  show y = if decide ((cwt (p t) (L t)).2.1 < (cwt (p t) (L t)).1) = true then 1 else 0
  by_cases e : (cwt (p t) (L t)).2.1 < (cwt (p t) (L t)).1
  · rw [if_pos (decide_eq_true e), hy, if_pos e]
  · rw [if_neg (fun w => e (of_decide_eq_true w)), hy, if_neg e]
theorem nd_t {p : Nat → Nat → Bool} {L : Nat → Nat} {t z x y K : Nat} (hx : x = (mnS p L t z).1) (hy : y = if (mnS p L t z).2 = true then 1 else 0) (hz : z = K) : (y = 0 → x = nd p L K t) ∧ (y ≠ 0 → x + 1 = nd p L K t) := by
  subst hz
  unfold nd
  by_cases e : (mnS p L t z).2 = true
  · rw [if_pos e] at hy
    rw [if_pos e]
    exact ⟨fun w => by omega, fun _ => by omega⟩
  · rw [if_neg e] at hy
    rw [if_neg e]
    exact ⟨fun _ => hx, fun w => by omega⟩
theorem nd_6 (p : Nat → Nat → Bool) (L : Nat → Nat) {K : Nat} (hK : K ≤ 4) (t : Nat) : nd p L K t ≤ 6 := by
  have := nd_b (p := p) (L := L) (t := t) K
  unfold nd
  split <;> omega
theorem needU_6 {u : Nat → Nat} (hK : u 4 ≤ 4) : needU u ≤ 6 := Nat.le_trans (ndM_le _ 0 (Nat.zero_le _)) (nd_6 _ _ hK 0)
theorem ndM_s {p : Nat → Nat → Bool} {L : Nat → Nat} {K q x : Nat} (hq : 1 ≤ q) (hx : x = ndM p L K (q - 1)) : Nat.min x (nd p L K q) = ndM p L K (q + 1 - 1) := by
  obtain ⟨k, rfl⟩ : ∃ k, q = k + 1 := ⟨q - 1, by omega⟩
  rw [hx]
  rfl
/-- what the best row holds -/
def BRc (hb bmv bmi : Nat) (fr to nn : Nat → Nat) (b : BST) : Prop := match b with
  | none => hb = 0
  | some z => hb = 1 ∧ bmi = z.1 ∧ bmv = z.2.length ∧ z.2.length ≤ 3 ∧ z.1 ≤ 120 ∧ ∀ (i : Nat) (x : MV), z.2[i]? = some x → fr i = x.1 ∧ to i = x.2.1 ∧ nn i = x.2.2
def RRc (mv mi : Nat) (fr to nn : Nat → Nat) (row : List MV) (m : Nat) : Prop := mv = row.length ∧ mi = m ∧ m ≤ 40 * row.length ∧ row.length ≤ 3 ∧ ∀ (i : Nat) (x : MV), row[i]? = some x → fr i = x.1 ∧ to i = x.2.1 ∧ nn i = x.2.2
section RB
variable {hb bmv bmi mv mi : Nat} {fr to nn wf wt wn : Nat → Nat} {b : BST} {row : List MV} {m : Nat}
theorem BRc_b (h : BRc hb bmv bmi fr to nn b) : hb ≤ 1 := by
  cases b with
  | none => rw [show hb = 0 from h]; exact Nat.zero_le _
  | some z => exact Nat.le_of_eq h.1
theorem BRc_1 (h : BRc hb bmv bmi fr to nn b) (h1 : hb ≠ 0) : bmi ≤ 120 ∧ bmv ≤ 3 ∧ ∃ z, b = some z ∧ bmi = z.1 ∧ bmv = z.2.length := by
  cases b with
  | none => exact absurd h h1
  | some z => obtain ⟨-, a1, a2, a3, a4, -⟩ := h; exact ⟨by omega, by omega, z, rfl, a1, a2⟩
theorem BRc_0 (h : BRc hb bmv bmi fr to nn b) (h1 : hb = 0) : b = none := by
  cases b with
  | none => rfl
  | some z => rw [h1] at h; exact absurd h.1 (by decide)
theorem BRc_keep (h : BRc hb bmv bmi fr to nn b) (h1 : hb ≠ 0) (hr : RRc mv mi wf wt wn row m) (hn : ¬ (mi < bmi ∨ mi = bmi ∧ mv < bmv)) : BRc hb bmv bmi fr to nn (rec1 b m row) := by
  obtain ⟨-, -, z, rfl, a1, a2⟩ := BRc_1 h h1
  obtain ⟨r1, r2, -, -, -⟩ := hr
  unfold rec1
  rw [if_neg]
  · exact h
  · unfold btr
    dsimp only
    rw [decide_eq_false (show ¬ m < z.1 by omega), Bool.false_or, Bool.and_eq_true, decide_eq_true_iff, decide_eq_true_iff]
    intro w
    exact hn (Or.inr ⟨by omega, by omega⟩)
theorem BRc_new {f2 t2 n2 : Nat → Nat} (h : BRc hb bmv bmi fr to nn b) (hr : RRc mv mi wf wt wn row m) (hn : hb = 0 ∨ (mi < bmi ∨ mi = bmi ∧ mv < bmv)) (hf : ∀ i, i < 3 → f2 i = wf i ∧ t2 i = wt i ∧ n2 i = wn i) : BRc 1 mv mi f2 t2 n2 (rec1 b m row) := by
  obtain ⟨r1, r2, r3, r4, r5⟩ := hr
  have hy : btr b m row.length = true := by
    rcases Nat.eq_zero_or_pos hb with z | z
    · rw [BRc_0 h z]; rfl
    · obtain ⟨-, -, z2, rfl, a1, a2⟩ := BRc_1 h (by omega)
      unfold btr
      dsimp only
      rw [Bool.or_eq_true, Bool.and_eq_true, decide_eq_true_iff, decide_eq_true_iff, decide_eq_true_iff]
      omega
  unfold rec1
  rw [if_pos hy]
  refine ⟨rfl, r2, r1, r4, by show m ≤ 120; omega, fun i x hx => ?_⟩
  have hi : i < row.length := (List.getElem?_eq_some_iff.mp hx).1
  have h3 := hf i (by omega)
  have h4 := r5 i x hx
  rw [h3.1, h3.2.1, h3.2.2]
  exact h4
theorem RRc_add {f t n c : Nat} (hr : RRc mv mi wf wt wn row m) (hl : row.length < 3) (hc : c ≤ 39) : RRc (mv + 1) (mi + c) (va_up wf mv f) (va_up wt mv t) (va_up wn mv n) (row ++ [(f, t, n)]) (m + c) := by
  obtain ⟨r1, r2, r3, r4, r5⟩ := hr
  have hle : (row ++ [(f, t, n)]).length = row.length + 1 := by simp
  refine ⟨by omega, by omega, by omega, by omega, fun i x hx => ?_⟩
  unfold va_up
  by_cases e : i = mv
  · subst e
    rw [if_pos rfl, if_pos rfl, if_pos rfl]
    rw [List.getElem?_append_right (by omega), r1, Nat.sub_self] at hx
    obtain rfl := Option.some.inj hx
    exact ⟨rfl, rfl, rfl⟩
  · rw [if_neg e, if_neg e, if_neg e]
    have hi : i < (row ++ [(f, t, n)]).length := (List.getElem?_eq_some_iff.mp hx).1
    rw [List.getElem?_append_left (by omega)] at hx
    exact r5 i x hx
theorem RRc_drop {x : MV} {c : Nat} (hr : RRc mv mi wf wt wn (row ++ [x]) (m + c)) (hm : m ≤ 40 * row.length) : RRc (mv - 1) (mi - c) wf wt wn row m := by
  obtain ⟨r1, r2, r3, r4, r5⟩ := hr
  have hle : (row ++ [x]).length = row.length + 1 := by simp
  refine ⟨by omega, by omega, hm, by omega, fun i y hy => ?_⟩
  have hi : i < row.length := (List.getElem?_eq_some_iff.mp hy).1
  exact r5 i y (by rw [List.getElem?_append_left hi]; exact hy)
end RB
theorem coc_neg {u : Nat → Nat} {f t n : Nat} {V : VIS} {row : List MV} {m : Nat} {b : BST} (hK : u 4 ≤ 4) (hf : f < u 4) (ht : t < u 4) (h1 : 1 ≤ n) (h8 : n ≤ 8) (h : aCos u (nI f) (nI t) (nI n) < 0) : stp V u row m f t n b = b := by
  unfold stp
  rw [if_pos]
  by_cases e : f = t
  · exact Or.inl e
  · refine Or.inr ?_
    unfold aCos at h
    rw [if_pos ⟨(inN (by omega) (by omega) (by omega)).mpr ⟨by omega, by omega⟩, (inN (by omega) (by omega) (by omega)).mpr ⟨by omega, by omega⟩, fun z => e ((nI_eq (by omega) (by omega)).mp z), (inN (by omega) (by omega) (by omega)).mpr ⟨h1, h8⟩⟩, tOf_nI (by omega), tOf_nI (by omega), tOf_nI (by omega)] at h
    exact h
theorem coc_pos {u : Nat → Nat} {f t n : Nat} (hK : u 4 ≤ 4) (hf : f < u 4) (ht : t < u 4) (h1 : 1 ≤ n) (h8 : n ≤ 8) (hn : n ≤ mny u f) (h : ¬ aCos u (nI f) (nI t) (nI n) < 0) : okM u f t n ∧ aCos u (nI f) (nI t) (nI n) = nI (mins u f t n) := by
  unfold aCos at h ⊢
  by_cases e : f = t
  · rw [if_neg (fun z => z.2.2.1 (by rw [e]))] at h
    exact absurd (show (-1 : Int32) < 0 by decide) h
  · rw [if_pos ⟨(inN (by omega) (by omega) (by omega)).mpr ⟨by omega, by omega⟩, (inN (by omega) (by omega) (by omega)).mpr ⟨by omega, by omega⟩, fun z => e ((nI_eq (by omega) (by omega)).mp z), (inN (by omega) (by omega) (by omega)).mpr ⟨h1, h8⟩⟩, tOf_nI (by omega), tOf_nI (by omega), tOf_nI (by omega)] at h ⊢
    have ho : okM u f t n := ⟨hf, ht, e, h1, hn, h⟩
    exact ⟨ho, (okM_fit ho).2⟩
theorem stp_ok {u : Nat → Nat} {f t n : Nat} {V : VIS} {row : List MV} {m : Nat} {b : BST} (ho : okM u f t n) : stp V u row m f t n b = V (nxU u f t n) (row ++ [(f, t, n)]) (m + mins u f t n) b := by
  unfold stp
  rw [if_neg]
  rintro (z | z)
  · exact ho.2.2.1 z
  · exact ho.2.2.2.2.2 z
theorem nx_GN {u : Nat → Nat} {f t n : Nat} (h : GN u) (hG : GU u) (ho : okM u f t n) : GN (nxU u f t n) := by
  obtain ⟨hf, ht, hne, hn1, hn, -⟩ := id ho
  have hfit := (okM_fit ho).1
  have h4 := hG.1
  have h5 := hG.2.1
  have h8 := hG.2.2.2.2.1
  intro z j hz hj
  have e : num (nxU u f t n) z j = if z = t ∧ mny u t ≤ j ∧ j < mny u t + n then num u f (mny u f - n + (j - mny u t)) else num u z j := carU_cell (c := 0) hz hj (by omega) (by omega) (by omega) hne (by omega) hn
  rw [e]
  split
  · have := h8 f (by omega)
    exact h f _ (by omega) (by omega)
  · exact h z j hz hj
