/-! the reference's search: the loop, level by level -/
def BR (bm : Int32) (bn : Nat) (be : Nat → Nat) (b : BST) : Prop := match b with
  | none => bm = -9 ∧ bn ≤ 200
  | some z => bm = nI z.2.length ∧ bn = z.1 ∧ z.1 ≤ 200 ∧ z.2.length ≤ 3 ∧ ∀ (i : Nat) (x : MV), z.2[i]? = some x → be (3 * i) = x.1 ∧ be (3 * i + 1) = x.2.1 ∧ be (3 * i + 2) = x.2.2
theorem BR_bn {bm : Int32} {bn : Nat} {be : Nat → Nat} {b : BST} (h : BR bm bn be b) : bn ≤ 200 := by
  cases b with
  | none => exact h.2
  | some z => exact h.2.1 ▸ h.2.2.1
theorem BR_9 {bm : Int32} {bn : Nat} {be : Nat → Nat} {b : BST} (h : BR bm bn be b) : bm = -9 ↔ b = none := by
  cases b with
  | none => exact ⟨fun _ => rfl, fun _ => h.1⟩
  | some z =>
    constructor
    · intro e
      exact absurd (h.1.symm.trans e) (nI_m9 (by have := h.2.2.2.1; omega))
    · intro e; cases e
theorem noteC_btr {bm : Int32} {bn k m : Nat} {be : Nat → Nat} {b : BST} (h : BR bm bn be b) (hk : k ≤ 3) : noteC bm bn k m ↔ btr b m k = true := by
  cases b with
  | none => exact ⟨fun _ => rfl, fun _ => Or.inl h.1⟩
  | some z =>
    obtain ⟨h1, h2, h3, h4, -⟩ := h
    have h9 : ¬ bm = -9 := by rw [h1]; exact nI_m9 (by omega)
    unfold noteC btr
    rw [h1, h2] at *
    simp only [Bool.or_eq_true, Bool.and_eq_true, decide_eq_true_eq]
    rw [nI_leI (by omega) (by omega)]
    constructor
    · rintro (q | q | ⟨q1, q2⟩)
      · exact absurd q h9
      · exact Or.inl q
      · exact Or.inr ⟨q1, by omega⟩
    · rintro (q | ⟨q1, q2⟩)
      · exact Or.inr (Or.inl q)
      · exact Or.inr (Or.inr ⟨q1, by omega⟩)
/-- the rows tried hold the moves of a row -/
def trR (tr : Nat → Nat) (row : List MV) : Prop := ∀ (i : Nat) (x : MV), row[i]? = some x → tr (3 * i) = x.1 ∧ tr (3 * i + 1) = x.2.1 ∧ tr (3 * i + 2) = x.2.2
theorem note_BR {u : Nat → Nat} {k m : Nat} {tr be be2 : Nat → Nat} {bm bm2 : Int32} {bn bn2 : Nat} {b : BST} {row : List MV} (h : BR bm bn be b) (hn : noted u k m tr be bm bn be2 bm2 bn2) (hl : row.length = k) (hk : k ≤ 3) (hm : m ≤ 200) (ht : trR tr row) : BR bm2 bn2 be2 (if ¬ muf u = -9 then rec1 b m row else b) := by
  have hc := noteC_btr (m := m) h hk
  by_cases hmd : ¬ muf u = -9
  · rw [if_pos hmd]
    unfold rec1
    rw [hl]
    by_cases hb : btr b m k = true
    · rw [if_pos hb]
      obtain ⟨rfl, rfl, rfl⟩ := hn.1 ⟨hc.mpr hb, hmd⟩
      refine ⟨by rw [hl], rfl, hm, (show row.length ≤ 3 by omega), fun i x hx => ?_⟩
      have hi : i < row.length := (List.getElem?_eq_some_iff.mp hx).1
      have h3 := ht i x hx
      rw [pk_cpy_in (by omega) (by omega), pk_cpy_in (by omega) (by omega), pk_cpy_in (by omega) (by omega)]
      simpa using h3
    · rw [if_neg hb]
      obtain ⟨rfl, rfl, rfl⟩ := hn.2 (fun z => hb (hc.mp z.1))
      exact h
  · rw [if_neg hmd]
    obtain ⟨rfl, rfl, rfl⟩ := hn.2 (fun z => hmd z.2)
    exact h
def pB (V : VIS) (u : Nat → Nat) (row : List MV) (m f t n : Nat) (b : BST) : BST := fN V u row m f t n (fT V u row m f t (fF V u row m f b))
def atP (u : Nat → Nat) (f n : Nat) : Prop := n ≤ mny u f ∨ (mny u f = 0 ∧ n ≤ 1)
theorem pB_full {V : VIS} {u : Nat → Nat} {row : List MV} {m f t n : Nat} {b : BST} (h : atP u f n) (h2 : mny u f < n + 1) : pB V u row m f t n b = fT V u row m f (t + 1) (fF V u row m f b) := by
  show fN V u row m f t n _ = fN V u row m f t (mny u f) _
  by_cases e : n = mny u f
  · rw [e]
  · have h0 : mny u f = 0 := by rcases h with h | h; omega; exact h.1
    have h1 : n = 1 := by rcases h with h | h; omega; omega
    subst h1
    rw [h0]
    show stp V u row m f t 1 (fN V u row m f t 0 _) = _
    unfold stp
    rw [if_pos]
    refine Or.inr ?_
    unfold costI
    rw [if_pos (by omega)]
    decide
theorem pB_next {V : VIS} {u : Nat → Nat} {row : List MV} {m f0 t0 n0 f t n : Nat} {b : BST} (h : atP u f0 n0) (hf0 : f0 < u 4) (ht0 : t0 < u 4) (hK : u 4 ≤ 4) (h8 : ∀ z, z < 4 → mny u z ≤ 8) (hn0 : n0 ≤ 8) (e1 : nxF (u 4) (mny u f0) f0 t0 n0 = f) (e2 : nxT (u 4) (mny u f0) t0 n0 = t) (e3 : nxN (mny u f0) n0 = n) :
    t < u 4 ∧ n ≤ 8 ∧ 1 ≤ n ∧ f ≤ u 4 ∧ (f < u 4 → atP u f n ∧ pB V u row m f t (n - 1) b = pB V u row m f0 t0 n0 b ∧ (4 - f) * 100 + (4 - t) * 10 + (9 - n) < (4 - f0) * 100 + (4 - t0) * 10 + (9 - n0)) ∧ (¬ f < u 4 → fF V u row m (u 4) b = pB V u row m f0 t0 n0 b) := by
  have h80 := h8 f0 (by omega)
  by_cases hA : mny u f0 < n0 + 1
  · have hf := pB_full (V := V) (row := row) (m := m) (t := t0) (b := b) h hA
    have q1 : nxT1 (mny u f0) t0 n0 = t0 + 1 := if_pos hA
    have q3 : n = 1 := e3.symm.trans (if_pos hA)
    unfold nxF at e1
    unfold nxT at e2
    rw [q1] at e1 e2
    by_cases hB : t0 + 1 = u 4
    · rw [if_pos hB] at e1 e2
      subst e1; subst e2; subst q3
      refine ⟨by omega, by omega, by omega, by omega, fun hf1 => ⟨?_, ?_, by omega⟩, fun hf1 => ?_⟩
      · unfold atP; omega
      · rw [hf, hB]; rfl
      · rw [hf, show u 4 = f0 + 1 by omega, show t0 + 1 = f0 + 1 by omega]
        show fT V u row m f0 (u 4) _ = _
        rw [show u 4 = f0 + 1 by omega]
    · rw [if_neg hB] at e1 e2
      subst e1; subst e2; subst q3
      refine ⟨by omega, by omega, by omega, by omega, fun hf1 => ⟨?_, ?_, by omega⟩, fun hf1 => absurd hf0 hf1⟩
      · unfold atP; omega
      · rw [hf]; rfl
  · have q1 : nxT1 (mny u f0) t0 n0 = t0 := if_neg hA
    have q3 : n = n0 + 1 := e3.symm.trans (if_neg hA)
    unfold nxF at e1
    unfold nxT at e2
    rw [q1] at e1 e2
    rw [if_neg (by omega)] at e1 e2
    subst e1; subst e2; subst q3
    exact ⟨ht0, by omega, by omega, by omega, fun hf1 => ⟨Or.inl (by omega), rfl, by omega⟩, fun hf1 => absurd hf0 hf1⟩
/-- what the walk wants of a yard -/
def GU (u : Nat → Nat) : Prop := u 4 ≤ 4 ∧ u 5 ≤ 8 ∧ u 2 ≤ 20 ∧ u 0 ≤ 3 ∧ (∀ t, t < 4 → mny u t ≤ 8) ∧ (∀ t j, t < 4 → j < 8 → dst u t j < 6 ∧ knd u t j < 3) ∧ u 13 < 6 ∧ u 12 ≤ 10
theorem GU.Cw {u : Nat → Nat} (h : GU u) : Cw u := ⟨h.1, h.2.1, h.2.2.2.2.1⟩
theorem GU.BPs {u : Nat → Nat} (h : GU u) : BPs u := ⟨h.1, h.2.2.2.2.1, fun t j a b => (h.2.2.2.2.2.1 t j a b).1, h.2.2.2.2.2.2.1, h.2.2.2.2.2.2.2⟩
theorem nx_GU {u : Nat → Nat} {f t n : Nat} (h : GU u) (ho : okM u f t n) : GU (nxU u f t n) := by
  obtain ⟨h4, h5, h2, h0, h8, hc, h13, h12⟩ := id h
  obtain ⟨hf, ht, hne, hn1, hn, -⟩ := id ho
  have hfit := (okM_fit ho).1
  have hC := nx_Cw h.Cw ho
  have h8f := h8 f (by omega)
  refine ⟨hC.1, hC.2.1, by rw [nx_2]; exact h2, by rw [nx_0]; exact h0, hC.2.2, fun z j hz hj => ⟨?_, ?_⟩, by rw [nx_13]; exact h13, by rw [nx_12]; exact h12⟩
  · rw [nx_dst h.Cw ho hz hj]
    split
    · exact (hc f _ (by omega) (by omega)).1
    · exact (hc z j hz hj).1
  · have e : knd (nxU u f t n) z j = _ := carU_cell (c := 2) hz hj (by omega) (by omega) (by omega) hne (by omega) hn
    rw [e]
    split
    · exact (hc f (mny u f - n + (j - mny u t)) (by omega) (by omega)).2
    · exact (hc z j hz hj).2
theorem not_skp {u : Nat → Nat} {f t n mi bn : Nat} {bm : Int32} (hf : f < u 4) (ht : t < u 4) (hne : f ≠ t) (hn : 1 ≤ n) (h : ¬ skpC u f t n bm bn mi) : okM u f t n := by
  have hc : ¬ costI u f t n < 0 := fun z => h (Or.inl z)
  rcases costI_cases u f t n with z | z
  · exact absurd z hc
  · exact ⟨hf, ht, hne, hn, z.1, hc⟩
theorem stp_skp {d : Nat} {u : Nat → Nat} {row : List MV} {m f t n : Nat} {b : BST} {bm : Int32} {bn : Nat} {be : Nat → Nat} (hb : BR bm bn be b) (h : f = t ∨ skpC u f t n bm bn m) : stp (vis d) u row m f t n b = b := by
  unfold stp
  split
  · rfl
  · rename_i hc
    rcases h with h | h | ⟨h1, h2⟩
    · exact absurd (Or.inl h) hc
    · exact absurd (Or.inr h) hc
    · cases b with
      | none => exact absurd ((BR_9 hb).mpr rfl) h1
      | some z =>
        obtain ⟨z1, z2⟩ := z
        have e : bn = z1 := hb.2.1
        exact vis_dear (by omega)
theorem stp_go {d : Nat} {u : Nat → Nat} {row : List MV} {m f t n : Nat} {b : BST} {bm : Int32} {bn : Nat} (h : okM u f t n) (_ : ¬ skpC u f t n bm bn m) : stp (vis d) u row m f t n b = vis d (nxU u f t n) (row ++ [(f, t, n)]) (m + mins u f t n) b := by
  unfold stp
  rw [if_neg (fun z => by rcases z with z | z; exact h.2.2.1 z; exact h.2.2.2.2.2 z)]
theorem trR_app {tr tr2 : Nat → Nat} {row : List MV} {f t n : Nat} (h : trR tr row) (ha : ∀ j, j < 3 * row.length → tr2 j = tr j) (h1 : tr2 (3 * row.length) = f) (h2 : tr2 (3 * row.length + 1) = t) (h3 : tr2 (3 * row.length + 2) = n) : trR tr2 (row ++ [(f, t, n)]) := by
  intro i x hx
  by_cases hi : i < row.length
  · rw [List.getElem?_append_left hi] at hx
    rw [ha _ (by omega), ha _ (by omega), ha _ (by omega)]
    exact h i x hx
  · have hl : i < (row ++ [(f, t, n)]).length := (List.getElem?_eq_some_iff.mp hx).1
    rw [List.length_append, List.length_singleton] at hl
    have e : i = row.length := by omega
    subst e
    rw [List.getElem?_append_right (Nat.le_refl _), Nat.sub_self] at hx
    cases hx
    exact ⟨h1, h2, h3⟩
theorem trR_keep {tr tr2 : Nat → Nat} {row : List MV} (h : trR tr row) (ha : ∀ j, j < 3 * row.length → tr2 j = tr j) : trR tr2 row := by
  intro i x hx
  have hi : i < row.length := (List.getElem?_eq_some_iff.mp hx).1
  rw [ha _ (by omega), ha _ (by omega), ha _ (by omega)]
  exact h i x hx
theorem rel_U {he u U : Nat → Nat} {l : Nat} (h1 : ∀ k, k < 131 → he (131 * l + k) = U k) (h2 : ∀ k, 131 ≤ k → u k = U k) : va_cpy he u (131 * l) 0 131 = U := by
  funext k
  by_cases h : k < 131
  · rw [pk_cpy_in (by omega) (by omega), Nat.sub_zero]
    exact h1 k h
  · rw [pk_cpy_out (by omega)]
    exact h2 k (by omega)
set_option maxHeartbeats 4000000 in
theorem vis_made {d : Nat} {u : Nat → Nat} {row : List MV} {m : Nat} {b : BST} (h : ¬ muf u = -9) : vis d u row m b = rec1 b m row := by
  cases d with
  | zero => unfold vis; rw [if_pos h]
  | succ d => unfold vis; rw [if_pos h]
theorem vis_0 {u : Nat → Nat} {row : List MV} {m : Nat} {b : BST} (h : ¬ ¬ muf u = -9) : vis 0 u row m b = b := by
  unfold vis
  rw [if_neg h]
theorem vis_go {mo : Nat} {u : Nat → Nat} {row : List MV} {m : Nat} {b : BST} (h0 : 1 ≤ mo) (h : ¬ ¬ muf u = -9) : vis mo u row m b = fF (vis (mo - 1)) u row m (u 4) b := by
  obtain ⟨d, rfl⟩ : ∃ d, mo = d + 1 := ⟨mo - 1, by omega⟩
  conv => lhs; unfold vis
  rw [if_neg h]
  rfl
theorem vis_un {mo : Nat} {u : Nat → Nat} (hG : GU u) (hm : ¬ ¬ muf u = -9) (h : ¬ wiC u mo) : vis mo u [] 0 none = none := by
  rcases Nat.eq_zero_or_pos mo with z | z
  · subst z
    exact vis_0 hm
  · refine vis_spread hG.Cw ?_
    rcases Nat.lt_or_ge (mo + 1) (spr u (u 4)) with y | y
    · exact y
    · exact absurd ⟨z, by omega, by rcases Classical.em (muf u = -9) with w | w; exact w; exact absurd w hm⟩ h
