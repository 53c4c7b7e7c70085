/-! p27: what is found, gaps counted wagon by wagon, moves, departures, the cheapest rows -/
theorem fnP_some {u : Nat → Nat} {v : Int32} {t n k : Nat} (h : fnP u v t n = some k) : k < n ∧ nI (num u t k) = v := by
  induction n with
  | zero => cases h
  | succ n ih =>
    unfold fnP at h
    cases hz : fnP u v t n with
    | some z => rw [hz] at h; cases h; exact ⟨by have := (ih hz).1; omega, (ih hz).2⟩
    | none =>
      rw [hz] at h
      dsimp only at h
      split at h
      · rename_i e; cases h; exact ⟨by omega, e⟩
      · cases h
theorem fnP_none {u : Nat → Nat} {v : Int32} {t n : Nat} (h : fnP u v t n = none) : ∀ k, k < n → nI (num u t k) ≠ v := by
  induction n with
  | zero => intro k hk; omega
  | succ n ih =>
    unfold fnP at h
    cases hz : fnP u v t n with
    | some z => rw [hz] at h; cases h
    | none =>
      rw [hz] at h
      dsimp only at h
      split at h
      · cases h
      · rename_i e
        intro k hk
        by_cases y : k = n
        · subst y; exact e
        · exact ih hz k (by omega)
theorem fnT_some {u : Nat → Nat} {v : Int32} {n : Nat} {z : Nat × Nat} (h : fnT u v n = some z) : z.1 < n ∧ z.2 < mny u z.1 ∧ nI (num u z.1 z.2) = v := by
  induction n with
  | zero => cases h
  | succ n ih =>
    unfold fnT at h
    cases hz : fnT u v n with
    | some y => rw [hz] at h; cases h; exact ⟨by have := (ih hz).1; omega, (ih hz).2⟩
    | none =>
      rw [hz] at h
      dsimp only at h
      cases hq : fnP u v n (mny u n) with
      | some k => rw [hq] at h; cases h; exact ⟨by show n < n + 1; omega, fnP_some hq⟩
      | none => rw [hq] at h; cases h
theorem fnT_none {u : Nat → Nat} {v : Int32} {n : Nat} (h : fnT u v n = none) : ∀ t k, t < n → k < mny u t → nI (num u t k) ≠ v := by
  induction n with
  | zero => intro t k ht; omega
  | succ n ih =>
    unfold fnT at h
    cases hz : fnT u v n with
    | some y => rw [hz] at h; cases h
    | none =>
      rw [hz] at h
      dsimp only at h
      cases hq : fnP u v n (mny u n) with
      | some k => rw [hq] at h; cases h
      | none =>
        intro t k ht hk
        by_cases y : t = n
        · subst y; exact fnP_none hq k hk
        · exact ih hz t k (by omega) hk
theorem fin_at {u : Nat → Nat} (hW : WG u) (h7 : u 7 < 2147483648) {t k : Nat} (ht : t < u 4) (hk : k < mny u t) : fnT u (nI (num u t k)) (u 4) = some (t, k) := by
  obtain ⟨a, b, -⟩ := hW
  cases hz : fnT u (nI (num u t k)) (u 4) with
  | none => exact absurd rfl (fnT_none hz t k ht hk)
  | some z =>
    obtain ⟨h1, h2, h3⟩ := fnT_some hz
    have g1 := a t k ht hk
    have g2 := a z.1 z.2 h1 h2
    obtain ⟨e1, e2⟩ := b z.1 z.2 t k h1 h2 ht hk ((nI_eq (by omega) (by omega)).mp h3)
    rw [← e1, ← e2]
theorem fin_new {u : Nat → Nat} (hW : WG u) (h7 : u 7 < 2147483648) : fnT u (nI (u 7)) (u 4) = none := by
  obtain ⟨a, b, -⟩ := hW
  cases hz : fnT u (nI (u 7)) (u 4) with
  | none => rfl
  | some z =>
    obtain ⟨h1, h2, h3⟩ := fnT_some hz
    have g2 := a z.1 z.2 h1 h2
    have := (nI_eq (by omega) (by omega)).mp h3
    omega
-- answers to numbers
theorem tol_n (S : AS) {k : Nat} (h : k ≤ 14) : aTol S (nI k) = tolN S k := by
  unfold aTol
  rw [if_pos (inR_nI (Nat.zero_le _) h (by omega)), tOf_nI (by omega)]
theorem trk_n {u : Nat → Nat} {t k : Nat} (h4 : u 4 ≤ 4) (ht : t < u 4) (hk : k ≤ 4) : aTrk u (nI t) (nI k) = trkN u t k := by
  unfold aTrk
  rw [if_pos ⟨inR_nI (Nat.zero_le _) (by omega) (by omega), inR_nI (Nat.zero_le _) hk (by omega)⟩, tOf_nI (by omega), tOf_nI (by omega)]
theorem trk_x {u : Nat → Nat} {k : Int32} (h2 : 2 ≤ u 4) (h4 : u 4 ≤ 4) : aTrk u (nI (u 4)) k = -1 := by
  unfold aTrk
  rw [if_neg]
  rintro ⟨⟨-, z⟩, -⟩
  have := (nI_leI (by omega) (by omega)).mp z
  omega
theorem wag_n {u : Nat → Nat} {t k c : Nat} (h4 : u 4 ≤ 4) (ht : t < u 4) (hc : c ≤ 2) (hk : k < mny u t) (h8 : mny u t ≤ 8) : aWag u (nI t) (nI k) (nI c) = nI (u (23 + 27 * t + (3 + 3 * k + c))) := by
  unfold aWag
  rw [if_pos ⟨inR_nI (Nat.zero_le _) (by omega) (by omega), nI_pos (by omega), inR_nI (Nat.zero_le _) hc (by omega)⟩, tOf_nI (by omega), tOf_nI (by omega), tOf_nI (by omega), if_pos]
  intro z
  have := (nI_leI (by omega) (by omega)).mp z
  omega
theorem wag_x {u : Nat → Nat} {t c : Nat} (h4 : u 4 ≤ 4) (ht : t < u 4) (hc : c ≤ 2) (h8 : mny u t ≤ 8) : aWag u (nI t) (nI (mny u t)) (nI c) = -9 := by
  unfold aWag
  rw [if_pos ⟨inR_nI (Nat.zero_le _) (by omega) (by omega), nI_pos (by omega), inR_nI (Nat.zero_le _) hc (by omega)⟩, tOf_nI (by omega), if_neg]
  intro z
  exact z (Int32.le_refl _)
theorem sti_n (u : Nat → Nat) {k : Nat} (h : k ≤ 3) : aSti u (nI k) = nI (u k) := by
  unfold aSti
  rw [if_pos (inR_nI (Nat.zero_le _) h (by omega)), tOf_nI (by omega)]
theorem tra_x {u : Nat → Nat} (h : u 12 ≤ 10) : aTra u (nI (u 12)) = -9 := by
  unfold aTra
  rw [if_neg (not_not_intro (nI_pos' (by omega))), if_neg (not_not_intro (Int32.le_refl _))]
theorem tra_n {u : Nat → Nat} {k : Nat} (h : u 12 ≤ 10) (hk : k ≤ 10) : aTra u (nI k) = if k < u 12 then nI (u (13 + k)) else -9 := by
  unfold aTra
  rw [if_neg (not_not_intro (nI_pos' (by omega))), tOf_nI (by omega)]
  by_cases z : k < u 12
  · rw [if_pos z, if_pos (fun y => by have := (nI_leI (by omega) (by omega)).mp y; omega)]
  · rw [if_neg z, if_neg (not_not_intro ((nI_leI (by omega) (by omega)).mpr (by omega)))]
theorem fin_n {u : Nat → Nat} (hW : WG u) (h7 : u 7 < 2147483648) {t k c : Nat} (h4 : u 4 ≤ 4) (ht : t < u 4) (hk : k < mny u t) (hc : c ≤ 1) : aFin u (nI (num u t k)) (nI c) = if c = 0 then nI t else nI k := by
  have := hW.1 t k ht hk
  unfold aFin
  rw [if_pos ⟨nI_pos (by omega), inR_nI (Nat.zero_le _) hc (by omega)⟩, fin_at hW h7 ht hk]
  show (if nI c = 0 then nI t else nI k) = _
  by_cases z : c = 0
  · rw [if_pos z, if_pos (by rw [z]; rfl)]
  · rw [if_neg z, if_neg (fun y => z ((nq_eq0 (by omega)).mp y))]
theorem fin_x {u : Nat → Nat} (hW : WG u) (h7 : u 7 < 2147483648) : aFin u (nI (u 7)) (nI 0) = -9 := by
  unfold aFin
  rw [if_pos ⟨nI_pos (by omega), inR_nI (Nat.zero_le _) (by omega) (by omega)⟩, fin_new hW h7]
theorem che_n (u : Nat → Nat) {d k : Nat} (hd : d ≤ 3) (hk : k ≤ 4) : aChe u (nI d) (nI k) = cheN (vis d u [] 0 none) k := by
  unfold aChe
  rw [if_pos ⟨inR_nI (Nat.zero_le _) hd (by omega), inR_nI (Nat.zero_le _) hk (by omega)⟩, tOf_nI (by omega), tOf_nI (by omega)]
theorem mak_n (u : Nat → Nat) {d : Nat} (hd : d ≤ 3) : aMak u (nI d) = makN (vis d u [] 0 none) := by
  unfold aMak
  rw [if_pos (inR_nI (Nat.zero_le _) hd (by omega)), tOf_nI (by omega)]
theorem nmak_n (S : AS) {d : Nat} (hd : d ≤ 3) : nMak S (nI d) = makS S (vis d S.1 [] 0 none) := by
  unfold nMak
  rw [if_pos (inR_nI (Nat.zero_le _) hd (by omega)), tOf_nI (by omega)]
theorem che_40 (u : Nat → Nat) : aChe u (nI 4) (nI 0) = -1 := by
  unfold aChe
  rw [if_neg (fun z => by have := (nI_leI (by omega) (by omega)).mp z.1.2; omega)]
theorem che_05 (u : Nat → Nat) : aChe u (nI 0) (nI 5) = -1 := by
  unfold aChe
  rw [if_neg (fun z => by have := (nI_leI (by omega) (by omega)).mp z.2.2; omega)]
-- gaps, wagon by wagon
def gs (u : Nat → Nat) (t k : Nat) : Nat × Nat × Nat := gfold (kds u t k)
theorem gs_up (u : Nat → Nat) (t k : Nat) : gs u t (k + 1) = gstep (gs u t k) (knd u t k) := by unfold gs; rw [kds_succ, gfold_app]
theorem gs_0 (u : Nat → Nat) (t : Nat) : gs u t 0 = (99, 0, 0) := rfl
def LA (u : Nat → Nat) (t k : Nat) (la : Int32) : Prop := (la = -1 ∧ (gs u t k).2.1 = 0) ∨ ∃ j, j < k ∧ la = nI j ∧ knd u t j = (gs u t k).2.1 ∧ (gs u t k).2.1 ≠ 0 ∧ (gs u t k).2.2 = k - j - 1
def LE (u : Nat → Nat) (t k : Nat) (le : Int32) : Prop := ((gs u t k).1 = 99 ∧ le = -9) ∨ ∃ m, m < 20 ∧ (gs u t k).1 = m ∧ le = nI m
theorem LA_0 (u : Nat → Nat) (t : Nat) : LA u t 0 (-1) := Or.inl ⟨rfl, rfl⟩
theorem LE_0 (u : Nat → Nat) (t : Nat) : LE u t 0 (-9) := Or.inl ⟨rfl, rfl⟩
theorem LA_z {u : Nat → Nat} {t k : Nat} {la : Int32} (h0 : knd u t k = 0) (h : LA u t k la) : LA u t (k + 1) la := by
  unfold LA
  rw [gs_up, h0]
  show (la = -1 ∧ (gs u t k).2.1 = 0) ∨ ∃ j, j < k + 1 ∧ la = nI j ∧ knd u t j = (gs u t k).2.1 ∧ (gs u t k).2.1 ≠ 0 ∧ (gs u t k).2.2 + 1 = k + 1 - j - 1
  rcases h with h | ⟨j, h1, h2, h3, h4, h5⟩
  · exact Or.inl h
  · exact Or.inr ⟨j, by omega, h2, h3, h4, by omega⟩
theorem LE_z {u : Nat → Nat} {t k : Nat} {le : Int32} (h0 : knd u t k = 0) (h : LE u t k le) : LE u t (k + 1) le := by
  unfold LE
  rw [gs_up, h0]
  exact h
theorem gs_d {u : Nat → Nat} {t k : Nat} (h0 : knd u t k ≠ 0) : gs u t (k + 1) = (if (gs u t k).2.1 ≠ 0 ∧ (gs u t k).2.1 ≠ knd u t k then Nat.min (gs u t k).1 (gs u t k).2.2 else (gs u t k).1, knd u t k, 0) := by
  rw [gs_up]
  unfold gstep
  rw [if_neg h0]
theorem LA_d {u : Nat → Nat} {t k : Nat} (h0 : knd u t k ≠ 0) : LA u t (k + 1) (nI k) := by
  refine Or.inr ⟨k, by omega, rfl, ?_, ?_, ?_⟩
  · rw [gs_d h0]
  · rw [gs_d h0]; exact h0
  · rw [gs_d h0]; show 0 = _; omega
/-- no meeting of two kinds -/
theorem LE_s {u : Nat → Nat} {t k : Nat} {le : Int32} (h0 : knd u t k ≠ 0) (hs : (gs u t k).2.1 = 0 ∨ (gs u t k).2.1 = knd u t k) (h : LE u t k le) : LE u t (k + 1) le := by
  unfold LE
  rw [gs_d h0, if_neg (fun z => by rcases hs with y | y; exact z.1 y; exact z.2 y)]
  exact h
theorem LE_n {u : Nat → Nat} {t k j : Nat} (hk : k < 8) (h0 : knd u t k ≠ 0) (hj : j < k) (h1 : (gs u t k).2.1 ≠ 0) (h2 : (gs u t k).2.1 ≠ knd u t k) (h3 : (gs u t k).2.2 = k - j - 1) (h4 : k - j - 1 ≤ (gs u t k).1) : LE u t (k + 1) (nI (k - j - 1)) := by
  refine Or.inr ⟨k - j - 1, by omega, ?_, rfl⟩
  rw [gs_d h0, if_pos ⟨h1, h2⟩, h3]
  exact Nat.min_eq_right h4
theorem LE_k {u : Nat → Nat} {t k j : Nat} {le : Int32} (h0 : knd u t k ≠ 0) (h1 : (gs u t k).2.1 ≠ 0) (h2 : (gs u t k).2.1 ≠ knd u t k) (h3 : (gs u t k).2.2 = k - j - 1) (h4 : (gs u t k).1 ≤ k - j - 1) (h : LE u t k le) : LE u t (k + 1) le := by
  unfold LE
  rw [gs_d h0, if_pos ⟨h1, h2⟩, h3]
  rw [show Nat.min (gs u t k).1 (k - j - 1) = (gs u t k).1 from Nat.min_eq_left h4]
  exact h
theorem trk_1 (u : Nat → Nat) (t : Nat) : trkN u t 1 = if u 0 ≤ (gs u t (mny u t)).1 then nI 1 else nI 0 := rfl
theorem trk_3 (u : Nat → Nat) (t : Nat) : trkN u t 3 = encG (gs u t (mny u t)).1 := rfl
theorem hold_le (u : Nat → Nat) (t : Nat) : hold u t ≤ u 1 := by
  unfold hold
  split <;> omega
theorem uns_1 {u : Nat → Nat} {t : Nat} (h : u 0 ≤ (gs u t (mny u t)).1) : unsN u (t + 1) = unsN u t := by
  show unsN u t + (if u 0 ≤ gap (kds u t (mny u t)) then 0 else 1) = _
  rw [if_pos (show u 0 ≤ gap (kds u t (mny u t)) from h)]; rfl
theorem uns_0 {u : Nat → Nat} {t : Nat} (h : ¬ u 0 ≤ (gs u t (mny u t)).1) : unsN u (t + 1) = unsN u t + 1 := by
  show unsN u t + (if u 0 ≤ gap (kds u t (mny u t)) then 0 else 1) = _
  rw [if_neg (show ¬ u 0 ≤ gap (kds u t (mny u t)) from h)]
theorem unsN_le (u : Nat → Nat) (n : Nat) : unsN u n ≤ n := by
  induction n with
  | zero => exact Nat.le_refl _
  | succ n ih => show unsN u n + _ ≤ _; split <;> omega
-- a move
theorem nx_6 {u : Nat → Nat} {f t n : Nat} : nxU u f t n 6 = u 6 + mins u f t n := by
  show carU u f t n (mins u f t n) 6 = _
  unfold carU
  rw [up_o (by omega), up_o (by omega), up_i]
theorem nx_8 {u : Nat → Nat} {f t n : Nat} : nxU u f t n 8 = u 8 + 1 := by
  show carU u f t n (mins u f t n) 8 = _
  unfold carU
  rw [up_o (by omega), up_i]
theorem nx_9 {u : Nat → Nat} {f t n : Nat} : nxU u f t n 9 = u 9 + mins u f t n := by
  show carU u f t n (mins u f t n) 9 = _
  unfold carU
  rw [up_i]
theorem nx_knd {u : Nat → Nat} {f t n : Nat} (hG : GU u) (ho : okM u f t n) {z j : Nat} (hz : z < 4) (hj : j < 8) : knd (nxU u f t n) z j = if z = t ∧ mny u t ≤ j ∧ j < mny u t + n then knd u f (mny u f - n + (j - mny u t)) else knd u z j := by
  obtain ⟨hf, ht, hne, hn1, hn, -⟩ := id ho
  have hfit := (okM_fit ho).1
  have h4 := hG.1
  have h5 := hG.2.1
  exact carU_cell (c := 2) hz hj (by omega) (by omega) (by omega) hne (by omega) hn
theorem nx_hold {u : Nat → Nat} {f t n z : Nat} (hG : GU u) (ho : okM u f t n) (hz : z = f ∨ z = t) : hold (nxU u f t n) z = 0 := by
  obtain ⟨hf, ht, hne, hn1, hn, -⟩ := id ho
  have hfit := (okM_fit ho).1
  have h4 := hG.1
  have h5 := hG.2.1
  unfold hold
  rw [if_pos]
  unfold tst
  exact (carU_tt (c := 1) (by omega) (by omega) (by omega) (by omega) (Or.inl rfl)).trans (if_pos ⟨rfl, hz⟩)
theorem kds_congr {u w : Nat → Nat} {t z n : Nat} (h : ∀ j, j < n → knd w z j = knd u t j) : kds w z n = kds u t n := by
  unfold kds
  exact List.map_congr_left fun j hj => h j (List.mem_range.mp hj)
theorem kds_split {w : Nat → Nat} {z a n : Nat} : kds w z (a + n) = kds w z a ++ kdf w z a n := by
  induction n with
  | zero => simp [kdf]
  | succ n ih => rw [kdf_succ, ← List.append_assoc, ← ih]; exact kds_succ w z (a + n)
theorem nx_safe {u : Nat → Nat} {f t n z : Nat} (hG : GU u) (ho : okM u f t n) (hz : z = f ∨ z = t) : nxU u f t n 0 ≤ (gs (nxU u f t n) z (mny (nxU u f t n) z)).1 := by
  obtain ⟨hf, ht, hne, hn1, hn, hco⟩ := id ho
  have hfit := (okM_fit ho).1
  have h4 := hG.1
  have h5 := hG.2.1
  have h8 := hG.2.2.2.2.1
  have hmf := h8 f (by omega)
  have hmt := h8 t (by omega)
  unfold costI at hco
  rw [if_neg (by omega)] at hco
  have c1 : u 0 ≤ gap (kds u f (mny u f - n)) := Classical.byContradiction fun y => by
    rw [if_pos y] at hco; exact hco (by decide)
  rw [if_neg (not_not_intro c1)] at hco
  have c2 : u 0 ≤ gap (kds u t (mny u t) ++ kdf u f (mny u f - n) n) := Classical.byContradiction fun y => by
    rw [if_pos y] at hco; exact hco (by decide)
  rw [nx_0]
  rcases hz with rfl | rfl
  · rw [nx_mny hG ho (by omega), if_neg hne, if_pos rfl]
    show u 0 ≤ gap (kds _ _ _)
    rw [kds_congr (u := u) (t := z) (fun j hj => by rw [nx_knd hG ho (by omega) (by omega), if_neg (fun y => hne y.1)])]
    exact c1
  · rw [nx_mny hG ho (by omega), if_pos rfl]
    show u 0 ≤ gap (kds _ _ _)
    rw [kds_split, kds_congr (u := u) (t := z) (fun j hj => by rw [nx_knd hG ho (by omega) (by omega), if_neg (by omega)])]
    have : kdf (nxU u f z n) z (mny u z) n = kdf u f (mny u f - n) n := by
      unfold kdf
      refine List.map_congr_left fun j hj => ?_
      have hj2 := List.mem_range.mp hj
      rw [nx_knd hG ho (by omega) (by omega), if_pos (by omega), show mny u z + j - mny u z = j by omega]
    rw [this]
    exact c2
theorem nx_out {u : Nat → Nat} {f t n : Nat} (hG : GU u) (ho : okM u f t n) : num (nxU u f t n) t (mny u t + n - 1) = num u f (mny u f - 1) := by
  obtain ⟨hf, ht, hne, hn1, hn, -⟩ := id ho
  have hfit := (okM_fit ho).1
  have h4 := hG.1
  have h5 := hG.2.1
  rw [nx_num hG ho (by omega) (by omega), if_pos (by omega), show mny u f - n + (mny u t + n - 1 - mny u t) = mny u f - 1 by omega]
theorem nx_big {u : Nat → Nat} {f t n j : Nat} (hG : GU u) (ho : okM u f t n) (hj : 131 ≤ j) : nxU u f t n j = u j := by
  obtain ⟨hf, ht, hne, hn1, hn, -⟩ := id ho
  have hfit := (okM_fit ho).1
  have h4 := hG.1
  have h5 := hG.2.1
  exact carU_big hj (by omega) (by omega) (by omega)
theorem row_big {u : Nat → Nat} {r : List MV} (hG : GU u) (ho : okRow u r) {j : Nat} (hj : 131 ≤ j) : rowU u r j = u j := by
  induction r generalizing u with
  | nil => rfl
  | cons y r ih => exact (ih (nx_GU hG ho.1) ho.2).trans (nx_big hG ho.1 hj)
theorem row_6 {u : Nat → Nat} {r : List MV} : rowU u r 6 = u 6 + tot u r := by
  induction r generalizing u with
  | nil => rfl
  | cons y r ih =>
    show rowU (nxU u _ _ _) r 6 = u 6 + (mins u _ _ _ + tot (nxU u _ _ _) r)
    rw [ih, nx_6]
    omega
theorem cos_n {u : Nat → Nat} {f t n : Nat} (h4 : u 4 ≤ 4) (hf : f < u 4) (ht : t < u 4) (hn : 1 ≤ n) (h8 : n ≤ 8) : aCos u (nI f) (nI t) (nI n) = if f = t then -1 else costI u f t n := by
  unfold aCos
  by_cases e : f = t
  · subst e
    rw [if_pos rfl, if_neg (fun z => z.2.2.1 rfl)]
  · rw [if_neg e, if_pos ⟨inR_nI (Nat.zero_le _) (by omega) (by omega), inR_nI (Nat.zero_le _) (by omega) (by omega), fun y => e ((nI_eq (by omega) (by omega)).mp y), (nI_leI (by omega) (by omega)).mpr hn, (nI_leI (by omega) (by omega)).mpr h8⟩, tOf_nI (by omega), tOf_nI (by omega), tOf_nI (by omega)]
theorem nmov_no {S : AS} {f t n : Int32} (h : aCos S.1 f t n < 0) : nMov S f t n = S := by
  unfold nMov
  rw [if_neg (not_not_intro h)]
theorem nmov_go {S : AS} {f t n : Nat} (h4 : S.1 4 ≤ 4) (hf : f < S.1 4) (ht : t < S.1 4) (h8 : n ≤ 8) (h : ¬ aCos S.1 (nI f) (nI t) (nI n) < 0) : nMov S (nI f) (nI t) (nI n) = chg S (nxU S.1 f t n) := by
  unfold nMov
  rw [if_pos h, tOf_nI (by omega), tOf_nI (by omega), tOf_nI (by omega)]
/-- a move's cost, two ways -/
theorem cos_two {u : Nat → Nat} {f t n : Nat} (h4 : u 4 ≤ 4) (hf : f < u 4) (ht : t < u 4) (hn : 1 ≤ n) (h8 : n ≤ 8) (hm : mny u f ≤ 8) : (aCos u (nI f) (nI t) (nI n) < 0 ∧ (f = t → aCos u (nI f) (nI t) (nI n) = -1)) ∨ (okM u f t n ∧ aCos u (nI f) (nI t) (nI n) = nI (mins u f t n)) := by
  rw [cos_n h4 hf ht hn h8]
  by_cases e : f = t
  · rw [if_pos e]; exact Or.inl ⟨by decide, fun _ => rfl⟩
  · rw [if_neg e]
    by_cases z : costI u f t n < 0
    · exact Or.inl ⟨z, fun y => absurd y e⟩
    · have hk : n ≤ mny u f := Classical.byContradiction fun y => by
        unfold costI at z
        rw [if_pos (by omega)] at z
        exact z (by decide)
      have ho : okM u f t n := ⟨hf, ht, e, hn, hk, z⟩
      exact Or.inr ⟨ho, (okM_fit ho).2⟩
-- a departure
theorem rea_0 {u : Nat → Nat} {t : Nat} (h : rea u t = 0) : mny u t ≠ 0 := by
  intro z
  unfold rea at h
  rw [if_pos z] at h
  split at h <;> omega
theorem dep_big {u : Nat → Nat} {t j : Nat} (g12 : u 12 ≤ 10) (ht : t < 4) (hj : 131 ≤ j) : depF u t j = u j := depF_hi g12 (by omega) (by omega) (by omega)
theorem dep_12 {u : Nat → Nat} {t : Nat} : depF u t 12 = u 12 - 1 := depF_lo (by omega)
theorem dep_4 {u : Nat → Nat} {t : Nat} : depF u t 4 = u 4 := by rw [depF_lo (by omega), if_neg (by omega), if_neg (by omega), if_neg (by omega)]
theorem dep_tra {u : Nat → Nat} {t : Nat} (g12 : u 12 ≤ 10) (h1 : 1 ≤ u 12) : aTra (depF u t) (nI 0) = aTra u (nI 1) := by
  rw [tra_n (by rw [dep_12]; omega) (by omega), tra_n g12 (by omega), dep_12]
  by_cases z : 1 < u 12
  · rw [if_pos (by omega), if_pos z]
    exact congrArg nI (depF_d (k := 0) (by omega) g12)
  · rw [if_neg (by omega), if_neg z]
theorem dep_mny {u : Nat → Nat} {t : Nat} (g12 : u 12 ≤ 10) : mny (depF u t) t = 0 := (depF_01 g12).1
theorem dep_n {u : Nat → Nat} {t : Nat} (h4 : u 4 ≤ 4) (ht : t < u 4) : aDep u (nI t) = if rea u t ≠ 0 then -2 else nI (mny u t) := by
  unfold aDep
  rw [if_pos (inR_nI (Nat.zero_le _) (by omega) (by omega)), tOf_nI (by omega)]
theorem ndep_n {S : AS} {t : Nat} (h4 : S.1 4 ≤ 4) (ht : t < S.1 4) : nDep S (nI t) = if rea S.1 t ≠ 0 then setR S (nI (rea S.1 t)) else chg S (depF S.1 t) := by
  unfold nDep
  rw [if_pos (inR_nI (Nat.zero_le _) (by omega) (by omega)), tOf_nI (by omega)]
-- the cheapest rows
theorem vis_P {u0 : Nat → Nat} {mo : Nat} (P : List MV → Prop) (hP : ∀ row, okRow u0 row → row.length ≤ mo → ¬ muf (rowU u0 row) = -9 → P row) (d : Nat) : ∀ (row : List MV) (b : BST), okRow u0 row → row.length + d = mo → GR (fun z => P z.2) b → GR (fun z => P z.2) (vis d (rowU u0 row) row (tot u0 row) b) := by
  have hrec : ∀ (row : List MV) (b : BST), okRow u0 row → row.length ≤ mo → ¬ muf (rowU u0 row) = -9 → GR (fun z => P z.2) b → GR (fun z => P z.2) (rec1 b (tot u0 row) row) := by
    intro row b ho hl hm hb
    unfold rec1
    split
    · intro z hz
      cases hz
      exact hP row ho hl hm
    · exact hb
  induction d with
  | zero =>
    intro row b ho hl hb
    unfold vis
    split
    · rename_i hm; exact hrec row b ho (by omega) hm hb
    · exact hb
  | succ d ih =>
    intro row b ho hl hb
    unfold vis
    split
    · rename_i hm; exact hrec row b ho (by omega) hm hb
    · refine fF_R _ (fun f t n b hf ht hn1 hn hb => ?_) hb
      unfold stp
      split
      · exact hb
      · rename_i hc
        have hk : okM (rowU u0 row) f t n := ⟨hf, ht, fun e => hc (Or.inl e), hn1, hn, fun e => hc (Or.inr e)⟩
        have h2 := ih (row ++ [(f, t, n)]) b (okRow_app.mpr ⟨ho, hk⟩) (by rw [List.length_append, List.length_singleton]; omega) hb
        rw [rowU_app, tot_app] at h2
        exact h2
theorem vis_makes {u : Nat → Nat} {d : Nat} {z : Nat × List MV} (h : vis d u [] 0 none = some z) : ¬ muf (rowU u z.2) = -9 :=
  vis_P (u0 := u) (mo := d) (fun r => ¬ muf (rowU u r) = -9) (fun _ _ _ h => h) d [] none trivial (by simp) (fun z h => by cases h) z h
/-- made up already: the empty row; else no empty row -/
theorem vis_len {u : Nat → Nat} {d : Nat} {z : Nat × List MV} (h : vis d u [] 0 none = some z) : z.2.length = 0 ↔ ¬ muf u = -9 := by
  constructor
  · intro e
    have := vis_makes h
    rw [List.length_eq_zero_iff.mp e] at this
    exact this
  · intro e
    rw [vis_made e] at h
    cases h
    rfl
theorem vis_mk {u : Nat → Nat} {d : Nat} (h : ¬ muf u = -9) : vis d u [] 0 none = some (0, []) := by rw [vis_made h]; rfl
def bLe (b2 b : BST) : Prop := ∀ z, b = some z → ∃ z2, b2 = some z2 ∧ z2.1 ≤ z.1
theorem bLe.rf (b : BST) : bLe b b := fun z h => ⟨z, h, Nat.le_refl _⟩
theorem bLe.tr {a b c : BST} (h : bLe a b) (k : bLe b c) : bLe a c := fun z hz => by
  obtain ⟨y, hy, h1⟩ := k z hz
  obtain ⟨x, hx, h2⟩ := h y hy
  exact ⟨x, hx, by omega⟩
theorem rec1_le (b : BST) (m : Nat) (row : List MV) : bLe (rec1 b m row) b ∧ bLe (rec1 b m row) (some (m, row)) := by
  unfold rec1 btr
  cases b with
  | none =>
    rw [if_pos rfl]
    exact ⟨fun z h => absurd h (by simp), bLe.rf _⟩
  | some y =>
    dsimp only
    split
    · rename_i h
      simp only [Bool.or_eq_true, Bool.and_eq_true, decide_eq_true_eq] at h
      exact ⟨fun z hz => by cases hz; exact ⟨_, rfl, by show m ≤ y.1; omega⟩, bLe.rf _⟩
    · rename_i h
      simp only [Bool.or_eq_true, Bool.and_eq_true, decide_eq_true_eq] at h
      exact ⟨bLe.rf _, fun z hz => by cases hz; exact ⟨_, rfl, by show y.1 ≤ m; omega⟩⟩
theorem rec1_mono {b2 b : BST} {m : Nat} {row : List MV} (h : bLe b2 b) : bLe (rec1 b2 m row) (rec1 b m row) := by
  obtain ⟨h1, h2⟩ := rec1_le b2 m row
  intro z hz
  unfold rec1 at hz
  split at hz
  · cases hz
    exact h2 _ rfl
  · exact (h1.tr h) z hz
/-- searching further is never dearer -/
def vLe (V2 V : VIS) : Prop := ∀ u row m b2 b, bLe b2 b → bLe (V2 u row m b2) (V u row m b)
section ML
variable {V2 V : VIS} {u : Nat → Nat} {row : List MV} {m : Nat}
theorem stp_mono (hV : vLe V2 V) {f t n : Nat} {b2 b : BST} (h : bLe b2 b) : bLe (stp V2 u row m f t n b2) (stp V u row m f t n b) := by
  unfold stp
  by_cases z : f = t ∨ costI u f t n < 0
  · rw [if_pos z, if_pos z]; exact h
  · rw [if_neg z, if_neg z]; exact hV _ _ _ _ _ h
theorem fN_mono (hV : vLe V2 V) {f t : Nat} (k : Nat) {b2 b : BST} (h : bLe b2 b) : bLe (fN V2 u row m f t k b2) (fN V u row m f t k b) := by
  induction k with
  | zero => exact h
  | succ k ih => exact stp_mono hV ih
theorem fT_mono (hV : vLe V2 V) {f : Nat} (k : Nat) {b2 b : BST} (h : bLe b2 b) : bLe (fT V2 u row m f k b2) (fT V u row m f k b) := by
  induction k with
  | zero => exact h
  | succ k ih => exact fN_mono hV _ ih
theorem fF_mono (hV : vLe V2 V) (k : Nat) {b2 b : BST} (h : bLe b2 b) : bLe (fF V2 u row m k b2) (fF V u row m k b) := by
  induction k with
  | zero => exact h
  | succ k ih => exact fT_mono hV _ ih
end ML
theorem fF_dec {V : VIS} (hV : ∀ u row m b, bLe (V u row m b) b) {u : Nat → Nat} {row : List MV} {m k : Nat} {b : BST} : bLe (fF V u row m k b) b := by
  have h1 : ∀ f t n b, bLe (stp V u row m f t n b) b := fun f t n b => by
    unfold stp
    split
    · exact bLe.rf _
    · exact hV _ _ _ _
  have h2 : ∀ f t k b, bLe (fN V u row m f t k b) b := fun f t k b => by
    induction k with
    | zero => exact bLe.rf _
    | succ k ih => exact (h1 f t (k + 1) _).tr ih
  have h3 : ∀ f k b, bLe (fT V u row m f k b) b := fun f k b => by
    induction k with
    | zero => exact bLe.rf _
    | succ k ih => exact (h2 f k _ _).tr ih
  induction k with
  | zero => exact bLe.rf _
  | succ k ih => exact (h3 k _ _).tr ih
theorem vis_dec (d : Nat) : ∀ u row m b, bLe (vis d u row m b) b := by
  induction d with
  | zero =>
    intro u row m b
    unfold vis
    split
    · exact (rec1_le b m row).1
    · exact bLe.rf _
  | succ d ih =>
    intro u row m b
    unfold vis
    split
    · exact (rec1_le b m row).1
    · exact fF_dec ih
theorem vis_more (d : Nat) : vLe (vis (d + 1)) (vis d) := by
  induction d with
  | zero =>
    intro u row m b2 b h
    by_cases z : ¬ muf u = -9
    · rw [vis_made z, vis_made z]; exact rec1_mono h
    · unfold vis
      rw [if_neg z, if_neg z]
      exact (fF_dec (vis_dec 0)).tr h
  | succ d ih =>
    intro u row m b2 b h
    by_cases z : ¬ muf u = -9
    · rw [vis_made z, vis_made z]; exact rec1_mono h
    · have e : ∀ d b, vis (d + 1) u row m b = fF (vis d) u row m (u 4) b := fun d b => by
        show (if ¬ muf u = -9 then rec1 b m row else fF (vis d) u row m (u 4) b) = _
        rw [if_neg z]
      rw [e, e]
      exact fF_mono ih _ h
theorem muf_n {u : Nat → Nat} (h : ¬ muf u = -9) : ∃ t, t < 4 ∧ muf u = nI t := by
  unfold muf at h ⊢
  by_cases e : u 12 = 0
  · rw [if_pos e] at h; exact absurd rfl h
  · rw [if_neg e] at h ⊢
    by_cases y : mufS u (u 4) < 4
    · rw [if_pos y]; exact ⟨_, y, rfl⟩
    · rw [if_neg y] at h; exact absurd rfl h
theorem tot_le {u : Nat → Nat} {r : List MV} (hG : GU u) (ho : okRow u r) : tot u r ≤ 39 * r.length := by
  induction r generalizing u with
  | nil => exact Nat.le_refl _
  | cons y r ih =>
    have h1 := ih (nx_GU hG ho.1) ho.2
    obtain ⟨hf, ht, hne, hn1, hn, -⟩ := id ho.1
    have h4 := hG.1
    have h8 := hG.2.2.2.2.1 y.1 (by omega)
    have h2 : mins u y.1 y.2.1 y.2.2 ≤ 39 := mins_le hG.2.2.1 (by omega) (by omega) (by omega)
    show mins u y.1 y.2.1 y.2.2 + tot (nxU u y.1 y.2.1 y.2.2) r ≤ 39 * (r.length + 1)
    omega
