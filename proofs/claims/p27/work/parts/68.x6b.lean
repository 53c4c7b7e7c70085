/-! the yard beside the row of the reference: moves, arrivals, the list -/
theorem carU_tt {u : Nat → Nat} {f t n k z c : Nat} (hz : z < 4) (hf : f < 4) (ht : t < 4) (hm : mny u t + n ≤ 8) (hc : c = 1 ∨ c = 2) : carU u f t n k (23 + 27 * z + c) = if c = 1 ∧ (z = f ∨ z = t) then 0 else u (23 + 27 * z + c) := by
  unfold carU
  rw [up_o (by omega), up_o (by omega), up_o (by omega)]
  unfold car4
  by_cases e1 : 23 + 27 * z + c = 23 + 27 * t + 1
  · rw [e1, up_i, if_pos (by omega)]
  · rw [up_o e1]
    by_cases e2 : 23 + 27 * z + c = 23 + 27 * f + 1
    · rw [e2, up_i, if_pos (by omega)]
    · rw [up_o e2, up_o (by omega), up_o (by omega), if_neg (by omega)]
      unfold carB
      rw [pk_cpy_out (by omega)]
theorem YRel_mov {a st ds le wg u : Nat → Nat} {te : Nat → Int32} {tg gn wc g1 g2 g3 K C tn : Nat} {f t n : Nat} (hG : GU u) (ho : okM u f t n) (hR : YRel (a, st, ds, le, wg, te, K, C, u 6, u 8, u 9, tg, gn, wc, tn, g1, g2, g3) u) : YRel (a, st, ds, shL le f t n, shW le wg f t n, upd (upd te f (-1)) t (-1), K, C, u 6 + mins u f t n, u 8 + 1, u 9 + mins u f t n, tg, gn, wc, tn, g1, g2, g3) (nxU u f t n) := by
  obtain ⟨hY, r1, r2, r3, r4, r5, r6, r7, r8, r9, r10⟩ := hR
  obtain ⟨hf, ht, hne, hn1, hn, -⟩ := id ho
  have hfit := (okM_fit ho).1
  have g4 := hG.1
  have g5 := hG.2.1
  have hl : ∀ j, j < 23 → j ≠ 6 → j ≠ 8 → j ≠ 9 → nxU u f t n j = u j := fun j h h6 h8 h9 => carU_lo h h6 h8 h9
  refine ⟨YA_shift hY hG ho, r1.trans (hl _ (by omega) (by omega) (by omega) (by omega)).symm, r2.trans (hl _ (by omega) (by omega) (by omega) (by omega)).symm, r3.trans (hl _ (by omega) (by omega) (by omega) (by omega)).symm, ?_, ?_, ?_, r7.trans (hl _ (by omega) (by omega) (by omega) (by omega)).symm, r8.trans (hl _ (by omega) (by omega) (by omega) (by omega)).symm, r9.trans (hl _ (by omega) (by omega) (by omega) (by omega)).symm, fun z hz => ?_⟩
  · show _ = carU u f t n (mins u f t n) 6
    unfold carU
    rw [up_o (by omega), up_o (by omega), up_i]
  · show _ = carU u f t n (mins u f t n) 8
    unfold carU
    rw [up_o (by omega), up_i]
  · show _ = carU u f t n (mins u f t n) 9
    unfold carU
    rw [up_i]
  · rw [hl _ (by omega) (by omega) (by omega) (by omega)] at hz
    show (if z = t then (-1 : Int32) else if z = f then (-1 : Int32) else te z) = if carU u f t n (mins u f t n) (23 + 27 * z + 1) = 0 then (-1 : Int32) else nI (carU u f t n (mins u f t n) (23 + 27 * z + 2))
    rw [carU_tt (by omega) (by omega) (by omega) (by omega) (Or.inl rfl), carU_tt (by omega) (by omega) (by omega) (by omega) (Or.inr rfl)]
    by_cases e1 : z = t
    · rw [if_pos e1, if_pos (⟨rfl, Or.inr e1⟩ : 1 = 1 ∧ (z = f ∨ z = t)), if_pos rfl]
    · rw [if_neg e1]
      by_cases e2 : z = f
      · rw [if_pos e2, if_pos (⟨rfl, Or.inl e2⟩ : 1 = 1 ∧ (z = f ∨ z = t)), if_pos rfl]
      · rw [if_neg e2, if_neg (show ¬ (1 = 1 ∧ (z = f ∨ z = t)) by omega), if_neg (show ¬ (2 = 1 ∧ (z = f ∨ z = t)) by omega), r10 z hz]
        rfl
theorem arrS_tt {u : Nat → Nat} {t z c : Nat} {B K : Nat → Nat} (hz : z < 4) (ht : t < 4) (hc : c = 1 ∨ c = 2) (q : Nat) (hq : mny u t + q ≤ 8) : arrS u t B K q (23 + 27 * z + c) = if c = 1 ∧ z = t ∧ q ≠ 0 then 0 else u (23 + 27 * z + c) := by
  induction q with
  | zero => rw [if_neg (by omega)]; rfl
  | succ q ih =>
    rw [show arrS u t B K (q + 1) = va_up (va_up (va_up (va_up (va_up (va_up (arrS u t B K q) (23 + 27 * t + (3 + 3 * (mny u t + q))) (u 7 + q)) (23 + 27 * t + (3 + 3 * (mny u t + q) + 1)) (B q)) (23 + 27 * t + (3 + 3 * (mny u t + q) + 2)) (K q)) (23 + 27 * t + 0) (mny u t + q + 1)) (23 + 27 * t + 1) 0) 7 (u 7 + q + 1) from rfl]
    rw [up_o (by omega)]
    by_cases e1 : 23 + 27 * z + c = 23 + 27 * t + 1
    · rw [e1, up_i, if_pos (by omega)]
    · rw [up_o e1, up_o (by omega), up_o (by omega), up_o (by omega), up_o (by omega), ih (by omega), if_neg (by omega), if_neg (by omega)]
theorem YRel_arr {a st ds le wg u : Nat → Nat} {te : Nat → Int32} {mv mm tg gn g1 g2 g3 K C ck tn : Nat} {t n : Nat} {B Kd le2 wg2 : Nat → Nat} {te2 : Nat → Int32} (ht : t < u 4) (h4 : u 4 ≤ 4) (hfit : mny u t + n ≤ 8) (hR : YRel (a, st, ds, le, wg, te, K, C, ck, mv, mm, tg, gn, u 7, tn, g1, g2, g3) u) (hY2 : YA (arrS u t B Kd n) st ds le2 wg2) (hte : te2 = if n = 0 then te else upd te t (-1)) : YRel (a, st, ds, le2, wg2, te2, K, C, ck, mv, mm, tg, gn, u 7 + n, tn, g1, g2, g3) (arrS u t B Kd n) := by
  obtain ⟨-, r1, r2, r3, r4, r5, r6, r7, r8, r9, r10⟩ := hR
  obtain ⟨-, a7, al⟩ := arrS_at (u := u) (t := t) (B := B) (K := Kd) n
  refine ⟨hY2, r1.trans (al _ (by omega) (by omega)).symm, r2.trans (al _ (by omega) (by omega)).symm, r3.trans (al _ (by omega) (by omega)).symm, r4.trans (al _ (by omega) (by omega)).symm, r5.trans (al _ (by omega) (by omega)).symm, r6.trans (al _ (by omega) (by omega)).symm, r7.trans (al _ (by omega) (by omega)).symm, r8.trans (al _ (by omega) (by omega)).symm, a7.symm, fun z hz => ?_⟩
  rw [al _ (by omega) (by omega)] at hz
  show te2 z = if arrS u t B Kd n (23 + 27 * z + 1) = 0 then (-1 : Int32) else nI (arrS u t B Kd n (23 + 27 * z + 2))
  rw [arrS_tt (by omega) (by omega) (Or.inl rfl) n hfit, arrS_tt (by omega) (by omega) (Or.inr rfl) n hfit, hte]
  by_cases e0 : n = 0
  · rw [if_pos e0, if_neg (show ¬ (1 = 1 ∧ z = t ∧ n ≠ 0) by omega), if_neg (show ¬ (2 = 1 ∧ z = t ∧ n ≠ 0) by omega), r10 z hz]
    rfl
  · rw [if_neg e0]
    show (if z = t then (-1 : Int32) else te z) = _
    by_cases e1 : z = t
    · rw [if_pos e1, if_pos (⟨rfl, e1, e0⟩ : 1 = 1 ∧ z = t ∧ n ≠ 0), if_pos rfl]
    · rw [if_neg e1, if_neg (show ¬ (1 = 1 ∧ z = t ∧ n ≠ 0) by omega), if_neg (show ¬ (2 = 1 ∧ z = t ∧ n ≠ 0) by omega), r10 z hz]
      rfl
theorem lisF_o {u L : Nat → Nat} {n j : Nat} (hn : n ≤ 10) (h : j < 12 ∨ 23 ≤ j) : lisF u L n n j = u j := by
  unfold lisF
  rw [pk_cpy_out (by omega), up_o (by omega)]
theorem lisF_12 {u L : Nat → Nat} {n : Nat} : lisF u L n n 12 = n := by
  unfold lisF
  rw [pk_cpy_out (by omega), up_i]
theorem lisF_d {u L : Nat → Nat} {n k : Nat} (hk : k < n) : lisF u L n n (13 + k) = L k := by
  unfold lisF
  rw [pk_cpy_in (by omega) (by omega)]
  exact congrArg L (by omega)
theorem YRel_lis {a st ds le wg u rd L : Nat → Nat} {te : Nat → Int32} {mv mm tg gn wc g1 g2 g3 K C ck tn n : Nat} (hn : n ≤ 10) (hL : ∀ j, j < n → rd j = L j) (hG : GU u) (hR : YRel (a, st, ds, le, wg, te, K, C, ck, mv, mm, tg, gn, wc, tn, g1, g2, g3) u) : YRel (a, st, va_cpy rd ds 0 0 n, le, wg, te, K, C, ck, mv, mm, tg, gn, wc, n, g1, g2, g3) (lisF u L n n) := by
  obtain ⟨⟨y1, y2, y3, y4⟩, r1, r2, r3, r4, r5, r6, r7, r8, r9, r10⟩ := hR
  have hl : ∀ j, j < 12 → lisF u L n n j = u j := fun j h => lisF_o hn (Or.inl h)
  have hh : ∀ j, 23 ≤ j → lisF u L n n j = u j := fun j h => lisF_o hn (Or.inr h)
  have e4 : lisF u L n n 4 = u 4 := hl _ (by omega)
  refine ⟨⟨fun k hk => (y1 k hk).trans (hl _ (by omega)).symm, fun k hk => ?_, fun t ht => ?_, fun t j ht hj => ?_⟩, r1.trans e4.symm, r2.trans (hl _ (by omega)).symm, lisF_12.symm, r4.trans (hl _ (by omega)).symm, r5.trans (hl _ (by omega)).symm, r6.trans (hl _ (by omega)).symm, r7.trans (hl _ (by omega)).symm, r8.trans (hl _ (by omega)).symm, r9.trans (hl _ (by omega)).symm, fun z hz => ?_⟩
  · rw [lisF_12] at hk
    rw [lisF_d hk, cpyF hk]
    exact hL k hk
  · rw [e4] at ht
    exact (y3 t ht).trans (hh _ (by omega)).symm
  · rw [e4] at ht
    rw [show mny (lisF u L n n) t = mny u t from hh _ (by omega)] at hj
    rw [y4 t j ht hj]
    show (u (23 + 27 * t + (3 + 3 * j + 0)) * 6 + u (23 + 27 * t + (3 + 3 * j + 1))) * 3 + u (23 + 27 * t + (3 + 3 * j + 2)) = (lisF u L n n (23 + 27 * t + (3 + 3 * j + 0)) * 6 + lisF u L n n (23 + 27 * t + (3 + 3 * j + 1))) * 3 + lisF u L n n (23 + 27 * t + (3 + 3 * j + 2))
    rw [hh _ (by omega), hh _ (by omega), hh _ (by omega)]
  · rw [e4] at hz
    rw [r10 z hz]
    show _ = if lisF u L n n (23 + 27 * z + 1) = 0 then (-1 : Int32) else nI (lisF u L n n (23 + 27 * z + 2))
    rw [hh _ (by omega), hh _ (by omega)]
    rfl
theorem row_und {pa u : Nat → Nat} {i j : Nat} (hj : j < 131) : rowP pa i j = va_cpy pa u (131 * i) 0 131 j := by
  unfold rowP
  rw [pk_cpy_in (by omega) (by omega)]
  exact congrArg pa (by omega)
theorem lsO_eq (t : Nat) : lsO t = setLo t := match t with
  | 0 => rfl
  | 1 => rfl
  | 2 => rfl
  | _ + 3 => rfl
theorem grO_eq (t : Nat) : grO t = setHi t := match t with
  | 0 => rfl
  | 1 => rfl
  | 2 => rfl
  | _ + 3 => rfl
theorem lsgr {t : Nat} {w : Int32} (h : nI (lsO t) ≤ w ∧ w ≤ nI (grO t)) : inR (setLo t) (setHi t) w := by
  rw [← lsO_eq, ← grO_eq]
  exact h
theorem lsgrN {t : Nat} {w : Int32} (h : nI (lsO t) ≤ w ∧ w ≤ nI (grO t)) : ∃ k, k ≤ 600 ∧ w = nI k := by
  have h1 := setHi_le t
  obtain ⟨k, k0, k1, e⟩ := rngN (by rw [grO_eq]; omega) h (by rw [lsO_eq, grO_eq]; exact setLo_le t)
  rw [grO_eq] at k1
  exact ⟨k, by omega, e⟩
theorem aCos_ok {u : Nat → Nat} {vf vt vn : Int32} (h4 : u 4 ≤ 4) (h1 : 1 ≤ u 4) (h : ¬ aCos u vf vt vn < 0) : ∃ f t n, vf = nI f ∧ vt = nI t ∧ vn = nI n ∧ okM u f t n ∧ aCos u vf vt vn = nI (mins u f t n) ∧ f < 4 ∧ t < 4 ∧ n ≤ 8 := by
  obtain ⟨f, t, n, rfl, rfl, rfl, a1, a2, a3, a4, a5, a6, -, -⟩ := aCos_nn h4 h
  obtain ⟨c1, c2⟩ := coc_pos h4 (show f < u 4 by omega) (show t < u 4 by omega) a4 a5 a6 h
  exact ⟨f, t, n, rfl, rfl, rfl, c1, c2, by omega, by omega, a5⟩
theorem fnP_b {u : Nat → Nat} {v : Int32} {t n k : Nat} (h : fnP u v t n = some k) : k < n := by
  induction n with
  | zero => cases h
  | succ n ih =>
    unfold fnP at h
    cases e : fnP u v t n with
    | some z =>
      rw [e] at h
      have := ih (e.trans h)
      omega
    | none =>
      rw [e] at h
      dsimp only at h
      split at h
      · cases h; omega
      · cases h
theorem fnT_b {u : Nat → Nat} {v : Int32} {n : Nat} {z : Nat × Nat} (h : fnT u v n = some z) : z.1 < n ∧ z.2 < mny u z.1 := by
  induction n with
  | zero => cases h
  | succ n ih =>
    unfold fnT at h
    cases e : fnT u v n with
    | some y =>
      rw [e] at h
      have := ih (e.trans h)
      omega
    | none =>
      rw [e] at h
      dsimp only at h
      cases e2 : fnP u v n (mny u n) with
      | some k =>
        rw [e2] at h
        cases h
        exact ⟨by show n < n + 1; omega, fnP_b e2⟩
      | none =>
        rw [e2] at h
        cases h
theorem lk_01 {o0 o1 d : Int} {x : Int32} (h0 : ¬ x = nI 0) (h1 : ¬ x = nI 1) : Op.lookupswitch.offset [(0, o0), (1, o1)] d x.toInt = d := by
  rw [Op.lookupswitch.offset_cons, if_neg, Op.lookupswitch.offset_cons, if_neg]
  · rfl
  · intro e
    exact h1 (Int32.toInt_inj.mp (by rw [← e]; decide))
  · intro e
    exact h0 (Int32.toInt_inj.mp (by rw [← e]; decide))
theorem TR_up {tx : Nat → Nat} {ln k : Nat} (h : TR tx ln) (h6 : ln < 60) (hk : k < 128) : TR (va_up tx ln k) (ln + 1) := by
  refine ⟨by omega, fun j hj => ?_⟩
  unfold va_up
  split
  · exact hk
  · exact h.2 j (by omega)
theorem rwS_n8 (tx : Nat → Nat) (k : Nat) : (rwS tx k).2.2.2.1 ≤ 8 := by
  induction k with
  | zero => exact (by decide : (0 : Nat) ≤ 8)
  | succ k ih =>
    show (rwStep (rwS tx k) (tx k) k).2.2.2.1 ≤ 8
    generalize rwS tx k = s at ih ⊢
    obtain ⟨st, mn, fs, n, B, K, ek, ep⟩ := s
    dsimp only at ih
    unfold rwStep
    dsimp only
    split
    · exact ih
    · split
      · split
        · exact ih
        · show n + mn ≤ 8
          omega
      · split
        · exact ih
        · split
          · exact ih
          · split
            · exact ih
            · exact ih
theorem rd_n8 (tx : Nat → Nat) (ln : Nat) : rdN tx ln ≤ 8 := by
  have h := rwS_n8 tx ln
  unfold rdN rwR
  generalize rwS tx ln = s at h ⊢
  obtain ⟨st, mn, fs, n, B, K, ek, ep⟩ := s
  dsimp only at h
  unfold rwFin
  dsimp only
  split
  · exact h
  · exact h
theorem rd_BK (tx : Nat → Nat) (ln : Nat) : ∀ j, j < rdN tx ln → rdK tx ln j < 3 ∧ rdB tx ln j < 6 := (rd_b tx ln).2
