/-! the class's world beside the reference's state -/
def CO (b xy xh xi xt xs : Nat) (rs : Int32) : va_W := [(b, .inr (6, [.ref xy, .ref xh, .ref xi, .ref xt, .ref xs, .int rs]))]
def TR (tx : Nat → Nat) (ln : Nat) : Prop := ln ≤ 60 ∧ ∀ j, j < ln → tx j < 128
/-- the images' part of the world -/
def IP (g : GG) (xi : Nat) (im : Nat → Nat) (fl : Nat) (RI : va_W) : Prop := ∃ (fi : Nat → Option Nat) (is : Nat → Option YT), RI = AQ g.2.2 xi 2 fi ++ HSW g.2.1 is 2 ∧ IR is fi im fl
/-- the search's part of the world -/
def SP (g : GG) (xs : Nat) (RS : va_W) : Prop := ∃ (as ab ay ar : Nat → Nat) (wa wi wo : Nat → Nat) (hb : Nat) (st0 ds0 le0 wg0 : Nat → Nat) (te0 : Nat → Int32) (K0 C0 ck0 mv0 mm0 tg0 gn0 wc0 tn0 g10 g20 g30 : Nat) (wf wt wn : Nat → Nat) (rmv rmi : Nat) (bf bt bn : Nat → Nat) (bmv bmi : Nat), xs = as 0 ∧ RS = SEW g.2.1 as (ab 0) (ay 0) (ar 0) wa wi wo hb ++ (YW g.2.1 ay st0 ds0 le0 wg0 te0 K0 C0 ck0 mv0 mm0 tg0 gn0 wc0 tn0 g10 g20 g30 ++ (RWW g.2.1 ar wf wt wn rmv rmi ++ RWW g.2.1 ab bf bt bn bmv bmi))
def CSt (g : GG) (b : Nat) (S : AS) (W : va_W) : Prop := ∃ (a st ds le wg : Nat → Nat) (te : Nat → Int32) (K C ck mv mm tg gn wc tn g1 g2 g3 : Nat) (ah : Nat → Nat) (f : Nat → Option Nat) (nx ct : Nat) (hs : Nat → Option YT) (ax rd : Nat → Nat) (fn xi xs : Nat) (RI RS : va_W),
  W = CO b (a 0) (ah 0) xi (ax 0) xs S.2.2.2.2.2.2.2.2.2 ++ (TXW g.2.1 ax S.2.2.2.2.2.1 rd S.2.2.2.2.2.2.1 fn S.2.2.2.2.2.2.2.1 S.2.2.2.2.2.2.2.2.1 ++ (HIW g.2.1 g.2.2 ah f nx ct ++ (YW g.2.1 a st ds le wg te K C ck mv mm tg gn wc tn g1 g2 g3 ++ (HSW g.2.1 hs 8 ++ (RI ++ RS))))) ∧
  YRel (a, st, ds, le, wg, te, K, C, ck, mv, mm, tg, gn, wc, tn, g1, g2, g3) S.1 ∧ HR hs f nx ct S.2.1 S.2.2.1 ∧ TR S.2.2.2.2.2.1 S.2.2.2.2.2.2.1 ∧ IP g xi S.2.2.2.1 S.2.2.2.2.1 RI ∧ SP g xs RS
theorem CSt_mk (g : GG) (b : Nat) (u pa : Nat → Nat) (pm : Nat) (im : Nat → Nat) (fl : Nat) (tx : Nat → Nat) (ln : Nat) (fk fp rs : Int32) (a st ds le wg : Nat → Nat) (te : Nat → Int32) (K C ck mv mm tg gn wc tn g1 g2 g3 : Nat) (ah : Nat → Nat) (f : Nat → Option Nat) (nx ct : Nat) (hs : Nat → Option YT) (ax rd : Nat → Nat) (fn xi xs : Nat) (RI RS : va_W)
    (hR : YRel (a, st, ds, le, wg, te, K, C, ck, mv, mm, tg, gn, wc, tn, g1, g2, g3) u) (hH : HR hs f nx ct pa pm) (hT : TR tx ln) (hI : IP g xi im fl RI) (hS : SP g xs RS) :
    CSt g b (u, pa, pm, im, fl, tx, ln, fk, fp, rs) (CO b (a 0) (ah 0) xi (ax 0) xs rs ++ (TXW g.2.1 ax tx rd ln fn fk fp ++ (HIW g.2.1 g.2.2 ah f nx ct ++ (YW g.2.1 a st ds le wg te K C ck mv mm tg gn wc tn g1 g2 g3 ++ (HSW g.2.1 hs 8 ++ (RI ++ RS)))))) :=
  ⟨a, st, ds, le, wg, te, K, C, ck, mv, mm, tg, gn, wc, tn, g1, g2, g3, ah, f, nx, ct, hs, ax, rd, fn, xi, xs, RI, RS, rfl, hR, hH, hT, hI, hS⟩
theorem YRel_g {a st ds le wg u : Nat → Nat} {te : Nat → Int32} {K C ck mv mm tg gn wc tn g1 g2 g3 h1 h2 h3 : Nat} (h : YRel (a, st, ds, le, wg, te, K, C, ck, mv, mm, tg, gn, wc, tn, g1, g2, g3) u) : YRel (a, st, ds, le, wg, te, K, C, ck, mv, mm, tg, gn, wc, tn, h1, h2, h3) u := ⟨h.1, h.2⟩
theorem wf_GN {N : Nat} {u : Nat → Nat} (hN : N ≤ 512) (h : Wf N u) : GN u := by
  intro t k ht hk
  have := h.2.2.2.2.2.2.2.2.2.2.2 (23 + 27 * t + (3 + 3 * k + 0)) (by omega)
  show u (23 + 27 * t + (3 + 3 * k + 0)) ≤ 600000
  omega
theorem up_o {u : Nat → Nat} {i x j : Nat} (h : j ≠ i) : va_up u i x j = u j := if_neg h
theorem up_i {u : Nat → Nat} {i x : Nat} : va_up u i x i = x := if_pos rfl
/-- both cases of the history's add -/
theorem ct_X1_add (g : GG) (l : Launch) (ah a : Nat → Nat) (f : Nat → Option Nat) (hs : Nat → Option YT) (nx ct : Nat) (u st ds le wg : Nat → Nat) (te : Nat → Int32) (ck mv mm tg gn wc g1 g2 g3 : Nat) (pa : Nat → Nat) (pm : Nat) (hH : HR hs f nx ct pa pm) (hG : GU u) (hR : YRel (a, st, ds, le, wg, te, u 4, u 5, ck, mv, mm, tg, gn, wc, u 12, g1, g2, g3) u) : CtV g l yX1_add cX1_add 2 (rmK 4 7 72) (HIW g.2.1 g.2.2 ah f nx ct ++ (YW g.2.1 a st ds le wg te (u 4) (u 5) ck mv mm tg gn wc (u 12) g1 g2 g3 ++ (HSW g.2.1 hs 8))) [.ref (ah 0), .ref (a 0)] (fun W1 => ∃ f2 hs2, W1 = HIW g.2.1 g.2.2 ah f2 ((nx + 1) % 8) (Nat.min (ct + 1) 8) ++ (YW g.2.1 a st ds le wg te (u 4) (u 5) ck mv mm tg gn wc (u 12) g1 g2 g3 ++ (HSW g.2.1 hs2 8)) ∧ (∀ k, k < 8 → f2 k = adO (hs2 k)) ∧ (∀ k, k ≠ nx → hs2 k = hs k) ∧ ∃ y, hs2 nx = some y ∧ YRel y u) := by
  have h1 := hH.1
  have h2 := hH.2.2.2.1
  have h3 : ct ≤ 8 := by have := hH.2.1; have := hH.2.2.1; omega
  rcases hn : hs nx with _ | ⟨a1, st1, ds1, le1, wg1, te1, K1, C1, ck1, mv1, mm1, tg1, gn1, wc1, tn1, g11, g21, g31⟩
  · exact ct_X1_add0 g l ah a f hs nx ct u st ds le wg te ck mv mm tg gn wc g1 g2 g3 h2 h1 h3 hG hR hn
  · exact ct_X1_add1 g l ah a f hs nx ct u st ds le wg te ck mv mm tg gn wc g1 g2 g3 h2 h1 h3 hG hR a1 st1 ds1 le1 wg1 te1 K1 C1 ck1 mv1 mm1 tg1 gn1 wc1 tn1 g11 g21 g31 hn
/-! the yard beside the row of the reference, change by change -/
theorem YA_eq {u w st st2 ds le wg : Nat → Nat} (hY : YA u st ds le wg) (hG : GU u) (h0 : ∀ k, k < 4 → st2 k = w k) (h4 : w 4 = u 4) (h12 : w 12 = u 12) (hd : ∀ k, k < 10 → w (13 + k) = u (13 + k)) (hm : ∀ t, t < 4 → mny w t = mny u t) (hc : ∀ t j c, t < 4 → j < 8 → c < 3 → w (23 + 27 * t + (3 + 3 * j + c)) = u (23 + 27 * t + (3 + 3 * j + c))) : YA w st2 ds le wg := by
  obtain ⟨-, y2, y3, y4⟩ := hY
  have g4 := hG.1
  have g12 := hG.2.2.2.2.2.2.2
  refine ⟨h0, fun k hk => ?_, fun t ht => ?_, fun t j ht hj => ?_⟩
  · rw [h12] at hk
    rw [y2 k hk, hd k (by omega)]
  · rw [h4] at ht
    rw [y3 t ht, hm t (by omega)]
  · rw [h4] at ht
    rw [hm t (by omega)] at hj
    have g8 := hG.2.2.2.2.1 t (by omega)
    rw [y4 t j ht hj]
    have c0 := hc t j 0 (by omega) (by omega) (by omega)
    have c1 := hc t j 1 (by omega) (by omega) (by omega)
    have c2 := hc t j 2 (by omega) (by omega) (by omega)
    show (u (23 + 27 * t + (3 + 3 * j + 0)) * 6 + u (23 + 27 * t + (3 + 3 * j + 1))) * 3 + u (23 + 27 * t + (3 + 3 * j + 2)) = (w (23 + 27 * t + (3 + 3 * j + 0)) * 6 + w (23 + 27 * t + (3 + 3 * j + 1))) * 3 + w (23 + 27 * t + (3 + 3 * j + 2))
    rw [c0, c1, c2]
theorem begF_z {u : Nat → Nat} {K C j : Nat} (h6 : 6 ≤ j) (h : j < 131) : begF u K C j = 0 := by
  unfold begF va_up
  rw [if_neg (by omega), if_neg (by omega)]
  unfold begZ
  rw [pk_cpy_in (by omega) (by omega)]
theorem begF_lo {u : Nat → Nat} {K C j : Nat} (h : j < 4) : begF u K C j = u j := by
  unfold begF va_up
  rw [if_neg (by omega), if_neg (by omega)]
  unfold begZ
  rw [pk_cpy_out (by omega)]
theorem begF_4 {u : Nat → Nat} {K C : Nat} : begF u K C 4 = K := by
  unfold begF va_up
  rw [if_neg (by decide), if_pos rfl]
theorem begF_5 {u : Nat → Nat} {K C : Nat} : begF u K C 5 = C := by
  unfold begF va_up
  rw [if_pos rfl]
section YRS
variable {a st ds le wg u : Nat → Nat} {te : Nat → Int32} {mv mm tg gn wc g1 g2 g3 K C ck tn : Nat}
theorem YRel_beg {k c : Nat} (hk : k ≤ 4) (hR : YRel (a, st, ds, le, wg, te, K, C, ck, mv, mm, tg, gn, wc, tn, g1, g2, g3) u) : YRel (a, st, ds, (fun j => if j < 4 then 0 else le j), wg, (fun j => if j < 4 then (-1) else te j), k, c, 0, 0, 0, 0, 0, 0, 0, g1, g2, g3) (begF u k c) := by
  obtain ⟨⟨y1, y2, y3, y4⟩, -⟩ := hR
  refine ⟨⟨fun k hk => (y1 k hk).trans (begF_lo hk).symm, fun k hk => ?_, fun t ht => ?_, fun t j ht hj => ?_⟩, begF_4.symm, begF_5.symm, (begF_z (by omega) (by omega)).symm, (begF_z (by omega) (by omega)).symm, (begF_z (by omega) (by omega)).symm, (begF_z (by omega) (by omega)).symm, (begF_z (by omega) (by omega)).symm, (begF_z (by omega) (by omega)).symm, (begF_z (by omega) (by omega)).symm, fun t ht => ?_⟩
  · rw [begF_z (by omega) (by omega)] at hk
    exact absurd hk (Nat.not_lt_zero _)
  · rw [begF_4] at ht
    show (if t < 4 then 0 else le t) = _
    rw [if_pos (by omega)]
    exact (begF_z (by omega) (by omega)).symm
  · rw [begF_4] at ht
    rw [show mny (begF u k c) t = 0 from begF_z (by omega) (by omega)] at hj
    exact absurd hj (Nat.not_lt_zero _)
  · rw [begF_4] at ht
    show (if t < 4 then (-1 : Int32) else te t) = _
    rw [if_pos (by omega), if_pos (show tst (begF u k c) t = 0 from begF_z (by omega) (by omega))]
theorem YRel_set {t x : Nat} (ht : t < 4) (hG : GU u) (hR : YRel (a, st, ds, le, wg, te, K, C, ck, mv, mm, tg, gn, wc, tn, g1, g2, g3) u) : YRel (a, va_up st t x, ds, le, wg, te, K, C, ck, mv, mm, tg, gn, wc, tn, g1, g2, g3) (va_up u t x) := by
  obtain ⟨hY, r1, r2, r3, r4, r5, r6, r7, r8, r9, r10⟩ := hR
  have ho : ∀ j, 4 ≤ j → va_up u t x j = u j := fun j hj => up_o (by omega)
  refine ⟨YA_eq hY hG (fun k hk => ?_) (ho _ (by omega)) (ho _ (by omega)) (fun k _ => ho _ (by omega)) (fun z _ => ho _ (by omega)) (fun z j c _ _ _ => ho _ (by omega)), r1.trans (ho _ (by omega)).symm, r2.trans (ho _ (by omega)).symm, r3.trans (ho _ (by omega)).symm, r4.trans (ho _ (by omega)).symm, r5.trans (ho _ (by omega)).symm, r6.trans (ho _ (by omega)).symm, r7.trans (ho _ (by omega)).symm, r8.trans (ho _ (by omega)).symm, r9.trans (ho _ (by omega)).symm, fun z hz => ?_⟩
  · unfold va_up
    split
    · rfl
    · exact hY.1 k hk
  · rw [ho _ (by omega)] at hz
    rw [r10 z hz]
    show (if u (23 + 27 * z + 1) = 0 then (-1 : Int32) else nI (u (23 + 27 * z + 2))) = if va_up u t x (23 + 27 * z + 1) = 0 then (-1 : Int32) else nI (va_up u t x (23 + 27 * z + 2))
    rw [ho _ (by omega), ho _ (by omega)]
theorem YRel_pau {k : Nat} (hG : GU u) (hR : YRel (a, st, ds, le, wg, te, K, C, u 6, mv, mm, tg, gn, wc, tn, g1, g2, g3) u) : YRel (a, st, ds, le, wg, te, K, C, u 6 + k, mv, mm, tg, gn, wc, tn, g1, g2, g3) (pauF u k) := by
  obtain ⟨hY, r1, r2, r3, r4, r5, r6, r7, r8, r9, r10⟩ := hR
  have ho : ∀ j, j ≠ 6 → pauF u k j = u j := fun j hj => up_o hj
  refine ⟨YA_eq hY hG (fun k hk => (hY.1 k hk).trans (ho _ (by omega)).symm) (ho _ (by omega)) (ho _ (by omega)) (fun k _ => ho _ (by omega)) (fun z _ => ho _ (by omega)) (fun z j c _ _ _ => ho _ (by omega)), r1.trans (ho _ (by omega)).symm, r2.trans (ho _ (by omega)).symm, r3.trans (ho _ (by omega)).symm, up_i.symm, r5.trans (ho _ (by omega)).symm, r6.trans (ho _ (by omega)).symm, r7.trans (ho _ (by omega)).symm, r8.trans (ho _ (by omega)).symm, r9.trans (ho _ (by omega)).symm, fun z hz => ?_⟩
  rw [ho _ (by omega)] at hz
  rw [r10 z hz]
  show (if u (23 + 27 * z + 1) = 0 then (-1 : Int32) else nI (u (23 + 27 * z + 2))) = if pauF u k (23 + 27 * z + 1) = 0 then (-1 : Int32) else nI (pauF u k (23 + 27 * z + 2))
  rw [ho _ (by omega), ho _ (by omega)]
theorem YRel_tes {t : Nat} (ht : t < 4) (hG : GU u) (hR : YRel (a, st, ds, le, wg, te, K, C, u 6, mv, mm, tg, gn, wc, tn, g1, g2, g3) u) : YRel (a, st, ds, le, wg, upd te t (nI (u 6 + (u 3 + 2 * mny u t))), K, C, u 6 + (u 3 + 2 * mny u t), mv, mm, tg, gn, wc, tn, g1, g2, g3) (tesF u t) := by
  obtain ⟨hY, r1, r2, r3, r4, r5, r6, r7, r8, r9, r10⟩ := hR
  have ho : ∀ j, j ≠ 6 → j ≠ 23 + 27 * t + 1 → j ≠ 23 + 27 * t + 2 → tesF u t j = u j := fun j h1 h2 h3 => by
    unfold tesF
    rw [up_o h3, up_o h2, up_o h1]
  have h6 : tesF u t 6 = u 6 + (u 3 + 2 * mny u t) := by
    unfold tesF
    rw [up_o (by omega), up_o (by omega), up_i]
  have hs : ∀ z, z < 4 → tesF u t (23 + 27 * z + 1) = if z = t then 1 else u (23 + 27 * z + 1) := fun z hz => by
    by_cases e : z = t
    · subst e
      rw [if_pos rfl]
      unfold tesF
      rw [up_o (by omega), up_i]
    · rw [if_neg e, ho _ (by omega) (by omega) (by omega)]
  have ha : ∀ z, z < 4 → tesF u t (23 + 27 * z + 2) = if z = t then u 6 + (u 3 + 2 * mny u t) else u (23 + 27 * z + 2) := fun z hz => by
    by_cases e : z = t
    · subst e
      rw [if_pos rfl]
      unfold tesF
      rw [up_i]
    · rw [if_neg e, ho _ (by omega) (by omega) (by omega)]
  have hl : ∀ j, j < 23 → j ≠ 6 → tesF u t j = u j := fun j h1 h2 => ho j h2 (by omega) (by omega)
  refine ⟨YA_eq hY hG (fun k hk => (hY.1 k hk).trans (hl _ (by omega) (by omega)).symm) (hl _ (by omega) (by omega)) (hl _ (by omega) (by omega)) (fun k _ => hl _ (by omega) (by omega)) (fun z _ => ho _ (by omega) (by omega) (by omega)) (fun z j c _ _ _ => ho _ (by omega) (by omega) (by omega)), r1.trans (hl _ (by omega) (by omega)).symm, r2.trans (hl _ (by omega) (by omega)).symm, r3.trans (hl _ (by omega) (by omega)).symm, h6.symm, r5.trans (hl _ (by omega) (by omega)).symm, r6.trans (hl _ (by omega) (by omega)).symm, r7.trans (hl _ (by omega) (by omega)).symm, r8.trans (hl _ (by omega) (by omega)).symm, r9.trans (hl _ (by omega) (by omega)).symm, fun z hz => ?_⟩
  rw [hl _ (by omega) (by omega)] at hz
  have g4 := hG.1
  show (if z = t then nI (u 6 + (u 3 + 2 * mny u t)) else te z) = if tesF u t (23 + 27 * z + 1) = 0 then (-1 : Int32) else nI (tesF u t (23 + 27 * z + 2))
  rw [hs z (by omega), ha z (by omega)]
  by_cases e : z = t
  · rw [if_pos e, if_pos e, if_pos e, if_neg (by decide)]
  · rw [if_neg e, if_neg e, if_neg e, r10 z hz]
    rfl
theorem depF_hi {t j : Nat} (hl : u 12 ≤ 10) (h : 23 ≤ j) (h0 : j ≠ 23 + 27 * t + 0) (h1 : j ≠ 23 + 27 * t + 1) : depF u t j = u j := by
  unfold depF
  rw [up_o (by omega)]
  unfold depL
  rw [pk_cpy_out (by omega)]
  unfold dep4
  rw [up_o (by omega), up_o (by omega), up_o h1, up_o h0]
theorem depF_01 {t : Nat} (hl : u 12 ≤ 10) : depF u t (23 + 27 * t + 0) = 0 ∧ depF u t (23 + 27 * t + 1) = 0 := by
  unfold depF
  rw [up_o (by omega), up_o (by omega)]
  unfold depL
  rw [pk_cpy_out (by omega), pk_cpy_out (by omega)]
  unfold dep4
  rw [up_o (by omega), up_o (by omega), up_o (by omega), up_i, up_o (by omega), up_o (by omega), up_i]
  exact ⟨rfl, rfl⟩
theorem depF_lo {t j : Nat} (h : j < 13) : depF u t j = if j = 12 then u 12 - 1 else if j = 11 then u 11 + mny u t else if j = 10 then u 10 + 1 else u j := by
  unfold depF
  by_cases e : j = 12
  · subst e
    rw [up_i, if_pos rfl]
  · rw [up_o e, if_neg e]
    unfold depL
    rw [pk_cpy_out (by omega)]
    unfold dep4
    by_cases e1 : j = 11
    · subst e1
      rw [up_i, if_pos rfl]
    · rw [up_o e1, if_neg e1]
      by_cases e2 : j = 10
      · subst e2
        rw [up_i, if_pos rfl]
      · rw [up_o e2, if_neg e2, up_o (by omega), up_o (by omega)]
theorem depF_d {t k : Nat} (hk : k < u 12 - 1) (hl : u 12 ≤ 10) : depF u t (13 + k) = u (14 + k) := by
  unfold depF
  rw [up_o (by omega)]
  unfold depL
  rw [pk_cpy_in (by omega) (by omega)]
  unfold dep4
  rw [up_o (by omega), up_o (by omega), up_o (by omega), up_o (by omega)]
  exact congrArg u (by omega)
theorem YRel_dep {t : Nat} (ht : t < 4) (hG : GU u) (hR : YRel (a, st, ds, le, wg, te, u 4, u 5, u 6, u 8, u 9, u 10, u 11, u 7, u 12, g1, g2, g3) u) : YRel (a, st, va_cpy ds ds 1 0 (u 12 - 1), va_up le t 0, wg, upd te t (-1), u 4, u 5, u 6, u 8, u 9, u 10 + 1, u 11 + mny u t, u 7, u 12 - 1, g1, g2, g3) (depF u t) := by
  obtain ⟨⟨y1, y2, y3, y4⟩, r1, r2, r3, r4, r5, r6, r7, r8, r9, r10⟩ := hR
  have h12 := hG.2.2.2.2.2.2.2
  have g4 := hG.1
  have e4 : depF u t 4 = u 4 := depF_lo (by omega)
  have e12 : depF u t 12 = u 12 - 1 := depF_lo (by omega)
  refine ⟨⟨fun k hk => ?_, fun k hk => ?_, fun z hz => ?_, fun z j hz hj => ?_⟩, e4.symm, (show depF u t 5 = u 5 from depF_lo (by omega)).symm, e12.symm, (show depF u t 6 = u 6 from depF_lo (by omega)).symm, (show depF u t 8 = u 8 from depF_lo (by omega)).symm, (show depF u t 9 = u 9 from depF_lo (by omega)).symm, (show depF u t 10 = u 10 + 1 from depF_lo (by omega)).symm, (show depF u t 11 = u 11 + mny u t from depF_lo (by omega)).symm, (show depF u t 7 = u 7 from depF_lo (by omega)).symm, fun z hz => ?_⟩
  · rw [y1 k hk, depF_lo (by omega), if_neg (by omega), if_neg (by omega), if_neg (by omega)]
  · rw [e12] at hk
    rw [depF_d hk h12, pk_cpy_in (by omega) (by omega), y2 _ (by omega)]
    exact congrArg u (by omega)
  · rw [e4] at hz
    unfold va_up
    by_cases e : z = t
    · subst e
      rw [if_pos rfl]
      exact (depF_01 h12).1.symm
    · rw [if_neg e, y3 z hz]
      exact (depF_hi h12 (by omega) (by omega) (by omega)).symm
  · rw [e4] at hz
    by_cases e : z = t
    · subst e
      rw [show mny (depF u z) z = 0 from (depF_01 h12).1] at hj
      exact absurd hj (Nat.not_lt_zero _)
    · rw [show mny (depF u t) z = mny u z from depF_hi h12 (by omega) (by omega) (by omega)] at hj
      have g8 := hG.2.2.2.2.1 z (by omega)
      rw [y4 z j hz hj]
      show (u (23 + 27 * z + (3 + 3 * j + 0)) * 6 + u (23 + 27 * z + (3 + 3 * j + 1))) * 3 + u (23 + 27 * z + (3 + 3 * j + 2)) = (depF u t (23 + 27 * z + (3 + 3 * j + 0)) * 6 + depF u t (23 + 27 * z + (3 + 3 * j + 1))) * 3 + depF u t (23 + 27 * z + (3 + 3 * j + 2))
      rw [depF_hi h12 (by omega) (by omega) (by omega), depF_hi h12 (by omega) (by omega) (by omega), depF_hi h12 (by omega) (by omega) (by omega)]
  · rw [e4] at hz
    show (if z = t then (-1 : Int32) else te z) = if depF u t (23 + 27 * z + 1) = 0 then (-1 : Int32) else nI (depF u t (23 + 27 * z + 2))
    by_cases e : z = t
    · subst e
      rw [if_pos rfl, (depF_01 h12).2, if_pos rfl]
    · rw [if_neg e, depF_hi h12 (by omega) (by omega) (by omega), depF_hi h12 (by omega) (by omega) (by omega), r10 z hz]
      rfl
end YRS
