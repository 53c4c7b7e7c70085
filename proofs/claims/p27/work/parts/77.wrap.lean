/-! the calls of both, over the states themselves -/
theorem kx_begin (g : GG) (l : Launch) (b : Nat) (S : AS) (W : va_W) (N : Nat) (hN : N ≤ 512) (hI : INV N S) (hS : CSt g b S W) (v w : Int32) : CtI g l yX6_begin cX6_begin 4 (some .int) (rmK 5 7 72) W [.ref b, .int v, .int w] (fun r W1 => r = aBeg S.1 v w ∧ CSt g b (nBeg S v w) W1) := by
  obtain ⟨u, pa, pm, im, fl, tx, ln, fk, fp, rs⟩ := S
  obtain ⟨a, st, ds, le, wg, te, K, C, ck, mv, mm, tg, gn, wc, tn, g1, g2, g3, ah, f, nx, ct, hs, ax, rd, fn, xi, xs, RI, RS, rfl, hR, hH, hT, hIp, hSp⟩ := hS
  obtain ⟨hW, hpm, hPW, hfl, hIW, -⟩ := hI
  obtain ⟨-, r1, r2, r3, r4, r5, r6, r7, r8, r9, -⟩ := id hR
  dsimp only at *
  subst r1 r2 r3 r4 r5 r6 r7 r8 r9
  exact cx_X6_begin g l b a u st ds le wg te g1 g2 g3 ah f nx ct hs ax tx rd ln fn fk fp rs xi xs RI RS pa pm im fl N  hN hW hR hH hT hIp hSp v w
theorem kx_set (g : GG) (l : Launch) (b : Nat) (S : AS) (W : va_W) (N : Nat) (hN : N ≤ 512) (hI : INV N S) (hS : CSt g b S W) (v w : Int32) : CtI g l yX6_set cX6_set 4 (some .int) (rmK 5 7 72) W [.ref b, .int v, .int w] (fun r W1 => r = aSet S.1 v w ∧ CSt g b (nSet S v w) W1) := by
  obtain ⟨u, pa, pm, im, fl, tx, ln, fk, fp, rs⟩ := S
  obtain ⟨a, st, ds, le, wg, te, K, C, ck, mv, mm, tg, gn, wc, tn, g1, g2, g3, ah, f, nx, ct, hs, ax, rd, fn, xi, xs, RI, RS, rfl, hR, hH, hT, hIp, hSp⟩ := hS
  obtain ⟨hW, hpm, hPW, hfl, hIW, -⟩ := hI
  obtain ⟨-, r1, r2, r3, r4, r5, r6, r7, r8, r9, -⟩ := id hR
  dsimp only at *
  subst r1 r2 r3 r4 r5 r6 r7 r8 r9
  exact cx_X6_set g l b a u st ds le wg te g1 g2 g3 ah f nx ct hs ax tx rd ln fn fk fp rs xi xs RI RS pa pm im fl N  hN hW hR hH hT hIp hSp v w
theorem kx_arrive (g : GG) (l : Launch) (b : Nat) (S : AS) (W : va_W) (N : Nat) (hN : N ≤ 512) (hI : INV N S) (hS : CSt g b S W) (v : Int32) : CtI g l yX6_arrive cX6_arrive 2 (some .int) (rmK 6 7 72) W [.ref b, .int v] (fun r W1 => r = aArr S.1 S.2.2.2.2.2.1 S.2.2.2.2.2.2.1 v ∧ CSt g b (nArr S v) W1) := by
  obtain ⟨u, pa, pm, im, fl, tx, ln, fk, fp, rs⟩ := S
  obtain ⟨a, st, ds, le, wg, te, K, C, ck, mv, mm, tg, gn, wc, tn, g1, g2, g3, ah, f, nx, ct, hs, ax, rd, fn, xi, xs, RI, RS, rfl, hR, hH, hT, hIp, hSp⟩ := hS
  obtain ⟨hW, hpm, hPW, hfl, hIW, -⟩ := hI
  obtain ⟨-, r1, r2, r3, r4, r5, r6, r7, r8, r9, -⟩ := id hR
  dsimp only at *
  subst r1 r2 r3 r4 r5 r6 r7 r8 r9
  exact cx_X6_arrive g l b a u st ds le wg te g1 g2 g3 ah f nx ct hs ax tx rd ln fn fk fp rs xi xs RI RS pa pm im fl N  hN hW hR hH hT hIp hSp v
theorem kx_list (g : GG) (l : Launch) (b : Nat) (S : AS) (W : va_W) (N : Nat) (hN : N ≤ 512) (hI : INV N S) (hS : CSt g b S W) : CtI g l yX6_list cX6_list 1 (some .int) (rmK 5 7 72) W [.ref b] (fun r W1 => r = aLis S.2.2.2.2.2.1 S.2.2.2.2.2.2.1 ∧ CSt g b (nLis S) W1) := by
  obtain ⟨u, pa, pm, im, fl, tx, ln, fk, fp, rs⟩ := S
  obtain ⟨a, st, ds, le, wg, te, K, C, ck, mv, mm, tg, gn, wc, tn, g1, g2, g3, ah, f, nx, ct, hs, ax, rd, fn, xi, xs, RI, RS, rfl, hR, hH, hT, hIp, hSp⟩ := hS
  obtain ⟨hW, hpm, hPW, hfl, hIW, -⟩ := hI
  obtain ⟨-, r1, r2, r3, r4, r5, r6, r7, r8, r9, -⟩ := id hR
  dsimp only at *
  subst r1 r2 r3 r4 r5 r6 r7 r8 r9
  exact cx_X6_list g l b a u st ds le wg te g1 g2 g3 ah f nx ct hs ax tx rd ln fn fk fp rs xi xs RI RS pa pm im fl N  hN hW hR hH hT hIp hSp
theorem kx_move (g : GG) (l : Launch) (b : Nat) (S : AS) (W : va_W) (N : Nat) (hN : N ≤ 512) (hI : INV N S) (hS : CSt g b S W) (v w x : Int32) : CtI g l yX6_move cX6_move 5 (some .int) (rmK 5 7 72) W [.ref b, .int v, .int w, .int x] (fun r W1 => r = aCos S.1 v w x ∧ CSt g b (nMov S v w x) W1) := by
  obtain ⟨u, pa, pm, im, fl, tx, ln, fk, fp, rs⟩ := S
  obtain ⟨a, st, ds, le, wg, te, K, C, ck, mv, mm, tg, gn, wc, tn, g1, g2, g3, ah, f, nx, ct, hs, ax, rd, fn, xi, xs, RI, RS, rfl, hR, hH, hT, hIp, hSp⟩ := hS
  obtain ⟨hW, hpm, hPW, hfl, hIW, -⟩ := hI
  obtain ⟨-, r1, r2, r3, r4, r5, r6, r7, r8, r9, -⟩ := id hR
  dsimp only at *
  subst r1 r2 r3 r4 r5 r6 r7 r8 r9
  exact cx_X6_move g l b a u st ds le wg te g1 g2 g3 ah f nx ct hs ax tx rd ln fn fk fp rs xi xs RI RS pa pm im fl N  hN hW hR hH hT hIp hSp v w x
theorem kx_test (g : GG) (l : Launch) (b : Nat) (S : AS) (W : va_W) (N : Nat) (hN : N ≤ 512) (hI : INV N S) (hS : CSt g b S W) (v : Int32) : CtI g l yX6_test cX6_test 2 (some .int) (rmK 5 7 72) W [.ref b, .int v] (fun r W1 => r = aTes S.1 v ∧ CSt g b (nTes S v) W1) := by
  obtain ⟨u, pa, pm, im, fl, tx, ln, fk, fp, rs⟩ := S
  obtain ⟨a, st, ds, le, wg, te, K, C, ck, mv, mm, tg, gn, wc, tn, g1, g2, g3, ah, f, nx, ct, hs, ax, rd, fn, xi, xs, RI, RS, rfl, hR, hH, hT, hIp, hSp⟩ := hS
  obtain ⟨hW, hpm, hPW, hfl, hIW, -⟩ := hI
  obtain ⟨-, r1, r2, r3, r4, r5, r6, r7, r8, r9, -⟩ := id hR
  dsimp only at *
  subst r1 r2 r3 r4 r5 r6 r7 r8 r9
  exact cx_X6_test g l b a u st ds le wg te g1 g2 g3 ah f nx ct hs ax tx rd ln fn fk fp rs xi xs RI RS pa pm im fl N  hN hW hR hH hT hIp hSp v
theorem kx_pause (g : GG) (l : Launch) (b : Nat) (S : AS) (W : va_W) (N : Nat) (hN : N ≤ 512) (hI : INV N S) (hS : CSt g b S W) (v : Int32) : CtI g l yX6_pause cX6_pause 2 (some .int) (rmK 5 7 72) W [.ref b, .int v] (fun r W1 => r = aPau S.1 v ∧ CSt g b (nPau S v) W1) := by
  obtain ⟨u, pa, pm, im, fl, tx, ln, fk, fp, rs⟩ := S
  obtain ⟨a, st, ds, le, wg, te, K, C, ck, mv, mm, tg, gn, wc, tn, g1, g2, g3, ah, f, nx, ct, hs, ax, rd, fn, xi, xs, RI, RS, rfl, hR, hH, hT, hIp, hSp⟩ := hS
  obtain ⟨hW, hpm, hPW, hfl, hIW, -⟩ := hI
  obtain ⟨-, r1, r2, r3, r4, r5, r6, r7, r8, r9, -⟩ := id hR
  dsimp only at *
  subst r1 r2 r3 r4 r5 r6 r7 r8 r9
  exact cx_X6_pause g l b a u st ds le wg te g1 g2 g3 ah f nx ct hs ax tx rd ln fn fk fp rs xi xs RI RS pa pm im fl N  hN hW hR hH hT hIp hSp v
theorem kx_depart (g : GG) (l : Launch) (b : Nat) (S : AS) (W : va_W) (N : Nat) (hN : N ≤ 512) (hI : INV N S) (hS : CSt g b S W) (v : Int32) : CtI g l yX6_depart cX6_depart 3 (some .int) (rmK 6 7 72) W [.ref b, .int v] (fun r W1 => r = aDep S.1 v ∧ CSt g b (nDep S v) W1) := by
  obtain ⟨u, pa, pm, im, fl, tx, ln, fk, fp, rs⟩ := S
  obtain ⟨a, st, ds, le, wg, te, K, C, ck, mv, mm, tg, gn, wc, tn, g1, g2, g3, ah, f, nx, ct, hs, ax, rd, fn, xi, xs, RI, RS, rfl, hR, hH, hT, hIp, hSp⟩ := hS
  obtain ⟨hW, hpm, hPW, hfl, hIW, -⟩ := hI
  obtain ⟨-, r1, r2, r3, r4, r5, r6, r7, r8, r9, -⟩ := id hR
  dsimp only at *
  subst r1 r2 r3 r4 r5 r6 r7 r8 r9
  exact cx_X6_depart g l b a u st ds le wg te g1 g2 g3 ah f nx ct hs ax tx rd ln fn fk fp rs xi xs RI RS pa pm im fl N  hN hW hR hH hT hIp hSp v
theorem kx_makeUp (g : GG) (l : Launch) (b : Nat) (S : AS) (W : va_W) (N : Nat) (hN : N ≤ 512) (hI : INV N S) (hS : CSt g b S W) (v : Int32) : CtI g l yX6_makeUp cX6_makeUp 5 (some .int) (rmK 15 7 72) W [.ref b, .int v] (fun r W1 => r = aMak S.1 v ∧ CSt g b (nMak S v) W1) := by
  obtain ⟨u, pa, pm, im, fl, tx, ln, fk, fp, rs⟩ := S
  obtain ⟨a, st, ds, le, wg, te, K, C, ck, mv, mm, tg, gn, wc, tn, g1, g2, g3, ah, f, nx, ct, hs, ax, rd, fn, xi, xs, RI, RS, rfl, hR, hH, hT, hIp, hSp⟩ := hS
  obtain ⟨hW, hpm, hPW, hfl, hIW, -⟩ := hI
  obtain ⟨-, r1, r2, r3, r4, r5, r6, r7, r8, r9, -⟩ := id hR
  dsimp only at *
  subst r1 r2 r3 r4 r5 r6 r7 r8 r9
  obtain ⟨as, ab, ay, ar, wa, wi, wo, hb, st0, ds0, le0, wg0, te0, K0, C0, ck0, mv0, mm0, tg0, gn0, wc0, tn0, g10, g20, g30, wf, wt, wn, rmv, rmi, bf, bt, bn, bmv, bmi, rfl, rfl⟩ := hSp
  exact cx_X6_makeUp g l b a u st ds le wg te g1 g2 g3 ah f nx ct hs ax tx rd ln fn fk fp rs xi RI pa pm im fl N as ab ay ar wa wi wo hb st0 ds0 le0 wg0 te0 K0 C0 ck0 mv0 mm0 tg0 gn0 wc0 tn0 g10 g20 g30 wf wt wn rmv rmi bf bt bn bmv bmi hN hW hR hH hT hIp v
theorem kx_undo (g : GG) (l : Launch) (b : Nat) (S : AS) (W : va_W) (N : Nat) (hN : N ≤ 512) (hI : INV N S) (hS : CSt g b S W) : CtI g l yX6_undo cX6_undo 1 (some .int) (rmK 5 0 0) W [.ref b] (fun r W1 => r = aUnd S.2.2.1 ∧ CSt g b (nUnd S) W1) := by
  obtain ⟨u, pa, pm, im, fl, tx, ln, fk, fp, rs⟩ := S
  obtain ⟨a, st, ds, le, wg, te, K, C, ck, mv, mm, tg, gn, wc, tn, g1, g2, g3, ah, f, nx, ct, hs, ax, rd, fn, xi, xs, RI, RS, rfl, hR, hH, hT, hIp, hSp⟩ := hS
  obtain ⟨hW, hpm, hPW, hfl, hIW, -⟩ := hI
  obtain ⟨-, r1, r2, r3, r4, r5, r6, r7, r8, r9, -⟩ := id hR
  dsimp only at *
  subst r1 r2 r3 r4 r5 r6 r7 r8 r9
  rcases Nat.eq_zero_or_pos pm with hp | hp
  · obtain rfl : ct = 0 := hH.2.1.trans hp
    exact cx_X6_undo0 g l b a u st ds le wg te g1 g2 g3 ah f nx hs ax tx rd ln fn fk fp rs xi xs RI RS pa pm im fl N  hN hW hR hH hT hIp hSp hp
  · exact cx_X6_undo1 g l b a u st ds le wg te g1 g2 g3 ah f nx ct hs ax tx rd ln fn fk fp rs xi xs RI RS pa pm im fl N  hN hW hR hH hT hIp hSp hp
theorem kx_write (g : GG) (l : Launch) (b : Nat) (S : AS) (W : va_W) (N : Nat) (hN : N ≤ 512) (hI : INV N S) (hS : CSt g b S W) (v : Int32) : CtI g l yX6_write cX6_write 2 (some .int) (rmK 4 0 0) W [.ref b, .int v] (fun r W1 => r = aWri S.2.2.2.2.2.2.1 v ∧ CSt g b (nWri S v) W1) := by
  obtain ⟨u, pa, pm, im, fl, tx, ln, fk, fp, rs⟩ := S
  obtain ⟨a, st, ds, le, wg, te, K, C, ck, mv, mm, tg, gn, wc, tn, g1, g2, g3, ah, f, nx, ct, hs, ax, rd, fn, xi, xs, RI, RS, rfl, hR, hH, hT, hIp, hSp⟩ := hS
  obtain ⟨hW, hpm, hPW, hfl, hIW, -⟩ := hI
  obtain ⟨-, r1, r2, r3, r4, r5, r6, r7, r8, r9, -⟩ := id hR
  dsimp only at *
  subst r1 r2 r3 r4 r5 r6 r7 r8 r9
  exact cx_X6_write g l b a u st ds le wg te g1 g2 g3 ah f nx ct hs ax tx rd ln fn fk fp rs xi xs RI RS pa pm im fl N  hN hW hR hH hT hIp hSp v
theorem kx_wipe (g : GG) (l : Launch) (b : Nat) (S : AS) (W : va_W) (N : Nat) (hN : N ≤ 512) (hI : INV N S) (hS : CSt g b S W) : CtI g l yX6_wipe cX6_wipe 2 (some .int) (rmK 4 0 0) W [.ref b] (fun r W1 => r = nI S.2.2.2.2.2.2.1 ∧ CSt g b (nWip S) W1) := by
  obtain ⟨u, pa, pm, im, fl, tx, ln, fk, fp, rs⟩ := S
  obtain ⟨a, st, ds, le, wg, te, K, C, ck, mv, mm, tg, gn, wc, tn, g1, g2, g3, ah, f, nx, ct, hs, ax, rd, fn, xi, xs, RI, RS, rfl, hR, hH, hT, hIp, hSp⟩ := hS
  obtain ⟨hW, hpm, hPW, hfl, hIW, -⟩ := hI
  obtain ⟨-, r1, r2, r3, r4, r5, r6, r7, r8, r9, -⟩ := id hR
  dsimp only at *
  subst r1 r2 r3 r4 r5 r6 r7 r8 r9
  exact cx_X6_wipe g l b a u st ds le wg te g1 g2 g3 ah f nx ct hs ax tx rd ln fn fk fp rs xi xs RI RS pa pm im fl N  hN hW hR hH hT hIp hSp
theorem kx_told (g : GG) (l : Launch) (b : Nat) (S : AS) (W : va_W) (N : Nat) (hN : N ≤ 512) (hI : INV N S) (hS : CSt g b S W) (v : Int32) : CtI g l yX6_told cX6_told 2 (some .int) (rmK 6 0 0) W [.ref b, .int v] (fun r W1 => r = aTol S v ∧ CSt g b S W1) := by
  obtain ⟨u, pa, pm, im, fl, tx, ln, fk, fp, rs⟩ := S
  obtain ⟨a, st, ds, le, wg, te, K, C, ck, mv, mm, tg, gn, wc, tn, g1, g2, g3, ah, f, nx, ct, hs, ax, rd, fn, xi, xs, RI, RS, rfl, hR, hH, hT, hIp, hSp⟩ := hS
  obtain ⟨hW, hpm, hPW, hfl, hIW, -⟩ := hI
  obtain ⟨-, r1, r2, r3, r4, r5, r6, r7, r8, r9, -⟩ := id hR
  dsimp only at *
  subst r1 r2 r3 r4 r5 r6 r7 r8 r9
  exact cx_X6_told g l b a u st ds le wg te g1 g2 g3 ah f nx ct hs ax tx rd ln fn fk fp rs xi xs RI RS pa pm im fl N  hN hW hR hH hT hIp hSp v
theorem kx_setting (g : GG) (l : Launch) (b : Nat) (S : AS) (W : va_W) (N : Nat) (hN : N ≤ 512) (hI : INV N S) (hS : CSt g b S W) (v : Int32) : CtI g l yX6_setting cX6_setting 2 (some .int) (rmK 4 0 0) W [.ref b, .int v] (fun r W1 => r = aSti S.1 v ∧ CSt g b S W1) := by
  obtain ⟨u, pa, pm, im, fl, tx, ln, fk, fp, rs⟩ := S
  obtain ⟨a, st, ds, le, wg, te, K, C, ck, mv, mm, tg, gn, wc, tn, g1, g2, g3, ah, f, nx, ct, hs, ax, rd, fn, xi, xs, RI, RS, rfl, hR, hH, hT, hIp, hSp⟩ := hS
  obtain ⟨hW, hpm, hPW, hfl, hIW, -⟩ := hI
  obtain ⟨-, r1, r2, r3, r4, r5, r6, r7, r8, r9, -⟩ := id hR
  dsimp only at *
  subst r1 r2 r3 r4 r5 r6 r7 r8 r9
  exact cx_X6_setting g l b a u st ds le wg te g1 g2 g3 ah f nx ct hs ax tx rd ln fn fk fp rs xi xs RI RS pa pm im fl N  hN hW hR hH hT hIp hSp v
theorem kx_track (g : GG) (l : Launch) (b : Nat) (S : AS) (W : va_W) (N : Nat) (hN : N ≤ 512) (hI : INV N S) (hS : CSt g b S W) (v w : Int32) : CtI g l yX6_track cX6_track 3 (some .int) (rmK 7 0 0) W [.ref b, .int v, .int w] (fun r W1 => r = aTrk S.1 v w ∧ CSt g b S W1) := by
  obtain ⟨u, pa, pm, im, fl, tx, ln, fk, fp, rs⟩ := S
  obtain ⟨a, st, ds, le, wg, te, K, C, ck, mv, mm, tg, gn, wc, tn, g1, g2, g3, ah, f, nx, ct, hs, ax, rd, fn, xi, xs, RI, RS, rfl, hR, hH, hT, hIp, hSp⟩ := hS
  obtain ⟨hW, hpm, hPW, hfl, hIW, -⟩ := hI
  obtain ⟨-, r1, r2, r3, r4, r5, r6, r7, r8, r9, -⟩ := id hR
  dsimp only at *
  subst r1 r2 r3 r4 r5 r6 r7 r8 r9
  exact cx_X6_track g l b a u st ds le wg te g1 g2 g3 ah f nx ct hs ax tx rd ln fn fk fp rs xi xs RI RS pa pm im fl N  hN hW hR hH hT hIp hSp v w
theorem kx_wagon (g : GG) (l : Launch) (b : Nat) (S : AS) (W : va_W) (N : Nat) (hN : N ≤ 512) (hI : INV N S) (hS : CSt g b S W) (v w x : Int32) : CtI g l yX6_wagon cX6_wagon 5 (some .int) (rmK 5 0 0) W [.ref b, .int v, .int w, .int x] (fun r W1 => r = aWag S.1 v w x ∧ CSt g b S W1) := by
  obtain ⟨u, pa, pm, im, fl, tx, ln, fk, fp, rs⟩ := S
  obtain ⟨a, st, ds, le, wg, te, K, C, ck, mv, mm, tg, gn, wc, tn, g1, g2, g3, ah, f, nx, ct, hs, ax, rd, fn, xi, xs, RI, RS, rfl, hR, hH, hT, hIp, hSp⟩ := hS
  obtain ⟨hW, hpm, hPW, hfl, hIW, -⟩ := hI
  obtain ⟨-, r1, r2, r3, r4, r5, r6, r7, r8, r9, -⟩ := id hR
  dsimp only at *
  subst r1 r2 r3 r4 r5 r6 r7 r8 r9
  exact cx_X6_wagon g l b a u st ds le wg te g1 g2 g3 ah f nx ct hs ax tx rd ln fn fk fp rs xi xs RI RS pa pm im fl N  hN hW hR hH hT hIp hSp v w x
theorem kx_train (g : GG) (l : Launch) (b : Nat) (S : AS) (W : va_W) (N : Nat) (hN : N ≤ 512) (hI : INV N S) (hS : CSt g b S W) (v : Int32) : CtI g l yX6_train cX6_train 2 (some .int) (rmK 4 0 0) W [.ref b, .int v] (fun r W1 => r = aTra S.1 v ∧ CSt g b S W1) := by
  obtain ⟨u, pa, pm, im, fl, tx, ln, fk, fp, rs⟩ := S
  obtain ⟨a, st, ds, le, wg, te, K, C, ck, mv, mm, tg, gn, wc, tn, g1, g2, g3, ah, f, nx, ct, hs, ax, rd, fn, xi, xs, RI, RS, rfl, hR, hH, hT, hIp, hSp⟩ := hS
  obtain ⟨hW, hpm, hPW, hfl, hIW, -⟩ := hI
  obtain ⟨-, r1, r2, r3, r4, r5, r6, r7, r8, r9, -⟩ := id hR
  dsimp only at *
  subst r1 r2 r3 r4 r5 r6 r7 r8 r9
  exact cx_X6_train g l b a u st ds le wg te g1 g2 g3 ah f nx ct hs ax tx rd ln fn fk fp rs xi xs RI RS pa pm im fl N  hN hW hR hH hT hIp hSp v
theorem kx_find (g : GG) (l : Launch) (b : Nat) (S : AS) (W : va_W) (N : Nat) (hN : N ≤ 512) (hI : INV N S) (hS : CSt g b S W) (v w : Int32) : CtI g l yX6_find cX6_find 4 (some .int) (rmK 5 0 0) W [.ref b, .int v, .int w] (fun r W1 => r = aFin S.1 v w ∧ CSt g b S W1) := by
  obtain ⟨u, pa, pm, im, fl, tx, ln, fk, fp, rs⟩ := S
  obtain ⟨a, st, ds, le, wg, te, K, C, ck, mv, mm, tg, gn, wc, tn, g1, g2, g3, ah, f, nx, ct, hs, ax, rd, fn, xi, xs, RI, RS, rfl, hR, hH, hT, hIp, hSp⟩ := hS
  obtain ⟨hW, hpm, hPW, hfl, hIW, -⟩ := hI
  obtain ⟨-, r1, r2, r3, r4, r5, r6, r7, r8, r9, -⟩ := id hR
  dsimp only at *
  subst r1 r2 r3 r4 r5 r6 r7 r8 r9
  exact cx_X6_find g l b a u st ds le wg te g1 g2 g3 ah f nx ct hs ax tx rd ln fn fk fp rs xi xs RI RS pa pm im fl N  hN hW hR hH hT hIp hSp v w
theorem kx_mean (g : GG) (l : Launch) (b : Nat) (S : AS) (W : va_W) (N : Nat) (hN : N ≤ 512) (hI : INV N S) (hS : CSt g b S W) : CtF g l yX6_mean cX6_mean 1 (rmK 4 0 0) W [.ref b] (fun r W1 => r = menV S.1 ∧ CSt g b S W1) := by
  obtain ⟨u, pa, pm, im, fl, tx, ln, fk, fp, rs⟩ := S
  obtain ⟨a, st, ds, le, wg, te, K, C, ck, mv, mm, tg, gn, wc, tn, g1, g2, g3, ah, f, nx, ct, hs, ax, rd, fn, xi, xs, RI, RS, rfl, hR, hH, hT, hIp, hSp⟩ := hS
  obtain ⟨hW, hpm, hPW, hfl, hIW, -⟩ := hI
  obtain ⟨-, r1, r2, r3, r4, r5, r6, r7, r8, r9, -⟩ := id hR
  dsimp only at *
  subst r1 r2 r3 r4 r5 r6 r7 r8 r9
  exact cx_X6_mean g l b a u st ds le wg te g1 g2 g3 ah f nx ct hs ax tx rd ln fn fk fp rs xi xs RI RS pa pm im fl N  hN hW hR hH hT hIp hSp
theorem kx_cost (g : GG) (l : Launch) (b : Nat) (S : AS) (W : va_W) (N : Nat) (hN : N ≤ 512) (hI : INV N S) (hS : CSt g b S W) (v w x : Int32) : CtI g l yX6_cost cX6_cost 4 (some .int) (rmK 5 0 0) W [.ref b, .int v, .int w, .int x] (fun r W1 => r = aCos S.1 v w x ∧ CSt g b S W1) := by
  obtain ⟨u, pa, pm, im, fl, tx, ln, fk, fp, rs⟩ := S
  obtain ⟨a, st, ds, le, wg, te, K, C, ck, mv, mm, tg, gn, wc, tn, g1, g2, g3, ah, f, nx, ct, hs, ax, rd, fn, xi, xs, RI, RS, rfl, hR, hH, hT, hIp, hSp⟩ := hS
  obtain ⟨hW, hpm, hPW, hfl, hIW, -⟩ := hI
  obtain ⟨-, r1, r2, r3, r4, r5, r6, r7, r8, r9, -⟩ := id hR
  dsimp only at *
  subst r1 r2 r3 r4 r5 r6 r7 r8 r9
  exact cx_X6_cost g l b a u st ds le wg te g1 g2 g3 ah f nx ct hs ax tx rd ln fn fk fp rs xi xs RI RS pa pm im fl N  hN hW hR hH hT hIp hSp v w x
theorem kx_cheapest (g : GG) (l : Launch) (b : Nat) (S : AS) (W : va_W) (N : Nat) (hN : N ≤ 512) (hI : INV N S) (hS : CSt g b S W) (v w : Int32) : CtI g l yX6_cheapest cX6_cheapest 4 (some .int) (rmK 15 0 0) W [.ref b, .int v, .int w] (fun r W1 => r = aChe S.1 v w ∧ CSt g b S W1) := by
  obtain ⟨u, pa, pm, im, fl, tx, ln, fk, fp, rs⟩ := S
  obtain ⟨a, st, ds, le, wg, te, K, C, ck, mv, mm, tg, gn, wc, tn, g1, g2, g3, ah, f, nx, ct, hs, ax, rd, fn, xi, xs, RI, RS, rfl, hR, hH, hT, hIp, hSp⟩ := hS
  obtain ⟨hW, hpm, hPW, hfl, hIW, -⟩ := hI
  obtain ⟨-, r1, r2, r3, r4, r5, r6, r7, r8, r9, -⟩ := id hR
  dsimp only at *
  subst r1 r2 r3 r4 r5 r6 r7 r8 r9
  obtain ⟨as, ab, ay, ar, wa, wi, wo, hb, st0, ds0, le0, wg0, te0, K0, C0, ck0, mv0, mm0, tg0, gn0, wc0, tn0, g10, g20, g30, wf, wt, wn, rmv, rmi, bf, bt, bn, bmv, bmi, rfl, rfl⟩ := hSp
  exact cx_X6_cheapest g l b a u st ds le wg te g1 g2 g3 ah f nx ct hs ax tx rd ln fn fk fp rs xi RI pa pm im fl N as ab ay ar wa wi wo hb st0 ds0 le0 wg0 te0 K0 C0 ck0 mv0 mm0 tg0 gn0 wc0 tn0 g10 g20 g30 wf wt wn rmv rmi bf bt bn bmv bmi hN hW hR hH hT hIp v w
theorem kx_keep (g : GG) (l : Launch) (b : Nat) (S : AS) (W : va_W) (N : Nat) (hN : N ≤ 512) (hI : INV N S) (hS : CSt g b S W) (v : Int32) : CtI g l yX6_keep cX6_keep 2 (some .int) (rmK 5 7 72) W [.ref b, .int v] (fun r W1 => r = aKee S.1 v ∧ CSt g b (nKee S v) W1) := by
  obtain ⟨u, pa, pm, im, fl, tx, ln, fk, fp, rs⟩ := S
  obtain ⟨a, st, ds, le, wg, te, K, C, ck, mv, mm, tg, gn, wc, tn, g1, g2, g3, ah, f, nx, ct, hs, ax, rd, fn, xi, xs, RI, RS, rfl, hR, hH, hT, hIp, hSp⟩ := hS
  obtain ⟨hW, hpm, hPW, hfl, hIW, -⟩ := hI
  obtain ⟨-, r1, r2, r3, r4, r5, r6, r7, r8, r9, -⟩ := id hR
  dsimp only at *
  subst r1 r2 r3 r4 r5 r6 r7 r8 r9
  obtain ⟨fi, is, rfl, hIR⟩ := hIp
  rw [List.append_assoc (AQ g.2.2 xi 2 fi)]
  exact cx_X6_keep g l b a u st ds le wg te g1 g2 g3 ah f nx ct hs ax tx rd ln fn fk fp rs xi xs RS fi is pa pm im fl N  hN hW hR hH hT hIR hSp v
theorem kx_back (g : GG) (l : Launch) (b : Nat) (S : AS) (W : va_W) (N : Nat) (hN : N ≤ 512) (hI : INV N S) (hS : CSt g b S W) (v : Int32) : CtI g l yX6_back cX6_back 2 (some .int) (rmK 5 7 72) W [.ref b, .int v] (fun r W1 => r = aBak S.1 S.2.2.2.1 S.2.2.2.2.1 v ∧ CSt g b (nBak S v) W1) := by
  obtain ⟨u, pa, pm, im, fl, tx, ln, fk, fp, rs⟩ := S
  obtain ⟨a, st, ds, le, wg, te, K, C, ck, mv, mm, tg, gn, wc, tn, g1, g2, g3, ah, f, nx, ct, hs, ax, rd, fn, xi, xs, RI, RS, rfl, hR, hH, hT, hIp, hSp⟩ := hS
  obtain ⟨hW, hpm, hPW, hfl, hIW, -⟩ := hI
  obtain ⟨-, r1, r2, r3, r4, r5, r6, r7, r8, r9, -⟩ := id hR
  dsimp only at *
  subst r1 r2 r3 r4 r5 r6 r7 r8 r9
  obtain ⟨fi, is, rfl, hIR⟩ := hIp
  rw [List.append_assoc (AQ g.2.2 xi 2 fi)]
  exact cx_X6_back g l b a u st ds le wg te g1 g2 g3 ah f nx ct hs ax tx rd ln fn fk fp rs xi xs RS fi is pa pm im fl N  hN hW hR hH hT hIR hSp (fun i hi hz => Wf_congr (fun j hj => row_bak hj) (hIW i hi hz)) v
