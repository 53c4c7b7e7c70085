set_option maxHeartbeats 4000000 in
set_option maxRecDepth 100000 in
theorem ct_X6_wipe (g : GG) (l : Launch) (b : Nat) (S : AS) (W : va_W) (hS : CSt g b S W) (hG : GU S.1) (hN : GN S.1)  : CtI g l yX6_wipe cX6_wipe 2 (some .int) (rmK 4 0 0) (W) [.ref b] (fun r W1 => r = nI S.2.2.2.2.2.2.1 ∧ CSt g b (nWip S) W1) := by
  obtain ⟨u, pa, pm, im, fl, txr, lnr, fkr, fpr, rsr⟩ := S
  obtain ⟨a, st, ds, le, wg, te, K, C, ck, mv, mm, tg, gn, wc, tn, g1, g2, g3, ah, f, nx, ct, ai, fi, ax, tx, rd, ln, fn, fk, fp, as, wa, wi, wo, hb, ay, st0, ds0, le0, wg0, te0, K0, C0, ck0, mv0, mm0, tg0, gn0, wc0, tn0, g10, g20, g30, ar, wf, wt, wn, rmv, rmi, ab, bf, bt, bn, bmv, bmi, hs, is, rs, rfl, hR, hH, hI, hln, hl60, htx, hfk, hfp, hrs⟩ := hS
  obtain ⟨hY, rK, rC, rtn, rck, rmv2, rmm, rtg, rgn, rwc, hte⟩ := id hR
  dsimp only at *
  subst rK rC rtn rck rmv2 rmm rtg rgn rwc
  refine CtI.go RX6 rfl (by decide +kernel) (Nat.le_of_ble_eq_true rfl) ?_
  intro p e s m args below meth c A H0 Q hc hnm fin
  obtain ⟨hK4, hC8, hv2, hg3, hm, hdk, h13, h12⟩ := id hG
  show KW g p l e (rmK 4 0 0) s m args below meth c 2 A H0 0 0 Q (CO b (a 0) (ah 0) ai (ax 0) (as 0) rs ++ (YW g.2.1 a st ds le wg te (u 4) (u 5) (u 6) (u 8) (u 9) (u 10) (u 11) (u 7) (u 12) g1 g2 g3 ++ (HIW g.2.1 g.2.2 ah f nx ct ++ (AQ g.2.2 ai 2 fi ++ (TXW g.2.1 ax tx rd ln fn fk fp ++ (SEW g.2.1 as (ab 0) (ay 0) (ar 0) wa wi wo hb ++ (YW g.2.1 ay st0 ds0 le0 wg0 te0 K0 C0 ck0 mv0 mm0 tg0 gn0 wc0 tn0 g10 g20 g30 ++ (RWW g.2.1 ar wf wt wn rmv rmi ++ (RWW g.2.1 ab bf bt bn bmv bmi ++ (HSW g.2.1 hs 8 ++ (HSW g.2.1 is 2))))))))))) [(0, .ref b)] 0 []
  refine zk_aload_n hc dX6_wipe_0 0 rfl ?_
  refine zk_get hc inlX6 (ci := 6) rfl 0 3 (by decide) mw_2_0 rfl rfl rfl dX6_wipe_1 ?_
  refine zk_get hc inlX4 (ci := 4) rfl 11 1 (by decide) mw_25_13 rfl rfl rfl dX6_wipe_4 ?_
  refine zk_istore_n hc (lv2 := [(1, .int (nI ln)), (0, .ref b)]) dX6_wipe_7 (by decide) rfl ?_
  refine zk_aload_n hc dX6_wipe_8 1 rfl ?_
  refine zk_get hc inlX6 (ci := 6) rfl 0 3 (by decide) mw_2_0 rfl rfl rfl dX6_wipe_9 ?_
  refine zk_iconst hc (nI 0) dX6_wipe_12 rfl ?_
  refine zk_put hc inlX4 (ci := 4) rfl tyX4 tyX4_ok nmX4 11 1 (by decide) mw_25_13 rfl rfl rfl rfl rfl (Nat.le_of_ble_eq_true rfl) (ws2 := CO b (a 0) (ah 0) ai (ax 0) (as 0) rs ++ (YW g.2.1 a st ds le wg te (u 4) (u 5) (u 6) (u 8) (u 9) (u 10) (u 11) (u 7) (u 12) g1 g2 g3 ++ (HIW g.2.1 g.2.2 ah f nx ct ++ (AQ g.2.2 ai 2 fi ++ (TXW g.2.1 ax tx rd 0 fn fk fp ++ (SEW g.2.1 as (ab 0) (ay 0) (ar 0) wa wi wo hb ++ (YW g.2.1 ay st0 ds0 le0 wg0 te0 K0 C0 ck0 mv0 mm0 tg0 gn0 wc0 tn0 g10 g20 g30 ++ (RWW g.2.1 ar wf wt wn rmv rmi ++ (RWW g.2.1 ab bf bt bn bmv bmi ++ (HSW g.2.1 hs 8 ++ (HSW g.2.1 is 2))))))))))) rfl dX6_wipe_13 ?_
  refine zk_iload_n hc dX6_wipe_16 0 rfl ?_
  refine fin 0 0 _ _ _ _ (by decide) (by decide) dX6_wipe_17 (?_)
  exact ⟨by rw [hln], ⟨_, _, _, _, _, _, _, _, _, _, _, _, _, _, _, _, _, _, _, _, _, _, _, _, _, _, _, _, _, _, _, _, _, _, _, _, _, _, _, _, _, _, _, _, _, _, _, _, _, _, _, _, _, _, _, _, _, _, _, _, _, _, _, _, _, _, _, _, _, rfl, hR, hH, hI, rfl, Nat.zero_le _, fun j hj => absurd hj (Nat.not_lt_zero _), hfk, hfp, hrs⟩⟩
