set_option maxHeartbeats 4000000 in
set_option maxRecDepth 100000 in
theorem ct_X6_setting (g : GG) (l : Launch) (b : Nat) (S : AS) (W : va_W) (hS : CSt g b S W) (hG : GU S.1) (hN : GN S.1)  (v : Int32) : CtI g l yX6_setting cX6_setting 2 (some .int) (rmK 4 0 0) (W) [.ref b, .int v] (fun r W1 => r = aSti S.1 v ∧ CSt g b S W1) := by
  obtain ⟨u, pa, pm, im, fl, txr, lnr, fkr, fpr, rsr⟩ := S
  obtain ⟨a, st, ds, le, wg, te, K, C, ck, mv, mm, tg, gn, wc, tn, g1, g2, g3, ah, f, nx, ct, ai, fi, ax, tx, rd, ln, fn, fk, fp, as, wa, wi, wo, hb, ay, st0, ds0, le0, wg0, te0, K0, C0, ck0, mv0, mm0, tg0, gn0, wc0, tn0, g10, g20, g30, ar, wf, wt, wn, rmv, rmi, ab, bf, bt, bn, bmv, bmi, hs, is, rs, rfl, hR, hH, hI, hln, hl60, htx, hfk, hfp, hrs⟩ := hS
  obtain ⟨hY, rK, rC, rtn, rck, rmv2, rmm, rtg, rgn, rwc, hte⟩ := id hR
  dsimp only at *
  subst rK rC rtn rck rmv2 rmm rtg rgn rwc
  refine CtI.go RX6 rfl (by decide +kernel) (Nat.le_of_ble_eq_true rfl) ?_
  intro p e s m args below meth c A H0 Q hc hnm fin
  obtain ⟨hK4, hC8, hv2, hg3, hm, hdk, h13, h12⟩ := id hG
  show KW g p l e (rmK 4 0 0) s m args below meth c 2 A H0 0 0 Q (CO b (a 0) (ah 0) ai (ax 0) (as 0) rs ++ (YW g.2.1 a st ds le wg te (u 4) (u 5) (u 6) (u 8) (u 9) (u 10) (u 11) (u 7) (u 12) g1 g2 g3 ++ (HIW g.2.1 g.2.2 ah f nx ct ++ (AQ g.2.2 ai 2 fi ++ (TXW g.2.1 ax tx rd ln fn fk fp ++ (SEW g.2.1 as (ab 0) (ay 0) (ar 0) wa wi wo hb ++ (YW g.2.1 ay st0 ds0 le0 wg0 te0 K0 C0 ck0 mv0 mm0 tg0 gn0 wc0 tn0 g10 g20 g30 ++ (RWW g.2.1 ar wf wt wn rmv rmi ++ (RWW g.2.1 ab bf bt bn bmv bmi ++ (HSW g.2.1 hs 8 ++ (HSW g.2.1 is 2))))))))))) [(0, .ref b), (1, .int v)] 0 []
  refine zk_iload_n hc dX6_setting_0 1 rfl ?_
  refine zk_callSi hc (rest := []) (ct_X6_isSetting g l v) gg_X6_61 cd_X6_isSetting ⟨Nat.le_of_ble_eq_true rfl, Nat.le_of_ble_eq_true rfl⟩ ⟨Nat.le_of_ble_eq_true rfl, Nat.le_of_ble_eq_true rfl⟩ ([]) (CO b (a 0) (ah 0) ai (ax 0) (as 0) rs ++ (YW g.2.1 a st ds le wg te (u 4) (u 5) (u 6) (u 8) (u 9) (u 10) (u 11) (u 7) (u 12) g1 g2 g3 ++ (HIW g.2.1 g.2.2 ah f nx ct ++ (AQ g.2.2 ai 2 fi ++ (TXW g.2.1 ax tx rd ln fn fk fp ++ (SEW g.2.1 as (ab 0) (ay 0) (ar 0) wa wi wo hb ++ (YW g.2.1 ay st0 ds0 le0 wg0 te0 K0 C0 ck0 mv0 mm0 tg0 gn0 wc0 tn0 g10 g20 g30 ++ (RWW g.2.1 ar wf wt wn rmv rmi ++ (RWW g.2.1 ab bf bt bn bmv bmi ++ (HSW g.2.1 hs 8 ++ (HSW g.2.1 is 2))))))))))) rfl rfl (Nat.le_of_ble_eq_true rfl) dX6_setting_1 (fun r W1 hp => ?_)
  obtain ⟨rfl, rfl⟩ := hp
  refine zk_ws (ws2 := CO b (a 0) (ah 0) ai (ax 0) (as 0) rs ++ (YW g.2.1 a st ds le wg te (u 4) (u 5) (u 6) (u 8) (u 9) (u 10) (u 11) (u 7) (u 12) g1 g2 g3 ++ (HIW g.2.1 g.2.2 ah f nx ct ++ (AQ g.2.2 ai 2 fi ++ (TXW g.2.1 ax tx rd ln fn fk fp ++ (SEW g.2.1 as (ab 0) (ay 0) (ar 0) wa wi wo hb ++ (YW g.2.1 ay st0 ds0 le0 wg0 te0 K0 C0 ck0 mv0 mm0 tg0 gn0 wc0 tn0 g10 g20 g30 ++ (RWW g.2.1 ar wf wt wn rmv rmi ++ (RWW g.2.1 ab bf bt bn bmv bmi ++ (HSW g.2.1 hs 8 ++ (HSW g.2.1 is 2))))))))))) rfl ?_
  by_cases hi : nI 0 ≤ v ∧ v ≤ nI 3
  · refine zk_top (y := nI 1) (if_pos hi) ?_
    obtain ⟨t, t0, t1, rfl⟩ := rngN (by omega) hi
    refine zk_if_eqN hc 19 dX6_setting_4 (by decide) (by omega) (fun h_1 => ?_) (fun h_1 => ?_)
    · exact absurd h_1 (by decide)
    · refine zk_aload_n hc dX6_setting_7 0 rfl ?_
      refine zk_get hc inlX6 (ci := 6) rfl 0 0 (by decide) mw_1_15 rfl rfl rfl dX6_setting_8 ?_
      refine zk_get hc inlX5 (ci := 5) rfl 1 9 (by decide) mw_7_22 rfl rfl rfl dX6_setting_11 ?_
      refine zk_iload_n hc dX6_setting_14 1 rfl ?_
      refine zk_ialdN hc 2 rfl (by omega) (by decide) dX6_setting_15 ?_
      refine zk_top (y := nI (u t)) (yst hY (by omega)) ?_
      refine zk_goto hc 20 dX6_setting_16 (by decide) ?_
      refine fin 0 0 _ _ _ _ (by decide) (by decide) dX6_setting_20 (?_)
      exact ⟨by unfold aSti; rw [if_pos hi, tOf_nI (by omega)], ⟨_, _, _, _, _, _, _, _, _, _, _, _, _, _, _, _, _, _, _, _, _, _, _, _, _, _, _, _, _, _, _, _, _, _, _, _, _, _, _, _, _, _, _, _, _, _, _, _, _, _, _, _, _, _, _, _, _, _, _, _, _, _, _, _, _, _, _, _, _, rfl, hR, hH, hI, hln, hl60, htx, hfk, hfp, hrs⟩⟩
  · refine zk_top (y := nI 0) (if_neg hi) ?_
    refine zk_if_eqN hc 19 dX6_setting_4 (by decide) (by omega) (fun h_2 => ?_) (fun h_2 => ?_)
    · refine zk_iconst hc ((-1)) dX6_setting_19 rfl ?_
      refine fin 0 0 _ _ _ _ (by decide) (by decide) dX6_setting_20 (?_)
      exact ⟨by unfold aSti; rw [if_neg hi], ⟨_, _, _, _, _, _, _, _, _, _, _, _, _, _, _, _, _, _, _, _, _, _, _, _, _, _, _, _, _, _, _, _, _, _, _, _, _, _, _, _, _, _, _, _, _, _, _, _, _, _, _, _, _, _, _, _, _, _, _, _, _, _, _, _, _, _, _, _, _, rfl, hR, hH, hI, hln, hl60, htx, hfk, hfp, hrs⟩⟩
    · exact absurd h_2 (by decide)
