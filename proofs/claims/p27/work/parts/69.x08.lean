set_option maxHeartbeats 4000000 in
set_option maxRecDepth 100000 in
theorem cx_X6_arrive (g : GG) (l : Launch) (b : Nat) (a u st ds le wg : Nat → Nat) (te : Nat → Int32) (g1 g2 g3 : Nat) (ah : Nat → Nat) (f : Nat → Option Nat) (nx ct : Nat) (hs : Nat → Option YT) (ax tx rd : Nat → Nat) (ln fn : Nat) (fk fp rs : Int32) (xi xs : Nat) (RI RS : va_W) (pa : Nat → Nat) (pm : Nat) (im : Nat → Nat) (fl cN : Nat) (hcN : cN ≤ 512) (hW : Wf cN u) (hR : YRel (a, st, ds, le, wg, te, u 4, u 5, u 6, u 8, u 9, u 10, u 11, u 7, u 12, g1, g2, g3) u) (hH : HR hs f nx ct pa pm) (hT : TR tx ln) (hI : IP g xi im fl RI) (hS : SP g xs RS)  (v : Int32) : CtI g l yX6_arrive cX6_arrive 2 (some .int) (rmK 6 7 72) (CO b (a 0) (ah 0) xi (ax 0) xs rs ++ (TXW g.2.1 ax tx rd ln fn fk fp ++ (HIW g.2.1 g.2.2 ah f nx ct ++ (YW g.2.1 a st ds le wg te (u 4) (u 5) (u 6) (u 8) (u 9) (u 10) (u 11) (u 7) (u 12) g1 g2 g3 ++ (HSW g.2.1 hs 8 ++ (RI ++ (RS))))))) [.ref b, .int v] (fun r W1 => r = aArr u tx ln v ∧ CSt g b (nArr (u, pa, pm, im, fl, tx, ln, fk, fp, rs) v) W1) := by
  refine CtI.go RX6 rfl (by decide +kernel) (Nat.le_of_ble_eq_true rfl) ?_
  intro p e s m args below meth c A H0 Q hc hnm fin
  have hG := wf_GU hW
  have hN := wf_GN hcN hW
  have hY := hR.1
  have hte := hR.2.2.2.2.2.2.2.2.2.2
  obtain ⟨hK4, hC8, hv2, hg3, hm, hdk, h13, h12⟩ := id hG
  have hK2 := hW.1.1
  have hK1 : 1 ≤ u 4 := by omega
  have h7 := hW.2.2.2.2.2.2.2.2.2.2.2 7 (by omega)
  show KW g p l e (rmK 6 7 72) s m args below meth c 2 A H0 0 0 Q (CO b (a 0) (ah 0) xi (ax 0) xs rs ++ (TXW g.2.1 ax tx rd ln fn fk fp ++ (HIW g.2.1 g.2.2 ah f nx ct ++ (YW g.2.1 a st ds le wg te (u 4) (u 5) (u 6) (u 8) (u 9) (u 10) (u 11) (u 7) (u 12) g1 g2 g3 ++ (HSW g.2.1 hs 8 ++ (RI ++ (RS))))))) [(0, .ref b), (1, .int v)] 0 []
  refine zk_aload_n hc dX6_arrive_0 0 rfl ?_
  refine zk_get hc inlX6 (ci := 6) rfl 0 0 (by decide) mw_1_12 rfl rfl rfl dX6_arrive_1 ?_
  refine zk_iload_n hc dX6_arrive_4 1 rfl ?_
  refine zk_callVi hc (rest := []) (ct_X5_hasTrack g l a u st ds le wg te (u 6) (u 8) (u 9) (u 10) (u 11) (u 7) g1 g2 g3 v (by omega)) gg_X6_76 cd_X5_hasTrack ⟨Nat.le_of_ble_eq_true rfl, Nat.le_of_ble_eq_true rfl⟩ ⟨Nat.le_of_ble_eq_true rfl, Nat.le_of_ble_eq_true rfl⟩ (CO b (a 0) (ah 0) xi (ax 0) xs rs ++ (TXW g.2.1 ax tx rd ln fn fk fp ++ (HIW g.2.1 g.2.2 ah f nx ct))) (HSW g.2.1 hs 8 ++ (RI ++ (RS))) (by simp only [List.append_assoc, List.nil_append]) 6 rfl rfl rfl (Nat.le_of_ble_eq_true rfl) dX6_arrive_5 (fun r W1 hp => ?_)
  obtain ⟨rfl, rfl⟩ := hp
  refine zk_ws (ws2 := CO b (a 0) (ah 0) xi (ax 0) xs rs ++ (TXW g.2.1 ax tx rd ln fn fk fp ++ (HIW g.2.1 g.2.2 ah f nx ct ++ (YW g.2.1 a st ds le wg te (u 4) (u 5) (u 6) (u 8) (u 9) (u 10) (u 11) (u 7) (u 12) g1 g2 g3 ++ (HSW g.2.1 hs 8 ++ (RI ++ (RS))))))) (by simp only [List.append_assoc, List.nil_append]) ?_
  by_cases hi : nI 0 ≤ v ∧ v ≤ nI (u 4 - 1)
  · refine zk_top (y := nI 1) (if_pos hi) ?_
    obtain ⟨t, t0, t1, rfl⟩ := rngN (by omega) hi
    refine zk_if_neN hc 13 dX6_arrive_8 (by decide) (by omega) (fun h_1 => ?_) (fun h_1 => ?_)
    · refine zk_aload_n hc dX6_arrive_13 0 rfl ?_
      refine zk_get hc inlX6 (ci := 6) rfl 0 3 (by decide) mw_1_21 rfl rfl rfl dX6_arrive_14 ?_
      refine zk_callVi hc (rest := []) (ct_X4_readWagons g l ax tx rd ln fn fk fp hT.1 hT.2) gg_X6_79 cd_X4_readWagons ⟨Nat.le_of_ble_eq_true rfl, Nat.le_of_ble_eq_true rfl⟩ ⟨Nat.le_of_ble_eq_true rfl, Nat.le_of_ble_eq_true rfl⟩ (CO b (a 0) (ah 0) xi (ax 0) xs rs) (HIW g.2.1 g.2.2 ah f nx ct ++ (YW g.2.1 a st ds le wg te (u 4) (u 5) (u 6) (u 8) (u 9) (u 10) (u 11) (u 7) (u 12) g1 g2 g3 ++ (HSW g.2.1 hs 8 ++ (RI ++ (RS))))) (by simp only [List.append_assoc, List.nil_append]) 1 rfl rfl rfl (Nat.le_of_ble_eq_true rfl) dX6_arrive_17 (fun r W1 hp => ?_)
      obtain ⟨n2, rd2, v2, w2, rfl, hn2, hrd, hr2, hv2, hw2⟩ := hp
      subst hn2
      subst hv2
      subst hw2
      subst hr2
      refine zk_ws (ws2 := CO b (a 0) (ah 0) xi (ax 0) xs rs ++ (TXW g.2.1 ax tx rd2 ln (rdN tx ln) (if rdE tx ln = 0 then fk else nI (rdE tx ln)) (if rdE tx ln = 0 then fp else nI (rdP tx ln)) ++ (HIW g.2.1 g.2.2 ah f nx ct ++ (YW g.2.1 a st ds le wg te (u 4) (u 5) (u 6) (u 8) (u 9) (u 10) (u 11) (u 7) (u 12) g1 g2 g3 ++ (HSW g.2.1 hs 8 ++ (RI ++ (RS))))))) (by simp only [List.append_assoc, List.nil_append]) ?_
      by_cases hE : rdE tx ln = 0
      · refine zk_top (y := nI 1) (if_pos hE) ?_
        refine zk_ws (ws2 := CO b (a 0) (ah 0) xi (ax 0) xs rs ++ (TXW g.2.1 ax tx rd2 ln (rdN tx ln) fk fp ++ (HIW g.2.1 g.2.2 ah f nx ct ++ (YW g.2.1 a st ds le wg te (u 4) (u 5) (u 6) (u 8) (u 9) (u 10) (u 11) (u 7) (u 12) g1 g2 g3 ++ (HSW g.2.1 hs 8 ++ (RI ++ (RS))))))) (by rw [if_pos hE, if_pos hE]) ?_
        have hBK := rd_BK tx ln
        have hn8 := rd_n8 tx ln
        have hmt := hm t (by omega)
        refine zk_if_eqN hc 38 dX6_arrive_20 (by decide) (by omega) (fun h_2 => ?_) (fun h_2 => ?_)
        · exact absurd h_2 (by decide)
        · refine zk_aload_n hc dX6_arrive_23 0 rfl ?_
          refine zk_get hc inlX6 (ci := 6) rfl 0 0 (by decide) mw_1_12 rfl rfl rfl dX6_arrive_24 ?_
          refine zk_iload_n hc dX6_arrive_27 1 rfl ?_
          refine zk_aload_n hc dX6_arrive_28 0 rfl ?_
          refine zk_get hc inlX6 (ci := 6) rfl 0 3 (by decide) mw_1_21 rfl rfl rfl dX6_arrive_29 ?_
          refine zk_perm (ws2 := CO b (a 0) (ah 0) xi (ax 0) xs rs ++ (HIW g.2.1 g.2.2 ah f nx ct ++ (YW g.2.1 a st ds le wg te (u 4) (u 5) (u 6) (u 8) (u 9) (u 10) (u 11) (u 7) (u 12) g1 g2 g3 ++ (TXW g.2.1 ax tx rd2 ln (rdN tx ln) fk fp ++ (HSW g.2.1 hs 8 ++ (RI ++ (RS))))))) (List.Perm.trans (List.Perm.append_left _ (List.Perm.append_left _ (pm_sw _ _ _))) (List.Perm.append_left _ (pm_sw _ _ _))) ?_
          refine zk_callVi hc (rest := []) (ct_X5_isSafeWith g l a u st ds le wg te (u 6) (u 8) (u 9) (u 10) (u 11) (u 7) g1 g2 g3 ax tx rd2 (rdB tx ln) (rdK tx ln) ln (rdN tx ln) fk fp hY hG hN hrd hBK hn8 t (by omega)) gg_X6_83 cd_X5_isSafeWith ⟨Nat.le_of_ble_eq_true rfl, Nat.le_of_ble_eq_true rfl⟩ ⟨Nat.le_of_ble_eq_true rfl, Nat.le_of_ble_eq_true rfl⟩ (CO b (a 0) (ah 0) xi (ax 0) xs rs ++ (HIW g.2.1 g.2.2 ah f nx ct)) (HSW g.2.1 hs 8 ++ (RI ++ (RS))) (by simp only [List.append_assoc, List.nil_append]) 3 rfl rfl rfl (Nat.le_of_ble_eq_true rfl) dX6_arrive_32 (fun r W1 hp => ?_)
          obtain ⟨rfl, g4z_3, g5z_3, g6z_3, rfl⟩ := hp
          refine zk_ws (ws2 := CO b (a 0) (ah 0) xi (ax 0) xs rs ++ (HIW g.2.1 g.2.2 ah f nx ct ++ (YW g.2.1 a st ds le wg te (u 4) (u 5) (u 6) (u 8) (u 9) (u 10) (u 11) (u 7) (u 12) g4z_3 g5z_3 g6z_3 ++ (TXW g.2.1 ax tx rd2 ln (rdN tx ln) fk fp ++ (HSW g.2.1 hs 8 ++ (RI ++ (RS))))))) (by simp only [List.append_assoc, List.nil_append]) ?_
          by_cases hsf : u 0 ≤ gap (kds u t (mny u t) ++ rowL (rdK tx ln) (rdN tx ln))
          · refine zk_top (y := nI 1) (if_pos hsf) ?_
            refine zk_if_neN hc 41 dX6_arrive_35 (by decide) (by omega) (fun h_4 => ?_) (fun h_4 => ?_)
            · refine zk_aload_n hc dX6_arrive_41 0 rfl ?_
              refine zk_get hc inlX6 (ci := 6) rfl 0 0 (by decide) mw_1_12 rfl rfl rfl dX6_arrive_42 ?_
              refine zk_get hc inlX5 (ci := 5) rfl 3 11 (by decide) mw_11_12 rfl rfl rfl dX6_arrive_45 ?_
              refine zk_iload_n hc dX6_arrive_48 1 rfl ?_
              refine zk_ialdN hc 6 rfl (by omega) (by decide) dX6_arrive_49 ?_
              refine zk_top (y := nI (mny u t)) (yle hY (by omega)) ?_
              refine zk_aload_n hc dX6_arrive_50 0 rfl ?_
              refine zk_get hc inlX6 (ci := 6) rfl 0 3 (by decide) mw_1_21 rfl rfl rfl dX6_arrive_51 ?_
              refine zk_get hc inlX4 (ci := 4) rfl 10 3 (by decide) mw_11_13 rfl rfl rfl dX6_arrive_54 ?_
              refine zk_iaddN hc dX6_arrive_57 ?_
              refine zk_aload_n hc dX6_arrive_58 0 rfl ?_
              refine zk_get hc inlX6 (ci := 6) rfl 0 0 (by decide) mw_1_12 rfl rfl rfl dX6_arrive_59 ?_
              refine zk_get hc inlX5 (ci := 5) rfl 3 1 (by decide) mw_4_21 rfl rfl rfl dX6_arrive_62 ?_
              refine zk_icmp_leN hc 71 dX6_arrive_65 (by decide) (by omega) (by omega) (fun hf => ?_) (fun hf => ?_)
              · refine zk_aload_n hc dX6_arrive_71 0 rfl ?_
                refine zk_get hc inlX6 (ci := 6) rfl 0 1 (by decide) mw_1_16 rfl rfl rfl dX6_arrive_72 ?_
                refine zk_aload_n hc dX6_arrive_75 0 rfl ?_
                refine zk_get hc inlX6 (ci := 6) rfl 0 0 (by decide) mw_1_12 rfl rfl rfl dX6_arrive_76 ?_
                refine zk_perm (ws2 := CO b (a 0) (ah 0) xi (ax 0) xs rs ++ (TXW g.2.1 ax tx rd2 ln (rdN tx ln) fk fp ++ (HIW g.2.1 g.2.2 ah f nx ct ++ (YW g.2.1 a st ds le wg te (u 4) (u 5) (u 6) (u 8) (u 9) (u 10) (u 11) (u 7) (u 12) g4z_3 g5z_3 g6z_3 ++ (HSW g.2.1 hs 8 ++ (RI ++ (RS))))))) (List.Perm.trans (List.Perm.append_left _ (pm_sw _ _ _)) (List.Perm.append_left _ (List.Perm.append_left _ (pm_sw _ _ _)))) ?_
                refine zk_callVv hc (rest := []) (ct_X1_add g l ah a f hs nx ct u st ds le wg te (u 6) (u 8) (u 9) (u 10) (u 11) (u 7) g4z_3 g5z_3 g6z_3 pa pm hH hG (YRel_g hR)) gg_X6_53 cd_X1_add ⟨Nat.le_of_ble_eq_true rfl, Nat.le_of_ble_eq_true rfl⟩ ⟨Nat.le_of_ble_eq_true rfl, Nat.le_of_ble_eq_true rfl⟩ (CO b (a 0) (ah 0) xi (ax 0) xs rs ++ (TXW g.2.1 ax tx rd2 ln (rdN tx ln) fk fp)) (RI ++ (RS)) (by simp only [List.append_assoc, List.nil_append]) 4 rfl rfl rfl (Nat.le_of_ble_eq_true rfl) dX6_arrive_79 (fun W1 hp => ?_)
                obtain ⟨f2, hs2, rfl, hf2, hs2o, y2, hs2n, hy2⟩ := hp
                have hH2 := HR_add hH hf2 hs2o hs2n hG hy2
                refine zk_ws (ws2 := CO b (a 0) (ah 0) xi (ax 0) xs rs ++ (TXW g.2.1 ax tx rd2 ln (rdN tx ln) fk fp ++ (HIW g.2.1 g.2.2 ah f2 ((nx + 1) % 8) (Nat.min (ct + 1) 8) ++ (YW g.2.1 a st ds le wg te (u 4) (u 5) (u 6) (u 8) (u 9) (u 10) (u 11) (u 7) (u 12) g4z_3 g5z_3 g6z_3 ++ (HSW g.2.1 hs2 8 ++ (RI ++ (RS))))))) (by simp only [List.append_assoc, List.nil_append]) ?_
                refine zk_aload_n hc dX6_arrive_82 0 rfl ?_
                refine zk_get hc inlX6 (ci := 6) rfl 0 0 (by decide) mw_1_12 rfl rfl rfl dX6_arrive_83 ?_
                refine zk_iload_n hc dX6_arrive_86 1 rfl ?_
                refine zk_aload_n hc dX6_arrive_87 0 rfl ?_
                refine zk_get hc inlX6 (ci := 6) rfl 0 3 (by decide) mw_1_21 rfl rfl rfl dX6_arrive_88 ?_
                refine zk_perm (ws2 := CO b (a 0) (ah 0) xi (ax 0) xs rs ++ (HIW g.2.1 g.2.2 ah f2 ((nx + 1) % 8) (Nat.min (ct + 1) 8) ++ (YW g.2.1 a st ds le wg te (u 4) (u 5) (u 6) (u 8) (u 9) (u 10) (u 11) (u 7) (u 12) g4z_3 g5z_3 g6z_3 ++ (TXW g.2.1 ax tx rd2 ln (rdN tx ln) fk fp ++ (HSW g.2.1 hs2 8 ++ (RI ++ (RS))))))) (List.Perm.trans (List.Perm.append_left _ (List.Perm.append_left _ (pm_sw _ _ _))) (List.Perm.append_left _ (pm_sw _ _ _))) ?_
                refine zk_callVv hc (rest := []) (ct_X5_takeIn g l a u st ds le wg te (u 6) (u 8) (u 9) (u 10) (u 11) (u 7) g4z_3 g5z_3 g6z_3 ax tx rd2 (rdB tx ln) (rdK tx ln) ln (rdN tx ln) fk fp hY hG hN hrd hBK t (by omega) (by omega) rfl (by omega)) gg_X6_96 cd_X5_takeIn ⟨Nat.le_of_ble_eq_true rfl, Nat.le_of_ble_eq_true rfl⟩ ⟨Nat.le_of_ble_eq_true rfl, Nat.le_of_ble_eq_true rfl⟩ (CO b (a 0) (ah 0) xi (ax 0) xs rs ++ (HIW g.2.1 g.2.2 ah f2 ((nx + 1) % 8) (Nat.min (ct + 1) 8))) (HSW g.2.1 hs2 8 ++ (RI ++ (RS))) (by simp only [List.append_assoc, List.nil_append]) 3 rfl rfl rfl (Nat.le_of_ble_eq_true rfl) dX6_arrive_91 (fun W1 hp => ?_)
                obtain ⟨le2, wg2, te2, rfl, hY2, hte2, hle2⟩ := hp
                refine zk_ws (ws2 := CO b (a 0) (ah 0) xi (ax 0) xs rs ++ (HIW g.2.1 g.2.2 ah f2 ((nx + 1) % 8) (Nat.min (ct + 1) 8) ++ (YW g.2.1 a st ds le2 wg2 te2 (u 4) (u 5) (u 6) (u 8) (u 9) (u 10) (u 11) (u 7 + rdN tx ln) (u 12) g4z_3 g5z_3 g6z_3 ++ (TXW g.2.1 ax tx rd2 ln (rdN tx ln) fk fp ++ (HSW g.2.1 hs2 8 ++ (RI ++ (RS))))))) (by simp only [List.append_assoc, List.nil_append]) ?_
                refine zk_aload_n hc dX6_arrive_94 0 rfl ?_
                refine zk_get hc inlX6 (ci := 6) rfl 0 0 (by decide) mw_1_12 rfl rfl rfl dX6_arrive_95 ?_
                refine zk_get hc inlX5 (ci := 5) rfl 3 11 (by decide) mw_11_12 rfl rfl rfl dX6_arrive_98 ?_
                refine zk_iload_n hc dX6_arrive_101 1 rfl ?_
                refine zk_ialdN hc 6 rfl (by omega) (by decide) dX6_arrive_102 ?_
                refine zk_top (y := nI (mny u t + rdN tx ln)) (congrArg nI hle2) ?_
                refine zk_perm (ws2 := CO b (a 0) (ah 0) xi (ax 0) xs rs ++ (TXW g.2.1 ax tx rd2 ln (rdN tx ln) fk fp ++ (HIW g.2.1 g.2.2 ah f2 ((nx + 1) % 8) (Nat.min (ct + 1) 8) ++ (YW g.2.1 a st ds le2 wg2 te2 (u 4) (u 5) (u 6) (u 8) (u 9) (u 10) (u 11) (u 7 + rdN tx ln) (u 12) g4z_3 g5z_3 g6z_3 ++ (HSW g.2.1 hs2 8 ++ (RI ++ (RS))))))) (List.Perm.trans (List.Perm.append_left _ (pm_sw _ _ _)) (List.Perm.append_left _ (List.Perm.append_left _ (pm_sw _ _ _)))) ?_
                refine fin 7 72 _ _ _ _ (by decide) (by decide) dX6_arrive_103 (?_)
                exact ⟨by unfold aArr; rw [if_pos hi, tOf_nI (by omega), if_neg (not_not_intro hE), if_neg (not_not_intro (show u 0 ≤ gap (kds u t (mny u t) ++ rdL tx ln) from hsf)), if_neg (by omega)], by unfold nArr; rw [if_pos hi, tOf_nI (by omega)]; dsimp only; rw [if_neg (not_not_intro hE), if_neg (not_not_intro (show u 0 ≤ gap (kds u t (mny u t) ++ rdL tx ln) from hsf)), if_neg (by omega)]; exact CSt_mk g b (arrS u t (rdB tx ln) (rdK tx ln) (rdN tx ln)) (remP u pa pm) (remN pm) im fl tx ln fk fp rs a st ds le2 wg2 te2 (u 4) (u 5) (u 6) (u 8) (u 9) (u 10) (u 11) (u 7 + rdN tx ln) (u 12) g4z_3 g5z_3 g6z_3 ah f2 ((nx + 1) % 8) (Nat.min (ct + 1) 8) hs2 ax rd2 (rdN tx ln) xi xs RI RS (YRel_g (YRel_arr (by omega) hK4 (by omega) hR hY2 hte2)) hH2 hT hI hS⟩
              · refine zk_perm (ws2 := CO b (a 0) (ah 0) xi (ax 0) xs rs ++ (TXW g.2.1 ax tx rd2 ln (rdN tx ln) fk fp ++ (HIW g.2.1 g.2.2 ah f nx ct ++ (YW g.2.1 a st ds le wg te (u 4) (u 5) (u 6) (u 8) (u 9) (u 10) (u 11) (u 7) (u 12) g4z_3 g5z_3 g6z_3 ++ (HSW g.2.1 hs 8 ++ (RI ++ (RS))))))) (List.Perm.trans (List.Perm.append_left _ (pm_sw _ _ _)) (List.Perm.append_left _ (List.Perm.append_left _ (pm_sw _ _ _)))) ?_
                refine zk_bipush hc ((-3)) dX6_arrive_68 rfl ?_
                refine fin 0 0 _ _ _ _ (by decide) (by decide) dX6_arrive_70 (?_)
                exact ⟨by unfold aArr; rw [if_pos hi, tOf_nI (by omega), if_neg (not_not_intro hE), if_neg (not_not_intro (show u 0 ≤ gap (kds u t (mny u t) ++ rdL tx ln) from hsf)), if_pos (by omega)], by unfold nArr; rw [if_pos hi, tOf_nI (by omega)]; dsimp only; rw [if_neg (not_not_intro hE), if_neg (not_not_intro (show u 0 ≤ gap (kds u t (mny u t) ++ rdL tx ln) from hsf)), if_pos (by omega)]; exact CSt_mk g b u pa pm im fl tx ln fk fp rs a st ds le wg te (u 4) (u 5) (u 6) (u 8) (u 9) (u 10) (u 11) (u 7) (u 12) g4z_3 g5z_3 g6z_3 ah f nx ct hs ax rd2 (rdN tx ln) xi xs RI RS (YRel_g hR) hH hT hI hS⟩
            · exact absurd h_4 (by decide)
          · refine zk_top (y := nI 0) (if_neg hsf) ?_
            refine zk_if_neN hc 41 dX6_arrive_35 (by decide) (by omega) (fun h_5 => ?_) (fun h_5 => ?_)
            · exact absurd h_5 (by decide)
            · refine zk_perm (ws2 := CO b (a 0) (ah 0) xi (ax 0) xs rs ++ (TXW g.2.1 ax tx rd2 ln (rdN tx ln) fk fp ++ (HIW g.2.1 g.2.2 ah f nx ct ++ (YW g.2.1 a st ds le wg te (u 4) (u 5) (u 6) (u 8) (u 9) (u 10) (u 11) (u 7) (u 12) g4z_3 g5z_3 g6z_3 ++ (HSW g.2.1 hs 8 ++ (RI ++ (RS))))))) (List.Perm.trans (List.Perm.append_left _ (pm_sw _ _ _)) (List.Perm.append_left _ (List.Perm.append_left _ (pm_sw _ _ _)))) ?_
              refine zk_bipush hc ((-2)) dX6_arrive_38 rfl ?_
              refine fin 0 0 _ _ _ _ (by decide) (by decide) dX6_arrive_40 (?_)
              exact ⟨by unfold aArr; rw [if_pos hi, tOf_nI (by omega), if_neg (not_not_intro hE), if_pos (show ¬ u 0 ≤ gap (kds u t (mny u t) ++ rdL tx ln) from hsf)], by unfold nArr; rw [if_pos hi, tOf_nI (by omega)]; dsimp only; rw [if_neg (not_not_intro hE), if_pos (show ¬ u 0 ≤ gap (kds u t (mny u t) ++ rdL tx ln) from hsf)]; exact CSt_mk g b u pa pm im fl tx ln fk fp rs a st ds le wg te (u 4) (u 5) (u 6) (u 8) (u 9) (u 10) (u 11) (u 7) (u 12) g4z_3 g5z_3 g6z_3 ah f nx ct hs ax rd2 (rdN tx ln) xi xs RI RS (YRel_g hR) hH hT hI hS⟩
      · refine zk_top (y := nI 0) (if_neg hE) ?_
        refine zk_ws (ws2 := CO b (a 0) (ah 0) xi (ax 0) xs rs ++ (TXW g.2.1 ax tx rd2 ln (rdN tx ln) (nI (rdE tx ln)) (nI (rdP tx ln)) ++ (HIW g.2.1 g.2.2 ah f nx ct ++ (YW g.2.1 a st ds le wg te (u 4) (u 5) (u 6) (u 8) (u 9) (u 10) (u 11) (u 7) (u 12) g1 g2 g3 ++ (HSW g.2.1 hs 8 ++ (RI ++ (RS))))))) (by rw [if_neg hE, if_neg hE]) ?_
        refine zk_if_eqN hc 38 dX6_arrive_20 (by decide) (by omega) (fun h_6 => ?_) (fun h_6 => ?_)
        · refine zk_bipush hc ((-2)) dX6_arrive_38 rfl ?_
          refine fin 0 0 _ _ _ _ (by decide) (by decide) dX6_arrive_40 (?_)
          exact ⟨by unfold aArr; rw [if_pos hi, tOf_nI (by omega), if_pos hE], by unfold nArr; rw [if_pos hi, tOf_nI (by omega)]; dsimp only; rw [if_pos hE]; exact CSt_mk g b u pa pm im fl tx ln (nI (rdE tx ln)) (nI (rdP tx ln)) rs a st ds le wg te (u 4) (u 5) (u 6) (u 8) (u 9) (u 10) (u 11) (u 7) (u 12) g1 g2 g3 ah f nx ct hs ax rd2 (rdN tx ln) xi xs RI RS (YRel_g hR) hH hT hI hS⟩
        · exact absurd h_6 (by decide)
    · exact absurd h_1 (by decide)
  · refine zk_top (y := nI 0) (if_neg hi) ?_
    refine zk_if_neN hc 13 dX6_arrive_8 (by decide) (by omega) (fun h_7 => ?_) (fun h_7 => ?_)
    · exact absurd h_7 (by decide)
    · refine zk_iconst hc ((-1)) dX6_arrive_11 rfl ?_
      refine fin 0 0 _ _ _ _ (by decide) (by decide) dX6_arrive_12 (?_)
      exact ⟨by unfold aArr; rw [if_neg hi], by unfold nArr; rw [if_neg hi]; exact CSt_mk g b u pa pm im fl tx ln fk fp rs a st ds le wg te (u 4) (u 5) (u 6) (u 8) (u 9) (u 10) (u 11) (u 7) (u 12) g1 g2 g3 ah f nx ct hs ax rd fn xi xs RI RS (YRel_g hR) hH hT hI hS⟩
