set_option maxHeartbeats 4000000 in
set_option maxRecDepth 100000 in
theorem cx_X6_list (g : GG) (l : Launch) (b : Nat) (a u st ds le wg : Nat → Nat) (te : Nat → Int32) (g1 g2 g3 : Nat) (ah : Nat → Nat) (f : Nat → Option Nat) (nx ct : Nat) (hs : Nat → Option YT) (ax tx rd : Nat → Nat) (ln fn : Nat) (fk fp rs : Int32) (xi xs : Nat) (RI RS : va_W) (pa : Nat → Nat) (pm : Nat) (im : Nat → Nat) (fl cN : Nat) (hcN : cN ≤ 512) (hW : Wf cN u) (hR : YRel (a, st, ds, le, wg, te, u 4, u 5, u 6, u 8, u 9, u 10, u 11, u 7, u 12, g1, g2, g3) u) (hH : HR hs f nx ct pa pm) (hT : TR tx ln) (hI : IP g xi im fl RI) (hS : SP g xs RS)  : CtI g l yX6_list cX6_list 1 (some .int) (rmK 5 7 72) (CO b (a 0) (ah 0) xi (ax 0) xs rs ++ (TXW g.2.1 ax tx rd ln fn fk fp ++ (HIW g.2.1 g.2.2 ah f nx ct ++ (YW g.2.1 a st ds le wg te (u 4) (u 5) (u 6) (u 8) (u 9) (u 10) (u 11) (u 7) (u 12) g1 g2 g3 ++ (HSW g.2.1 hs 8 ++ (RI ++ (RS))))))) [.ref b] (fun r W1 => r = aLis tx ln ∧ CSt g b (nLis (u, pa, pm, im, fl, tx, ln, fk, fp, rs)) W1) := by
  refine CtI.go RX6 rfl (by decide +kernel) (Nat.le_of_ble_eq_true rfl) ?_
  intro p e s m args below meth c A H0 Q hc hnm fin
  have hG := wf_GU hW
  have hN := wf_GN hcN hW
  have hY := hR.1
  have hte := hR.2.2.2.2.2.2.2.2.2.2
  obtain ⟨hK4, hC8, hv2, hg3, hm, hdk, h13, h12⟩ := id hG
  have hK2 := hW.1.1
  have hK1 : 1 ≤ u 4 := by omega
  show KW g p l e (rmK 5 7 72) s m args below meth c 1 A H0 0 0 Q (CO b (a 0) (ah 0) xi (ax 0) xs rs ++ (TXW g.2.1 ax tx rd ln fn fk fp ++ (HIW g.2.1 g.2.2 ah f nx ct ++ (YW g.2.1 a st ds le wg te (u 4) (u 5) (u 6) (u 8) (u 9) (u 10) (u 11) (u 7) (u 12) g1 g2 g3 ++ (HSW g.2.1 hs 8 ++ (RI ++ (RS))))))) [(0, .ref b)] 0 []
  refine zk_aload_n hc dX6_list_0 0 rfl ?_
  refine zk_get hc inlX6 (ci := 6) rfl 0 3 (by decide) mw_1_21 rfl rfl rfl dX6_list_1 ?_
  refine zk_callVi hc (rest := []) (ct_X4_readTrains g l ax tx rd ln fn fk fp hT.1 hT.2) gg_X6_100 cd_X4_readTrains ⟨Nat.le_of_ble_eq_true rfl, Nat.le_of_ble_eq_true rfl⟩ ⟨Nat.le_of_ble_eq_true rfl, Nat.le_of_ble_eq_true rfl⟩ (CO b (a 0) (ah 0) xi (ax 0) xs rs) (HIW g.2.1 g.2.2 ah f nx ct ++ (YW g.2.1 a st ds le wg te (u 4) (u 5) (u 6) (u 8) (u 9) (u 10) (u 11) (u 7) (u 12) g1 g2 g3 ++ (HSW g.2.1 hs 8 ++ (RI ++ (RS))))) (by simp only [List.append_assoc, List.nil_append]) 1 rfl rfl rfl (Nat.le_of_ble_eq_true rfl) dX6_list_4 (fun r W1 hp => ?_)
  obtain ⟨n2, rd2, v2, w2, rfl, hn2, hrd, hn10, hr2, hv2, hw2⟩ := hp
  subst hn2
  subst hv2
  subst hw2
  subst hr2
  refine zk_ws (ws2 := CO b (a 0) (ah 0) xi (ax 0) xs rs ++ (TXW g.2.1 ax tx rd2 ln (rlN tx ln) (if rlE tx ln = 0 then fk else nI (rlE tx ln)) (if rlE tx ln = 0 then fp else nI (rlP tx ln)) ++ (HIW g.2.1 g.2.2 ah f nx ct ++ (YW g.2.1 a st ds le wg te (u 4) (u 5) (u 6) (u 8) (u 9) (u 10) (u 11) (u 7) (u 12) g1 g2 g3 ++ (HSW g.2.1 hs 8 ++ (RI ++ (RS))))))) (by simp only [List.append_assoc, List.nil_append]) ?_
  by_cases hE : rlE tx ln = 0
  · refine zk_top (y := nI 1) (if_pos hE) ?_
    refine zk_ws (ws2 := CO b (a 0) (ah 0) xi (ax 0) xs rs ++ (TXW g.2.1 ax tx rd2 ln (rlN tx ln) fk fp ++ (HIW g.2.1 g.2.2 ah f nx ct ++ (YW g.2.1 a st ds le wg te (u 4) (u 5) (u 6) (u 8) (u 9) (u 10) (u 11) (u 7) (u 12) g1 g2 g3 ++ (HSW g.2.1 hs 8 ++ (RI ++ (RS))))))) (by rw [if_pos hE, if_pos hE]) ?_
    refine zk_if_neN hc 13 dX6_list_7 (by decide) (by omega) (fun h_1 => ?_) (fun h_1 => ?_)
    · refine zk_aload_n hc dX6_list_13 0 rfl ?_
      refine zk_get hc inlX6 (ci := 6) rfl 0 1 (by decide) mw_1_16 rfl rfl rfl dX6_list_14 ?_
      refine zk_aload_n hc dX6_list_17 0 rfl ?_
      refine zk_get hc inlX6 (ci := 6) rfl 0 0 (by decide) mw_1_12 rfl rfl rfl dX6_list_18 ?_
      refine zk_callVv hc (rest := []) (ct_X1_add g l ah a f hs nx ct u st ds le wg te (u 6) (u 8) (u 9) (u 10) (u 11) (u 7) g1 g2 g3 pa pm hH hG (YRel_g hR)) gg_X6_53 cd_X1_add ⟨Nat.le_of_ble_eq_true rfl, Nat.le_of_ble_eq_true rfl⟩ ⟨Nat.le_of_ble_eq_true rfl, Nat.le_of_ble_eq_true rfl⟩ (CO b (a 0) (ah 0) xi (ax 0) xs rs ++ (TXW g.2.1 ax tx rd2 ln (rlN tx ln) fk fp)) (RI ++ (RS)) (by simp only [List.append_assoc, List.nil_append]) 4 rfl rfl rfl (Nat.le_of_ble_eq_true rfl) dX6_list_21 (fun W1 hp => ?_)
      obtain ⟨f2, hs2, rfl, hf2, hs2o, y2, hs2n, hy2⟩ := hp
      have hH2 := HR_add hH hf2 hs2o hs2n hG hy2
      refine zk_ws (ws2 := CO b (a 0) (ah 0) xi (ax 0) xs rs ++ (TXW g.2.1 ax tx rd2 ln (rlN tx ln) fk fp ++ (HIW g.2.1 g.2.2 ah f2 ((nx + 1) % 8) (Nat.min (ct + 1) 8) ++ (YW g.2.1 a st ds le wg te (u 4) (u 5) (u 6) (u 8) (u 9) (u 10) (u 11) (u 7) (u 12) g1 g2 g3 ++ (HSW g.2.1 hs2 8 ++ (RI ++ (RS))))))) (by simp only [List.append_assoc, List.nil_append]) ?_
      refine zk_aload_n hc dX6_list_24 0 rfl ?_
      refine zk_get hc inlX6 (ci := 6) rfl 0 0 (by decide) mw_1_12 rfl rfl rfl dX6_list_25 ?_
      refine zk_aload_n hc dX6_list_28 0 rfl ?_
      refine zk_get hc inlX6 (ci := 6) rfl 0 3 (by decide) mw_1_21 rfl rfl rfl dX6_list_29 ?_
      refine zk_perm (ws2 := CO b (a 0) (ah 0) xi (ax 0) xs rs ++ (HIW g.2.1 g.2.2 ah f2 ((nx + 1) % 8) (Nat.min (ct + 1) 8) ++ (YW g.2.1 a st ds le wg te (u 4) (u 5) (u 6) (u 8) (u 9) (u 10) (u 11) (u 7) (u 12) g1 g2 g3 ++ (TXW g.2.1 ax tx rd2 ln (rlN tx ln) fk fp ++ (HSW g.2.1 hs2 8 ++ (RI ++ (RS))))))) (List.Perm.trans (List.Perm.append_left _ (List.Perm.append_left _ (pm_sw _ _ _))) (List.Perm.append_left _ (pm_sw _ _ _))) ?_
      refine zk_callVv hc (rest := []) (ct_X5_takeTrains g l a u st ds le wg te (u 6) (u 8) (u 9) (u 10) (u 11) (u 7) g1 g2 g3 ax tx rd2 (rdB tx ln) (rdK tx ln) ln (rlN tx ln) fk fp hY hG hN (rlL tx ln) hrd hn10) gg_X6_103 cd_X5_takeTrains ⟨Nat.le_of_ble_eq_true rfl, Nat.le_of_ble_eq_true rfl⟩ ⟨Nat.le_of_ble_eq_true rfl, Nat.le_of_ble_eq_true rfl⟩ (CO b (a 0) (ah 0) xi (ax 0) xs rs ++ (HIW g.2.1 g.2.2 ah f2 ((nx + 1) % 8) (Nat.min (ct + 1) 8))) (HSW g.2.1 hs2 8 ++ (RI ++ (RS))) (by simp only [List.append_assoc, List.nil_append]) 3 rfl rfl rfl (Nat.le_of_ble_eq_true rfl) dX6_list_32 (fun W1 hp => ?_)
      obtain rfl := hp
      refine zk_ws (ws2 := CO b (a 0) (ah 0) xi (ax 0) xs rs ++ (HIW g.2.1 g.2.2 ah f2 ((nx + 1) % 8) (Nat.min (ct + 1) 8) ++ (YW g.2.1 a st (va_cpy rd2 ds 0 0 (rlN tx ln)) le wg te (u 4) (u 5) (u 6) (u 8) (u 9) (u 10) (u 11) (u 7) (rlN tx ln) g1 g2 g3 ++ (TXW g.2.1 ax tx rd2 ln (rlN tx ln) fk fp ++ (HSW g.2.1 hs2 8 ++ (RI ++ (RS))))))) (by simp only [List.append_assoc, List.nil_append]) ?_
      refine zk_aload_n hc dX6_list_35 0 rfl ?_
      refine zk_get hc inlX6 (ci := 6) rfl 0 0 (by decide) mw_1_12 rfl rfl rfl dX6_list_36 ?_
      refine zk_get hc inlX5 (ci := 5) rfl 3 8 (by decide) mw_4_23 rfl rfl rfl dX6_list_39 ?_
      refine zk_perm (ws2 := CO b (a 0) (ah 0) xi (ax 0) xs rs ++ (TXW g.2.1 ax tx rd2 ln (rlN tx ln) fk fp ++ (HIW g.2.1 g.2.2 ah f2 ((nx + 1) % 8) (Nat.min (ct + 1) 8) ++ (YW g.2.1 a st (va_cpy rd2 ds 0 0 (rlN tx ln)) le wg te (u 4) (u 5) (u 6) (u 8) (u 9) (u 10) (u 11) (u 7) (rlN tx ln) g1 g2 g3 ++ (HSW g.2.1 hs2 8 ++ (RI ++ (RS))))))) (List.Perm.trans (List.Perm.append_left _ (pm_sw _ _ _)) (List.Perm.append_left _ (List.Perm.append_left _ (pm_sw _ _ _)))) ?_
      refine fin 7 72 _ _ _ _ (by decide) (by decide) dX6_list_42 (?_)
      exact ⟨by unfold aLis; rw [if_neg (not_not_intro hE)], by unfold nLis; dsimp only; rw [if_neg (not_not_intro hE)]; exact CSt_mk g b (lisF u (rlL tx ln) (rlN tx ln) (rlN tx ln)) (remP u pa pm) (remN pm) im fl tx ln fk fp rs a st (va_cpy rd2 ds 0 0 (rlN tx ln)) le wg te (u 4) (u 5) (u 6) (u 8) (u 9) (u 10) (u 11) (u 7) (rlN tx ln) g1 g2 g3 ah f2 ((nx + 1) % 8) (Nat.min (ct + 1) 8) hs2 ax rd2 (rlN tx ln) xi xs RI RS (YRel_g (YRel_lis hn10 hrd hG hR)) hH2 hT hI hS⟩
    · exact absurd h_1 (by decide)
  · refine zk_top (y := nI 0) (if_neg hE) ?_
    refine zk_ws (ws2 := CO b (a 0) (ah 0) xi (ax 0) xs rs ++ (TXW g.2.1 ax tx rd2 ln (rlN tx ln) (nI (rlE tx ln)) (nI (rlP tx ln)) ++ (HIW g.2.1 g.2.2 ah f nx ct ++ (YW g.2.1 a st ds le wg te (u 4) (u 5) (u 6) (u 8) (u 9) (u 10) (u 11) (u 7) (u 12) g1 g2 g3 ++ (HSW g.2.1 hs 8 ++ (RI ++ (RS))))))) (by rw [if_neg hE, if_neg hE]) ?_
    refine zk_if_neN hc 13 dX6_list_7 (by decide) (by omega) (fun h_2 => ?_) (fun h_2 => ?_)
    · exact absurd h_2 (by decide)
    · refine zk_bipush hc ((-2)) dX6_list_10 rfl ?_
      refine fin 0 0 _ _ _ _ (by decide) (by decide) dX6_list_12 (?_)
      exact ⟨by unfold aLis; rw [if_pos hE], by unfold nLis; dsimp only; rw [if_pos hE]; exact CSt_mk g b u pa pm im fl tx ln (nI (rlE tx ln)) (nI (rlP tx ln)) rs a st ds le wg te (u 4) (u 5) (u 6) (u 8) (u 9) (u 10) (u 11) (u 7) (u 12) g1 g2 g3 ah f nx ct hs ax rd2 (rlN tx ln) xi xs RI RS (YRel_g hR) hH hT hI hS⟩
