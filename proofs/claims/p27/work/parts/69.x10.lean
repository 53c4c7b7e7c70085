set_option maxHeartbeats 4000000 in
set_option maxRecDepth 100000 in
theorem cx_X6_undo0 (g : GG) (l : Launch) (b : Nat) (a u st ds le wg : Nat → Nat) (te : Nat → Int32) (g1 g2 g3 : Nat) (ah : Nat → Nat) (f : Nat → Option Nat) (nx : Nat) (hs : Nat → Option YT) (ax tx rd : Nat → Nat) (ln fn : Nat) (fk fp rs : Int32) (xi xs : Nat) (RI RS : va_W) (pa : Nat → Nat) (pm : Nat) (im : Nat → Nat) (fl cN : Nat) (hcN : cN ≤ 512) (hW : Wf cN u) (hR : YRel (a, st, ds, le, wg, te, u 4, u 5, u 6, u 8, u 9, u 10, u 11, u 7, u 12, g1, g2, g3) u) (hH : HR hs f nx 0 pa pm) (hT : TR tx ln) (hI : IP g xi im fl RI) (hS : SP g xs RS) (hp0 : pm = 0) : CtI g l yX6_undo cX6_undo 1 (some .int) (rmK 5 0 0) (CO b (a 0) (ah 0) xi (ax 0) xs rs ++ (TXW g.2.1 ax tx rd ln fn fk fp ++ (HIW g.2.1 g.2.2 ah f nx 0 ++ (YW g.2.1 a st ds le wg te (u 4) (u 5) (u 6) (u 8) (u 9) (u 10) (u 11) (u 7) (u 12) g1 g2 g3 ++ (HSW g.2.1 hs 8 ++ (RI ++ (RS))))))) [.ref b] (fun r W1 => r = aUnd pm ∧ CSt g b (nUnd (u, pa, pm, im, fl, tx, ln, fk, fp, rs)) W1) := by
  refine CtI.go RX6 rfl (by decide +kernel) (Nat.le_of_ble_eq_true rfl) ?_
  intro p e s m args below meth c A H0 Q hc hnm fin
  have hG := wf_GU hW
  have hN := wf_GN hcN hW
  have hY := hR.1
  have hte := hR.2.2.2.2.2.2.2.2.2.2
  obtain ⟨hK4, hC8, hv2, hg3, hm, hdk, h13, h12⟩ := id hG
  have hK2 := hW.1.1
  have hK1 : 1 ≤ u 4 := by omega
  show KW g p l e (rmK 5 0 0) s m args below meth c 1 A H0 0 0 Q (CO b (a 0) (ah 0) xi (ax 0) xs rs ++ (TXW g.2.1 ax tx rd ln fn fk fp ++ (HIW g.2.1 g.2.2 ah f nx 0 ++ (YW g.2.1 a st ds le wg te (u 4) (u 5) (u 6) (u 8) (u 9) (u 10) (u 11) (u 7) (u 12) g1 g2 g3 ++ (HSW g.2.1 hs 8 ++ (RI ++ (RS))))))) [(0, .ref b)] 0 []
  refine zk_aload_n hc dX6_undo_0 0 rfl ?_
  refine zk_get hc inlX6 (ci := 6) rfl 0 1 (by decide) mw_1_16 rfl rfl rfl dX6_undo_1 ?_
  refine zk_aload_n hc dX6_undo_4 0 rfl ?_
  refine zk_get hc inlX6 (ci := 6) rfl 0 0 (by decide) mw_1_12 rfl rfl rfl dX6_undo_5 ?_
  refine zk_callVi hc (rest := []) (ct_X1_restore0 g l ah a f hs nx st ds le wg te (u 4) (u 5) (u 6) (u 8) (u 9) (u 10) (u 11) (u 7) (u 12) g1 g2 g3 hH.2.2.2.1 hH.1) gg_X6_151 cd_X1_restore ⟨Nat.le_of_ble_eq_true rfl, Nat.le_of_ble_eq_true rfl⟩ ⟨Nat.le_of_ble_eq_true rfl, Nat.le_of_ble_eq_true rfl⟩ (CO b (a 0) (ah 0) xi (ax 0) xs rs ++ (TXW g.2.1 ax tx rd ln fn fk fp)) (RI ++ (RS)) (by simp only [List.append_assoc, List.nil_append]) 4 rfl rfl rfl (Nat.le_of_ble_eq_true rfl) dX6_undo_8 (fun r W1 hp => ?_)
  obtain ⟨rfl, rfl⟩ := hp
  refine zk_ws (ws2 := CO b (a 0) (ah 0) xi (ax 0) xs rs ++ (TXW g.2.1 ax tx rd ln fn fk fp ++ (HIW g.2.1 g.2.2 ah f nx 0 ++ (YW g.2.1 a st ds le wg te (u 4) (u 5) (u 6) (u 8) (u 9) (u 10) (u 11) (u 7) (u 12) g1 g2 g3 ++ (HSW g.2.1 hs 8 ++ (RI ++ (RS))))))) (by simp only [List.append_assoc, List.nil_append]) ?_
  refine zk_if_eqN hc 24 dX6_undo_11 (by decide) (by omega) (fun h_1 => ?_) (fun h_1 => ?_)
  · refine zk_bipush hc ((-2)) dX6_undo_24 rfl ?_
    refine fin 0 0 _ _ _ _ (by decide) (by decide) dX6_undo_26 (?_)
    exact ⟨by unfold aUnd; rw [if_pos hp0], by unfold nUnd; rw [if_pos hp0]; exact CSt_mk g b u pa pm im fl tx ln fk fp rs a st ds le wg te (u 4) (u 5) (u 6) (u 8) (u 9) (u 10) (u 11) (u 7) (u 12) g1 g2 g3 ah f nx 0 hs ax rd fn xi xs RI RS (YRel_g hR) hH hT hI hS⟩
  · exact absurd h_1 (by decide)

set_option maxHeartbeats 4000000 in
set_option maxRecDepth 100000 in
theorem cx_X6_undo1 (g : GG) (l : Launch) (b : Nat) (a u st ds le wg : Nat → Nat) (te : Nat → Int32) (g1 g2 g3 : Nat) (ah : Nat → Nat) (f : Nat → Option Nat) (nx ct : Nat) (hs : Nat → Option YT) (ax tx rd : Nat → Nat) (ln fn : Nat) (fk fp rs : Int32) (xi xs : Nat) (RI RS : va_W) (pa : Nat → Nat) (pm : Nat) (im : Nat → Nat) (fl cN : Nat) (hcN : cN ≤ 512) (hW : Wf cN u) (hR : YRel (a, st, ds, le, wg, te, u 4, u 5, u 6, u 8, u 9, u 10, u 11, u 7, u 12, g1, g2, g3) u) (hH : HR hs f nx ct pa pm) (hT : TR tx ln) (hI : IP g xi im fl RI) (hS : SP g xs RS) (hp1 : 1 ≤ pm) : CtI g l yX6_undo cX6_undo 1 (some .int) (rmK 5 0 0) (CO b (a 0) (ah 0) xi (ax 0) xs rs ++ (TXW g.2.1 ax tx rd ln fn fk fp ++ (HIW g.2.1 g.2.2 ah f nx ct ++ (YW g.2.1 a st ds le wg te (u 4) (u 5) (u 6) (u 8) (u 9) (u 10) (u 11) (u 7) (u 12) g1 g2 g3 ++ (HSW g.2.1 hs 8 ++ (RI ++ (RS))))))) [.ref b] (fun r W1 => r = aUnd pm ∧ CSt g b (nUnd (u, pa, pm, im, fl, tx, ln, fk, fp, rs)) W1) := by
  refine CtI.go RX6 rfl (by decide +kernel) (Nat.le_of_ble_eq_true rfl) ?_
  intro p e s m args below meth c A H0 Q hc hnm fin
  have hG := wf_GU hW
  have hN := wf_GN hcN hW
  have hY := hR.1
  have hte := hR.2.2.2.2.2.2.2.2.2.2
  obtain ⟨hK4, hC8, hv2, hg3, hm, hdk, h13, h12⟩ := id hG
  have hK2 := hW.1.1
  have hK1 : 1 ≤ u 4 := by omega
  obtain ⟨hH1, hGp, ⟨a1, st1, ds1, le1, wg1, te1, K1, C1, ck1, mv1, mm1, tg1, gn1, wc1, tn1, g11, g21, g31⟩, hn1, hy1⟩ := HR_undo hH hp1
  show KW g p l e (rmK 5 0 0) s m args below meth c 1 A H0 0 0 Q (CO b (a 0) (ah 0) xi (ax 0) xs rs ++ (TXW g.2.1 ax tx rd ln fn fk fp ++ (HIW g.2.1 g.2.2 ah f nx ct ++ (YW g.2.1 a st ds le wg te (u 4) (u 5) (u 6) (u 8) (u 9) (u 10) (u 11) (u 7) (u 12) g1 g2 g3 ++ (HSW g.2.1 hs 8 ++ (RI ++ (RS))))))) [(0, .ref b)] 0 []
  refine zk_aload_n hc dX6_undo_0 0 rfl ?_
  refine zk_get hc inlX6 (ci := 6) rfl 0 1 (by decide) mw_1_16 rfl rfl rfl dX6_undo_1 ?_
  refine zk_aload_n hc dX6_undo_4 0 rfl ?_
  refine zk_get hc inlX6 (ci := 6) rfl 0 0 (by decide) mw_1_12 rfl rfl rfl dX6_undo_5 ?_
  refine zk_callVi hc (rest := []) (ct_X1_restore1 g l ah a f hs nx ct st ds le wg te (u 4) (u 5) (u 6) (u 8) (u 9) (u 10) (u 11) (u 7) (u 12) g1 g2 g3 hH.2.2.2.1 hH.1 (by have := hH.2.1; omega) (by have := hH.2.1; have := hH.2.2.1; omega) _ _ _ _ _ _ _ _ _ _ _ _ _ _ _ _ _ _ hn1 _ hGp hy1) gg_X6_151 cd_X1_restore ⟨Nat.le_of_ble_eq_true rfl, Nat.le_of_ble_eq_true rfl⟩ ⟨Nat.le_of_ble_eq_true rfl, Nat.le_of_ble_eq_true rfl⟩ (CO b (a 0) (ah 0) xi (ax 0) xs rs ++ (TXW g.2.1 ax tx rd ln fn fk fp)) (RI ++ (RS)) (by simp only [List.append_assoc, List.nil_append]) 4 rfl rfl rfl (Nat.le_of_ble_eq_true rfl) dX6_undo_8 (fun r W1 hp => ?_)
  obtain ⟨rfl, st2, ds2, le2, wg2, te2, K2, C2, ck2, mv2, mm2, tg2, gn2, wc2, tn2, rfl, hR2⟩ := hp
  refine zk_ws (ws2 := CO b (a 0) (ah 0) xi (ax 0) xs rs ++ (TXW g.2.1 ax tx rd ln fn fk fp ++ (HIW g.2.1 g.2.2 ah f ((nx + 8 - 1) % 8) (ct - 1) ++ (YW g.2.1 a st2 ds2 le2 wg2 te2 K2 C2 ck2 mv2 mm2 tg2 gn2 wc2 tn2 g1 g2 g3 ++ (HSW g.2.1 hs 8 ++ (RI ++ (RS))))))) (by simp only [List.append_assoc, List.nil_append]) ?_
  refine zk_if_eqN hc 24 dX6_undo_11 (by decide) (by omega) (fun h_1 => ?_) (fun h_1 => ?_)
  · exact absurd h_1 (by decide)
  · refine zk_aload_n hc dX6_undo_14 0 rfl ?_
    refine zk_get hc inlX6 (ci := 6) rfl 0 1 (by decide) mw_1_16 rfl rfl rfl dX6_undo_15 ?_
    refine zk_get hc inlX1 (ci := 1) rfl 4 2 (by decide) mw_5_6 rfl rfl rfl dX6_undo_18 ?_
    refine zk_goto hc 26 dX6_undo_21 (by decide) ?_
    refine fin 0 0 _ _ _ _ (by decide) (by decide) dX6_undo_26 (?_)
    exact ⟨by unfold aUnd; rw [if_neg (by omega)]; exact congrArg nI (by have := hH.2.1; omega), by unfold nUnd; rw [if_neg (show ¬ pm = 0 by omega)]; exact CSt_mk g b (va_cpy pa u (131 * (pm - 1)) 0 131) pa (pm - 1) im fl tx ln fk fp rs a st2 ds2 le2 wg2 te2 K2 C2 ck2 mv2 mm2 tg2 gn2 wc2 tn2 g1 g2 g3 ah f ((nx + 8 - 1) % 8) (ct - 1) hs ax rd fn xi xs RI RS (YRel_g (YRel_congr (fun j hj => row_und hj) hGp hR2)) hH1 hT hI hS⟩
