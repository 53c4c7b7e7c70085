set_option maxHeartbeats 4000000 in
set_option maxRecDepth 100000 in
theorem cx_X6_depart (g : GG) (l : Launch) (b : Nat) (a u st ds le wg : Nat → Nat) (te : Nat → Int32) (g1 g2 g3 : Nat) (ah : Nat → Nat) (f : Nat → Option Nat) (nx ct : Nat) (hs : Nat → Option YT) (ax tx rd : Nat → Nat) (ln fn : Nat) (fk fp rs : Int32) (xi xs : Nat) (RI RS : va_W) (pa : Nat → Nat) (pm : Nat) (im : Nat → Nat) (fl cN : Nat) (hcN : cN ≤ 512) (hW : Wf cN u) (hR : YRel (a, st, ds, le, wg, te, u 4, u 5, u 6, u 8, u 9, u 10, u 11, u 7, u 12, g1, g2, g3) u) (hH : HR hs f nx ct pa pm) (hT : TR tx ln) (hI : IP g xi im fl RI) (hS : SP g xs RS)  (v : Int32) : CtI g l yX6_depart cX6_depart 3 (some .int) (rmK 6 7 72) (CO b (a 0) (ah 0) xi (ax 0) xs rs ++ (TXW g.2.1 ax tx rd ln fn fk fp ++ (HIW g.2.1 g.2.2 ah f nx ct ++ (YW g.2.1 a st ds le wg te (u 4) (u 5) (u 6) (u 8) (u 9) (u 10) (u 11) (u 7) (u 12) g1 g2 g3 ++ (HSW g.2.1 hs 8 ++ (RI ++ (RS))))))) [.ref b, .int v] (fun r W1 => r = aDep u v ∧ CSt g b (nDep (u, pa, pm, im, fl, tx, ln, fk, fp, rs) v) W1) := by
  refine CtI.go RX6 rfl (by decide +kernel) (Nat.le_of_ble_eq_true rfl) ?_
  intro p e s m args below meth c A H0 Q hc hnm fin
  have hG := wf_GU hW
  have hN := wf_GN hcN hW
  have hY := hR.1
  have hte := hR.2.2.2.2.2.2.2.2.2.2
  obtain ⟨hK4, hC8, hv2, hg3, hm, hdk, h13, h12⟩ := id hG
  have hK2 := hW.1.1
  have hK1 : 1 ≤ u 4 := by omega
  show KW g p l e (rmK 6 7 72) s m args below meth c 3 A H0 0 0 Q (CO b (a 0) (ah 0) xi (ax 0) xs rs ++ (TXW g.2.1 ax tx rd ln fn fk fp ++ (HIW g.2.1 g.2.2 ah f nx ct ++ (YW g.2.1 a st ds le wg te (u 4) (u 5) (u 6) (u 8) (u 9) (u 10) (u 11) (u 7) (u 12) g1 g2 g3 ++ (HSW g.2.1 hs 8 ++ (RI ++ (RS))))))) [(0, .ref b), (1, .int v)] 0 []
  refine zk_aload_n hc dX6_depart_0 0 rfl ?_
  refine zk_get hc inlX6 (ci := 6) rfl 0 0 (by decide) mw_1_12 rfl rfl rfl dX6_depart_1 ?_
  refine zk_iload_n hc dX6_depart_4 1 rfl ?_
  refine zk_callVi hc (rest := []) (ct_X5_hasTrack g l a u st ds le wg te (u 6) (u 8) (u 9) (u 10) (u 11) (u 7) g1 g2 g3 v (by omega)) gg_X6_76 cd_X5_hasTrack ⟨Nat.le_of_ble_eq_true rfl, Nat.le_of_ble_eq_true rfl⟩ ⟨Nat.le_of_ble_eq_true rfl, Nat.le_of_ble_eq_true rfl⟩ (CO b (a 0) (ah 0) xi (ax 0) xs rs ++ (TXW g.2.1 ax tx rd ln fn fk fp ++ (HIW g.2.1 g.2.2 ah f nx ct))) (HSW g.2.1 hs 8 ++ (RI ++ (RS))) (by simp only [List.append_assoc, List.nil_append]) 6 rfl rfl rfl (Nat.le_of_ble_eq_true rfl) dX6_depart_5 (fun r W1 hp => ?_)
  obtain ⟨rfl, rfl⟩ := hp
  refine zk_ws (ws2 := CO b (a 0) (ah 0) xi (ax 0) xs rs ++ (TXW g.2.1 ax tx rd ln fn fk fp ++ (HIW g.2.1 g.2.2 ah f nx ct ++ (YW g.2.1 a st ds le wg te (u 4) (u 5) (u 6) (u 8) (u 9) (u 10) (u 11) (u 7) (u 12) g1 g2 g3 ++ (HSW g.2.1 hs 8 ++ (RI ++ (RS))))))) (by simp only [List.append_assoc, List.nil_append]) ?_
  by_cases hi : nI 0 ≤ v ∧ v ≤ nI (u 4 - 1)
  · refine zk_top (y := nI 1) (if_pos hi) ?_
    obtain ⟨t, t0, t1, rfl⟩ := rngN (by omega) hi
    refine zk_if_neN hc 13 dX6_depart_8 (by decide) (by omega) (fun h_1 => ?_) (fun h_1 => ?_)
    · refine zk_aload_n hc dX6_depart_13 0 rfl ?_
      refine zk_get hc inlX6 (ci := 6) rfl 0 0 (by decide) mw_1_12 rfl rfl rfl dX6_depart_14 ?_
      refine zk_iload_n hc dX6_depart_17 1 rfl ?_
      refine zk_callVi hc (rest := []) (ct_X5_refusal g l a u st ds le wg te (u 6) (u 8) (u 9) (u 10) (u 11) (u 7) g1 g2 g3 hY hG hN t (by omega) rfl (hte t (by omega)) hW.2.2.2.1.2 (by have := hW.2.2.2.2.2.2.2.2.2.2.2 6 (by omega); omega) (hW.2.2.2.2.2.2.2.2.1 t (by omega)).2.2) gg_X6_123 cd_X5_refusal ⟨Nat.le_of_ble_eq_true rfl, Nat.le_of_ble_eq_true rfl⟩ ⟨Nat.le_of_ble_eq_true rfl, Nat.le_of_ble_eq_true rfl⟩ (CO b (a 0) (ah 0) xi (ax 0) xs rs ++ (TXW g.2.1 ax tx rd ln fn fk fp ++ (HIW g.2.1 g.2.2 ah f nx ct))) (HSW g.2.1 hs 8 ++ (RI ++ (RS))) (by simp only [List.append_assoc, List.nil_append]) 6 rfl rfl rfl (Nat.le_of_ble_eq_true rfl) dX6_depart_18 (fun r W1 hp => ?_)
      obtain ⟨rfl, g4z_2, g5z_2, g6z_2, rfl⟩ := hp
      refine zk_ws (ws2 := CO b (a 0) (ah 0) xi (ax 0) xs rs ++ (TXW g.2.1 ax tx rd ln fn fk fp ++ (HIW g.2.1 g.2.2 ah f nx ct ++ (YW g.2.1 a st ds le wg te (u 4) (u 5) (u 6) (u 8) (u 9) (u 10) (u 11) (u 7) (u 12) g4z_2 g5z_2 g6z_2 ++ (HSW g.2.1 hs 8 ++ (RI ++ (RS))))))) (by simp only [List.append_assoc, List.nil_append]) ?_
      refine zk_istore_n hc (lv2 := [(2, .int (nI (rea u t))), (0, .ref b), (1, .int (nI t))]) dX6_depart_21 (by decide) rfl ?_
      refine zk_iload_n hc dX6_depart_22 0 rfl ?_
      refine zk_if_eqN hc 34 dX6_depart_23 (by decide) (by have := rea_le u t; omega) (fun h0 => ?_) (fun h0 => ?_)
      · refine zk_aload_n hc dX6_depart_34 1 rfl ?_
        refine zk_get hc inlX6 (ci := 6) rfl 0 1 (by decide) mw_1_16 rfl rfl rfl dX6_depart_35 ?_
        refine zk_aload_n hc dX6_depart_38 1 rfl ?_
        refine zk_get hc inlX6 (ci := 6) rfl 0 0 (by decide) mw_1_12 rfl rfl rfl dX6_depart_39 ?_
        refine zk_callVv hc (rest := []) (ct_X1_add g l ah a f hs nx ct u st ds le wg te (u 6) (u 8) (u 9) (u 10) (u 11) (u 7) g4z_2 g5z_2 g6z_2 pa pm hH hG (YRel_g hR)) gg_X6_53 cd_X1_add ⟨Nat.le_of_ble_eq_true rfl, Nat.le_of_ble_eq_true rfl⟩ ⟨Nat.le_of_ble_eq_true rfl, Nat.le_of_ble_eq_true rfl⟩ (CO b (a 0) (ah 0) xi (ax 0) xs rs ++ (TXW g.2.1 ax tx rd ln fn fk fp)) (RI ++ (RS)) (by simp only [List.append_assoc, List.nil_append]) 4 rfl rfl rfl (Nat.le_of_ble_eq_true rfl) dX6_depart_42 (fun W1 hp => ?_)
        obtain ⟨f2, hs2, rfl, hf2, hs2o, y2, hs2n, hy2⟩ := hp
        have hH2 := HR_add hH hf2 hs2o hs2n hG hy2
        refine zk_ws (ws2 := CO b (a 0) (ah 0) xi (ax 0) xs rs ++ (TXW g.2.1 ax tx rd ln fn fk fp ++ (HIW g.2.1 g.2.2 ah f2 ((nx + 1) % 8) (Nat.min (ct + 1) 8) ++ (YW g.2.1 a st ds le wg te (u 4) (u 5) (u 6) (u 8) (u 9) (u 10) (u 11) (u 7) (u 12) g4z_2 g5z_2 g6z_2 ++ (HSW g.2.1 hs2 8 ++ (RI ++ (RS))))))) (by simp only [List.append_assoc, List.nil_append]) ?_
        refine zk_aload_n hc dX6_depart_45 1 rfl ?_
        refine zk_get hc inlX6 (ci := 6) rfl 0 0 (by decide) mw_1_12 rfl rfl rfl dX6_depart_46 ?_
        refine zk_iload_n hc dX6_depart_49 2 rfl ?_
        refine zk_callVi hc (rest := []) (ct_X5_sendOff g l a u st ds le wg te (u 6) (u 8) (u 9) (u 10) (u 11) (u 7) g4z_2 g5z_2 g6z_2 hY hG hN t (by omega) (rea_12 h0)) gg_X6_126 cd_X5_sendOff ⟨Nat.le_of_ble_eq_true rfl, Nat.le_of_ble_eq_true rfl⟩ ⟨Nat.le_of_ble_eq_true rfl, Nat.le_of_ble_eq_true rfl⟩ (CO b (a 0) (ah 0) xi (ax 0) xs rs ++ (TXW g.2.1 ax tx rd ln fn fk fp ++ (HIW g.2.1 g.2.2 ah f2 ((nx + 1) % 8) (Nat.min (ct + 1) 8)))) (HSW g.2.1 hs2 8 ++ (RI ++ (RS))) (by simp only [List.append_assoc, List.nil_append]) 6 rfl rfl rfl (Nat.le_of_ble_eq_true rfl) dX6_depart_50 (fun r W1 hp => ?_)
        obtain ⟨rfl, rfl⟩ := hp
        refine zk_ws (ws2 := CO b (a 0) (ah 0) xi (ax 0) xs rs ++ (TXW g.2.1 ax tx rd ln fn fk fp ++ (HIW g.2.1 g.2.2 ah f2 ((nx + 1) % 8) (Nat.min (ct + 1) 8) ++ (YW g.2.1 a st (va_cpy ds ds 1 0 (u 12 - 1)) (va_up le t 0) wg (upd te t (-1)) (u 4) (u 5) (u 6) (u 8) (u 9) (u 10 + 1) (u 11 + mny u t) (u 7) (u 12 - 1) g4z_2 g5z_2 g6z_2 ++ (HSW g.2.1 hs2 8 ++ (RI ++ (RS))))))) (by simp only [List.append_assoc, List.nil_append]) ?_
        refine fin 7 72 _ _ _ _ (by decide) (by decide) dX6_depart_53 (?_)
        exact ⟨by unfold aDep; rw [if_pos hi, tOf_nI (by omega), if_neg (not_not_intro h0)], by unfold nDep; rw [if_pos hi, tOf_nI (by omega), if_neg (not_not_intro h0)]; exact CSt_mk g b (depF u t) (remP u pa pm) (remN pm) im fl tx ln fk fp rs a st (va_cpy ds ds 1 0 (u 12 - 1)) (va_up le t 0) wg (upd te t (-1)) (u 4) (u 5) (u 6) (u 8) (u 9) (u 10 + 1) (u 11 + mny u t) (u 7) (u 12 - 1) g4z_2 g5z_2 g6z_2 ah f2 ((nx + 1) % 8) (Nat.min (ct + 1) 8) hs2 ax rd fn xi xs RI RS (YRel_g (YRel_dep (by omega) hG hR)) hH2 hT hI hS⟩
      · refine zk_aload_n hc dX6_depart_26 1 rfl ?_
        refine zk_iload_n hc dX6_depart_27 0 rfl ?_
        refine zk_put hc inlX6 (ci := 6) rfl tyX6 tyX6_ok nmX6 0 5 (by decide) mw_2_2 rfl rfl rfl rfl rfl (Nat.le_of_ble_eq_true rfl) (ws2 := CO b (a 0) (ah 0) xi (ax 0) xs (nI (rea u t)) ++ (TXW g.2.1 ax tx rd ln fn fk fp ++ (HIW g.2.1 g.2.2 ah f nx ct ++ (YW g.2.1 a st ds le wg te (u 4) (u 5) (u 6) (u 8) (u 9) (u 10) (u 11) (u 7) (u 12) g4z_2 g5z_2 g6z_2 ++ (HSW g.2.1 hs 8 ++ (RI ++ (RS))))))) rfl dX6_depart_28 ?_
        refine zk_bipush hc ((-2)) dX6_depart_31 rfl ?_
        refine fin 0 0 _ _ _ _ (by decide) (by decide) dX6_depart_33 (?_)
        exact ⟨by unfold aDep; rw [if_pos hi, tOf_nI (by omega), if_pos h0], by unfold nDep; rw [if_pos hi, tOf_nI (by omega), if_pos h0]; exact CSt_mk g b u pa pm im fl tx ln fk fp (nI (rea u t)) a st ds le wg te (u 4) (u 5) (u 6) (u 8) (u 9) (u 10) (u 11) (u 7) (u 12) g4z_2 g5z_2 g6z_2 ah f nx ct hs ax rd fn xi xs RI RS (YRel_g hR) hH hT hI hS⟩
    · exact absurd h_1 (by decide)
  · refine zk_top (y := nI 0) (if_neg hi) ?_
    refine zk_if_neN hc 13 dX6_depart_8 (by decide) (by omega) (fun h_3 => ?_) (fun h_3 => ?_)
    · exact absurd h_3 (by decide)
    · refine zk_iconst hc ((-1)) dX6_depart_11 rfl ?_
      refine fin 0 0 _ _ _ _ (by decide) (by decide) dX6_depart_12 (?_)
      exact ⟨by unfold aDep; rw [if_neg hi], by unfold nDep; rw [if_neg hi]; exact CSt_mk g b u pa pm im fl tx ln fk fp rs a st ds le wg te (u 4) (u 5) (u 6) (u 8) (u 9) (u 10) (u 11) (u 7) (u 12) g1 g2 g3 ah f nx ct hs ax rd fn xi xs RI RS (YRel_g hR) hH hT hI hS⟩

set_option maxHeartbeats 4000000 in
set_option maxRecDepth 100000 in
theorem cx_X6_move (g : GG) (l : Launch) (b : Nat) (a u st ds le wg : Nat → Nat) (te : Nat → Int32) (g1 g2 g3 : Nat) (ah : Nat → Nat) (f : Nat → Option Nat) (nx ct : Nat) (hs : Nat → Option YT) (ax tx rd : Nat → Nat) (ln fn : Nat) (fk fp rs : Int32) (xi xs : Nat) (RI RS : va_W) (pa : Nat → Nat) (pm : Nat) (im : Nat → Nat) (fl cN : Nat) (hcN : cN ≤ 512) (hW : Wf cN u) (hR : YRel (a, st, ds, le, wg, te, u 4, u 5, u 6, u 8, u 9, u 10, u 11, u 7, u 12, g1, g2, g3) u) (hH : HR hs f nx ct pa pm) (hT : TR tx ln) (hI : IP g xi im fl RI) (hS : SP g xs RS)  (vf vt vn : Int32) : CtI g l yX6_move cX6_move 5 (some .int) (rmK 5 7 72) (CO b (a 0) (ah 0) xi (ax 0) xs rs ++ (TXW g.2.1 ax tx rd ln fn fk fp ++ (HIW g.2.1 g.2.2 ah f nx ct ++ (YW g.2.1 a st ds le wg te (u 4) (u 5) (u 6) (u 8) (u 9) (u 10) (u 11) (u 7) (u 12) g1 g2 g3 ++ (HSW g.2.1 hs 8 ++ (RI ++ (RS))))))) [.ref b, .int vf, .int vt, .int vn] (fun r W1 => r = aCos u vf vt vn ∧ CSt g b (nMov (u, pa, pm, im, fl, tx, ln, fk, fp, rs) vf vt vn) W1) := by
  refine CtI.go RX6 rfl (by decide +kernel) (Nat.le_of_ble_eq_true rfl) ?_
  intro p e s m args below meth c A H0 Q hc hnm fin
  have hG := wf_GU hW
  have hN := wf_GN hcN hW
  have hY := hR.1
  have hte := hR.2.2.2.2.2.2.2.2.2.2
  obtain ⟨hK4, hC8, hv2, hg3, hm, hdk, h13, h12⟩ := id hG
  have hK2 := hW.1.1
  have hK1 : 1 ≤ u 4 := by omega
  show KW g p l e (rmK 5 7 72) s m args below meth c 5 A H0 0 0 Q (CO b (a 0) (ah 0) xi (ax 0) xs rs ++ (TXW g.2.1 ax tx rd ln fn fk fp ++ (HIW g.2.1 g.2.2 ah f nx ct ++ (YW g.2.1 a st ds le wg te (u 4) (u 5) (u 6) (u 8) (u 9) (u 10) (u 11) (u 7) (u 12) g1 g2 g3 ++ (HSW g.2.1 hs 8 ++ (RI ++ (RS))))))) [(0, .ref b), (1, .int vf), (2, .int vt), (3, .int vn)] 0 []
  refine zk_aload_n hc dX6_move_0 0 rfl ?_
  refine zk_get hc inlX6 (ci := 6) rfl 0 0 (by decide) mw_1_12 rfl rfl rfl dX6_move_1 ?_
  refine zk_iload_n hc dX6_move_4 1 rfl ?_
  refine zk_iload_n hc dX6_move_5 2 rfl ?_
  refine zk_iload_n hc dX6_move_6 3 rfl ?_
  refine zk_callVi hc (rest := []) (ct_X5_costOrCode g l a u st ds le wg te (u 6) (u 8) (u 9) (u 10) (u 11) (u 7) g1 g2 g3 hY hG hN vf vt vn (by omega)) gg_X6_110 cd_X5_costOrCode ⟨Nat.le_of_ble_eq_true rfl, Nat.le_of_ble_eq_true rfl⟩ ⟨Nat.le_of_ble_eq_true rfl, Nat.le_of_ble_eq_true rfl⟩ (CO b (a 0) (ah 0) xi (ax 0) xs rs ++ (TXW g.2.1 ax tx rd ln fn fk fp ++ (HIW g.2.1 g.2.2 ah f nx ct))) (HSW g.2.1 hs 8 ++ (RI ++ (RS))) (by simp only [List.append_assoc, List.nil_append]) 6 rfl rfl rfl (Nat.le_of_ble_eq_true rfl) dX6_move_7 (fun r W1 hp => ?_)
  obtain ⟨rfl, g4z_1, g5z_1, g6z_1, rfl⟩ := hp
  refine zk_ws (ws2 := CO b (a 0) (ah 0) xi (ax 0) xs rs ++ (TXW g.2.1 ax tx rd ln fn fk fp ++ (HIW g.2.1 g.2.2 ah f nx ct ++ (YW g.2.1 a st ds le wg te (u 4) (u 5) (u 6) (u 8) (u 9) (u 10) (u 11) (u 7) (u 12) g4z_1 g5z_1 g6z_1 ++ (HSW g.2.1 hs 8 ++ (RI ++ (RS))))))) (by simp only [List.append_assoc, List.nil_append]) ?_
  refine zk_istore hc (lv2 := [(4, .int (aCos u vf vt vn)), (0, .ref b), (1, .int vf), (2, .int vt), (3, .int vn)]) dX6_move_10 (by decide) rfl ?_
  refine zk_iload hc dX6_move_12 0 rfl ?_
  refine zk_if_ge hc 20 dX6_move_14 (by decide) (fun hge => ?_) (fun hge => ?_)
  · have hc0 : ¬ aCos u vf vt vn < 0 := Int32.not_lt.mpr hge
    obtain ⟨f1, t1, n1, rfl, rfl, rfl, ho, hco, hf4, ht4, hn8⟩ := aCos_ok hK4 hK1 hc0
    refine zk_aload_n hc dX6_move_20 1 rfl ?_
    refine zk_get hc inlX6 (ci := 6) rfl 0 1 (by decide) mw_1_16 rfl rfl rfl dX6_move_21 ?_
    refine zk_aload_n hc dX6_move_24 1 rfl ?_
    refine zk_get hc inlX6 (ci := 6) rfl 0 0 (by decide) mw_1_12 rfl rfl rfl dX6_move_25 ?_
    refine zk_callVv hc (rest := []) (ct_X1_add g l ah a f hs nx ct u st ds le wg te (u 6) (u 8) (u 9) (u 10) (u 11) (u 7) g4z_1 g5z_1 g6z_1 pa pm hH hG (YRel_g hR)) gg_X6_53 cd_X1_add ⟨Nat.le_of_ble_eq_true rfl, Nat.le_of_ble_eq_true rfl⟩ ⟨Nat.le_of_ble_eq_true rfl, Nat.le_of_ble_eq_true rfl⟩ (CO b (a 0) (ah 0) xi (ax 0) xs rs ++ (TXW g.2.1 ax tx rd ln fn fk fp)) (RI ++ (RS)) (by simp only [List.append_assoc, List.nil_append]) 4 rfl rfl rfl (Nat.le_of_ble_eq_true rfl) dX6_move_28 (fun W1 hp => ?_)
    obtain ⟨f2, hs2, rfl, hf2, hs2o, y2, hs2n, hy2⟩ := hp
    have hH2 := HR_add hH hf2 hs2o hs2n hG hy2
    refine zk_ws (ws2 := CO b (a 0) (ah 0) xi (ax 0) xs rs ++ (TXW g.2.1 ax tx rd ln fn fk fp ++ (HIW g.2.1 g.2.2 ah f2 ((nx + 1) % 8) (Nat.min (ct + 1) 8) ++ (YW g.2.1 a st ds le wg te (u 4) (u 5) (u 6) (u 8) (u 9) (u 10) (u 11) (u 7) (u 12) g4z_1 g5z_1 g6z_1 ++ (HSW g.2.1 hs2 8 ++ (RI ++ (RS))))))) (by simp only [List.append_assoc, List.nil_append]) ?_
    refine zk_aload_n hc dX6_move_31 1 rfl ?_
    refine zk_get hc inlX6 (ci := 6) rfl 0 0 (by decide) mw_1_12 rfl rfl rfl dX6_move_32 ?_
    refine zk_iload_n hc dX6_move_35 2 rfl ?_
    refine zk_iload_n hc dX6_move_36 3 rfl ?_
    refine zk_iload_n hc dX6_move_37 4 rfl ?_
    refine zk_callVi hc (rest := []) (ct_X5_drive g l a u st ds le wg te (u 6) (u 8) (u 9) (u 10) (u 11) (u 7) g4z_1 g5z_1 g6z_1 hY hG hN f1 t1 n1 ho) gg_X6_114 cd_X5_drive ⟨Nat.le_of_ble_eq_true rfl, Nat.le_of_ble_eq_true rfl⟩ ⟨Nat.le_of_ble_eq_true rfl, Nat.le_of_ble_eq_true rfl⟩ (CO b (a 0) (ah 0) xi (ax 0) xs rs ++ (TXW g.2.1 ax tx rd ln fn fk fp ++ (HIW g.2.1 g.2.2 ah f2 ((nx + 1) % 8) (Nat.min (ct + 1) 8)))) (HSW g.2.1 hs2 8 ++ (RI ++ (RS))) (by simp only [List.append_assoc, List.nil_append]) 6 rfl rfl rfl (Nat.le_of_ble_eq_true rfl) dX6_move_38 (fun r W1 hp => ?_)
    obtain ⟨rfl, rfl⟩ := hp
    refine zk_ws (ws2 := CO b (a 0) (ah 0) xi (ax 0) xs rs ++ (TXW g.2.1 ax tx rd ln fn fk fp ++ (HIW g.2.1 g.2.2 ah f2 ((nx + 1) % 8) (Nat.min (ct + 1) 8) ++ (YW g.2.1 a st ds (shL le f1 t1 n1) (shW le wg f1 t1 n1) (upd (upd te f1 (-1)) t1 (-1)) (u 4) (u 5) (u 6 + mins u f1 t1 n1) (u 8 + 1) (u 9 + mins u f1 t1 n1) (u 10) (u 11) (u 7) (u 12) g4z_1 g5z_1 g6z_1 ++ (HSW g.2.1 hs2 8 ++ (RI ++ (RS))))))) (by simp only [List.append_assoc, List.nil_append]) ?_
    refine fin 7 72 _ _ _ _ (by decide) (by decide) dX6_move_41 (?_)
    exact ⟨by exact hco.symm, by unfold nMov; rw [if_pos hc0, tOf_nI (by omega), tOf_nI (by omega), tOf_nI (by omega)]; exact CSt_mk g b (nxU u f1 t1 n1) (remP u pa pm) (remN pm) im fl tx ln fk fp rs a st ds (shL le f1 t1 n1) (shW le wg f1 t1 n1) (upd (upd te f1 (-1)) t1 (-1)) (u 4) (u 5) (u 6 + mins u f1 t1 n1) (u 8 + 1) (u 9 + mins u f1 t1 n1) (u 10) (u 11) (u 7) (u 12) g4z_1 g5z_1 g6z_1 ah f2 ((nx + 1) % 8) (Nat.min (ct + 1) 8) hs2 ax rd fn xi xs RI RS (YRel_g (YRel_mov hG ho hR)) hH2 hT hI hS⟩
  · have hc0 : aCos u vf vt vn < 0 := Int32.not_le.mp hge
    refine zk_iload hc dX6_move_17 0 rfl ?_
    refine fin 0 0 _ _ _ _ (by decide) (by decide) dX6_move_19 (?_)
    exact ⟨by rfl, by unfold nMov; rw [if_neg (not_not_intro hc0)]; exact CSt_mk g b u pa pm im fl tx ln fk fp rs a st ds le wg te (u 4) (u 5) (u 6) (u 8) (u 9) (u 10) (u 11) (u 7) (u 12) g4z_1 g5z_1 g6z_1 ah f nx ct hs ax rd fn xi xs RI RS (YRel_g hR) hH hT hI hS⟩
