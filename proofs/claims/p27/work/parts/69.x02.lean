set_option maxHeartbeats 4000000 in
set_option maxRecDepth 100000 in
theorem cx_X6_track (g : GG) (l : Launch) (b : Nat) (a u st ds le wg : Nat → Nat) (te : Nat → Int32) (g1 g2 g3 : Nat) (ah : Nat → Nat) (f : Nat → Option Nat) (nx ct : Nat) (hs : Nat → Option YT) (ax tx rd : Nat → Nat) (ln fn : Nat) (fk fp rs : Int32) (xi xs : Nat) (RI RS : va_W) (pa : Nat → Nat) (pm : Nat) (im : Nat → Nat) (fl cN : Nat) (hcN : cN ≤ 512) (hW : Wf cN u) (hR : YRel (a, st, ds, le, wg, te, u 4, u 5, u 6, u 8, u 9, u 10, u 11, u 7, u 12, g1, g2, g3) u) (hH : HR hs f nx ct pa pm) (hT : TR tx ln) (hI : IP g xi im fl RI) (hS : SP g xs RS)  (v w : Int32) : CtI g l yX6_track cX6_track 3 (some .int) (rmK 7 0 0) (CO b (a 0) (ah 0) xi (ax 0) xs rs ++ (TXW g.2.1 ax tx rd ln fn fk fp ++ (HIW g.2.1 g.2.2 ah f nx ct ++ (YW g.2.1 a st ds le wg te (u 4) (u 5) (u 6) (u 8) (u 9) (u 10) (u 11) (u 7) (u 12) g1 g2 g3 ++ (HSW g.2.1 hs 8 ++ (RI ++ (RS))))))) [.ref b, .int v, .int w] (fun r W1 => r = aTrk u v w ∧ CSt g b (u, pa, pm, im, fl, tx, ln, fk, fp, rs) W1) := by
  refine CtI.go RX6 rfl (by decide +kernel) (Nat.le_of_ble_eq_true rfl) ?_
  intro p e s m args below meth c A H0 Q hc hnm fin
  have hG := wf_GU hW
  have hN := wf_GN hcN hW
  have hY := hR.1
  have hte := hR.2.2.2.2.2.2.2.2.2.2
  obtain ⟨hK4, hC8, hv2, hg3, hm, hdk, h13, h12⟩ := id hG
  have hK2 := hW.1.1
  have hK1 : 1 ≤ u 4 := by omega
  show KW g p l e (rmK 7 0 0) s m args below meth c 3 A H0 0 0 Q (CO b (a 0) (ah 0) xi (ax 0) xs rs ++ (TXW g.2.1 ax tx rd ln fn fk fp ++ (HIW g.2.1 g.2.2 ah f nx ct ++ (YW g.2.1 a st ds le wg te (u 4) (u 5) (u 6) (u 8) (u 9) (u 10) (u 11) (u 7) (u 12) g1 g2 g3 ++ (HSW g.2.1 hs 8 ++ (RI ++ (RS))))))) [(0, .ref b), (1, .int v), (2, .int w)] 0 []
  refine zk_aload_n hc dX6_track_0 0 rfl ?_
  refine zk_get hc inlX6 (ci := 6) rfl 0 0 (by decide) mw_1_12 rfl rfl rfl dX6_track_1 ?_
  refine zk_iload_n hc dX6_track_4 1 rfl ?_
  refine zk_callVi hc (rest := []) (ct_X5_hasTrack g l a u st ds le wg te (u 6) (u 8) (u 9) (u 10) (u 11) (u 7) g1 g2 g3 v (by omega)) gg_X6_76 cd_X5_hasTrack ⟨Nat.le_of_ble_eq_true rfl, Nat.le_of_ble_eq_true rfl⟩ ⟨Nat.le_of_ble_eq_true rfl, Nat.le_of_ble_eq_true rfl⟩ (CO b (a 0) (ah 0) xi (ax 0) xs rs ++ (TXW g.2.1 ax tx rd ln fn fk fp ++ (HIW g.2.1 g.2.2 ah f nx ct))) (HSW g.2.1 hs 8 ++ (RI ++ (RS))) (by simp only [List.append_assoc, List.nil_append]) 6 rfl rfl rfl (Nat.le_of_ble_eq_true rfl) dX6_track_5 (fun r W1 hp => ?_)
  obtain ⟨rfl, rfl⟩ := hp
  refine zk_ws (ws2 := CO b (a 0) (ah 0) xi (ax 0) xs rs ++ (TXW g.2.1 ax tx rd ln fn fk fp ++ (HIW g.2.1 g.2.2 ah f nx ct ++ (YW g.2.1 a st ds le wg te (u 4) (u 5) (u 6) (u 8) (u 9) (u 10) (u 11) (u 7) (u 12) g1 g2 g3 ++ (HSW g.2.1 hs 8 ++ (RI ++ (RS))))))) (by simp only [List.append_assoc, List.nil_append]) ?_
  by_cases hi : nI 0 ≤ v ∧ v ≤ nI (u 4 - 1)
  · refine zk_top (y := nI 1) (if_pos hi) ?_
    obtain ⟨t, t0, t1, rfl⟩ := rngN (by omega) hi
    refine zk_if_neN hc 13 dX6_track_8 (by decide) (by omega) (fun h_1 => ?_) (fun h_1 => ?_)
    · refine zk_iload_n hc dX6_track_13 2 rfl ?_
      by_cases hsw : nI 0 ≤ w ∧ w ≤ nI 4
      · obtain ⟨k, hk0, hk1, rfl⟩ := rngN (by omega) hsw
        rcases (show k = 0 ∨ k = 1 ∨ k = 2 ∨ k = 3 ∨ k = 4 by omega) with rfl | rfl | rfl | rfl | rfl
        · refine zk_tableIn hc 48 dX6_track_14 (by decide) (by decide) rfl (by decide) ?_
          refine zk_aload_n hc dX6_track_48 0 rfl ?_
          refine zk_get hc inlX6 (ci := 6) rfl 0 0 (by decide) mw_1_12 rfl rfl rfl dX6_track_49 ?_
          refine zk_get hc inlX5 (ci := 5) rfl 6 11 (by decide) mw_11_12 rfl rfl rfl dX6_track_52 ?_
          refine zk_iload_n hc dX6_track_55 1 rfl ?_
          refine zk_ialdN hc 9 rfl (by omega) (by decide) dX6_track_56 ?_
          refine zk_top (y := nI (mny u t)) (yle hY (by omega)) ?_
          refine fin 0 0 _ _ _ _ (by decide) (by decide) dX6_track_57 (?_)
          exact ⟨by unfold aTrk; rw [if_pos ⟨hi, hsw⟩, tOf_nI (by omega)]; rfl, by exact CSt_mk g b u pa pm im fl tx ln fk fp rs a st ds le wg te (u 4) (u 5) (u 6) (u 8) (u 9) (u 10) (u 11) (u 7) (u 12) g1 g2 g3 ah f nx ct hs ax rd fn xi xs RI RS (YRel_g hR) hH hT hI hS⟩
        · refine zk_tableIn hc 58 dX6_track_14 (by decide) (by decide) rfl (by decide) ?_
          refine zk_aload_n hc dX6_track_58 0 rfl ?_
          refine zk_get hc inlX6 (ci := 6) rfl 0 0 (by decide) mw_1_12 rfl rfl rfl dX6_track_59 ?_
          refine zk_iload_n hc dX6_track_62 1 rfl ?_
          refine zk_callVi hc (rest := []) (ct_X5_isSafe g l a u st ds le wg te (u 6) (u 8) (u 9) (u 10) (u 11) (u 7) g1 g2 g3 hY hG hN t (by omega)) gg_X6_192 cd_X5_isSafe ⟨Nat.le_of_ble_eq_true rfl, Nat.le_of_ble_eq_true rfl⟩ ⟨Nat.le_of_ble_eq_true rfl, Nat.le_of_ble_eq_true rfl⟩ (CO b (a 0) (ah 0) xi (ax 0) xs rs ++ (TXW g.2.1 ax tx rd ln fn fk fp ++ (HIW g.2.1 g.2.2 ah f nx ct))) (HSW g.2.1 hs 8 ++ (RI ++ (RS))) (by simp only [List.append_assoc, List.nil_append]) 6 rfl rfl rfl (Nat.le_of_ble_eq_true rfl) dX6_track_63 (fun r W1 hp => ?_)
          obtain ⟨rfl, g4z_2, g5z_2, g6z_2, rfl⟩ := hp
          refine zk_ws (ws2 := CO b (a 0) (ah 0) xi (ax 0) xs rs ++ (TXW g.2.1 ax tx rd ln fn fk fp ++ (HIW g.2.1 g.2.2 ah f nx ct ++ (YW g.2.1 a st ds le wg te (u 4) (u 5) (u 6) (u 8) (u 9) (u 10) (u 11) (u 7) (u 12) g4z_2 g5z_2 g6z_2 ++ (HSW g.2.1 hs 8 ++ (RI ++ (RS))))))) (by simp only [List.append_assoc, List.nil_append]) ?_
          by_cases hsf : u 0 ≤ gap (kds u t (mny u t))
          · refine zk_top (y := nI 1) (if_pos hsf) ?_
            refine zk_if_eqN hc 73 dX6_track_66 (by decide) (by omega) (fun h_3 => ?_) (fun h_3 => ?_)
            · exact absurd h_3 (by decide)
            · refine zk_iconst hc (nI 1) dX6_track_69 rfl ?_
              refine zk_goto hc 74 dX6_track_70 (by decide) ?_
              refine fin 0 0 _ _ _ _ (by decide) (by decide) dX6_track_74 (?_)
              exact ⟨by unfold aTrk; rw [if_pos ⟨hi, hsw⟩, tOf_nI (by omega)]; show _ = if u 0 ≤ gap (kds u t (mny u t)) then nI 1 else nI 0; rw [if_pos hsf], by exact CSt_mk g b u pa pm im fl tx ln fk fp rs a st ds le wg te (u 4) (u 5) (u 6) (u 8) (u 9) (u 10) (u 11) (u 7) (u 12) g4z_2 g5z_2 g6z_2 ah f nx ct hs ax rd fn xi xs RI RS (YRel_g hR) hH hT hI hS⟩
          · refine zk_top (y := nI 0) (if_neg hsf) ?_
            refine zk_if_eqN hc 73 dX6_track_66 (by decide) (by omega) (fun h_4 => ?_) (fun h_4 => ?_)
            · refine zk_iconst hc (nI 0) dX6_track_73 rfl ?_
              refine fin 0 0 _ _ _ _ (by decide) (by decide) dX6_track_74 (?_)
              exact ⟨by unfold aTrk; rw [if_pos ⟨hi, hsw⟩, tOf_nI (by omega)]; show _ = if u 0 ≤ gap (kds u t (mny u t)) then nI 1 else nI 0; rw [if_neg hsf], by exact CSt_mk g b u pa pm im fl tx ln fk fp rs a st ds le wg te (u 4) (u 5) (u 6) (u 8) (u 9) (u 10) (u 11) (u 7) (u 12) g4z_2 g5z_2 g6z_2 ah f nx ct hs ax rd fn xi xs RI RS (YRel_g hR) hH hT hI hS⟩
            · exact absurd h_4 (by decide)
        · refine zk_tableIn hc 75 dX6_track_14 (by decide) (by decide) rfl (by decide) ?_
          refine zk_aload_n hc dX6_track_75 0 rfl ?_
          refine zk_get hc inlX6 (ci := 6) rfl 0 0 (by decide) mw_1_12 rfl rfl rfl dX6_track_76 ?_
          refine zk_iload_n hc dX6_track_79 1 rfl ?_
          refine zk_callVi hc (rest := []) (ct_X5_testHoldsFor g l a u st ds le wg te (u 6) (u 8) (u 9) (u 10) (u 11) (u 7) g1 g2 g3 hY hG hN t (by omega) rfl (hte t (by omega)) hW.2.2.2.1.2 (by have := hW.2.2.2.2.2.2.2.2.2.2.2 6 (by omega); omega) (hW.2.2.2.2.2.2.2.2.1 t (by omega)).2.2) gg_X6_195 cd_X5_testHoldsFor ⟨Nat.le_of_ble_eq_true rfl, Nat.le_of_ble_eq_true rfl⟩ ⟨Nat.le_of_ble_eq_true rfl, Nat.le_of_ble_eq_true rfl⟩ (CO b (a 0) (ah 0) xi (ax 0) xs rs ++ (TXW g.2.1 ax tx rd ln fn fk fp ++ (HIW g.2.1 g.2.2 ah f nx ct))) (HSW g.2.1 hs 8 ++ (RI ++ (RS))) (by simp only [List.append_assoc, List.nil_append]) 6 rfl rfl rfl (Nat.le_of_ble_eq_true rfl) dX6_track_80 (fun r W1 hp => ?_)
          obtain ⟨rfl, rfl⟩ := hp
          refine zk_ws (ws2 := CO b (a 0) (ah 0) xi (ax 0) xs rs ++ (TXW g.2.1 ax tx rd ln fn fk fp ++ (HIW g.2.1 g.2.2 ah f nx ct ++ (YW g.2.1 a st ds le wg te (u 4) (u 5) (u 6) (u 8) (u 9) (u 10) (u 11) (u 7) (u 12) g1 g2 g3 ++ (HSW g.2.1 hs 8 ++ (RI ++ (RS))))))) (by simp only [List.append_assoc, List.nil_append]) ?_
          refine fin 0 0 _ _ _ _ (by decide) (by decide) dX6_track_83 (?_)
          exact ⟨by unfold aTrk; rw [if_pos ⟨hi, hsw⟩, tOf_nI (by omega)]; rfl, by exact CSt_mk g b u pa pm im fl tx ln fk fp rs a st ds le wg te (u 4) (u 5) (u 6) (u 8) (u 9) (u 10) (u 11) (u 7) (u 12) g1 g2 g3 ah f nx ct hs ax rd fn xi xs RI RS (YRel_g hR) hH hT hI hS⟩
        · refine zk_tableIn hc 84 dX6_track_14 (by decide) (by decide) rfl (by decide) ?_
          refine zk_aload_n hc dX6_track_84 0 rfl ?_
          refine zk_get hc inlX6 (ci := 6) rfl 0 0 (by decide) mw_1_12 rfl rfl rfl dX6_track_85 ?_
          refine zk_iload_n hc dX6_track_88 1 rfl ?_
          refine zk_callVi hc (rest := []) (ct_X5_leastGap g l a u st ds le wg te (u 6) (u 8) (u 9) (u 10) (u 11) (u 7) g1 g2 g3 hY hG hN t (by omega)) gg_X6_198 cd_X5_leastGap ⟨Nat.le_of_ble_eq_true rfl, Nat.le_of_ble_eq_true rfl⟩ ⟨Nat.le_of_ble_eq_true rfl, Nat.le_of_ble_eq_true rfl⟩ (CO b (a 0) (ah 0) xi (ax 0) xs rs ++ (TXW g.2.1 ax tx rd ln fn fk fp ++ (HIW g.2.1 g.2.2 ah f nx ct))) (HSW g.2.1 hs 8 ++ (RI ++ (RS))) (by simp only [List.append_assoc, List.nil_append]) 6 rfl rfl rfl (Nat.le_of_ble_eq_true rfl) dX6_track_89 (fun r W1 hp => ?_)
          obtain ⟨rfl, g4z_5, g5z_5, g6z_5, rfl⟩ := hp
          refine zk_ws (ws2 := CO b (a 0) (ah 0) xi (ax 0) xs rs ++ (TXW g.2.1 ax tx rd ln fn fk fp ++ (HIW g.2.1 g.2.2 ah f nx ct ++ (YW g.2.1 a st ds le wg te (u 4) (u 5) (u 6) (u 8) (u 9) (u 10) (u 11) (u 7) (u 12) g4z_5 g5z_5 g6z_5 ++ (HSW g.2.1 hs 8 ++ (RI ++ (RS))))))) (by simp only [List.append_assoc, List.nil_append]) ?_
          refine fin 0 0 _ _ _ _ (by decide) (by decide) dX6_track_92 (?_)
          exact ⟨by unfold aTrk; rw [if_pos ⟨hi, hsw⟩, tOf_nI (by omega)]; rfl, by exact CSt_mk g b u pa pm im fl tx ln fk fp rs a st ds le wg te (u 4) (u 5) (u 6) (u 8) (u 9) (u 10) (u 11) (u 7) (u 12) g4z_5 g5z_5 g6z_5 ah f nx ct hs ax rd fn xi xs RI RS (YRel_g hR) hH hT hI hS⟩
        · refine zk_tableIn hc 93 dX6_track_14 (by decide) (by decide) rfl (by decide) ?_
          refine zk_aload_n hc dX6_track_93 0 rfl ?_
          refine zk_get hc inlX6 (ci := 6) rfl 0 0 (by decide) mw_1_12 rfl rfl rfl dX6_track_94 ?_
          refine zk_iload_n hc dX6_track_97 1 rfl ?_
          refine zk_callVi hc (rest := []) (ct_X5_refusal g l a u st ds le wg te (u 6) (u 8) (u 9) (u 10) (u 11) (u 7) g1 g2 g3 hY hG hN t (by omega) rfl (hte t (by omega)) hW.2.2.2.1.2 (by have := hW.2.2.2.2.2.2.2.2.2.2.2 6 (by omega); omega) (hW.2.2.2.2.2.2.2.2.1 t (by omega)).2.2) gg_X6_123 cd_X5_refusal ⟨Nat.le_of_ble_eq_true rfl, Nat.le_of_ble_eq_true rfl⟩ ⟨Nat.le_of_ble_eq_true rfl, Nat.le_of_ble_eq_true rfl⟩ (CO b (a 0) (ah 0) xi (ax 0) xs rs ++ (TXW g.2.1 ax tx rd ln fn fk fp ++ (HIW g.2.1 g.2.2 ah f nx ct))) (HSW g.2.1 hs 8 ++ (RI ++ (RS))) (by simp only [List.append_assoc, List.nil_append]) 6 rfl rfl rfl (Nat.le_of_ble_eq_true rfl) dX6_track_98 (fun r W1 hp => ?_)
          obtain ⟨rfl, g4z_6, g5z_6, g6z_6, rfl⟩ := hp
          refine zk_ws (ws2 := CO b (a 0) (ah 0) xi (ax 0) xs rs ++ (TXW g.2.1 ax tx rd ln fn fk fp ++ (HIW g.2.1 g.2.2 ah f nx ct ++ (YW g.2.1 a st ds le wg te (u 4) (u 5) (u 6) (u 8) (u 9) (u 10) (u 11) (u 7) (u 12) g4z_6 g5z_6 g6z_6 ++ (HSW g.2.1 hs 8 ++ (RI ++ (RS))))))) (by simp only [List.append_assoc, List.nil_append]) ?_
          refine fin 0 0 _ _ _ _ (by decide) (by decide) dX6_track_101 (?_)
          exact ⟨by unfold aTrk; rw [if_pos ⟨hi, hsw⟩, tOf_nI (by omega)]; rfl, by exact CSt_mk g b u pa pm im fl tx ln fk fp rs a st ds le wg te (u 4) (u 5) (u 6) (u 8) (u 9) (u 10) (u 11) (u 7) (u 12) g4z_6 g5z_6 g6z_6 ah f nx ct hs ax rd fn xi xs RI RS (YRel_g hR) hH hT hI hS⟩
      · refine zk_tableOut hc 102 dX6_track_14 (tab_out (hi := 4) (by decide) hsw) (by decide) ?_
        refine zk_iconst hc ((-1)) dX6_track_102 rfl ?_
        refine fin 0 0 _ _ _ _ (by decide) (by decide) dX6_track_103 (?_)
        exact ⟨by unfold aTrk; rw [if_neg (fun z => hsw z.2)], by exact CSt_mk g b u pa pm im fl tx ln fk fp rs a st ds le wg te (u 4) (u 5) (u 6) (u 8) (u 9) (u 10) (u 11) (u 7) (u 12) g1 g2 g3 ah f nx ct hs ax rd fn xi xs RI RS (YRel_g hR) hH hT hI hS⟩
    · exact absurd h_1 (by decide)
  · refine zk_top (y := nI 0) (if_neg hi) ?_
    refine zk_if_neN hc 13 dX6_track_8 (by decide) (by omega) (fun h_7 => ?_) (fun h_7 => ?_)
    · exact absurd h_7 (by decide)
    · refine zk_iconst hc ((-1)) dX6_track_11 rfl ?_
      refine fin 0 0 _ _ _ _ (by decide) (by decide) dX6_track_12 (?_)
      exact ⟨by unfold aTrk; rw [if_neg (fun z => hi z.1)], by exact CSt_mk g b u pa pm im fl tx ln fk fp rs a st ds le wg te (u 4) (u 5) (u 6) (u 8) (u 9) (u 10) (u 11) (u 7) (u 12) g1 g2 g3 ah f nx ct hs ax rd fn xi xs RI RS (YRel_g hR) hH hT hI hS⟩
