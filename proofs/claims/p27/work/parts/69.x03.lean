set_option maxHeartbeats 4000000 in
set_option maxRecDepth 100000 in
theorem cx_X6_wagon (g : GG) (l : Launch) (b : Nat) (a u st ds le wg : Nat → Nat) (te : Nat → Int32) (g1 g2 g3 : Nat) (ah : Nat → Nat) (f : Nat → Option Nat) (nx ct : Nat) (hs : Nat → Option YT) (ax tx rd : Nat → Nat) (ln fn : Nat) (fk fp rs : Int32) (xi xs : Nat) (RI RS : va_W) (pa : Nat → Nat) (pm : Nat) (im : Nat → Nat) (fl cN : Nat) (hcN : cN ≤ 512) (hW : Wf cN u) (hR : YRel (a, st, ds, le, wg, te, u 4, u 5, u 6, u 8, u 9, u 10, u 11, u 7, u 12, g1, g2, g3) u) (hH : HR hs f nx ct pa pm) (hT : TR tx ln) (hI : IP g xi im fl RI) (hS : SP g xs RS)  (v pv w : Int32) : CtI g l yX6_wagon cX6_wagon 5 (some .int) (rmK 5 0 0) (CO b (a 0) (ah 0) xi (ax 0) xs rs ++ (TXW g.2.1 ax tx rd ln fn fk fp ++ (HIW g.2.1 g.2.2 ah f nx ct ++ (YW g.2.1 a st ds le wg te (u 4) (u 5) (u 6) (u 8) (u 9) (u 10) (u 11) (u 7) (u 12) g1 g2 g3 ++ (HSW g.2.1 hs 8 ++ (RI ++ (RS))))))) [.ref b, .int v, .int pv, .int w] (fun r W1 => r = aWag u v pv w ∧ CSt g b (u, pa, pm, im, fl, tx, ln, fk, fp, rs) W1) := by
  refine CtI.go RX6 rfl (by decide +kernel) (Nat.le_of_ble_eq_true rfl) ?_
  intro p e s m args below meth c A H0 Q hc hnm fin
  have hG := wf_GU hW
  have hN := wf_GN hcN hW
  have hY := hR.1
  have hte := hR.2.2.2.2.2.2.2.2.2.2
  obtain ⟨hK4, hC8, hv2, hg3, hm, hdk, h13, h12⟩ := id hG
  have hK2 := hW.1.1
  have hK1 : 1 ≤ u 4 := by omega
  show KW g p l e (rmK 5 0 0) s m args below meth c 5 A H0 0 0 Q (CO b (a 0) (ah 0) xi (ax 0) xs rs ++ (TXW g.2.1 ax tx rd ln fn fk fp ++ (HIW g.2.1 g.2.2 ah f nx ct ++ (YW g.2.1 a st ds le wg te (u 4) (u 5) (u 6) (u 8) (u 9) (u 10) (u 11) (u 7) (u 12) g1 g2 g3 ++ (HSW g.2.1 hs 8 ++ (RI ++ (RS))))))) [(0, .ref b), (1, .int v), (2, .int pv), (3, .int w)] 0 []
  refine zk_aload_n hc dX6_wagon_0 0 rfl ?_
  refine zk_get hc inlX6 (ci := 6) rfl 0 0 (by decide) mw_1_12 rfl rfl rfl dX6_wagon_1 ?_
  refine zk_iload_n hc dX6_wagon_4 1 rfl ?_
  refine zk_callVi hc (rest := []) (ct_X5_hasTrack g l a u st ds le wg te (u 6) (u 8) (u 9) (u 10) (u 11) (u 7) g1 g2 g3 v (by omega)) gg_X6_76 cd_X5_hasTrack ⟨Nat.le_of_ble_eq_true rfl, Nat.le_of_ble_eq_true rfl⟩ ⟨Nat.le_of_ble_eq_true rfl, Nat.le_of_ble_eq_true rfl⟩ (CO b (a 0) (ah 0) xi (ax 0) xs rs ++ (TXW g.2.1 ax tx rd ln fn fk fp ++ (HIW g.2.1 g.2.2 ah f nx ct))) (HSW g.2.1 hs 8 ++ (RI ++ (RS))) (by simp only [List.append_assoc, List.nil_append]) 6 rfl rfl rfl (Nat.le_of_ble_eq_true rfl) dX6_wagon_5 (fun r W1 hp => ?_)
  obtain ⟨rfl, rfl⟩ := hp
  refine zk_ws (ws2 := CO b (a 0) (ah 0) xi (ax 0) xs rs ++ (TXW g.2.1 ax tx rd ln fn fk fp ++ (HIW g.2.1 g.2.2 ah f nx ct ++ (YW g.2.1 a st ds le wg te (u 4) (u 5) (u 6) (u 8) (u 9) (u 10) (u 11) (u 7) (u 12) g1 g2 g3 ++ (HSW g.2.1 hs 8 ++ (RI ++ (RS))))))) (by simp only [List.append_assoc, List.nil_append]) ?_
  by_cases hi : nI 0 ≤ v ∧ v ≤ nI (u 4 - 1)
  · refine zk_top (y := nI 1) (if_pos hi) ?_
    obtain ⟨t, t0, t1, rfl⟩ := rngN (by omega) hi
    refine zk_if_eqN hc 24 dX6_wagon_8 (by decide) (by omega) (fun h_1 => ?_) (fun h_1 => ?_)
    · exact absurd h_1 (by decide)
    · refine zk_iload_n hc dX6_wagon_11 2 rfl ?_
      refine zk_if_lt hc 24 dX6_wagon_12 (by decide) (fun hp => ?_) (fun hp => ?_)
      · refine zk_iconst hc ((-1)) dX6_wagon_24 rfl ?_
        refine fin 0 0 _ _ _ _ (by decide) (by decide) dX6_wagon_25 (?_)
        exact ⟨by unfold aWag; rw [if_neg (fun z => z.2.1 hp)], by exact CSt_mk g b u pa pm im fl tx ln fk fp rs a st ds le wg te (u 4) (u 5) (u 6) (u 8) (u 9) (u 10) (u 11) (u 7) (u 12) g1 g2 g3 ah f nx ct hs ax rd fn xi xs RI RS (YRel_g hR) hH hT hI hS⟩
      · refine zk_iload_n hc dX6_wagon_15 3 rfl ?_
        refine zk_iconst hc (nI 0) dX6_wagon_16 rfl ?_
        refine zk_iconst hc (nI 2) dX6_wagon_17 rfl ?_
        refine zk_callSi hc (rest := []) (ct_X6_within g l w (nI 0) (nI 2)) gg_X6_45 cd_X6_within ⟨Nat.le_of_ble_eq_true rfl, Nat.le_of_ble_eq_true rfl⟩ ⟨Nat.le_of_ble_eq_true rfl, Nat.le_of_ble_eq_true rfl⟩ ([]) (CO b (a 0) (ah 0) xi (ax 0) xs rs ++ (TXW g.2.1 ax tx rd ln fn fk fp ++ (HIW g.2.1 g.2.2 ah f nx ct ++ (YW g.2.1 a st ds le wg te (u 4) (u 5) (u 6) (u 8) (u 9) (u 10) (u 11) (u 7) (u 12) g1 g2 g3 ++ (HSW g.2.1 hs 8 ++ (RI ++ (RS))))))) (by simp only [List.append_assoc, List.nil_append]) rfl (Nat.le_of_ble_eq_true rfl) dX6_wagon_18 (fun r W1 hp => ?_)
        obtain ⟨rfl, rfl⟩ := hp
        refine zk_ws (ws2 := CO b (a 0) (ah 0) xi (ax 0) xs rs ++ (TXW g.2.1 ax tx rd ln fn fk fp ++ (HIW g.2.1 g.2.2 ah f nx ct ++ (YW g.2.1 a st ds le wg te (u 4) (u 5) (u 6) (u 8) (u 9) (u 10) (u 11) (u 7) (u 12) g1 g2 g3 ++ (HSW g.2.1 hs 8 ++ (RI ++ (RS))))))) (by simp only [List.append_assoc, List.nil_append]) ?_
        by_cases hq : nI 0 ≤ w ∧ w ≤ nI 2
        · refine zk_top (y := nI 1) (if_pos hq) ?_
          obtain ⟨k, k0, k1, rfl⟩ := rngN (by omega) hq
          refine zk_if_neN hc 26 dX6_wagon_21 (by decide) (by omega) (fun h_2 => ?_) (fun h_2 => ?_)
          · refine zk_iload_n hc dX6_wagon_26 2 rfl ?_
            refine zk_aload_n hc dX6_wagon_27 0 rfl ?_
            refine zk_get hc inlX6 (ci := 6) rfl 0 0 (by decide) mw_1_12 rfl rfl rfl dX6_wagon_28 ?_
            refine zk_get hc inlX5 (ci := 5) rfl 6 11 (by decide) mw_11_12 rfl rfl rfl dX6_wagon_31 ?_
            refine zk_iload_n hc dX6_wagon_34 1 rfl ?_
            refine zk_ialdN hc 9 rfl (by omega) (by decide) dX6_wagon_35 ?_
            refine zk_top (y := nI (mny u t)) (yle hY (by omega)) ?_
            refine zk_icmp_lt hc 42 dX6_wagon_36 (by decide) (fun hx0 => ?_) (fun hx0 => ?_)
            · have hmt := hm t (by omega)
              have hx : ¬ nI (mny u t) ≤ pv := Int32.not_le.mpr hx0
              obtain ⟨j, hj, rfl⟩ := rngL (by omega) (Int32.not_lt.mp hp) hx
              refine zk_aload_n hc dX6_wagon_42 0 rfl ?_
              refine zk_get hc inlX6 (ci := 6) rfl 0 0 (by decide) mw_1_12 rfl rfl rfl dX6_wagon_43 ?_
              refine zk_iload_n hc dX6_wagon_46 1 rfl ?_
              refine zk_iload_n hc dX6_wagon_47 2 rfl ?_
              refine zk_callVi hc (rest := []) (ct_X5_wagonAt g l a u st ds le wg te (u 6) (u 8) (u 9) (u 10) (u 11) (u 7) g1 g2 g3 t j (by omega)) gg_X6_201 cd_X5_wagonAt ⟨Nat.le_of_ble_eq_true rfl, Nat.le_of_ble_eq_true rfl⟩ ⟨Nat.le_of_ble_eq_true rfl, Nat.le_of_ble_eq_true rfl⟩ (CO b (a 0) (ah 0) xi (ax 0) xs rs ++ (TXW g.2.1 ax tx rd ln fn fk fp ++ (HIW g.2.1 g.2.2 ah f nx ct))) (HSW g.2.1 hs 8 ++ (RI ++ (RS))) (by simp only [List.append_assoc, List.nil_append]) 6 rfl rfl rfl (Nat.le_of_ble_eq_true rfl) dX6_wagon_48 (fun r W1 hp => ?_)
              obtain ⟨rfl, rfl⟩ := hp
              refine zk_ws (ws2 := CO b (a 0) (ah 0) xi (ax 0) xs rs ++ (TXW g.2.1 ax tx rd ln fn fk fp ++ (HIW g.2.1 g.2.2 ah f nx ct ++ (YW g.2.1 a st ds le wg te (u 4) (u 5) (u 6) (u 8) (u 9) (u 10) (u 11) (u 7) (u 12) g1 g2 g3 ++ (HSW g.2.1 hs 8 ++ (RI ++ (RS))))))) (by simp only [List.append_assoc, List.nil_append]) ?_
              refine zk_top (y := nI (enc u t j)) (ywg hY (by omega) (by omega)) ?_
              refine zk_istore hc (lv2 := [(4, .int (nI (enc u t j))), (0, .ref b), (1, .int (nI t)), (2, .int (nI j)), (3, .int (nI k))]) dX6_wagon_51 (by decide) rfl ?_
              refine zk_iload_n hc dX6_wagon_53 4 rfl ?_
              rcases (show k = 0 ∨ k = 1 ∨ k = 2 by omega) with rfl | rfl | rfl
              · refine zk_lookup hc 80 dX6_wagon_54 (by decide) rfl (by decide) ?_
                refine zk_iload hc dX6_wagon_80 0 rfl ?_
                refine zk_callSi hc (rest := []) (ct_X6_numberOf g l (enc u t j) (enc_b hG hN (show t < 4 by omega) (show j < 8 by omega)).1) gg_X6_205 cd_X6_numberOf ⟨Nat.le_of_ble_eq_true rfl, Nat.le_of_ble_eq_true rfl⟩ ⟨Nat.le_of_ble_eq_true rfl, Nat.le_of_ble_eq_true rfl⟩ ([]) (CO b (a 0) (ah 0) xi (ax 0) xs rs ++ (TXW g.2.1 ax tx rd ln fn fk fp ++ (HIW g.2.1 g.2.2 ah f nx ct ++ (YW g.2.1 a st ds le wg te (u 4) (u 5) (u 6) (u 8) (u 9) (u 10) (u 11) (u 7) (u 12) g1 g2 g3 ++ (HSW g.2.1 hs 8 ++ (RI ++ (RS))))))) (by simp only [List.append_assoc, List.nil_append]) rfl (Nat.le_of_ble_eq_true rfl) dX6_wagon_82 (fun r W1 hp => ?_)
                obtain ⟨rfl, rfl⟩ := hp
                refine zk_ws (ws2 := CO b (a 0) (ah 0) xi (ax 0) xs rs ++ (TXW g.2.1 ax tx rd ln fn fk fp ++ (HIW g.2.1 g.2.2 ah f nx ct ++ (YW g.2.1 a st ds le wg te (u 4) (u 5) (u 6) (u 8) (u 9) (u 10) (u 11) (u 7) (u 12) g1 g2 g3 ++ (HSW g.2.1 hs 8 ++ (RI ++ (RS))))))) (by simp only [List.append_assoc, List.nil_append]) ?_
                refine zk_top (y := nI (num u t j)) (congrArg nI (enc_n (enc_b hG hN (show t < 4 by omega) (show j < 8 by omega)).2.1 (enc_b hG hN (show t < 4 by omega) (show j < 8 by omega)).2.2)) ?_
                refine fin 0 0 _ _ _ _ (by decide) (by decide) dX6_wagon_85 (?_)
                exact ⟨by unfold aWag; rw [if_pos ⟨hi, hp, hq⟩, tOf_nI (by omega), if_pos hx, tOf_nI (by omega), tOf_nI (by omega)]; rfl, by exact CSt_mk g b u pa pm im fl tx ln fk fp rs a st ds le wg te (u 4) (u 5) (u 6) (u 8) (u 9) (u 10) (u 11) (u 7) (u 12) g1 g2 g3 ah f nx ct hs ax rd fn xi xs RI RS (YRel_g hR) hH hT hI hS⟩
              · refine zk_lookup hc 86 dX6_wagon_54 (by decide) rfl (by decide) ?_
                refine zk_iload hc dX6_wagon_86 0 rfl ?_
                refine zk_callSi hc (rest := []) (ct_X6_destinationOf g l (enc u t j) (enc_b hG hN (show t < 4 by omega) (show j < 8 by omega)).1) gg_X6_208 cd_X6_destinationOf ⟨Nat.le_of_ble_eq_true rfl, Nat.le_of_ble_eq_true rfl⟩ ⟨Nat.le_of_ble_eq_true rfl, Nat.le_of_ble_eq_true rfl⟩ ([]) (CO b (a 0) (ah 0) xi (ax 0) xs rs ++ (TXW g.2.1 ax tx rd ln fn fk fp ++ (HIW g.2.1 g.2.2 ah f nx ct ++ (YW g.2.1 a st ds le wg te (u 4) (u 5) (u 6) (u 8) (u 9) (u 10) (u 11) (u 7) (u 12) g1 g2 g3 ++ (HSW g.2.1 hs 8 ++ (RI ++ (RS))))))) (by simp only [List.append_assoc, List.nil_append]) rfl (Nat.le_of_ble_eq_true rfl) dX6_wagon_88 (fun r W1 hp => ?_)
                obtain ⟨rfl, rfl⟩ := hp
                refine zk_ws (ws2 := CO b (a 0) (ah 0) xi (ax 0) xs rs ++ (TXW g.2.1 ax tx rd ln fn fk fp ++ (HIW g.2.1 g.2.2 ah f nx ct ++ (YW g.2.1 a st ds le wg te (u 4) (u 5) (u 6) (u 8) (u 9) (u 10) (u 11) (u 7) (u 12) g1 g2 g3 ++ (HSW g.2.1 hs 8 ++ (RI ++ (RS))))))) (by simp only [List.append_assoc, List.nil_append]) ?_
                refine zk_top (y := nI (dst u t j)) (congrArg nI (enc_d (enc_b hG hN (show t < 4 by omega) (show j < 8 by omega)).2.1 (enc_b hG hN (show t < 4 by omega) (show j < 8 by omega)).2.2)) ?_
                refine fin 0 0 _ _ _ _ (by decide) (by decide) dX6_wagon_91 (?_)
                exact ⟨by unfold aWag; rw [if_pos ⟨hi, hp, hq⟩, tOf_nI (by omega), if_pos hx, tOf_nI (by omega), tOf_nI (by omega)]; rfl, by exact CSt_mk g b u pa pm im fl tx ln fk fp rs a st ds le wg te (u 4) (u 5) (u 6) (u 8) (u 9) (u 10) (u 11) (u 7) (u 12) g1 g2 g3 ah f nx ct hs ax rd fn xi xs RI RS (YRel_g hR) hH hT hI hS⟩
              · refine zk_lookup hc 92 dX6_wagon_54 (by decide) rfl (by decide) ?_
                refine zk_iload hc dX6_wagon_92 0 rfl ?_
                refine zk_callSi hc (rest := []) (ct_X6_kindOf g l (enc u t j) (enc_b hG hN (show t < 4 by omega) (show j < 8 by omega)).1) gg_X6_211 cd_X6_kindOf ⟨Nat.le_of_ble_eq_true rfl, Nat.le_of_ble_eq_true rfl⟩ ⟨Nat.le_of_ble_eq_true rfl, Nat.le_of_ble_eq_true rfl⟩ ([]) (CO b (a 0) (ah 0) xi (ax 0) xs rs ++ (TXW g.2.1 ax tx rd ln fn fk fp ++ (HIW g.2.1 g.2.2 ah f nx ct ++ (YW g.2.1 a st ds le wg te (u 4) (u 5) (u 6) (u 8) (u 9) (u 10) (u 11) (u 7) (u 12) g1 g2 g3 ++ (HSW g.2.1 hs 8 ++ (RI ++ (RS))))))) (by simp only [List.append_assoc, List.nil_append]) rfl (Nat.le_of_ble_eq_true rfl) dX6_wagon_94 (fun r W1 hp => ?_)
                obtain ⟨rfl, rfl⟩ := hp
                refine zk_ws (ws2 := CO b (a 0) (ah 0) xi (ax 0) xs rs ++ (TXW g.2.1 ax tx rd ln fn fk fp ++ (HIW g.2.1 g.2.2 ah f nx ct ++ (YW g.2.1 a st ds le wg te (u 4) (u 5) (u 6) (u 8) (u 9) (u 10) (u 11) (u 7) (u 12) g1 g2 g3 ++ (HSW g.2.1 hs 8 ++ (RI ++ (RS))))))) (by simp only [List.append_assoc, List.nil_append]) ?_
                refine zk_top (y := nI (knd u t j)) (congrArg nI (enc_k (enc_b hG hN (show t < 4 by omega) (show j < 8 by omega)).2.1)) ?_
                refine fin 0 0 _ _ _ _ (by decide) (by decide) dX6_wagon_97 (?_)
                exact ⟨by unfold aWag; rw [if_pos ⟨hi, hp, hq⟩, tOf_nI (by omega), if_pos hx, tOf_nI (by omega), tOf_nI (by omega)]; rfl, by exact CSt_mk g b u pa pm im fl tx ln fk fp rs a st ds le wg te (u 4) (u 5) (u 6) (u 8) (u 9) (u 10) (u 11) (u 7) (u 12) g1 g2 g3 ah f nx ct hs ax rd fn xi xs RI RS (YRel_g hR) hH hT hI hS⟩
            · have hx : nI (mny u t) ≤ pv := Int32.not_lt.mp hx0
              refine zk_bipush hc ((-9)) dX6_wagon_39 rfl ?_
              refine fin 0 0 _ _ _ _ (by decide) (by decide) dX6_wagon_41 (?_)
              exact ⟨by unfold aWag; rw [if_pos ⟨hi, hp, hq⟩, tOf_nI (by omega), if_neg (not_not_intro hx)], by exact CSt_mk g b u pa pm im fl tx ln fk fp rs a st ds le wg te (u 4) (u 5) (u 6) (u 8) (u 9) (u 10) (u 11) (u 7) (u 12) g1 g2 g3 ah f nx ct hs ax rd fn xi xs RI RS (YRel_g hR) hH hT hI hS⟩
          · exact absurd h_2 (by decide)
        · refine zk_top (y := nI 0) (if_neg hq) ?_
          refine zk_if_neN hc 26 dX6_wagon_21 (by decide) (by omega) (fun h_3 => ?_) (fun h_3 => ?_)
          · exact absurd h_3 (by decide)
          · refine zk_iconst hc ((-1)) dX6_wagon_24 rfl ?_
            refine fin 0 0 _ _ _ _ (by decide) (by decide) dX6_wagon_25 (?_)
            exact ⟨by unfold aWag; rw [if_neg (fun z => hq z.2.2)], by exact CSt_mk g b u pa pm im fl tx ln fk fp rs a st ds le wg te (u 4) (u 5) (u 6) (u 8) (u 9) (u 10) (u 11) (u 7) (u 12) g1 g2 g3 ah f nx ct hs ax rd fn xi xs RI RS (YRel_g hR) hH hT hI hS⟩
  · refine zk_top (y := nI 0) (if_neg hi) ?_
    refine zk_if_eqN hc 24 dX6_wagon_8 (by decide) (by omega) (fun h_4 => ?_) (fun h_4 => ?_)
    · refine zk_iconst hc ((-1)) dX6_wagon_24 rfl ?_
      refine fin 0 0 _ _ _ _ (by decide) (by decide) dX6_wagon_25 (?_)
      exact ⟨by unfold aWag; rw [if_neg (fun z => hi z.1)], by exact CSt_mk g b u pa pm im fl tx ln fk fp rs a st ds le wg te (u 4) (u 5) (u 6) (u 8) (u 9) (u 10) (u 11) (u 7) (u 12) g1 g2 g3 ah f nx ct hs ax rd fn xi xs RI RS (YRel_g hR) hH hT hI hS⟩
    · exact absurd h_4 (by decide)
