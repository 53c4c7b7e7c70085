set_option maxHeartbeats 4000000 in
set_option maxRecDepth 100000 in
theorem cx_X6_find (g : GG) (l : Launch) (b : Nat) (a u st ds le wg : Nat → Nat) (te : Nat → Int32) (g1 g2 g3 : Nat) (ah : Nat → Nat) (f : Nat → Option Nat) (nx ct : Nat) (hs : Nat → Option YT) (ax tx rd : Nat → Nat) (ln fn : Nat) (fk fp rs : Int32) (xi xs : Nat) (RI RS : va_W) (pa : Nat → Nat) (pm : Nat) (im : Nat → Nat) (fl cN : Nat) (hcN : cN ≤ 512) (hW : Wf cN u) (hR : YRel (a, st, ds, le, wg, te, u 4, u 5, u 6, u 8, u 9, u 10, u 11, u 7, u 12, g1, g2, g3) u) (hH : HR hs f nx ct pa pm) (hT : TR tx ln) (hI : IP g xi im fl RI) (hS : SP g xs RS)  (v w : Int32) : CtI g l yX6_find cX6_find 4 (some .int) (rmK 5 0 0) (CO b (a 0) (ah 0) xi (ax 0) xs rs ++ (TXW g.2.1 ax tx rd ln fn fk fp ++ (HIW g.2.1 g.2.2 ah f nx ct ++ (YW g.2.1 a st ds le wg te (u 4) (u 5) (u 6) (u 8) (u 9) (u 10) (u 11) (u 7) (u 12) g1 g2 g3 ++ (HSW g.2.1 hs 8 ++ (RI ++ (RS))))))) [.ref b, .int v, .int w] (fun r W1 => r = aFin u v w ∧ CSt g b (u, pa, pm, im, fl, tx, ln, fk, fp, rs) W1) := by
  refine CtI.go RX6 rfl (by decide +kernel) (Nat.le_of_ble_eq_true rfl) ?_
  intro p e s m args below meth c A H0 Q hc hnm fin
  have hG := wf_GU hW
  have hN := wf_GN hcN hW
  have hY := hR.1
  have hte := hR.2.2.2.2.2.2.2.2.2.2
  obtain ⟨hK4, hC8, hv2, hg3, hm, hdk, h13, h12⟩ := id hG
  have hK2 := hW.1.1
  have hK1 : 1 ≤ u 4 := by omega
  show KW g p l e (rmK 5 0 0) s m args below meth c 4 A H0 0 0 Q (CO b (a 0) (ah 0) xi (ax 0) xs rs ++ (TXW g.2.1 ax tx rd ln fn fk fp ++ (HIW g.2.1 g.2.2 ah f nx ct ++ (YW g.2.1 a st ds le wg te (u 4) (u 5) (u 6) (u 8) (u 9) (u 10) (u 11) (u 7) (u 12) g1 g2 g3 ++ (HSW g.2.1 hs 8 ++ (RI ++ (RS))))))) [(0, .ref b), (1, .int v), (2, .int w)] 0 []
  refine zk_iload_n hc dX6_find_0 1 rfl ?_
  refine zk_if_lt hc 13 dX6_find_1 (by decide) (fun h0 => ?_) (fun h0 => ?_)
  · refine zk_iconst hc ((-1)) dX6_find_13 rfl ?_
    refine fin 0 0 _ _ _ _ (by decide) (by decide) dX6_find_14 (?_)
    exact ⟨by unfold aFin; rw [if_neg (fun z => z.1 h0)], by exact CSt_mk g b u pa pm im fl tx ln fk fp rs a st ds le wg te (u 4) (u 5) (u 6) (u 8) (u 9) (u 10) (u 11) (u 7) (u 12) g1 g2 g3 ah f nx ct hs ax rd fn xi xs RI RS (YRel_g hR) hH hT hI hS⟩
  · refine zk_iload_n hc dX6_find_4 2 rfl ?_
    refine zk_iconst hc (nI 0) dX6_find_5 rfl ?_
    refine zk_iconst hc (nI 1) dX6_find_6 rfl ?_
    refine zk_callSi hc (rest := []) (ct_X6_within g l w (nI 0) (nI 1)) gg_X6_45 cd_X6_within ⟨Nat.le_of_ble_eq_true rfl, Nat.le_of_ble_eq_true rfl⟩ ⟨Nat.le_of_ble_eq_true rfl, Nat.le_of_ble_eq_true rfl⟩ ([]) (CO b (a 0) (ah 0) xi (ax 0) xs rs ++ (TXW g.2.1 ax tx rd ln fn fk fp ++ (HIW g.2.1 g.2.2 ah f nx ct ++ (YW g.2.1 a st ds le wg te (u 4) (u 5) (u 6) (u 8) (u 9) (u 10) (u 11) (u 7) (u 12) g1 g2 g3 ++ (HSW g.2.1 hs 8 ++ (RI ++ (RS))))))) (by simp only [List.append_assoc, List.nil_append]) rfl (Nat.le_of_ble_eq_true rfl) dX6_find_7 (fun r W1 hp => ?_)
    obtain ⟨rfl, rfl⟩ := hp
    refine zk_ws (ws2 := CO b (a 0) (ah 0) xi (ax 0) xs rs ++ (TXW g.2.1 ax tx rd ln fn fk fp ++ (HIW g.2.1 g.2.2 ah f nx ct ++ (YW g.2.1 a st ds le wg te (u 4) (u 5) (u 6) (u 8) (u 9) (u 10) (u 11) (u 7) (u 12) g1 g2 g3 ++ (HSW g.2.1 hs 8 ++ (RI ++ (RS))))))) (by simp only [List.append_assoc, List.nil_append]) ?_
    by_cases hi : nI 0 ≤ w ∧ w ≤ nI 1
    · refine zk_top (y := nI 1) (if_pos hi) ?_
      obtain ⟨k, k0, k1, rfl⟩ := rngN (by omega) hi
      refine zk_if_neN hc 15 dX6_find_10 (by decide) (by omega) (fun h_1 => ?_) (fun h_1 => ?_)
      · rcases hf : fnT u v (u 4) with _ | z
        · skip
          refine zk_aload_n hc dX6_find_15 0 rfl ?_
          refine zk_get hc inlX6 (ci := 6) rfl 0 0 (by decide) mw_1_12 rfl rfl rfl dX6_find_16 ?_
          refine zk_iload_n hc dX6_find_19 1 rfl ?_
          refine zk_callVi hc (rest := []) (ct_X5_spotOf g l a u st ds le wg te (u 6) (u 8) (u 9) (u 10) (u 11) (u 7) g1 g2 g3 hY hG hN v) gg_X6_217 cd_X5_spotOf ⟨Nat.le_of_ble_eq_true rfl, Nat.le_of_ble_eq_true rfl⟩ ⟨Nat.le_of_ble_eq_true rfl, Nat.le_of_ble_eq_true rfl⟩ (CO b (a 0) (ah 0) xi (ax 0) xs rs ++ (TXW g.2.1 ax tx rd ln fn fk fp ++ (HIW g.2.1 g.2.2 ah f nx ct))) (HSW g.2.1 hs 8 ++ (RI ++ (RS))) (by simp only [List.append_assoc, List.nil_append]) 6 rfl rfl rfl (Nat.le_of_ble_eq_true rfl) dX6_find_20 (fun r W1 hp => ?_)
          obtain ⟨rfl, rfl⟩ := hp
          refine zk_ws (ws2 := CO b (a 0) (ah 0) xi (ax 0) xs rs ++ (TXW g.2.1 ax tx rd ln fn fk fp ++ (HIW g.2.1 g.2.2 ah f nx ct ++ (YW g.2.1 a st ds le wg te (u 4) (u 5) (u 6) (u 8) (u 9) (u 10) (u 11) (u 7) (u 12) g1 g2 g3 ++ (HSW g.2.1 hs 8 ++ (RI ++ (RS))))))) (by simp only [List.append_assoc, List.nil_append]) ?_
          refine zk_top (y := (-9)) (by rw [hf]) ?_
          refine zk_istore_n hc (lv2 := [(3, .int (-9)), (0, .ref b), (1, .int v), (2, .int (nI k))]) dX6_find_23 (by decide) rfl ?_
          refine zk_iload_n hc dX6_find_24 0 rfl ?_
          refine zk_bipush hc ((-9)) dX6_find_25 rfl ?_
          refine zk_icmp_ne hc 33 dX6_find_27 (by decide) (fun h27 => ?_) (fun h27 => ?_)
          · exact absurd rfl h27
          · refine zk_bipush hc ((-9)) dX6_find_30 rfl ?_
            refine fin 0 0 _ _ _ _ (by decide) (by decide) dX6_find_32 (?_)
            exact ⟨by unfold aFin; rw [if_pos ⟨h0, hi⟩, hf], by exact CSt_mk g b u pa pm im fl tx ln fk fp rs a st ds le wg te (u 4) (u 5) (u 6) (u 8) (u 9) (u 10) (u 11) (u 7) (u 12) g1 g2 g3 ah f nx ct hs ax rd fn xi xs RI RS (YRel_g hR) hH hT hI hS⟩
        · have hfb := fnT_b hf
          have hmz := hm z.1 (by omega)
          refine zk_aload_n hc dX6_find_15 0 rfl ?_
          refine zk_get hc inlX6 (ci := 6) rfl 0 0 (by decide) mw_1_12 rfl rfl rfl dX6_find_16 ?_
          refine zk_iload_n hc dX6_find_19 1 rfl ?_
          refine zk_callVi hc (rest := []) (ct_X5_spotOf g l a u st ds le wg te (u 6) (u 8) (u 9) (u 10) (u 11) (u 7) g1 g2 g3 hY hG hN v) gg_X6_217 cd_X5_spotOf ⟨Nat.le_of_ble_eq_true rfl, Nat.le_of_ble_eq_true rfl⟩ ⟨Nat.le_of_ble_eq_true rfl, Nat.le_of_ble_eq_true rfl⟩ (CO b (a 0) (ah 0) xi (ax 0) xs rs ++ (TXW g.2.1 ax tx rd ln fn fk fp ++ (HIW g.2.1 g.2.2 ah f nx ct))) (HSW g.2.1 hs 8 ++ (RI ++ (RS))) (by simp only [List.append_assoc, List.nil_append]) 6 rfl rfl rfl (Nat.le_of_ble_eq_true rfl) dX6_find_20 (fun r W1 hp => ?_)
          obtain ⟨rfl, rfl⟩ := hp
          refine zk_ws (ws2 := CO b (a 0) (ah 0) xi (ax 0) xs rs ++ (TXW g.2.1 ax tx rd ln fn fk fp ++ (HIW g.2.1 g.2.2 ah f nx ct ++ (YW g.2.1 a st ds le wg te (u 4) (u 5) (u 6) (u 8) (u 9) (u 10) (u 11) (u 7) (u 12) g1 g2 g3 ++ (HSW g.2.1 hs 8 ++ (RI ++ (RS))))))) (by simp only [List.append_assoc, List.nil_append]) ?_
          refine zk_top (y := nI (z.1 * 8 + z.2)) (by rw [hf]) ?_
          refine zk_istore_n hc (lv2 := [(3, .int (nI (z.1 * 8 + z.2))), (0, .ref b), (1, .int v), (2, .int (nI k))]) dX6_find_23 (by decide) rfl ?_
          refine zk_iload_n hc dX6_find_24 0 rfl ?_
          refine zk_bipush hc ((-9)) dX6_find_25 rfl ?_
          refine zk_icmp_ne hc 33 dX6_find_27 (by decide) (fun h27 => ?_) (fun h27 => ?_)
          · refine zk_iload_n hc dX6_find_33 3 rfl ?_
            refine zk_if_neN hc 44 dX6_find_34 (by decide) (by omega) (fun hk0 => ?_) (fun hk0 => ?_)
            · refine zk_iload_n hc dX6_find_44 0 rfl ?_
              refine zk_bipush hc (nI 8) dX6_find_45 rfl ?_
              refine zk_iremN hc dX6_find_47 (by omega) (by omega) (by omega) ?_
              refine zk_top (y := nI z.2) (congrArg nI (by omega)) ?_
              refine fin 0 0 _ _ _ _ (by decide) (by decide) dX6_find_48 (?_)
              exact ⟨by unfold aFin; rw [if_pos ⟨h0, hi⟩, hf]; show _ = if nI k = 0 then nI z.1 else nI z.2; rw [if_neg (fun y => hk0 ((nq_eq0 (by omega)).mp y))], by exact CSt_mk g b u pa pm im fl tx ln fk fp rs a st ds le wg te (u 4) (u 5) (u 6) (u 8) (u 9) (u 10) (u 11) (u 7) (u 12) g1 g2 g3 ah f nx ct hs ax rd fn xi xs RI RS (YRel_g hR) hH hT hI hS⟩
            · refine zk_iload_n hc dX6_find_37 0 rfl ?_
              refine zk_bipush hc (nI 8) dX6_find_38 rfl ?_
              refine zk_idivN hc dX6_find_40 (by omega) (by omega) (by omega) ?_
              refine zk_top (y := nI z.1) (congrArg nI (by omega)) ?_
              refine zk_goto hc 48 dX6_find_41 (by decide) ?_
              refine fin 0 0 _ _ _ _ (by decide) (by decide) dX6_find_48 (?_)
              exact ⟨by unfold aFin; rw [if_pos ⟨h0, hi⟩, hf]; show _ = if nI k = 0 then nI z.1 else nI z.2; rw [if_pos (by rw [hk0]; rfl)], by exact CSt_mk g b u pa pm im fl tx ln fk fp rs a st ds le wg te (u 4) (u 5) (u 6) (u 8) (u 9) (u 10) (u 11) (u 7) (u 12) g1 g2 g3 ah f nx ct hs ax rd fn xi xs RI RS (YRel_g hR) hH hT hI hS⟩
          · exact absurd h27 (nI_m9 (by omega))
      · exact absurd h_1 (by decide)
    · refine zk_top (y := nI 0) (if_neg hi) ?_
      refine zk_if_neN hc 15 dX6_find_10 (by decide) (by omega) (fun h_2 => ?_) (fun h_2 => ?_)
      · exact absurd h_2 (by decide)
      · refine zk_iconst hc ((-1)) dX6_find_13 rfl ?_
        refine fin 0 0 _ _ _ _ (by decide) (by decide) dX6_find_14 (?_)
        exact ⟨by unfold aFin; rw [if_neg (fun z => hi z.2)], by exact CSt_mk g b u pa pm im fl tx ln fk fp rs a st ds le wg te (u 4) (u 5) (u 6) (u 8) (u 9) (u 10) (u 11) (u 7) (u 12) g1 g2 g3 ah f nx ct hs ax rd fn xi xs RI RS (YRel_g hR) hH hT hI hS⟩
