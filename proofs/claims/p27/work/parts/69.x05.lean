set_option maxHeartbeats 4000000 in
set_option maxRecDepth 100000 in
theorem cx_X6_begin (g : GG) (l : Launch) (b : Nat) (a u st ds le wg : Nat → Nat) (te : Nat → Int32) (g1 g2 g3 : Nat) (ah : Nat → Nat) (f : Nat → Option Nat) (nx ct : Nat) (hs : Nat → Option YT) (ax tx rd : Nat → Nat) (ln fn : Nat) (fk fp rs : Int32) (xi xs : Nat) (RI RS : va_W) (pa : Nat → Nat) (pm : Nat) (im : Nat → Nat) (fl cN : Nat) (hcN : cN ≤ 512) (hW : Wf cN u) (hR : YRel (a, st, ds, le, wg, te, u 4, u 5, u 6, u 8, u 9, u 10, u 11, u 7, u 12, g1, g2, g3) u) (hH : HR hs f nx ct pa pm) (hT : TR tx ln) (hI : IP g xi im fl RI) (hS : SP g xs RS)  (v w : Int32) : CtI g l yX6_begin cX6_begin 4 (some .int) (rmK 5 7 72) (CO b (a 0) (ah 0) xi (ax 0) xs rs ++ (TXW g.2.1 ax tx rd ln fn fk fp ++ (HIW g.2.1 g.2.2 ah f nx ct ++ (YW g.2.1 a st ds le wg te (u 4) (u 5) (u 6) (u 8) (u 9) (u 10) (u 11) (u 7) (u 12) g1 g2 g3 ++ (HSW g.2.1 hs 8 ++ (RI ++ (RS))))))) [.ref b, .int v, .int w] (fun r W1 => r = aBeg u v w ∧ CSt g b (nBeg (u, pa, pm, im, fl, tx, ln, fk, fp, rs) v w) W1) := by
  refine CtI.go RX6 rfl (by decide +kernel) (Nat.le_of_ble_eq_true rfl) ?_
  intro p e s m args below meth c A H0 Q hc hnm fin
  have hG := wf_GU hW
  have hN := wf_GN hcN hW
  have hY := hR.1
  have hte := hR.2.2.2.2.2.2.2.2.2.2
  obtain ⟨hK4, hC8, hv2, hg3, hm, hdk, h13, h12⟩ := id hG
  have hK2 := hW.1.1
  have hK1 : 1 ≤ u 4 := by omega
  show KW g p l e (rmK 5 7 72) s m args below meth c 4 A H0 0 0 Q (CO b (a 0) (ah 0) xi (ax 0) xs rs ++ (TXW g.2.1 ax tx rd ln fn fk fp ++ (HIW g.2.1 g.2.2 ah f nx ct ++ (YW g.2.1 a st ds le wg te (u 4) (u 5) (u 6) (u 8) (u 9) (u 10) (u 11) (u 7) (u 12) g1 g2 g3 ++ (HSW g.2.1 hs 8 ++ (RI ++ (RS))))))) [(0, .ref b), (1, .int v), (2, .int w)] 0 []
  refine zk_iload_n hc dX6_begin_0 1 rfl ?_
  refine zk_iconst hc (nI 2) dX6_begin_1 rfl ?_
  refine zk_iconst hc (nI 4) dX6_begin_2 rfl ?_
  refine zk_callSi hc (rest := []) (ct_X6_within g l v (nI 2) (nI 4)) gg_X6_45 cd_X6_within ⟨Nat.le_of_ble_eq_true rfl, Nat.le_of_ble_eq_true rfl⟩ ⟨Nat.le_of_ble_eq_true rfl, Nat.le_of_ble_eq_true rfl⟩ ([]) (CO b (a 0) (ah 0) xi (ax 0) xs rs ++ (TXW g.2.1 ax tx rd ln fn fk fp ++ (HIW g.2.1 g.2.2 ah f nx ct ++ (YW g.2.1 a st ds le wg te (u 4) (u 5) (u 6) (u 8) (u 9) (u 10) (u 11) (u 7) (u 12) g1 g2 g3 ++ (HSW g.2.1 hs 8 ++ (RI ++ (RS))))))) (by simp only [List.append_assoc, List.nil_append]) rfl (Nat.le_of_ble_eq_true rfl) dX6_begin_3 (fun r W1 hp => ?_)
  obtain ⟨rfl, rfl⟩ := hp
  refine zk_ws (ws2 := CO b (a 0) (ah 0) xi (ax 0) xs rs ++ (TXW g.2.1 ax tx rd ln fn fk fp ++ (HIW g.2.1 g.2.2 ah f nx ct ++ (YW g.2.1 a st ds le wg te (u 4) (u 5) (u 6) (u 8) (u 9) (u 10) (u 11) (u 7) (u 12) g1 g2 g3 ++ (HSW g.2.1 hs 8 ++ (RI ++ (RS))))))) (by simp only [List.append_assoc, List.nil_append]) ?_
  by_cases h1 : nI 2 ≤ v ∧ v ≤ nI 4
  · refine zk_top (y := nI 1) (if_pos h1) ?_
    obtain ⟨k, k0, k1, rfl⟩ := rngN (by omega) h1
    refine zk_if_eqN hc 19 dX6_begin_6 (by decide) (by omega) (fun h_1 => ?_) (fun h_1 => ?_)
    · exact absurd h_1 (by decide)
    · refine zk_iload_n hc dX6_begin_9 2 rfl ?_
      refine zk_iconst hc (nI 1) dX6_begin_10 rfl ?_
      refine zk_bipush hc (nI 8) dX6_begin_11 rfl ?_
      refine zk_callSi hc (rest := []) (ct_X6_within g l w (nI 1) (nI 8)) gg_X6_45 cd_X6_within ⟨Nat.le_of_ble_eq_true rfl, Nat.le_of_ble_eq_true rfl⟩ ⟨Nat.le_of_ble_eq_true rfl, Nat.le_of_ble_eq_true rfl⟩ ([]) (CO b (a 0) (ah 0) xi (ax 0) xs rs ++ (TXW g.2.1 ax tx rd ln fn fk fp ++ (HIW g.2.1 g.2.2 ah f nx ct ++ (YW g.2.1 a st ds le wg te (u 4) (u 5) (u 6) (u 8) (u 9) (u 10) (u 11) (u 7) (u 12) g1 g2 g3 ++ (HSW g.2.1 hs 8 ++ (RI ++ (RS))))))) (by simp only [List.append_assoc, List.nil_append]) rfl (Nat.le_of_ble_eq_true rfl) dX6_begin_13 (fun r W1 hp => ?_)
      obtain ⟨rfl, rfl⟩ := hp
      refine zk_ws (ws2 := CO b (a 0) (ah 0) xi (ax 0) xs rs ++ (TXW g.2.1 ax tx rd ln fn fk fp ++ (HIW g.2.1 g.2.2 ah f nx ct ++ (YW g.2.1 a st ds le wg te (u 4) (u 5) (u 6) (u 8) (u 9) (u 10) (u 11) (u 7) (u 12) g1 g2 g3 ++ (HSW g.2.1 hs 8 ++ (RI ++ (RS))))))) (by simp only [List.append_assoc, List.nil_append]) ?_
      by_cases h2 : nI 1 ≤ w ∧ w ≤ nI 8
      · refine zk_top (y := nI 1) (if_pos h2) ?_
        obtain ⟨c, c0, c1, rfl⟩ := rngN (by omega) h2
        refine zk_if_neN hc 21 dX6_begin_16 (by decide) (by omega) (fun h_2 => ?_) (fun h_2 => ?_)
        · refine zk_aload_n hc dX6_begin_21 0 rfl ?_
          refine zk_get hc inlX6 (ci := 6) rfl 0 0 (by decide) mw_1_12 rfl rfl rfl dX6_begin_22 ?_
          refine zk_callVi hc (rest := []) (ct_X5_wagonsInYard g l a u st ds le wg te (u 6) (u 8) (u 9) (u 10) (u 11) (u 7) g1 g2 g3 hY hG hN) gg_X6_49 cd_X5_wagonsInYard ⟨Nat.le_of_ble_eq_true rfl, Nat.le_of_ble_eq_true rfl⟩ ⟨Nat.le_of_ble_eq_true rfl, Nat.le_of_ble_eq_true rfl⟩ (CO b (a 0) (ah 0) xi (ax 0) xs rs ++ (TXW g.2.1 ax tx rd ln fn fk fp ++ (HIW g.2.1 g.2.2 ah f nx ct))) (HSW g.2.1 hs 8 ++ (RI ++ (RS))) (by simp only [List.append_assoc, List.nil_append]) 6 rfl rfl rfl (Nat.le_of_ble_eq_true rfl) dX6_begin_25 (fun r W1 hp => ?_)
          obtain ⟨rfl, rfl⟩ := hp
          refine zk_ws (ws2 := CO b (a 0) (ah 0) xi (ax 0) xs rs ++ (TXW g.2.1 ax tx rd ln fn fk fp ++ (HIW g.2.1 g.2.2 ah f nx ct ++ (YW g.2.1 a st ds le wg te (u 4) (u 5) (u 6) (u 8) (u 9) (u 10) (u 11) (u 7) (u 12) g1 g2 g3 ++ (HSW g.2.1 hs 8 ++ (RI ++ (RS))))))) (by simp only [List.append_assoc, List.nil_append]) ?_
          refine zk_istore_n hc (lv2 := [(3, .int (nI (wgs u (u 4)))), (0, .ref b), (1, .int (nI k)), (2, .int (nI c))]) dX6_begin_28 (by decide) rfl ?_
          refine zk_aload_n hc dX6_begin_29 1 rfl ?_
          refine zk_get hc inlX6 (ci := 6) rfl 0 1 (by decide) mw_1_16 rfl rfl rfl dX6_begin_30 ?_
          refine zk_aload_n hc dX6_begin_33 1 rfl ?_
          refine zk_get hc inlX6 (ci := 6) rfl 0 0 (by decide) mw_1_12 rfl rfl rfl dX6_begin_34 ?_
          refine zk_callVv hc (rest := []) (ct_X1_add g l ah a f hs nx ct u st ds le wg te (u 6) (u 8) (u 9) (u 10) (u 11) (u 7) g1 g2 g3 pa pm hH hG (YRel_g hR)) gg_X6_53 cd_X1_add ⟨Nat.le_of_ble_eq_true rfl, Nat.le_of_ble_eq_true rfl⟩ ⟨Nat.le_of_ble_eq_true rfl, Nat.le_of_ble_eq_true rfl⟩ (CO b (a 0) (ah 0) xi (ax 0) xs rs ++ (TXW g.2.1 ax tx rd ln fn fk fp)) (RI ++ (RS)) (by simp only [List.append_assoc, List.nil_append]) 4 rfl rfl rfl (Nat.le_of_ble_eq_true rfl) dX6_begin_37 (fun W1 hp => ?_)
          obtain ⟨f2, hs2, rfl, hf2, hs2o, y2, hs2n, hy2⟩ := hp
          have hH2 := HR_add hH hf2 hs2o hs2n hG hy2
          refine zk_ws (ws2 := CO b (a 0) (ah 0) xi (ax 0) xs rs ++ (TXW g.2.1 ax tx rd ln fn fk fp ++ (HIW g.2.1 g.2.2 ah f2 ((nx + 1) % 8) (Nat.min (ct + 1) 8) ++ (YW g.2.1 a st ds le wg te (u 4) (u 5) (u 6) (u 8) (u 9) (u 10) (u 11) (u 7) (u 12) g1 g2 g3 ++ (HSW g.2.1 hs2 8 ++ (RI ++ (RS))))))) (by simp only [List.append_assoc, List.nil_append]) ?_
          refine zk_aload_n hc dX6_begin_40 1 rfl ?_
          refine zk_get hc inlX6 (ci := 6) rfl 0 0 (by decide) mw_1_12 rfl rfl rfl dX6_begin_41 ?_
          refine zk_iload_n hc dX6_begin_44 2 rfl ?_
          refine zk_iload_n hc dX6_begin_45 3 rfl ?_
          refine zk_callVv hc (rest := []) (ct_X5_restart g l a st ds le wg te (u 4) (u 5) (u 6) (u 8) (u 9) (u 10) (u 11) (u 7) (u 12) g1 g2 g3 k c) gg_X6_57 cd_X5_restart ⟨Nat.le_of_ble_eq_true rfl, Nat.le_of_ble_eq_true rfl⟩ ⟨Nat.le_of_ble_eq_true rfl, Nat.le_of_ble_eq_true rfl⟩ (CO b (a 0) (ah 0) xi (ax 0) xs rs ++ (TXW g.2.1 ax tx rd ln fn fk fp ++ (HIW g.2.1 g.2.2 ah f2 ((nx + 1) % 8) (Nat.min (ct + 1) 8)))) (HSW g.2.1 hs2 8 ++ (RI ++ (RS))) (by simp only [List.append_assoc, List.nil_append]) 6 rfl rfl rfl (Nat.le_of_ble_eq_true rfl) dX6_begin_46 (fun W1 hp => ?_)
          obtain rfl := hp
          refine zk_ws (ws2 := CO b (a 0) (ah 0) xi (ax 0) xs rs ++ (TXW g.2.1 ax tx rd ln fn fk fp ++ (HIW g.2.1 g.2.2 ah f2 ((nx + 1) % 8) (Nat.min (ct + 1) 8) ++ (YW g.2.1 a st ds (fun j => if j < 4 then 0 else le j) wg (fun j => if j < 4 then (-1) else te j) k c 0 0 0 0 0 0 0 g1 g2 g3 ++ (HSW g.2.1 hs2 8 ++ (RI ++ (RS))))))) (by simp only [List.append_assoc, List.nil_append]) ?_
          refine zk_iload_n hc dX6_begin_49 0 rfl ?_
          refine fin 7 72 _ _ _ _ (by decide) (by decide) dX6_begin_50 (?_)
          exact ⟨by unfold aBeg; rw [if_pos ⟨h1, h2⟩], by unfold nBeg; rw [if_pos ⟨h1, h2⟩, tOf_nI (by omega), tOf_nI (by omega)]; exact CSt_mk g b (begF u k c) (remP u pa pm) (remN pm) im fl tx ln fk fp rs a st ds (fun j => if j < 4 then 0 else le j) wg (fun j => if j < 4 then (-1) else te j) k c 0 0 0 0 0 0 0 g1 g2 g3 ah f2 ((nx + 1) % 8) (Nat.min (ct + 1) 8) hs2 ax rd fn xi xs RI RS (YRel_g (YRel_beg (by omega) hR)) hH2 hT hI hS⟩
        · exact absurd h_2 (by decide)
      · refine zk_top (y := nI 0) (if_neg h2) ?_
        refine zk_if_neN hc 21 dX6_begin_16 (by decide) (by omega) (fun h_3 => ?_) (fun h_3 => ?_)
        · exact absurd h_3 (by decide)
        · refine zk_iconst hc ((-1)) dX6_begin_19 rfl ?_
          refine fin 0 0 _ _ _ _ (by decide) (by decide) dX6_begin_20 (?_)
          exact ⟨by unfold aBeg; rw [if_neg (fun z => h2 z.2)], by unfold nBeg; rw [if_neg (fun z => h2 z.2)]; exact CSt_mk g b u pa pm im fl tx ln fk fp rs a st ds le wg te (u 4) (u 5) (u 6) (u 8) (u 9) (u 10) (u 11) (u 7) (u 12) g1 g2 g3 ah f nx ct hs ax rd fn xi xs RI RS (YRel_g hR) hH hT hI hS⟩
  · refine zk_top (y := nI 0) (if_neg h1) ?_
    refine zk_if_eqN hc 19 dX6_begin_6 (by decide) (by omega) (fun h_4 => ?_) (fun h_4 => ?_)
    · refine zk_iconst hc ((-1)) dX6_begin_19 rfl ?_
      refine fin 0 0 _ _ _ _ (by decide) (by decide) dX6_begin_20 (?_)
      exact ⟨by unfold aBeg; rw [if_neg (fun z => h1 z.1)], by unfold nBeg; rw [if_neg (fun z => h1 z.1)]; exact CSt_mk g b u pa pm im fl tx ln fk fp rs a st ds le wg te (u 4) (u 5) (u 6) (u 8) (u 9) (u 10) (u 11) (u 7) (u 12) g1 g2 g3 ah f nx ct hs ax rd fn xi xs RI RS (YRel_g hR) hH hT hI hS⟩
    · exact absurd h_4 (by decide)

set_option maxHeartbeats 4000000 in
set_option maxRecDepth 100000 in
theorem cx_X6_set (g : GG) (l : Launch) (b : Nat) (a u st ds le wg : Nat → Nat) (te : Nat → Int32) (g1 g2 g3 : Nat) (ah : Nat → Nat) (f : Nat → Option Nat) (nx ct : Nat) (hs : Nat → Option YT) (ax tx rd : Nat → Nat) (ln fn : Nat) (fk fp rs : Int32) (xi xs : Nat) (RI RS : va_W) (pa : Nat → Nat) (pm : Nat) (im : Nat → Nat) (fl cN : Nat) (hcN : cN ≤ 512) (hW : Wf cN u) (hR : YRel (a, st, ds, le, wg, te, u 4, u 5, u 6, u 8, u 9, u 10, u 11, u 7, u 12, g1, g2, g3) u) (hH : HR hs f nx ct pa pm) (hT : TR tx ln) (hI : IP g xi im fl RI) (hS : SP g xs RS)  (v w : Int32) : CtI g l yX6_set cX6_set 4 (some .int) (rmK 5 7 72) (CO b (a 0) (ah 0) xi (ax 0) xs rs ++ (TXW g.2.1 ax tx rd ln fn fk fp ++ (HIW g.2.1 g.2.2 ah f nx ct ++ (YW g.2.1 a st ds le wg te (u 4) (u 5) (u 6) (u 8) (u 9) (u 10) (u 11) (u 7) (u 12) g1 g2 g3 ++ (HSW g.2.1 hs 8 ++ (RI ++ (RS))))))) [.ref b, .int v, .int w] (fun r W1 => r = aSet u v w ∧ CSt g b (nSet (u, pa, pm, im, fl, tx, ln, fk, fp, rs) v w) W1) := by
  refine CtI.go RX6 rfl (by decide +kernel) (Nat.le_of_ble_eq_true rfl) ?_
  intro p e s m args below meth c A H0 Q hc hnm fin
  have hG := wf_GU hW
  have hN := wf_GN hcN hW
  have hY := hR.1
  have hte := hR.2.2.2.2.2.2.2.2.2.2
  obtain ⟨hK4, hC8, hv2, hg3, hm, hdk, h13, h12⟩ := id hG
  have hK2 := hW.1.1
  have hK1 : 1 ≤ u 4 := by omega
  show KW g p l e (rmK 5 7 72) s m args below meth c 4 A H0 0 0 Q (CO b (a 0) (ah 0) xi (ax 0) xs rs ++ (TXW g.2.1 ax tx rd ln fn fk fp ++ (HIW g.2.1 g.2.2 ah f nx ct ++ (YW g.2.1 a st ds le wg te (u 4) (u 5) (u 6) (u 8) (u 9) (u 10) (u 11) (u 7) (u 12) g1 g2 g3 ++ (HSW g.2.1 hs 8 ++ (RI ++ (RS))))))) [(0, .ref b), (1, .int v), (2, .int w)] 0 []
  refine zk_iload_n hc dX6_set_0 1 rfl ?_
  refine zk_callSi hc (rest := []) (ct_X6_isSetting g l v) gg_X6_61 cd_X6_isSetting ⟨Nat.le_of_ble_eq_true rfl, Nat.le_of_ble_eq_true rfl⟩ ⟨Nat.le_of_ble_eq_true rfl, Nat.le_of_ble_eq_true rfl⟩ ([]) (CO b (a 0) (ah 0) xi (ax 0) xs rs ++ (TXW g.2.1 ax tx rd ln fn fk fp ++ (HIW g.2.1 g.2.2 ah f nx ct ++ (YW g.2.1 a st ds le wg te (u 4) (u 5) (u 6) (u 8) (u 9) (u 10) (u 11) (u 7) (u 12) g1 g2 g3 ++ (HSW g.2.1 hs 8 ++ (RI ++ (RS))))))) (by simp only [List.append_assoc, List.nil_append]) rfl (Nat.le_of_ble_eq_true rfl) dX6_set_1 (fun r W1 hp => ?_)
  obtain ⟨rfl, rfl⟩ := hp
  refine zk_ws (ws2 := CO b (a 0) (ah 0) xi (ax 0) xs rs ++ (TXW g.2.1 ax tx rd ln fn fk fp ++ (HIW g.2.1 g.2.2 ah f nx ct ++ (YW g.2.1 a st ds le wg te (u 4) (u 5) (u 6) (u 8) (u 9) (u 10) (u 11) (u 7) (u 12) g1 g2 g3 ++ (HSW g.2.1 hs 8 ++ (RI ++ (RS))))))) (by simp only [List.append_assoc, List.nil_append]) ?_
  by_cases h1 : nI 0 ≤ v ∧ v ≤ nI 3
  · refine zk_top (y := nI 1) (if_pos h1) ?_
    obtain ⟨k, k0, k1, rfl⟩ := rngN (by omega) h1
    refine zk_if_eqN hc 22 dX6_set_4 (by decide) (by omega) (fun h_1 => ?_) (fun h_1 => ?_)
    · exact absurd h_1 (by decide)
    · refine zk_iload_n hc dX6_set_7 2 rfl ?_
      refine zk_iload_n hc dX6_set_8 1 rfl ?_
      refine zk_callSi hc (rest := [.int w]) (ct_X6_leastOf g l k (by omega)) gg_X6_65 cd_X6_leastOf ⟨Nat.le_of_ble_eq_true rfl, Nat.le_of_ble_eq_true rfl⟩ ⟨Nat.le_of_ble_eq_true rfl, Nat.le_of_ble_eq_true rfl⟩ ([]) (CO b (a 0) (ah 0) xi (ax 0) xs rs ++ (TXW g.2.1 ax tx rd ln fn fk fp ++ (HIW g.2.1 g.2.2 ah f nx ct ++ (YW g.2.1 a st ds le wg te (u 4) (u 5) (u 6) (u 8) (u 9) (u 10) (u 11) (u 7) (u 12) g1 g2 g3 ++ (HSW g.2.1 hs 8 ++ (RI ++ (RS))))))) (by simp only [List.append_assoc, List.nil_append]) rfl (Nat.le_of_ble_eq_true rfl) dX6_set_9 (fun r W1 hp => ?_)
      obtain ⟨rfl, rfl⟩ := hp
      refine zk_ws (ws2 := CO b (a 0) (ah 0) xi (ax 0) xs rs ++ (TXW g.2.1 ax tx rd ln fn fk fp ++ (HIW g.2.1 g.2.2 ah f nx ct ++ (YW g.2.1 a st ds le wg te (u 4) (u 5) (u 6) (u 8) (u 9) (u 10) (u 11) (u 7) (u 12) g1 g2 g3 ++ (HSW g.2.1 hs 8 ++ (RI ++ (RS))))))) (by simp only [List.append_assoc, List.nil_append]) ?_
      refine zk_iload_n hc dX6_set_12 1 rfl ?_
      refine zk_callSi hc (rest := [.int (nI (lsO k)), .int w]) (ct_X6_greatestOf g l k (by omega)) gg_X6_69 cd_X6_greatestOf ⟨Nat.le_of_ble_eq_true rfl, Nat.le_of_ble_eq_true rfl⟩ ⟨Nat.le_of_ble_eq_true rfl, Nat.le_of_ble_eq_true rfl⟩ ([]) (CO b (a 0) (ah 0) xi (ax 0) xs rs ++ (TXW g.2.1 ax tx rd ln fn fk fp ++ (HIW g.2.1 g.2.2 ah f nx ct ++ (YW g.2.1 a st ds le wg te (u 4) (u 5) (u 6) (u 8) (u 9) (u 10) (u 11) (u 7) (u 12) g1 g2 g3 ++ (HSW g.2.1 hs 8 ++ (RI ++ (RS))))))) (by simp only [List.append_assoc, List.nil_append]) rfl (Nat.le_of_ble_eq_true rfl) dX6_set_13 (fun r W1 hp => ?_)
      obtain ⟨rfl, rfl⟩ := hp
      refine zk_ws (ws2 := CO b (a 0) (ah 0) xi (ax 0) xs rs ++ (TXW g.2.1 ax tx rd ln fn fk fp ++ (HIW g.2.1 g.2.2 ah f nx ct ++ (YW g.2.1 a st ds le wg te (u 4) (u 5) (u 6) (u 8) (u 9) (u 10) (u 11) (u 7) (u 12) g1 g2 g3 ++ (HSW g.2.1 hs 8 ++ (RI ++ (RS))))))) (by simp only [List.append_assoc, List.nil_append]) ?_
      refine zk_callSi hc (rest := []) (ct_X6_within g l w (nI (lsO k)) (nI (grO k))) gg_X6_45 cd_X6_within ⟨Nat.le_of_ble_eq_true rfl, Nat.le_of_ble_eq_true rfl⟩ ⟨Nat.le_of_ble_eq_true rfl, Nat.le_of_ble_eq_true rfl⟩ ([]) (CO b (a 0) (ah 0) xi (ax 0) xs rs ++ (TXW g.2.1 ax tx rd ln fn fk fp ++ (HIW g.2.1 g.2.2 ah f nx ct ++ (YW g.2.1 a st ds le wg te (u 4) (u 5) (u 6) (u 8) (u 9) (u 10) (u 11) (u 7) (u 12) g1 g2 g3 ++ (HSW g.2.1 hs 8 ++ (RI ++ (RS))))))) (by simp only [List.append_assoc, List.nil_append]) rfl (Nat.le_of_ble_eq_true rfl) dX6_set_16 (fun r W1 hp => ?_)
      obtain ⟨rfl, rfl⟩ := hp
      refine zk_ws (ws2 := CO b (a 0) (ah 0) xi (ax 0) xs rs ++ (TXW g.2.1 ax tx rd ln fn fk fp ++ (HIW g.2.1 g.2.2 ah f nx ct ++ (YW g.2.1 a st ds le wg te (u 4) (u 5) (u 6) (u 8) (u 9) (u 10) (u 11) (u 7) (u 12) g1 g2 g3 ++ (HSW g.2.1 hs 8 ++ (RI ++ (RS))))))) (by simp only [List.append_assoc, List.nil_append]) ?_
      by_cases h2 : nI (lsO k) ≤ w ∧ w ≤ nI (grO k)
      · refine zk_top (y := nI 1) (if_pos h2) ?_
        obtain ⟨x, x0, rfl⟩ := lsgrN h2
        refine zk_if_neN hc 24 dX6_set_19 (by decide) (by omega) (fun h_2 => ?_) (fun h_2 => ?_)
        · refine zk_aload_n hc dX6_set_24 0 rfl ?_
          refine zk_get hc inlX6 (ci := 6) rfl 0 0 (by decide) mw_1_12 rfl rfl rfl dX6_set_25 ?_
          refine zk_get hc inlX5 (ci := 5) rfl 6 9 (by decide) mw_9_8 rfl rfl rfl dX6_set_28 ?_
          refine zk_iload_n hc dX6_set_31 1 rfl ?_
          refine zk_ialdN hc 7 rfl (by omega) (by decide) dX6_set_32 ?_
          refine zk_top (y := nI (u k)) (yst hY (by omega)) ?_
          refine zk_istore_n hc (lv2 := [(3, .int (nI (u k))), (0, .ref b), (1, .int (nI k)), (2, .int (nI x))]) dX6_set_33 (by decide) rfl ?_
          refine zk_aload_n hc dX6_set_34 1 rfl ?_
          refine zk_get hc inlX6 (ci := 6) rfl 0 1 (by decide) mw_1_16 rfl rfl rfl dX6_set_35 ?_
          refine zk_aload_n hc dX6_set_38 1 rfl ?_
          refine zk_get hc inlX6 (ci := 6) rfl 0 0 (by decide) mw_1_12 rfl rfl rfl dX6_set_39 ?_
          refine zk_callVv hc (rest := []) (ct_X1_add g l ah a f hs nx ct u st ds le wg te (u 6) (u 8) (u 9) (u 10) (u 11) (u 7) g1 g2 g3 pa pm hH hG (YRel_g hR)) gg_X6_53 cd_X1_add ⟨Nat.le_of_ble_eq_true rfl, Nat.le_of_ble_eq_true rfl⟩ ⟨Nat.le_of_ble_eq_true rfl, Nat.le_of_ble_eq_true rfl⟩ (CO b (a 0) (ah 0) xi (ax 0) xs rs ++ (TXW g.2.1 ax tx rd ln fn fk fp)) (RI ++ (RS)) (by simp only [List.append_assoc, List.nil_append]) 4 rfl rfl rfl (Nat.le_of_ble_eq_true rfl) dX6_set_42 (fun W1 hp => ?_)
          obtain ⟨f2, hs2, rfl, hf2, hs2o, y2, hs2n, hy2⟩ := hp
          have hH2 := HR_add hH hf2 hs2o hs2n hG hy2
          refine zk_ws (ws2 := CO b (a 0) (ah 0) xi (ax 0) xs rs ++ (TXW g.2.1 ax tx rd ln fn fk fp ++ (HIW g.2.1 g.2.2 ah f2 ((nx + 1) % 8) (Nat.min (ct + 1) 8) ++ (YW g.2.1 a st ds le wg te (u 4) (u 5) (u 6) (u 8) (u 9) (u 10) (u 11) (u 7) (u 12) g1 g2 g3 ++ (HSW g.2.1 hs2 8 ++ (RI ++ (RS))))))) (by simp only [List.append_assoc, List.nil_append]) ?_
          refine zk_aload_n hc dX6_set_45 1 rfl ?_
          refine zk_get hc inlX6 (ci := 6) rfl 0 0 (by decide) mw_1_12 rfl rfl rfl dX6_set_46 ?_
          refine zk_get hc inlX5 (ci := 5) rfl 6 9 (by decide) mw_9_8 rfl rfl rfl dX6_set_49 ?_
          refine zk_iload_n hc dX6_set_52 2 rfl ?_
          refine zk_iload_n hc dX6_set_53 3 rfl ?_
          refine zk_iastN hc 7 rfl (by omega) (by decide) (ws2 := CO b (a 0) (ah 0) xi (ax 0) xs rs ++ (TXW g.2.1 ax tx rd ln fn fk fp ++ (HIW g.2.1 g.2.2 ah f2 ((nx + 1) % 8) (Nat.min (ct + 1) 8) ++ (YW g.2.1 a (va_up st k x) ds le wg te (u 4) (u 5) (u 6) (u 8) (u 9) (u 10) (u 11) (u 7) (u 12) g1 g2 g3 ++ (HSW g.2.1 hs2 8 ++ (RI ++ (RS))))))) rfl dX6_set_54 ?_
          refine zk_iload_n hc dX6_set_55 0 rfl ?_
          refine fin 7 72 _ _ _ _ (by decide) (by decide) dX6_set_56 (?_)
          exact ⟨by unfold aSet; rw [tOf_nI (by omega), if_pos ⟨h1, lsgr h2⟩], by unfold nSet; rw [tOf_nI (by omega), if_pos ⟨h1, lsgr h2⟩, tOf_nI (by omega)]; exact CSt_mk g b (va_up u k x) (remP u pa pm) (remN pm) im fl tx ln fk fp rs a (va_up st k x) ds le wg te (u 4) (u 5) (u 6) (u 8) (u 9) (u 10) (u 11) (u 7) (u 12) g1 g2 g3 ah f2 ((nx + 1) % 8) (Nat.min (ct + 1) 8) hs2 ax rd fn xi xs RI RS (YRel_g (YRel_set (by omega) hG hR)) hH2 hT hI hS⟩
        · exact absurd h_2 (by decide)
      · refine zk_top (y := nI 0) (if_neg h2) ?_
        refine zk_if_neN hc 24 dX6_set_19 (by decide) (by omega) (fun h_3 => ?_) (fun h_3 => ?_)
        · exact absurd h_3 (by decide)
        · refine zk_iconst hc ((-1)) dX6_set_22 rfl ?_
          refine fin 0 0 _ _ _ _ (by decide) (by decide) dX6_set_23 (?_)
          exact ⟨by unfold aSet; rw [tOf_nI (by omega), if_neg (fun z => h2 (by rw [lsO_eq, grO_eq]; exact z.2))], by unfold nSet; rw [tOf_nI (by omega), if_neg (fun z => h2 (by rw [lsO_eq, grO_eq]; exact z.2))]; exact CSt_mk g b u pa pm im fl tx ln fk fp rs a st ds le wg te (u 4) (u 5) (u 6) (u 8) (u 9) (u 10) (u 11) (u 7) (u 12) g1 g2 g3 ah f nx ct hs ax rd fn xi xs RI RS (YRel_g hR) hH hT hI hS⟩
  · refine zk_top (y := nI 0) (if_neg h1) ?_
    refine zk_if_eqN hc 22 dX6_set_4 (by decide) (by omega) (fun h_4 => ?_) (fun h_4 => ?_)
    · refine zk_iconst hc ((-1)) dX6_set_22 rfl ?_
      refine fin 0 0 _ _ _ _ (by decide) (by decide) dX6_set_23 (?_)
      exact ⟨by unfold aSet; rw [if_neg (fun z => h1 z.1)], by unfold nSet; rw [if_neg (fun z => h1 z.1)]; exact CSt_mk g b u pa pm im fl tx ln fk fp rs a st ds le wg te (u 4) (u 5) (u 6) (u 8) (u 9) (u 10) (u 11) (u 7) (u 12) g1 g2 g3 ah f nx ct hs ax rd fn xi xs RI RS (YRel_g hR) hH hT hI hS⟩
    · exact absurd h_4 (by decide)
