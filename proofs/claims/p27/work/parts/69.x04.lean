set_option maxHeartbeats 4000000 in
set_option maxRecDepth 100000 in
theorem cx_X6_pause (g : GG) (l : Launch) (b : Nat) (a u st ds le wg : Nat → Nat) (te : Nat → Int32) (g1 g2 g3 : Nat) (ah : Nat → Nat) (f : Nat → Option Nat) (nx ct : Nat) (hs : Nat → Option YT) (ax tx rd : Nat → Nat) (ln fn : Nat) (fk fp rs : Int32) (xi xs : Nat) (RI RS : va_W) (pa : Nat → Nat) (pm : Nat) (im : Nat → Nat) (fl cN : Nat) (hcN : cN ≤ 512) (hW : Wf cN u) (hR : YRel (a, st, ds, le, wg, te, u 4, u 5, u 6, u 8, u 9, u 10, u 11, u 7, u 12, g1, g2, g3) u) (hH : HR hs f nx ct pa pm) (hT : TR tx ln) (hI : IP g xi im fl RI) (hS : SP g xs RS)  (v : Int32) : CtI g l yX6_pause cX6_pause 2 (some .int) (rmK 5 7 72) (CO b (a 0) (ah 0) xi (ax 0) xs rs ++ (TXW g.2.1 ax tx rd ln fn fk fp ++ (HIW g.2.1 g.2.2 ah f nx ct ++ (YW g.2.1 a st ds le wg te (u 4) (u 5) (u 6) (u 8) (u 9) (u 10) (u 11) (u 7) (u 12) g1 g2 g3 ++ (HSW g.2.1 hs 8 ++ (RI ++ (RS))))))) [.ref b, .int v] (fun r W1 => r = aPau u v ∧ CSt g b (nPau (u, pa, pm, im, fl, tx, ln, fk, fp, rs) v) W1) := by
  refine CtI.go RX6 rfl (by decide +kernel) (Nat.le_of_ble_eq_true rfl) ?_
  intro p e s m args below meth c A H0 Q hc hnm fin
  have hG := wf_GU hW
  have hN := wf_GN hcN hW
  have hY := hR.1
  have hte := hR.2.2.2.2.2.2.2.2.2.2
  obtain ⟨hK4, hC8, hv2, hg3, hm, hdk, h13, h12⟩ := id hG
  have hK2 := hW.1.1
  have hK1 : 1 ≤ u 4 := by omega
  show KW g p l e (rmK 5 7 72) s m args below meth c 2 A H0 0 0 Q (CO b (a 0) (ah 0) xi (ax 0) xs rs ++ (TXW g.2.1 ax tx rd ln fn fk fp ++ (HIW g.2.1 g.2.2 ah f nx ct ++ (YW g.2.1 a st ds le wg te (u 4) (u 5) (u 6) (u 8) (u 9) (u 10) (u 11) (u 7) (u 12) g1 g2 g3 ++ (HSW g.2.1 hs 8 ++ (RI ++ (RS))))))) [(0, .ref b), (1, .int v)] 0 []
  refine zk_iload_n hc dX6_pause_0 1 rfl ?_
  refine zk_iconst hc (nI 1) dX6_pause_1 rfl ?_
  refine zk_sipush hc (nI 1000) dX6_pause_2 rfl ?_
  refine zk_callSi hc (rest := []) (ct_X6_within g l v (nI 1) (nI 1000)) gg_X6_45 cd_X6_within ⟨Nat.le_of_ble_eq_true rfl, Nat.le_of_ble_eq_true rfl⟩ ⟨Nat.le_of_ble_eq_true rfl, Nat.le_of_ble_eq_true rfl⟩ ([]) (CO b (a 0) (ah 0) xi (ax 0) xs rs ++ (TXW g.2.1 ax tx rd ln fn fk fp ++ (HIW g.2.1 g.2.2 ah f nx ct ++ (YW g.2.1 a st ds le wg te (u 4) (u 5) (u 6) (u 8) (u 9) (u 10) (u 11) (u 7) (u 12) g1 g2 g3 ++ (HSW g.2.1 hs 8 ++ (RI ++ (RS))))))) (by simp only [List.append_assoc, List.nil_append]) rfl (Nat.le_of_ble_eq_true rfl) dX6_pause_5 (fun r W1 hp => ?_)
  obtain ⟨rfl, rfl⟩ := hp
  refine zk_ws (ws2 := CO b (a 0) (ah 0) xi (ax 0) xs rs ++ (TXW g.2.1 ax tx rd ln fn fk fp ++ (HIW g.2.1 g.2.2 ah f nx ct ++ (YW g.2.1 a st ds le wg te (u 4) (u 5) (u 6) (u 8) (u 9) (u 10) (u 11) (u 7) (u 12) g1 g2 g3 ++ (HSW g.2.1 hs 8 ++ (RI ++ (RS))))))) (by simp only [List.append_assoc, List.nil_append]) ?_
  by_cases hi : nI 1 ≤ v ∧ v ≤ nI 1000
  · refine zk_top (y := nI 1) (if_pos hi) ?_
    obtain ⟨t, t0, t1, rfl⟩ := rngN (by omega) hi
    refine zk_if_neN hc 13 dX6_pause_8 (by decide) (by omega) (fun h_1 => ?_) (fun h_1 => ?_)
    · refine zk_aload_n hc dX6_pause_13 0 rfl ?_
      refine zk_get hc inlX6 (ci := 6) rfl 0 1 (by decide) mw_1_16 rfl rfl rfl dX6_pause_14 ?_
      refine zk_aload_n hc dX6_pause_17 0 rfl ?_
      refine zk_get hc inlX6 (ci := 6) rfl 0 0 (by decide) mw_1_12 rfl rfl rfl dX6_pause_18 ?_
      refine zk_callVv hc (rest := []) (ct_X1_add g l ah a f hs nx ct u st ds le wg te (u 6) (u 8) (u 9) (u 10) (u 11) (u 7) g1 g2 g3 pa pm hH hG (YRel_g hR)) gg_X6_53 cd_X1_add ⟨Nat.le_of_ble_eq_true rfl, Nat.le_of_ble_eq_true rfl⟩ ⟨Nat.le_of_ble_eq_true rfl, Nat.le_of_ble_eq_true rfl⟩ (CO b (a 0) (ah 0) xi (ax 0) xs rs ++ (TXW g.2.1 ax tx rd ln fn fk fp)) (RI ++ (RS)) (by simp only [List.append_assoc, List.nil_append]) 4 rfl rfl rfl (Nat.le_of_ble_eq_true rfl) dX6_pause_21 (fun W1 hp => ?_)
      obtain ⟨f2, hs2, rfl, hf2, hs2o, y2, hs2n, hy2⟩ := hp
      have hH2 := HR_add hH hf2 hs2o hs2n hG hy2
      refine zk_ws (ws2 := CO b (a 0) (ah 0) xi (ax 0) xs rs ++ (TXW g.2.1 ax tx rd ln fn fk fp ++ (HIW g.2.1 g.2.2 ah f2 ((nx + 1) % 8) (Nat.min (ct + 1) 8) ++ (YW g.2.1 a st ds le wg te (u 4) (u 5) (u 6) (u 8) (u 9) (u 10) (u 11) (u 7) (u 12) g1 g2 g3 ++ (HSW g.2.1 hs2 8 ++ (RI ++ (RS))))))) (by simp only [List.append_assoc, List.nil_append]) ?_
      refine zk_aload_n hc dX6_pause_24 0 rfl ?_
      refine zk_get hc inlX6 (ci := 6) rfl 0 0 (by decide) mw_1_12 rfl rfl rfl dX6_pause_25 ?_
      refine zk_dup hc dX6_pause_28 rfl ?_
      refine zk_get hc inlX5 (ci := 5) rfl 6 2 (by decide) mw_4_22 rfl rfl rfl dX6_pause_29 ?_
      refine zk_iload_n hc dX6_pause_32 1 rfl ?_
      refine zk_iaddN hc dX6_pause_33 ?_
      refine zk_put hc inlX5 (ci := 5) rfl tyX5 tyX5_ok nmX5 6 2 (by decide) mw_4_22 rfl rfl rfl rfl rfl (Nat.le_of_ble_eq_true rfl) (ws2 := CO b (a 0) (ah 0) xi (ax 0) xs rs ++ (TXW g.2.1 ax tx rd ln fn fk fp ++ (HIW g.2.1 g.2.2 ah f2 ((nx + 1) % 8) (Nat.min (ct + 1) 8) ++ (YW g.2.1 a st ds le wg te (u 4) (u 5) ((u 6) + t) (u 8) (u 9) (u 10) (u 11) (u 7) (u 12) g1 g2 g3 ++ (HSW g.2.1 hs2 8 ++ (RI ++ (RS))))))) rfl dX6_pause_34 ?_
      refine zk_aload_n hc dX6_pause_37 0 rfl ?_
      refine zk_get hc inlX6 (ci := 6) rfl 0 0 (by decide) mw_1_12 rfl rfl rfl dX6_pause_38 ?_
      refine zk_get hc inlX5 (ci := 5) rfl 6 2 (by decide) mw_4_22 rfl rfl rfl dX6_pause_41 ?_
      refine fin 7 72 _ _ _ _ (by decide) (by decide) dX6_pause_44 (?_)
      exact ⟨by unfold aPau; rw [if_pos hi, tOf_nI (by omega)], by unfold nPau; rw [if_pos hi, tOf_nI (by omega)]; exact CSt_mk g b (pauF u t) (remP u pa pm) (remN pm) im fl tx ln fk fp rs a st ds le wg te (u 4) (u 5) ((u 6) + t) (u 8) (u 9) (u 10) (u 11) (u 7) (u 12) g1 g2 g3 ah f2 ((nx + 1) % 8) (Nat.min (ct + 1) 8) hs2 ax rd fn xi xs RI RS (YRel_g (YRel_pau hG hR)) hH2 hT hI hS⟩
    · exact absurd h_1 (by decide)
  · refine zk_top (y := nI 0) (if_neg hi) ?_
    refine zk_if_neN hc 13 dX6_pause_8 (by decide) (by omega) (fun h_2 => ?_) (fun h_2 => ?_)
    · exact absurd h_2 (by decide)
    · refine zk_iconst hc ((-1)) dX6_pause_11 rfl ?_
      refine fin 0 0 _ _ _ _ (by decide) (by decide) dX6_pause_12 (?_)
      exact ⟨by unfold aPau; rw [if_neg hi], by unfold nPau; rw [if_neg hi]; exact CSt_mk g b u pa pm im fl tx ln fk fp rs a st ds le wg te (u 4) (u 5) (u 6) (u 8) (u 9) (u 10) (u 11) (u 7) (u 12) g1 g2 g3 ah f nx ct hs ax rd fn xi xs RI RS (YRel_g hR) hH hT hI hS⟩

set_option maxHeartbeats 4000000 in
set_option maxRecDepth 100000 in
theorem cx_X6_test (g : GG) (l : Launch) (b : Nat) (a u st ds le wg : Nat → Nat) (te : Nat → Int32) (g1 g2 g3 : Nat) (ah : Nat → Nat) (f : Nat → Option Nat) (nx ct : Nat) (hs : Nat → Option YT) (ax tx rd : Nat → Nat) (ln fn : Nat) (fk fp rs : Int32) (xi xs : Nat) (RI RS : va_W) (pa : Nat → Nat) (pm : Nat) (im : Nat → Nat) (fl cN : Nat) (hcN : cN ≤ 512) (hW : Wf cN u) (hR : YRel (a, st, ds, le, wg, te, u 4, u 5, u 6, u 8, u 9, u 10, u 11, u 7, u 12, g1, g2, g3) u) (hH : HR hs f nx ct pa pm) (hT : TR tx ln) (hI : IP g xi im fl RI) (hS : SP g xs RS)  (v : Int32) : CtI g l yX6_test cX6_test 2 (some .int) (rmK 5 7 72) (CO b (a 0) (ah 0) xi (ax 0) xs rs ++ (TXW g.2.1 ax tx rd ln fn fk fp ++ (HIW g.2.1 g.2.2 ah f nx ct ++ (YW g.2.1 a st ds le wg te (u 4) (u 5) (u 6) (u 8) (u 9) (u 10) (u 11) (u 7) (u 12) g1 g2 g3 ++ (HSW g.2.1 hs 8 ++ (RI ++ (RS))))))) [.ref b, .int v] (fun r W1 => r = aTes u v ∧ CSt g b (nTes (u, pa, pm, im, fl, tx, ln, fk, fp, rs) v) W1) := by
  refine CtI.go RX6 rfl (by decide +kernel) (Nat.le_of_ble_eq_true rfl) ?_
  intro p e s m args below meth c A H0 Q hc hnm fin
  have hG := wf_GU hW
  have hN := wf_GN hcN hW
  have hY := hR.1
  have hte := hR.2.2.2.2.2.2.2.2.2.2
  obtain ⟨hK4, hC8, hv2, hg3, hm, hdk, h13, h12⟩ := id hG
  have hK2 := hW.1.1
  have hK1 : 1 ≤ u 4 := by omega
  show KW g p l e (rmK 5 7 72) s m args below meth c 2 A H0 0 0 Q (CO b (a 0) (ah 0) xi (ax 0) xs rs ++ (TXW g.2.1 ax tx rd ln fn fk fp ++ (HIW g.2.1 g.2.2 ah f nx ct ++ (YW g.2.1 a st ds le wg te (u 4) (u 5) (u 6) (u 8) (u 9) (u 10) (u 11) (u 7) (u 12) g1 g2 g3 ++ (HSW g.2.1 hs 8 ++ (RI ++ (RS))))))) [(0, .ref b), (1, .int v)] 0 []
  refine zk_aload_n hc dX6_test_0 0 rfl ?_
  refine zk_get hc inlX6 (ci := 6) rfl 0 0 (by decide) mw_1_12 rfl rfl rfl dX6_test_1 ?_
  refine zk_iload_n hc dX6_test_4 1 rfl ?_
  refine zk_callVi hc (rest := []) (ct_X5_hasTrack g l a u st ds le wg te (u 6) (u 8) (u 9) (u 10) (u 11) (u 7) g1 g2 g3 v (by omega)) gg_X6_76 cd_X5_hasTrack ⟨Nat.le_of_ble_eq_true rfl, Nat.le_of_ble_eq_true rfl⟩ ⟨Nat.le_of_ble_eq_true rfl, Nat.le_of_ble_eq_true rfl⟩ (CO b (a 0) (ah 0) xi (ax 0) xs rs ++ (TXW g.2.1 ax tx rd ln fn fk fp ++ (HIW g.2.1 g.2.2 ah f nx ct))) (HSW g.2.1 hs 8 ++ (RI ++ (RS))) (by simp only [List.append_assoc, List.nil_append]) 6 rfl rfl rfl (Nat.le_of_ble_eq_true rfl) dX6_test_5 (fun r W1 hp => ?_)
  obtain ⟨rfl, rfl⟩ := hp
  refine zk_ws (ws2 := CO b (a 0) (ah 0) xi (ax 0) xs rs ++ (TXW g.2.1 ax tx rd ln fn fk fp ++ (HIW g.2.1 g.2.2 ah f nx ct ++ (YW g.2.1 a st ds le wg te (u 4) (u 5) (u 6) (u 8) (u 9) (u 10) (u 11) (u 7) (u 12) g1 g2 g3 ++ (HSW g.2.1 hs 8 ++ (RI ++ (RS))))))) (by simp only [List.append_assoc, List.nil_append]) ?_
  by_cases hi : nI 0 ≤ v ∧ v ≤ nI (u 4 - 1)
  · refine zk_top (y := nI 1) (if_pos hi) ?_
    obtain ⟨t, t0, t1, rfl⟩ := rngN (by omega) hi
    refine zk_if_neN hc 13 dX6_test_8 (by decide) (by omega) (fun h_1 => ?_) (fun h_1 => ?_)
    · refine zk_aload_n hc dX6_test_13 0 rfl ?_
      refine zk_get hc inlX6 (ci := 6) rfl 0 0 (by decide) mw_1_12 rfl rfl rfl dX6_test_14 ?_
      refine zk_get hc inlX5 (ci := 5) rfl 6 11 (by decide) mw_11_12 rfl rfl rfl dX6_test_17 ?_
      refine zk_iload_n hc dX6_test_20 1 rfl ?_
      refine zk_ialdN hc 9 rfl (by omega) (by decide) dX6_test_21 ?_
      refine zk_top (y := nI (mny u t)) (yle hY (by omega)) ?_
      refine zk_if_neN hc 28 dX6_test_22 (by decide) (by have := hm t (by omega); omega) (fun h0 => ?_) (fun h0 => ?_)
      · refine zk_aload_n hc dX6_test_28 0 rfl ?_
        refine zk_get hc inlX6 (ci := 6) rfl 0 1 (by decide) mw_1_16 rfl rfl rfl dX6_test_29 ?_
        refine zk_aload_n hc dX6_test_32 0 rfl ?_
        refine zk_get hc inlX6 (ci := 6) rfl 0 0 (by decide) mw_1_12 rfl rfl rfl dX6_test_33 ?_
        refine zk_callVv hc (rest := []) (ct_X1_add g l ah a f hs nx ct u st ds le wg te (u 6) (u 8) (u 9) (u 10) (u 11) (u 7) g1 g2 g3 pa pm hH hG (YRel_g hR)) gg_X6_53 cd_X1_add ⟨Nat.le_of_ble_eq_true rfl, Nat.le_of_ble_eq_true rfl⟩ ⟨Nat.le_of_ble_eq_true rfl, Nat.le_of_ble_eq_true rfl⟩ (CO b (a 0) (ah 0) xi (ax 0) xs rs ++ (TXW g.2.1 ax tx rd ln fn fk fp)) (RI ++ (RS)) (by simp only [List.append_assoc, List.nil_append]) 4 rfl rfl rfl (Nat.le_of_ble_eq_true rfl) dX6_test_36 (fun W1 hp => ?_)
        obtain ⟨f2, hs2, rfl, hf2, hs2o, y2, hs2n, hy2⟩ := hp
        have hH2 := HR_add hH hf2 hs2o hs2n hG hy2
        refine zk_ws (ws2 := CO b (a 0) (ah 0) xi (ax 0) xs rs ++ (TXW g.2.1 ax tx rd ln fn fk fp ++ (HIW g.2.1 g.2.2 ah f2 ((nx + 1) % 8) (Nat.min (ct + 1) 8) ++ (YW g.2.1 a st ds le wg te (u 4) (u 5) (u 6) (u 8) (u 9) (u 10) (u 11) (u 7) (u 12) g1 g2 g3 ++ (HSW g.2.1 hs2 8 ++ (RI ++ (RS))))))) (by simp only [List.append_assoc, List.nil_append]) ?_
        refine zk_aload_n hc dX6_test_39 0 rfl ?_
        refine zk_get hc inlX6 (ci := 6) rfl 0 0 (by decide) mw_1_12 rfl rfl rfl dX6_test_40 ?_
        refine zk_iload_n hc dX6_test_43 1 rfl ?_
        refine zk_callVi hc (rest := []) (ct_X5_testBrakes g l a u st ds le wg te (u 6) (u 8) (u 9) (u 10) (u 11) (u 7) g1 g2 g3 hY hG hN t (by omega)) gg_X6_117 cd_X5_testBrakes ⟨Nat.le_of_ble_eq_true rfl, Nat.le_of_ble_eq_true rfl⟩ ⟨Nat.le_of_ble_eq_true rfl, Nat.le_of_ble_eq_true rfl⟩ (CO b (a 0) (ah 0) xi (ax 0) xs rs ++ (TXW g.2.1 ax tx rd ln fn fk fp ++ (HIW g.2.1 g.2.2 ah f2 ((nx + 1) % 8) (Nat.min (ct + 1) 8)))) (HSW g.2.1 hs2 8 ++ (RI ++ (RS))) (by simp only [List.append_assoc, List.nil_append]) 6 rfl rfl rfl (Nat.le_of_ble_eq_true rfl) dX6_test_44 (fun r W1 hp => ?_)
        obtain ⟨rfl, rfl⟩ := hp
        refine zk_ws (ws2 := CO b (a 0) (ah 0) xi (ax 0) xs rs ++ (TXW g.2.1 ax tx rd ln fn fk fp ++ (HIW g.2.1 g.2.2 ah f2 ((nx + 1) % 8) (Nat.min (ct + 1) 8) ++ (YW g.2.1 a st ds le wg (upd te t (nI ((u 6) + (u 3 + 2 * mny u t)))) (u 4) (u 5) ((u 6) + (u 3 + 2 * mny u t)) (u 8) (u 9) (u 10) (u 11) (u 7) (u 12) g1 g2 g3 ++ (HSW g.2.1 hs2 8 ++ (RI ++ (RS))))))) (by simp only [List.append_assoc, List.nil_append]) ?_
        refine fin 7 72 _ _ _ _ (by decide) (by decide) dX6_test_47 (?_)
        exact ⟨by unfold aTes; rw [if_pos hi, tOf_nI (by omega), if_neg h0], by unfold nTes; rw [tOf_nI (by omega), if_pos ⟨hi, h0⟩]; exact CSt_mk g b (tesF u t) (remP u pa pm) (remN pm) im fl tx ln fk fp rs a st ds le wg (upd te t (nI ((u 6) + (u 3 + 2 * mny u t)))) (u 4) (u 5) ((u 6) + (u 3 + 2 * mny u t)) (u 8) (u 9) (u 10) (u 11) (u 7) (u 12) g1 g2 g3 ah f2 ((nx + 1) % 8) (Nat.min (ct + 1) 8) hs2 ax rd fn xi xs RI RS (YRel_g (YRel_tes (by omega) hG hR)) hH2 hT hI hS⟩
      · refine zk_bipush hc ((-2)) dX6_test_25 rfl ?_
        refine fin 0 0 _ _ _ _ (by decide) (by decide) dX6_test_27 (?_)
        exact ⟨by unfold aTes; rw [if_pos hi, tOf_nI (by omega), if_pos h0], by unfold nTes; rw [tOf_nI (by omega), if_neg (fun z => z.2 h0)]; exact CSt_mk g b u pa pm im fl tx ln fk fp rs a st ds le wg te (u 4) (u 5) (u 6) (u 8) (u 9) (u 10) (u 11) (u 7) (u 12) g1 g2 g3 ah f nx ct hs ax rd fn xi xs RI RS (YRel_g hR) hH hT hI hS⟩
    · exact absurd h_1 (by decide)
  · refine zk_top (y := nI 0) (if_neg hi) ?_
    refine zk_if_neN hc 13 dX6_test_8 (by decide) (by omega) (fun h_2 => ?_) (fun h_2 => ?_)
    · exact absurd h_2 (by decide)
    · refine zk_iconst hc ((-1)) dX6_test_11 rfl ?_
      refine fin 0 0 _ _ _ _ (by decide) (by decide) dX6_test_12 (?_)
      exact ⟨by unfold aTes; rw [if_neg hi], by unfold nTes; rw [if_neg (fun z => hi z.1)]; exact CSt_mk g b u pa pm im fl tx ln fk fp rs a st ds le wg te (u 4) (u 5) (u 6) (u 8) (u 9) (u 10) (u 11) (u 7) (u 12) g1 g2 g3 ah f nx ct hs ax rd fn xi xs RI RS (YRel_g hR) hH hT hI hS⟩
