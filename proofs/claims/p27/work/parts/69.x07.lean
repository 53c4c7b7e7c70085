set_option maxHeartbeats 4000000 in
set_option maxRecDepth 100000 in
theorem cx_X6_write (g : GG) (l : Launch) (b : Nat) (a u st ds le wg : Nat → Nat) (te : Nat → Int32) (g1 g2 g3 : Nat) (ah : Nat → Nat) (f : Nat → Option Nat) (nx ct : Nat) (hs : Nat → Option YT) (ax tx rd : Nat → Nat) (ln fn : Nat) (fk fp rs : Int32) (xi xs : Nat) (RI RS : va_W) (pa : Nat → Nat) (pm : Nat) (im : Nat → Nat) (fl cN : Nat) (hcN : cN ≤ 512) (hW : Wf cN u) (hR : YRel (a, st, ds, le, wg, te, u 4, u 5, u 6, u 8, u 9, u 10, u 11, u 7, u 12, g1, g2, g3) u) (hH : HR hs f nx ct pa pm) (hT : TR tx ln) (hI : IP g xi im fl RI) (hS : SP g xs RS)  (v : Int32) : CtI g l yX6_write cX6_write 2 (some .int) (rmK 4 0 0) (CO b (a 0) (ah 0) xi (ax 0) xs rs ++ (TXW g.2.1 ax tx rd ln fn fk fp ++ (HIW g.2.1 g.2.2 ah f nx ct ++ (YW g.2.1 a st ds le wg te (u 4) (u 5) (u 6) (u 8) (u 9) (u 10) (u 11) (u 7) (u 12) g1 g2 g3 ++ (HSW g.2.1 hs 8 ++ (RI ++ (RS))))))) [.ref b, .int v] (fun r W1 => r = aWri ln v ∧ CSt g b (nWri (u, pa, pm, im, fl, tx, ln, fk, fp, rs) v) W1) := by
  refine CtI.go RX6 rfl (by decide +kernel) (Nat.le_of_ble_eq_true rfl) ?_
  intro p e s m args below meth c A H0 Q hc hnm fin
  have hG := wf_GU hW
  have hN := wf_GN hcN hW
  have hY := hR.1
  have hte := hR.2.2.2.2.2.2.2.2.2.2
  obtain ⟨hK4, hC8, hv2, hg3, hm, hdk, h13, h12⟩ := id hG
  have hK2 := hW.1.1
  have hK1 : 1 ≤ u 4 := by omega
  have hl60 := hT.1
  show KW g p l e (rmK 4 0 0) s m args below meth c 2 A H0 0 0 Q (CO b (a 0) (ah 0) xi (ax 0) xs rs ++ (TXW g.2.1 ax tx rd ln fn fk fp ++ (HIW g.2.1 g.2.2 ah f nx ct ++ (YW g.2.1 a st ds le wg te (u 4) (u 5) (u 6) (u 8) (u 9) (u 10) (u 11) (u 7) (u 12) g1 g2 g3 ++ (HSW g.2.1 hs 8 ++ (RI ++ (RS))))))) [(0, .ref b), (1, .int v)] 0 []
  refine zk_iload_n hc dX6_write_0 1 rfl ?_
  refine zk_bipush hc (nI 32) dX6_write_1 rfl ?_
  refine zk_bipush hc (nI 126) dX6_write_3 rfl ?_
  refine zk_callSi hc (rest := []) (ct_X6_within g l v (nI 32) (nI 126)) gg_X6_45 cd_X6_within ⟨Nat.le_of_ble_eq_true rfl, Nat.le_of_ble_eq_true rfl⟩ ⟨Nat.le_of_ble_eq_true rfl, Nat.le_of_ble_eq_true rfl⟩ ([]) (CO b (a 0) (ah 0) xi (ax 0) xs rs ++ (TXW g.2.1 ax tx rd ln fn fk fp ++ (HIW g.2.1 g.2.2 ah f nx ct ++ (YW g.2.1 a st ds le wg te (u 4) (u 5) (u 6) (u 8) (u 9) (u 10) (u 11) (u 7) (u 12) g1 g2 g3 ++ (HSW g.2.1 hs 8 ++ (RI ++ (RS))))))) (by simp only [List.append_assoc, List.nil_append]) rfl (Nat.le_of_ble_eq_true rfl) dX6_write_5 (fun r W1 hp => ?_)
  obtain ⟨rfl, rfl⟩ := hp
  refine zk_ws (ws2 := CO b (a 0) (ah 0) xi (ax 0) xs rs ++ (TXW g.2.1 ax tx rd ln fn fk fp ++ (HIW g.2.1 g.2.2 ah f nx ct ++ (YW g.2.1 a st ds le wg te (u 4) (u 5) (u 6) (u 8) (u 9) (u 10) (u 11) (u 7) (u 12) g1 g2 g3 ++ (HSW g.2.1 hs 8 ++ (RI ++ (RS))))))) (by simp only [List.append_assoc, List.nil_append]) ?_
  by_cases hi : nI 32 ≤ v ∧ v ≤ nI 126
  · refine zk_top (y := nI 1) (if_pos hi) ?_
    obtain ⟨t, t0, t1, rfl⟩ := rngN (by omega) hi
    refine zk_if_neN hc 13 dX6_write_8 (by decide) (by omega) (fun h_1 => ?_) (fun h_1 => ?_)
    · refine zk_aload_n hc dX6_write_13 0 rfl ?_
      refine zk_get hc inlX6 (ci := 6) rfl 0 3 (by decide) mw_1_21 rfl rfl rfl dX6_write_14 ?_
      refine zk_get hc inlX4 (ci := 4) rfl 1 1 (by decide) mw_5_5 rfl rfl rfl dX6_write_17 ?_
      refine zk_bipush hc (nI 60) dX6_write_20 rfl ?_
      refine zk_icmp_ltN hc 28 dX6_write_22 (by decide) (by omega) (by omega) (fun h6 => ?_) (fun h6 => ?_)
      · refine zk_aload_n hc dX6_write_28 0 rfl ?_
        refine zk_get hc inlX6 (ci := 6) rfl 0 3 (by decide) mw_1_21 rfl rfl rfl dX6_write_29 ?_
        refine zk_iload_n hc dX6_write_32 1 rfl ?_
        refine zk_callVv hc (rest := []) (ct_X4_append g l ax tx rd ln fn fk fp t (by omega)) gg_X6_160 cd_X4_append ⟨Nat.le_of_ble_eq_true rfl, Nat.le_of_ble_eq_true rfl⟩ ⟨Nat.le_of_ble_eq_true rfl, Nat.le_of_ble_eq_true rfl⟩ (CO b (a 0) (ah 0) xi (ax 0) xs rs) (HIW g.2.1 g.2.2 ah f nx ct ++ (YW g.2.1 a st ds le wg te (u 4) (u 5) (u 6) (u 8) (u 9) (u 10) (u 11) (u 7) (u 12) g1 g2 g3 ++ (HSW g.2.1 hs 8 ++ (RI ++ (RS))))) (by simp only [List.append_assoc, List.nil_append]) 1 rfl rfl rfl (Nat.le_of_ble_eq_true rfl) dX6_write_33 (fun W1 hp => ?_)
        obtain rfl := hp
        refine zk_ws (ws2 := CO b (a 0) (ah 0) xi (ax 0) xs rs ++ (TXW g.2.1 ax (va_up tx ln t) rd (ln + 1) fn fk fp ++ (HIW g.2.1 g.2.2 ah f nx ct ++ (YW g.2.1 a st ds le wg te (u 4) (u 5) (u 6) (u 8) (u 9) (u 10) (u 11) (u 7) (u 12) g1 g2 g3 ++ (HSW g.2.1 hs 8 ++ (RI ++ (RS))))))) (by simp only [List.append_assoc, List.nil_append]) ?_
        refine zk_aload_n hc dX6_write_36 0 rfl ?_
        refine zk_get hc inlX6 (ci := 6) rfl 0 3 (by decide) mw_1_21 rfl rfl rfl dX6_write_37 ?_
        refine zk_get hc inlX4 (ci := 4) rfl 1 1 (by decide) mw_5_5 rfl rfl rfl dX6_write_40 ?_
        refine fin 0 0 _ _ _ _ (by decide) (by decide) dX6_write_43 (?_)
        exact ⟨by unfold aWri; rw [if_pos hi, if_neg (show ¬ ln = 60 by omega)], by unfold nWri; rw [if_pos ⟨hi, show ¬ ln = 60 by omega⟩, tOf_nI (by omega)]; exact CSt_mk g b u pa pm im fl (va_up tx ln t) (ln + 1) fk fp rs a st ds le wg te (u 4) (u 5) (u 6) (u 8) (u 9) (u 10) (u 11) (u 7) (u 12) g1 g2 g3 ah f nx ct hs ax rd fn xi xs RI RS (YRel_g hR) hH (TR_up hT h6 (by omega)) hI hS⟩
      · refine zk_bipush hc ((-3)) dX6_write_25 rfl ?_
        refine fin 0 0 _ _ _ _ (by decide) (by decide) dX6_write_27 (?_)
        exact ⟨by unfold aWri; rw [if_pos hi, if_pos (show ln = 60 by omega)], by unfold nWri; rw [if_neg (fun z => z.2 (show ln = 60 by omega))]; exact CSt_mk g b u pa pm im fl tx ln fk fp rs a st ds le wg te (u 4) (u 5) (u 6) (u 8) (u 9) (u 10) (u 11) (u 7) (u 12) g1 g2 g3 ah f nx ct hs ax rd fn xi xs RI RS (YRel_g hR) hH hT hI hS⟩
    · exact absurd h_1 (by decide)
  · refine zk_top (y := nI 0) (if_neg hi) ?_
    refine zk_if_neN hc 13 dX6_write_8 (by decide) (by omega) (fun h_2 => ?_) (fun h_2 => ?_)
    · exact absurd h_2 (by decide)
    · refine zk_iconst hc ((-1)) dX6_write_11 rfl ?_
      refine fin 0 0 _ _ _ _ (by decide) (by decide) dX6_write_12 (?_)
      exact ⟨by unfold aWri; rw [if_neg hi], by unfold nWri; rw [if_neg (fun z => hi z.1)]; exact CSt_mk g b u pa pm im fl tx ln fk fp rs a st ds le wg te (u 4) (u 5) (u 6) (u 8) (u 9) (u 10) (u 11) (u 7) (u 12) g1 g2 g3 ah f nx ct hs ax rd fn xi xs RI RS (YRel_g hR) hH hT hI hS⟩
