set_option maxHeartbeats 4000000 in
set_option maxRecDepth 100000 in
theorem cx_X6_told (g : GG) (l : Launch) (b : Nat) (a u st ds le wg : Nat → Nat) (te : Nat → Int32) (g1 g2 g3 : Nat) (ah : Nat → Nat) (f : Nat → Option Nat) (nx ct : Nat) (hs : Nat → Option YT) (ax tx rd : Nat → Nat) (ln fn : Nat) (fk fp rs : Int32) (xi xs : Nat) (RI RS : va_W) (pa : Nat → Nat) (pm : Nat) (im : Nat → Nat) (fl cN : Nat) (hcN : cN ≤ 512) (hW : Wf cN u) (hR : YRel (a, st, ds, le, wg, te, u 4, u 5, u 6, u 8, u 9, u 10, u 11, u 7, u 12, g1, g2, g3) u) (hH : HR hs f nx ct pa pm) (hT : TR tx ln) (hI : IP g xi im fl RI) (hS : SP g xs RS)  (v : Int32) : CtI g l yX6_told cX6_told 2 (some .int) (rmK 6 0 0) (CO b (a 0) (ah 0) xi (ax 0) xs rs ++ (TXW g.2.1 ax tx rd ln fn fk fp ++ (HIW g.2.1 g.2.2 ah f nx ct ++ (YW g.2.1 a st ds le wg te (u 4) (u 5) (u 6) (u 8) (u 9) (u 10) (u 11) (u 7) (u 12) g1 g2 g3 ++ (HSW g.2.1 hs 8 ++ (RI ++ (RS))))))) [.ref b, .int v] (fun r W1 => r = aTol (u, pa, pm, im, fl, tx, ln, fk, fp, rs) v ∧ CSt g b (u, pa, pm, im, fl, tx, ln, fk, fp, rs) W1) := by
  refine CtI.go RX6 rfl (by decide +kernel) (Nat.le_of_ble_eq_true rfl) ?_
  intro p e s m args below meth c A H0 Q hc hnm fin
  have hG := wf_GU hW
  have hN := wf_GN hcN hW
  have hY := hR.1
  have hte := hR.2.2.2.2.2.2.2.2.2.2
  obtain ⟨hK4, hC8, hv2, hg3, hm, hdk, h13, h12⟩ := id hG
  have hK2 := hW.1.1
  have hK1 : 1 ≤ u 4 := by omega
  show KW g p l e (rmK 6 0 0) s m args below meth c 2 A H0 0 0 Q (CO b (a 0) (ah 0) xi (ax 0) xs rs ++ (TXW g.2.1 ax tx rd ln fn fk fp ++ (HIW g.2.1 g.2.2 ah f nx ct ++ (YW g.2.1 a st ds le wg te (u 4) (u 5) (u 6) (u 8) (u 9) (u 10) (u 11) (u 7) (u 12) g1 g2 g3 ++ (HSW g.2.1 hs 8 ++ (RI ++ (RS))))))) [(0, .ref b), (1, .int v)] 0 []
  refine zk_iload_n hc dX6_told_0 1 rfl ?_
  by_cases hsw : nI 0 ≤ v ∧ v ≤ nI 14
  · obtain ⟨k, hk0, hk1, rfl⟩ := rngN (by omega) hsw
    rcases (show k = 0 ∨ k = 1 ∨ k = 2 ∨ k = 3 ∨ k = 4 ∨ k = 5 ∨ k = 6 ∨ k = 7 ∨ k = 8 ∨ k = 9 ∨ k = 10 ∨ k = 11 ∨ k = 12 ∨ k = 13 ∨ k = 14 by omega) with rfl | rfl | rfl | rfl | rfl | rfl | rfl | rfl | rfl | rfl | rfl | rfl | rfl | rfl | rfl
    · refine zk_tableIn hc 76 dX6_told_1 (by decide) (by decide) rfl (by decide) ?_
      refine zk_aload_n hc dX6_told_76 0 rfl ?_
      refine zk_get hc inlX6 (ci := 6) rfl 0 0 (by decide) mw_1_12 rfl rfl rfl dX6_told_77 ?_
      refine zk_get hc inlX5 (ci := 5) rfl 6 0 (by decide) mw_4_20 rfl rfl rfl dX6_told_80 ?_
      refine fin 0 0 _ _ _ _ (by decide) (by decide) dX6_told_83 (?_)
      exact ⟨by unfold aTol; rw [if_pos hsw]; rfl, by exact CSt_mk g b u pa pm im fl tx ln fk fp rs a st ds le wg te (u 4) (u 5) (u 6) (u 8) (u 9) (u 10) (u 11) (u 7) (u 12) g1 g2 g3 ah f nx ct hs ax rd fn xi xs RI RS (YRel_g hR) hH hT hI hS⟩
    · refine zk_tableIn hc 84 dX6_told_1 (by decide) (by decide) rfl (by decide) ?_
      refine zk_aload_n hc dX6_told_84 0 rfl ?_
      refine zk_get hc inlX6 (ci := 6) rfl 0 0 (by decide) mw_1_12 rfl rfl rfl dX6_told_85 ?_
      refine zk_get hc inlX5 (ci := 5) rfl 6 1 (by decide) mw_4_21 rfl rfl rfl dX6_told_88 ?_
      refine fin 0 0 _ _ _ _ (by decide) (by decide) dX6_told_91 (?_)
      exact ⟨by unfold aTol; rw [if_pos hsw]; rfl, by exact CSt_mk g b u pa pm im fl tx ln fk fp rs a st ds le wg te (u 4) (u 5) (u 6) (u 8) (u 9) (u 10) (u 11) (u 7) (u 12) g1 g2 g3 ah f nx ct hs ax rd fn xi xs RI RS (YRel_g hR) hH hT hI hS⟩
    · refine zk_tableIn hc 92 dX6_told_1 (by decide) (by decide) rfl (by decide) ?_
      refine zk_aload_n hc dX6_told_92 0 rfl ?_
      refine zk_get hc inlX6 (ci := 6) rfl 0 0 (by decide) mw_1_12 rfl rfl rfl dX6_told_93 ?_
      refine zk_get hc inlX5 (ci := 5) rfl 6 2 (by decide) mw_4_22 rfl rfl rfl dX6_told_96 ?_
      refine fin 0 0 _ _ _ _ (by decide) (by decide) dX6_told_99 (?_)
      exact ⟨by unfold aTol; rw [if_pos hsw]; rfl, by exact CSt_mk g b u pa pm im fl tx ln fk fp rs a st ds le wg te (u 4) (u 5) (u 6) (u 8) (u 9) (u 10) (u 11) (u 7) (u 12) g1 g2 g3 ah f nx ct hs ax rd fn xi xs RI RS (YRel_g hR) hH hT hI hS⟩
    · refine zk_tableIn hc 100 dX6_told_1 (by decide) (by decide) rfl (by decide) ?_
      refine zk_aload_n hc dX6_told_100 0 rfl ?_
      refine zk_get hc inlX6 (ci := 6) rfl 0 0 (by decide) mw_1_12 rfl rfl rfl dX6_told_101 ?_
      refine zk_callVi hc (rest := []) (ct_X5_wagonsInYard g l a u st ds le wg te (u 6) (u 8) (u 9) (u 10) (u 11) (u 7) g1 g2 g3 hY hG hN) gg_X6_49 cd_X5_wagonsInYard ⟨Nat.le_of_ble_eq_true rfl, Nat.le_of_ble_eq_true rfl⟩ ⟨Nat.le_of_ble_eq_true rfl, Nat.le_of_ble_eq_true rfl⟩ (CO b (a 0) (ah 0) xi (ax 0) xs rs ++ (TXW g.2.1 ax tx rd ln fn fk fp ++ (HIW g.2.1 g.2.2 ah f nx ct))) (HSW g.2.1 hs 8 ++ (RI ++ (RS))) (by simp only [List.append_assoc, List.nil_append]) 6 rfl rfl rfl (Nat.le_of_ble_eq_true rfl) dX6_told_104 (fun r W1 hp => ?_)
      obtain ⟨rfl, rfl⟩ := hp
      refine zk_ws (ws2 := CO b (a 0) (ah 0) xi (ax 0) xs rs ++ (TXW g.2.1 ax tx rd ln fn fk fp ++ (HIW g.2.1 g.2.2 ah f nx ct ++ (YW g.2.1 a st ds le wg te (u 4) (u 5) (u 6) (u 8) (u 9) (u 10) (u 11) (u 7) (u 12) g1 g2 g3 ++ (HSW g.2.1 hs 8 ++ (RI ++ (RS))))))) (by simp only [List.append_assoc, List.nil_append]) ?_
      refine fin 0 0 _ _ _ _ (by decide) (by decide) dX6_told_107 (?_)
      exact ⟨by unfold aTol; rw [if_pos hsw]; rfl, by exact CSt_mk g b u pa pm im fl tx ln fk fp rs a st ds le wg te (u 4) (u 5) (u 6) (u 8) (u 9) (u 10) (u 11) (u 7) (u 12) g1 g2 g3 ah f nx ct hs ax rd fn xi xs RI RS (YRel_g hR) hH hT hI hS⟩
    · refine zk_tableIn hc 108 dX6_told_1 (by decide) (by decide) rfl (by decide) ?_
      refine zk_aload_n hc dX6_told_108 0 rfl ?_
      refine zk_get hc inlX6 (ci := 6) rfl 0 0 (by decide) mw_1_12 rfl rfl rfl dX6_told_109 ?_
      refine zk_get hc inlX5 (ci := 5) rfl 6 8 (by decide) mw_4_23 rfl rfl rfl dX6_told_112 ?_
      refine fin 0 0 _ _ _ _ (by decide) (by decide) dX6_told_115 (?_)
      exact ⟨by unfold aTol; rw [if_pos hsw]; rfl, by exact CSt_mk g b u pa pm im fl tx ln fk fp rs a st ds le wg te (u 4) (u 5) (u 6) (u 8) (u 9) (u 10) (u 11) (u 7) (u 12) g1 g2 g3 ah f nx ct hs ax rd fn xi xs RI RS (YRel_g hR) hH hT hI hS⟩
    · refine zk_tableIn hc 116 dX6_told_1 (by decide) (by decide) rfl (by decide) ?_
      refine zk_aload_n hc dX6_told_116 0 rfl ?_
      refine zk_get hc inlX6 (ci := 6) rfl 0 0 (by decide) mw_1_12 rfl rfl rfl dX6_told_117 ?_
      refine zk_callVi hc (rest := []) (ct_X5_unsafeTracks g l a u st ds le wg te (u 6) (u 8) (u 9) (u 10) (u 11) (u 7) g1 g2 g3 hY hG hN) gg_X6_173 cd_X5_unsafeTracks ⟨Nat.le_of_ble_eq_true rfl, Nat.le_of_ble_eq_true rfl⟩ ⟨Nat.le_of_ble_eq_true rfl, Nat.le_of_ble_eq_true rfl⟩ (CO b (a 0) (ah 0) xi (ax 0) xs rs ++ (TXW g.2.1 ax tx rd ln fn fk fp ++ (HIW g.2.1 g.2.2 ah f nx ct))) (HSW g.2.1 hs 8 ++ (RI ++ (RS))) (by simp only [List.append_assoc, List.nil_append]) 6 rfl rfl rfl (Nat.le_of_ble_eq_true rfl) dX6_told_120 (fun r W1 hp => ?_)
      obtain ⟨rfl, g4z_1, g5z_1, g6z_1, rfl⟩ := hp
      refine zk_ws (ws2 := CO b (a 0) (ah 0) xi (ax 0) xs rs ++ (TXW g.2.1 ax tx rd ln fn fk fp ++ (HIW g.2.1 g.2.2 ah f nx ct ++ (YW g.2.1 a st ds le wg te (u 4) (u 5) (u 6) (u 8) (u 9) (u 10) (u 11) (u 7) (u 12) g4z_1 g5z_1 g6z_1 ++ (HSW g.2.1 hs 8 ++ (RI ++ (RS))))))) (by simp only [List.append_assoc, List.nil_append]) ?_
      refine fin 0 0 _ _ _ _ (by decide) (by decide) dX6_told_123 (?_)
      exact ⟨by unfold aTol; rw [if_pos hsw]; rfl, by exact CSt_mk g b u pa pm im fl tx ln fk fp rs a st ds le wg te (u 4) (u 5) (u 6) (u 8) (u 9) (u 10) (u 11) (u 7) (u 12) g4z_1 g5z_1 g6z_1 ah f nx ct hs ax rd fn xi xs RI RS (YRel_g hR) hH hT hI hS⟩
    · refine zk_tableIn hc 124 dX6_told_1 (by decide) (by decide) rfl (by decide) ?_
      refine zk_aload_n hc dX6_told_124 0 rfl ?_
      refine zk_get hc inlX6 (ci := 6) rfl 0 0 (by decide) mw_1_12 rfl rfl rfl dX6_told_125 ?_
      refine zk_get hc inlX5 (ci := 5) rfl 6 3 (by decide) mw_5_0 rfl rfl rfl dX6_told_128 ?_
      refine fin 0 0 _ _ _ _ (by decide) (by decide) dX6_told_131 (?_)
      exact ⟨by unfold aTol; rw [if_pos hsw]; rfl, by exact CSt_mk g b u pa pm im fl tx ln fk fp rs a st ds le wg te (u 4) (u 5) (u 6) (u 8) (u 9) (u 10) (u 11) (u 7) (u 12) g1 g2 g3 ah f nx ct hs ax rd fn xi xs RI RS (YRel_g hR) hH hT hI hS⟩
    · refine zk_tableIn hc 132 dX6_told_1 (by decide) (by decide) rfl (by decide) ?_
      refine zk_aload_n hc dX6_told_132 0 rfl ?_
      refine zk_get hc inlX6 (ci := 6) rfl 0 0 (by decide) mw_1_12 rfl rfl rfl dX6_told_133 ?_
      refine zk_get hc inlX5 (ci := 5) rfl 6 4 (by decide) mw_5_1 rfl rfl rfl dX6_told_136 ?_
      refine fin 0 0 _ _ _ _ (by decide) (by decide) dX6_told_139 (?_)
      exact ⟨by unfold aTol; rw [if_pos hsw]; rfl, by exact CSt_mk g b u pa pm im fl tx ln fk fp rs a st ds le wg te (u 4) (u 5) (u 6) (u 8) (u 9) (u 10) (u 11) (u 7) (u 12) g1 g2 g3 ah f nx ct hs ax rd fn xi xs RI RS (YRel_g hR) hH hT hI hS⟩
    · refine zk_tableIn hc 140 dX6_told_1 (by decide) (by decide) rfl (by decide) ?_
      refine zk_aload_n hc dX6_told_140 0 rfl ?_
      refine zk_get hc inlX6 (ci := 6) rfl 0 0 (by decide) mw_1_12 rfl rfl rfl dX6_told_141 ?_
      refine zk_get hc inlX5 (ci := 5) rfl 6 5 (by decide) mw_5_2 rfl rfl rfl dX6_told_144 ?_
      refine fin 0 0 _ _ _ _ (by decide) (by decide) dX6_told_147 (?_)
      exact ⟨by unfold aTol; rw [if_pos hsw]; rfl, by exact CSt_mk g b u pa pm im fl tx ln fk fp rs a st ds le wg te (u 4) (u 5) (u 6) (u 8) (u 9) (u 10) (u 11) (u 7) (u 12) g1 g2 g3 ah f nx ct hs ax rd fn xi xs RI RS (YRel_g hR) hH hT hI hS⟩
    · refine zk_tableIn hc 148 dX6_told_1 (by decide) (by decide) rfl (by decide) ?_
      refine zk_aload_n hc dX6_told_148 0 rfl ?_
      refine zk_get hc inlX6 (ci := 6) rfl 0 0 (by decide) mw_1_12 rfl rfl rfl dX6_told_149 ?_
      refine zk_get hc inlX5 (ci := 5) rfl 6 6 (by decide) mw_5_3 rfl rfl rfl dX6_told_152 ?_
      refine fin 0 0 _ _ _ _ (by decide) (by decide) dX6_told_155 (?_)
      exact ⟨by unfold aTol; rw [if_pos hsw]; rfl, by exact CSt_mk g b u pa pm im fl tx ln fk fp rs a st ds le wg te (u 4) (u 5) (u 6) (u 8) (u 9) (u 10) (u 11) (u 7) (u 12) g1 g2 g3 ah f nx ct hs ax rd fn xi xs RI RS (YRel_g hR) hH hT hI hS⟩
    · refine zk_tableIn hc 156 dX6_told_1 (by decide) (by decide) rfl (by decide) ?_
      refine zk_aload_n hc dX6_told_156 0 rfl ?_
      refine zk_get hc inlX6 (ci := 6) rfl 0 0 (by decide) mw_1_12 rfl rfl rfl dX6_told_157 ?_
      refine zk_get hc inlX5 (ci := 5) rfl 6 7 (by decide) mw_5_4 rfl rfl rfl dX6_told_160 ?_
      refine fin 0 0 _ _ _ _ (by decide) (by decide) dX6_told_163 (?_)
      exact ⟨by unfold aTol; rw [if_pos hsw]; rfl, by exact CSt_mk g b u pa pm im fl tx ln fk fp rs a st ds le wg te (u 4) (u 5) (u 6) (u 8) (u 9) (u 10) (u 11) (u 7) (u 12) g1 g2 g3 ah f nx ct hs ax rd fn xi xs RI RS (YRel_g hR) hH hT hI hS⟩
    · refine zk_tableIn hc 164 dX6_told_1 (by decide) (by decide) rfl (by decide) ?_
      refine zk_aload_n hc dX6_told_164 0 rfl ?_
      refine zk_get hc inlX6 (ci := 6) rfl 0 5 (by decide) mw_2_2 rfl rfl rfl dX6_told_165 ?_
      refine fin 0 0 _ _ _ _ (by decide) (by decide) dX6_told_168 (?_)
      exact ⟨by unfold aTol; rw [if_pos hsw]; rfl, by exact CSt_mk g b u pa pm im fl tx ln fk fp rs a st ds le wg te (u 4) (u 5) (u 6) (u 8) (u 9) (u 10) (u 11) (u 7) (u 12) g1 g2 g3 ah f nx ct hs ax rd fn xi xs RI RS (YRel_g hR) hH hT hI hS⟩
    · refine zk_tableIn hc 169 dX6_told_1 (by decide) (by decide) rfl (by decide) ?_
      refine zk_aload_n hc dX6_told_169 0 rfl ?_
      refine zk_get hc inlX6 (ci := 6) rfl 0 0 (by decide) mw_1_12 rfl rfl rfl dX6_told_170 ?_
      refine zk_callVi hc (rest := []) (ct_X5_madeUpTrack g l a u st ds le wg te (u 6) (u 8) (u 9) (u 10) (u 11) (u 7) g1 g2 g3 hY hG hN) gg_X6_189 cd_X5_madeUpTrack ⟨Nat.le_of_ble_eq_true rfl, Nat.le_of_ble_eq_true rfl⟩ ⟨Nat.le_of_ble_eq_true rfl, Nat.le_of_ble_eq_true rfl⟩ (CO b (a 0) (ah 0) xi (ax 0) xs rs ++ (TXW g.2.1 ax tx rd ln fn fk fp ++ (HIW g.2.1 g.2.2 ah f nx ct))) (HSW g.2.1 hs 8 ++ (RI ++ (RS))) (by simp only [List.append_assoc, List.nil_append]) 6 rfl rfl rfl (Nat.le_of_ble_eq_true rfl) dX6_told_173 (fun r W1 hp => ?_)
      obtain ⟨rfl, rfl⟩ := hp
      refine zk_ws (ws2 := CO b (a 0) (ah 0) xi (ax 0) xs rs ++ (TXW g.2.1 ax tx rd ln fn fk fp ++ (HIW g.2.1 g.2.2 ah f nx ct ++ (YW g.2.1 a st ds le wg te (u 4) (u 5) (u 6) (u 8) (u 9) (u 10) (u 11) (u 7) (u 12) g1 g2 g3 ++ (HSW g.2.1 hs 8 ++ (RI ++ (RS))))))) (by simp only [List.append_assoc, List.nil_append]) ?_
      refine fin 0 0 _ _ _ _ (by decide) (by decide) dX6_told_176 (?_)
      exact ⟨by unfold aTol; rw [if_pos hsw]; rfl, by exact CSt_mk g b u pa pm im fl tx ln fk fp rs a st ds le wg te (u 4) (u 5) (u 6) (u 8) (u 9) (u 10) (u 11) (u 7) (u 12) g1 g2 g3 ah f nx ct hs ax rd fn xi xs RI RS (YRel_g hR) hH hT hI hS⟩
    · refine zk_tableIn hc 177 dX6_told_1 (by decide) (by decide) rfl (by decide) ?_
      refine zk_aload_n hc dX6_told_177 0 rfl ?_
      refine zk_get hc inlX6 (ci := 6) rfl 0 3 (by decide) mw_1_21 rfl rfl rfl dX6_told_178 ?_
      refine zk_get hc inlX4 (ci := 4) rfl 1 1 (by decide) mw_5_5 rfl rfl rfl dX6_told_181 ?_
      refine fin 0 0 _ _ _ _ (by decide) (by decide) dX6_told_184 (?_)
      exact ⟨by unfold aTol; rw [if_pos hsw]; rfl, by exact CSt_mk g b u pa pm im fl tx ln fk fp rs a st ds le wg te (u 4) (u 5) (u 6) (u 8) (u 9) (u 10) (u 11) (u 7) (u 12) g1 g2 g3 ah f nx ct hs ax rd fn xi xs RI RS (YRel_g hR) hH hT hI hS⟩
    · refine zk_tableIn hc 185 dX6_told_1 (by decide) (by decide) rfl (by decide) ?_
      refine zk_aload_n hc dX6_told_185 0 rfl ?_
      refine zk_get hc inlX6 (ci := 6) rfl 0 1 (by decide) mw_1_16 rfl rfl rfl dX6_told_186 ?_
      refine zk_get hc inlX1 (ci := 1) rfl 4 2 (by decide) mw_5_6 rfl rfl rfl dX6_told_189 ?_
      refine fin 0 0 _ _ _ _ (by decide) (by decide) dX6_told_192 (?_)
      exact ⟨by unfold aTol; rw [if_pos hsw]; exact congrArg nI hH.2.1, by exact CSt_mk g b u pa pm im fl tx ln fk fp rs a st ds le wg te (u 4) (u 5) (u 6) (u 8) (u 9) (u 10) (u 11) (u 7) (u 12) g1 g2 g3 ah f nx ct hs ax rd fn xi xs RI RS (YRel_g hR) hH hT hI hS⟩
  · refine zk_tableOut hc 193 dX6_told_1 (tab_out (hi := 14) (by decide) hsw) (by decide) ?_
    refine zk_iconst hc ((-1)) dX6_told_193 rfl ?_
    refine fin 0 0 _ _ _ _ (by decide) (by decide) dX6_told_194 (?_)
    exact ⟨by unfold aTol; rw [if_neg hsw], by exact CSt_mk g b u pa pm im fl tx ln fk fp rs a st ds le wg te (u 4) (u 5) (u 6) (u 8) (u 9) (u 10) (u 11) (u 7) (u 12) g1 g2 g3 ah f nx ct hs ax rd fn xi xs RI RS (YRel_g hR) hH hT hI hS⟩
