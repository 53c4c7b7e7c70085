set_option maxHeartbeats 4000000 in
set_option maxRecDepth 100000 in
theorem cx_X6_mean (g : GG) (l : Launch) (b : Nat) (a u st ds le wg : Nat → Nat) (te : Nat → Int32) (g1 g2 g3 : Nat) (ah : Nat → Nat) (f : Nat → Option Nat) (nx ct : Nat) (hs : Nat → Option YT) (ax tx rd : Nat → Nat) (ln fn : Nat) (fk fp rs : Int32) (xi xs : Nat) (RI RS : va_W) (pa : Nat → Nat) (pm : Nat) (im : Nat → Nat) (fl cN : Nat) (hcN : cN ≤ 512) (hW : Wf cN u) (hR : YRel (a, st, ds, le, wg, te, u 4, u 5, u 6, u 8, u 9, u 10, u 11, u 7, u 12, g1, g2, g3) u) (hH : HR hs f nx ct pa pm) (hT : TR tx ln) (hI : IP g xi im fl RI) (hS : SP g xs RS)  : CtF g l yX6_mean cX6_mean 1 (rmK 4 0 0) (CO b (a 0) (ah 0) xi (ax 0) xs rs ++ (TXW g.2.1 ax tx rd ln fn fk fp ++ (HIW g.2.1 g.2.2 ah f nx ct ++ (YW g.2.1 a st ds le wg te (u 4) (u 5) (u 6) (u 8) (u 9) (u 10) (u 11) (u 7) (u 12) g1 g2 g3 ++ (HSW g.2.1 hs 8 ++ (RI ++ (RS))))))) [.ref b] (fun r W1 => r = menV u ∧ CSt g b (u, pa, pm, im, fl, tx, ln, fk, fp, rs) W1) := by
  refine CtF.go RX6 rfl (by decide +kernel) (Nat.le_of_ble_eq_true rfl) ?_
  intro p e s m args below meth c A H0 Q hc hnm fin
  have hG := wf_GU hW
  have hN := wf_GN hcN hW
  have hY := hR.1
  have hte := hR.2.2.2.2.2.2.2.2.2.2
  obtain ⟨hK4, hC8, hv2, hg3, hm, hdk, h13, h12⟩ := id hG
  have hK2 := hW.1.1
  have hK1 : 1 ≤ u 4 := by omega
  have h8 := hW.2.2.2.2.2.2.2.2.2.2.2 8 (by omega)
  show KW g p l e (rmK 4 0 0) s m args below meth c 1 A H0 0 0 Q (CO b (a 0) (ah 0) xi (ax 0) xs rs ++ (TXW g.2.1 ax tx rd ln fn fk fp ++ (HIW g.2.1 g.2.2 ah f nx ct ++ (YW g.2.1 a st ds le wg te (u 4) (u 5) (u 6) (u 8) (u 9) (u 10) (u 11) (u 7) (u 12) g1 g2 g3 ++ (HSW g.2.1 hs 8 ++ (RI ++ (RS))))))) [(0, .ref b)] 0 []
  refine zk_aload_n hc dX6_mean_0 0 rfl ?_
  refine zk_get hc inlX6 (ci := 6) rfl 0 0 (by decide) mw_1_12 rfl rfl rfl dX6_mean_1 ?_
  refine zk_get hc inlX5 (ci := 5) rfl 6 3 (by decide) mw_5_0 rfl rfl rfl dX6_mean_4 ?_
  refine zk_if_neN hc 14 dX6_mean_7 (by decide) (by omega) (fun h0 => ?_) (fun h0 => ?_)
  · refine zk_aload_n hc dX6_mean_14 0 rfl ?_
    refine zk_get hc inlX6 (ci := 6) rfl 0 0 (by decide) mw_1_12 rfl rfl rfl dX6_mean_15 ?_
    refine zk_get hc inlX5 (ci := 5) rfl 6 4 (by decide) mw_5_1 rfl rfl rfl dX6_mean_18 ?_
    refine zk_i2f hc dX6_mean_21 ?_
    refine zk_aload_n hc dX6_mean_22 0 rfl ?_
    refine zk_get hc inlX6 (ci := 6) rfl 0 0 (by decide) mw_1_12 rfl rfl rfl dX6_mean_23 ?_
    refine zk_get hc inlX5 (ci := 5) rfl 6 3 (by decide) mw_5_0 rfl rfl rfl dX6_mean_26 ?_
    refine zk_i2f hc dX6_mean_29 ?_
    refine zk_fdiv hc (men_div (by omega) (by omega)) dX6_mean_30 ?_
    refine fin 0 0 _ _ _ _ (by decide) (by decide) dX6_mean_31 ?_
    exact ⟨by unfold menV; rw [if_neg h0], by exact CSt_mk g b u pa pm im fl tx ln fk fp rs a st ds le wg te (u 4) (u 5) (u 6) (u 8) (u 9) (u 10) (u 11) (u 7) (u 12) g1 g2 g3 ah f nx ct hs ax rd fn xi xs RI RS (YRel_g hR) hH hT hI hS⟩
  · refine zk_fconst0 hc dX6_mean_10 ?_
    refine zk_goto hc 31 dX6_mean_11 (by decide) ?_
    refine fin 0 0 _ _ _ _ (by decide) (by decide) dX6_mean_31 ?_
    exact ⟨by unfold menV; rw [if_pos h0], by exact CSt_mk g b u pa pm im fl tx ln fk fp rs a st ds le wg te (u 4) (u 5) (u 6) (u 8) (u 9) (u 10) (u 11) (u 7) (u 12) g1 g2 g3 ah f nx ct hs ax rd fn xi xs RI RS (YRel_g hR) hH hT hI hS⟩
