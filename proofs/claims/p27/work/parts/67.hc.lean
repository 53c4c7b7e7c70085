set_option maxHeartbeats 4000000 in
set_option maxRecDepth 100000 in
theorem ct_X1_restore0 (g : GG) (l : Launch) (ah a : Nat → Nat) (f : Nat → Option Nat) (hs : Nat → Option YT) (nx : Nat) (st ds le wg : Nat → Nat) (te : Nat → Int32) (K C ck mv mm tg gn wc tn g1 g2 g3 : Nat) (hf : ∀ k, k < 8 → f k = adO (hs k)) (hnx : nx < 8)  : CtI g l yX1_restore cX1_restore 3 (some .boolean) (rmK 4 0 0) (HIW g.2.1 g.2.2 ah f nx 0 ++ (YW g.2.1 a st ds le wg te K C ck mv mm tg gn wc tn g1 g2 g3 ++ (HSW g.2.1 hs 8))) [.ref (ah 0), .ref (a 0)] (fun r W1 => r = nI 0 ∧ W1 = HIW g.2.1 g.2.2 ah f nx 0 ++ (YW g.2.1 a st ds le wg te K C ck mv mm tg gn wc tn g1 g2 g3 ++ (HSW g.2.1 hs 8))) := by
  refine CtZ.go RX1 rfl (by decide +kernel) (Nat.le_of_ble_eq_true rfl) ?_
  intro p e s m args below meth c A H0 Q hc hnm fin
  show KW g p l e (rmK 4 0 0) s m args below meth c 3 A H0 0 0 Q (HIW g.2.1 g.2.2 ah f nx 0 ++ (YW g.2.1 a st ds le wg te K C ck mv mm tg gn wc tn g1 g2 g3 ++ (HSW g.2.1 hs 8))) [(0, .ref (ah 0)), (1, .ref (a 0))] 0 []
  refine zk_aload_n hc dX1_restore_0 0 rfl ?_
  refine zk_get hc inlX1 (ci := 1) rfl 0 1 (by decide) mw_8_3 rfl rfl rfl dX1_restore_1 ?_
  refine zk_bipush hc (nI 8) dX1_restore_4 rfl ?_
  refine zk_iaddN hc dX1_restore_6 ?_
  refine zk_iconst hc (nI 1) dX1_restore_7 rfl ?_
  refine zk_isubN hc dX1_restore_8 (by omega) ?_
  refine zk_bipush hc (nI 8) dX1_restore_9 rfl ?_
  refine zk_iremN hc dX1_restore_11 (by omega) (by omega) (by omega) ?_
  refine zk_istore_n hc (lv2 := [(2, .int (nI (((nx + 8) - 1) % 8))), (0, .ref (ah 0)), (1, .ref (a 0))]) dX1_restore_12 (by decide) rfl ?_
  refine zk_aload_n hc dX1_restore_13 1 rfl ?_
  refine zk_get hc inlX1 (ci := 1) rfl 0 2 (by decide) mw_8_4 rfl rfl rfl dX1_restore_14 ?_
  refine zk_if_eqN hc 29 dX1_restore_17 (by decide) (by omega) (fun h_1 => ?_) (fun h_1 => ?_)
  · refine zk_iconst hc (nI 0) dX1_restore_29 rfl ?_
    exact fin 0 0 _ _ _ _ (by decide) (by decide) dX1_restore_30 rfl (⟨rfl, rfl⟩)
  · exact absurd h_1 (by decide)
