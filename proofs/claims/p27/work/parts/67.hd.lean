set_option maxHeartbeats 4000000 in
set_option maxRecDepth 100000 in
theorem ct_X1_restore1 (g : GG) (l : Launch) (ah a : Nat → Nat) (f : Nat → Option Nat) (hs : Nat → Option YT) (nx ct : Nat) (st ds le wg : Nat → Nat) (te : Nat → Int32) (K C ck mv mm tg gn wc tn g1 g2 g3 : Nat) (hf : ∀ k, k < 8 → f k = adO (hs k)) (hnx : nx < 8) (hct : 1 ≤ ct) (hc8 : ct ≤ 8) (a1 st1 ds1 le1 wg1 : Nat → Nat) (te1 : Nat → Int32) (K1 C1 ck1 mv1 mm1 tg1 gn1 wc1 tn1 g11 g21 g31 : Nat) (hn : hs ((nx + 8 - 1) % 8) = some (a1, st1, ds1, le1, wg1, te1, K1, C1, ck1, mv1, mm1, tg1, gn1, wc1, tn1, g11, g21, g31)) (u : Nat → Nat) (hG : GU u) (hR : YRel (a1, st1, ds1, le1, wg1, te1, K1, C1, ck1, mv1, mm1, tg1, gn1, wc1, tn1, g11, g21, g31) u) : CtI g l yX1_restore cX1_restore 3 (some .boolean) (rmK 4 0 0) (HIW g.2.1 g.2.2 ah f nx ct ++ (YW g.2.1 a st ds le wg te K C ck mv mm tg gn wc tn g1 g2 g3 ++ (HSW g.2.1 hs 8))) [.ref (ah 0), .ref (a 0)] (fun r W1 => r = nI 1 ∧ ∃ st2 ds2 le2 wg2 te2 K2 C2 ck2 mv2 mm2 tg2 gn2 wc2 tn2, W1 = HIW g.2.1 g.2.2 ah f ((nx + 8 - 1) % 8) (ct - 1) ++ (YW g.2.1 a st2 ds2 le2 wg2 te2 K2 C2 ck2 mv2 mm2 tg2 gn2 wc2 tn2 g1 g2 g3 ++ (HSW g.2.1 hs 8)) ∧ YRel (a, st2, ds2, le2, wg2, te2, K2, C2, ck2, mv2, mm2, tg2, gn2, wc2, tn2, g1, g2, g3) u) := by
  refine CtZ.go RX1 rfl (by decide +kernel) (Nat.le_of_ble_eq_true rfl) ?_
  intro p e s m args below meth c A H0 Q hc hnm fin
  show KW g p l e (rmK 4 0 0) s m args below meth c 3 A H0 0 0 Q (HIW g.2.1 g.2.2 ah f nx ct ++ (YW g.2.1 a st ds le wg te K C ck mv mm tg gn wc tn g1 g2 g3 ++ (HSW g.2.1 hs 8))) [(0, .ref (ah 0)), (1, .ref (a 0))] 0 []
  refine zk_perm (ws2 := HIW g.2.1 g.2.2 ah f nx ct ++ (YW g.2.1 a st ds le wg te K C ck mv mm tg gn wc tn g1 g2 g3 ++ (YW g.2.1 a1 st1 ds1 le1 wg1 te1 K1 C1 ck1 mv1 mm1 tg1 gn1 wc1 tn1 g11 g21 g31 ++ (HSW g.2.1 (setO hs ((nx + 8 - 1) % 8) none) 8)))) (List.Perm.append_left _ (List.Perm.append_left _ (hs_out (cI := g.2.1) hn (by omega)))) ?_
  refine zk_aload_n hc dX1_restore_0 0 rfl ?_
  refine zk_get hc inlX1 (ci := 1) rfl 0 1 (by decide) mw_8_3 rfl rfl rfl dX1_restore_1 ?_
  refine zk_bipush hc (nI 8) dX1_restore_4 rfl ?_
  refine zk_iaddN hc dX1_restore_6 ?_
  refine zk_iconst hc (nI 1) dX1_restore_7 rfl ?_
  refine zk_isubN hc dX1_restore_8 (by omega) ?_
  refine zk_bipush hc (nI 8) dX1_restore_9 rfl ?_
  refine zk_iremN hc dX1_restore_11 (by omega) (by omega) (by omega) ?_
  refine zk_istore_n hc (lv2 := [(2, .int (nI (((nx + 8) - 1) % 8))), (0, .ref (ah 0)), (1, .ref (a 0))]) dX1_restore_12 (by decide) rfl ?_
  refine zk_aload_n hc dX1_restore_13 1 rfl ?_
  refine zk_get hc inlX1 (ci := 1) rfl 0 2 (by decide) mw_8_4 rfl rfl rfl dX1_restore_14 ?_
  refine zk_if_eqN hc 29 dX1_restore_17 (by decide) (by omega) (fun h_1 => ?_) (fun h_1 => ?_)
  · exact absurd h_1 (by omega)
  · refine zk_aload_n hc dX1_restore_20 1 rfl ?_
    refine zk_get hc inlX1 (ci := 1) rfl 0 0 (by decide) mw_3_1 rfl rfl rfl dX1_restore_21 ?_
    refine zk_iload_n hc dX1_restore_24 0 rfl ?_
    refine zk_aald hc 1 rfl (by omega) (by decide) dX1_restore_25 ?_
    rw [show f ((nx + 8 - 1) % 8) = some (a1 0) from by rw [hf _ (by omega), hn]; rfl]
    show KW g p l e (rmK 4 0 0) s m args below meth c 3 A H0 0 0 Q (HIW g.2.1 g.2.2 ah f nx ct ++ (YW g.2.1 a st ds le wg te K C ck mv mm tg gn wc tn g1 g2 g3 ++ (YW g.2.1 a1 st1 ds1 le1 wg1 te1 K1 C1 ck1 mv1 mm1 tg1 gn1 wc1 tn1 g11 g21 g31 ++ (HSW g.2.1 (setO hs ((nx + 8 - 1) % 8) none) 8)))) [(2, .int (nI (((nx + 8) - 1) % 8))), (0, .ref (ah 0)), (1, .ref (a 0))] 26 [.ref (a1 0)]
    refine zk_nonnull hc 31 dX1_restore_26 (by decide) ?_
    refine zk_aload_n hc dX1_restore_31 2 rfl ?_
    refine zk_aload_n hc dX1_restore_32 1 rfl ?_
    refine zk_get hc inlX1 (ci := 1) rfl 0 0 (by decide) mw_3_1 rfl rfl rfl dX1_restore_33 ?_
    refine zk_iload_n hc dX1_restore_36 0 rfl ?_
    refine zk_aald hc 1 rfl (by omega) (by decide) dX1_restore_37 ?_
    rw [show f ((nx + 8 - 1) % 8) = some (a1 0) from by rw [hf _ (by omega), hn]; rfl]
    show KW g p l e (rmK 4 0 0) s m args below meth c 3 A H0 0 0 Q (HIW g.2.1 g.2.2 ah f nx ct ++ (YW g.2.1 a st ds le wg te K C ck mv mm tg gn wc tn g1 g2 g3 ++ (YW g.2.1 a1 st1 ds1 le1 wg1 te1 K1 C1 ck1 mv1 mm1 tg1 gn1 wc1 tn1 g11 g21 g31 ++ (HSW g.2.1 (setO hs ((nx + 8 - 1) % 8) none) 8)))) [(2, .int (nI (((nx + 8) - 1) % 8))), (0, .ref (ah 0)), (1, .ref (a 0))] 38 [.ref (a1 0), .ref (a 0)]
    refine zk_callVv hc (rest := []) (ct_X5_copyFrom g l a st ds le wg te K C ck mv mm tg gn wc tn g1 g2 g3 a1 st1 ds1 le1 wg1 te1 K1 C1 ck1 mv1 mm1 tg1 gn1 wc1 tn1 g11 g21 g31) gg_X1_22 cd_X5_copyFrom ⟨Nat.le_of_ble_eq_true rfl, Nat.le_of_ble_eq_true rfl⟩ ⟨Nat.le_of_ble_eq_true rfl, Nat.le_of_ble_eq_true rfl⟩ (HIW g.2.1 g.2.2 ah f nx ct) (HSW g.2.1 (setO hs ((nx + 8 - 1) % 8) none) 8) rfl 2 rfl rfl rfl (Nat.le_of_ble_eq_true rfl) dX1_restore_38 (fun W1 hp => ?_)
    obtain rfl := hp
    refine zk_ws (ws2 := HIW g.2.1 g.2.2 ah f nx ct ++ (YW g.2.1 a (va_cpy st1 st 0 0 4) (va_cpy ds1 ds 0 0 10) (va_cpy le1 le 0 0 4) (va_cpy wg1 wg 0 0 32) (va_cpy te1 te 0 0 4) K1 C1 ck1 mv1 mm1 tg1 gn1 wc1 tn1 g1 g2 g3 ++ (YW g.2.1 a1 st1 ds1 le1 wg1 te1 K1 C1 ck1 mv1 mm1 tg1 gn1 wc1 tn1 g11 g21 g31 ++ (HSW g.2.1 (setO hs ((nx + 8 - 1) % 8) none) 8)))) rfl ?_
    refine zk_aload_n hc dX1_restore_41 1 rfl ?_
    refine zk_iload_n hc dX1_restore_42 0 rfl ?_
    refine zk_put hc inlX1 (ci := 1) rfl tyX1 tyX1_ok nmX1 0 1 (by decide) mw_8_3 rfl rfl rfl rfl rfl (Nat.le_of_ble_eq_true rfl) (ws2 := HIW g.2.1 g.2.2 ah f (((nx + 8) - 1) % 8) ct ++ (YW g.2.1 a (va_cpy st1 st 0 0 4) (va_cpy ds1 ds 0 0 10) (va_cpy le1 le 0 0 4) (va_cpy wg1 wg 0 0 32) (va_cpy te1 te 0 0 4) K1 C1 ck1 mv1 mm1 tg1 gn1 wc1 tn1 g1 g2 g3 ++ (YW g.2.1 a1 st1 ds1 le1 wg1 te1 K1 C1 ck1 mv1 mm1 tg1 gn1 wc1 tn1 g11 g21 g31 ++ (HSW g.2.1 (setO hs ((nx + 8 - 1) % 8) none) 8)))) rfl dX1_restore_43 ?_
    refine zk_aload_n hc dX1_restore_46 1 rfl ?_
    refine zk_dup hc dX1_restore_47 rfl ?_
    refine zk_get hc inlX1 (ci := 1) rfl 0 2 (by decide) mw_8_4 rfl rfl rfl dX1_restore_48 ?_
    refine zk_iconst hc (nI 1) dX1_restore_51 rfl ?_
    refine zk_isubN hc dX1_restore_52 (by omega) ?_
    refine zk_put hc inlX1 (ci := 1) rfl tyX1 tyX1_ok nmX1 0 2 (by decide) mw_8_4 rfl rfl rfl rfl rfl (Nat.le_of_ble_eq_true rfl) (ws2 := HIW g.2.1 g.2.2 ah f (((nx + 8) - 1) % 8) (ct - 1) ++ (YW g.2.1 a (va_cpy st1 st 0 0 4) (va_cpy ds1 ds 0 0 10) (va_cpy le1 le 0 0 4) (va_cpy wg1 wg 0 0 32) (va_cpy te1 te 0 0 4) K1 C1 ck1 mv1 mm1 tg1 gn1 wc1 tn1 g1 g2 g3 ++ (YW g.2.1 a1 st1 ds1 le1 wg1 te1 K1 C1 ck1 mv1 mm1 tg1 gn1 wc1 tn1 g11 g21 g31 ++ (HSW g.2.1 (setO hs ((nx + 8 - 1) % 8) none) 8)))) rfl dX1_restore_53 ?_
    refine zk_perm (ws2 := HIW g.2.1 g.2.2 ah f (((nx + 8) - 1) % 8) (ct - 1) ++ (YW g.2.1 a (va_cpy st1 st 0 0 4) (va_cpy ds1 ds 0 0 10) (va_cpy le1 le 0 0 4) (va_cpy wg1 wg 0 0 32) (va_cpy te1 te 0 0 4) K1 C1 ck1 mv1 mm1 tg1 gn1 wc1 tn1 g1 g2 g3 ++ (HSW g.2.1 hs 8))) (List.Perm.append_left _ (List.Perm.append_left _ (hs_out (cI := g.2.1) hn (by omega)).symm)) ?_
    refine zk_iconst hc (nI 1) dX1_restore_56 rfl ?_
    refine fin 0 0 _ _ _ _ (by decide) (by decide) dX1_restore_57 rfl (?_)
    exact ⟨rfl, _, _, _, _, _, _, _, _, _, _, _, _, _, _, rfl, YRel_cpy hR hG⟩
