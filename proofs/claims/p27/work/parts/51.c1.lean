set_option maxHeartbeats 4000000 in
set_option maxRecDepth 100000 in
theorem ct_J7_fill_53178 (g : GG) (l : Launch) (a : Nat) (f : Nat → Int32) (v : Int32) : CtV g l yJ7_fill_53178 cJ7_fill_53178 4 (rmK 1 0 0) (AW g.2.1 a 4 f) [.ref a, .int v] (fun W1 => W1 = AW g.2.1 a 4 (fun j => if j < 4 then v else f j)) := by
  refine CtV.go RJ7 rfl (by decide +kernel) (Nat.le_of_ble_eq_true rfl) ?_
  intro p e s m args below meth c A H0 Q hc hnm fin
  show KW g p l e (rmK 1 0 0) s m args below meth c 4 A H0 0 0 Q (AW g.2.1 a 4 f) [(0, .ref a), (1, .int v)] 0 []
  refine zk_iconst hc (nI 0) dJ7_fill_53178_0 rfl ?_
  refine zk_istore_n hc (lv2 := [(2, .int (nI 0)), (0, .ref a), (1, .int v)]) dJ7_fill_53178_1 (by decide) rfl ?_
  refine zk_aload_n hc dJ7_fill_53178_2 1 rfl ?_
  refine zk_alenI hc 0 rfl dJ7_fill_53178_3 ?_
  refine zk_istore_n hc (lv2 := [(3, .int (nI 4)), (2, .int (nI 0)), (0, .ref a), (1, .int v)]) dJ7_fill_53178_4 (by decide) rfl ?_
  refine zk_ws (ws2 := AW g.2.1 a 4 (fun j => if j < 0 then v else f j)) (congrArg (fun zz => AW g.2.1 a 4 zz) (show f = (fun j => if j < 0 then v else f j) from fil_0 f v)) ?_
  have loop5 : ∀ (N : Nat) (q : Nat), 4 - q < N → (q ≤ 4) → KW g p l e (rmK 1 0 0) s m args below meth c 4 A H0 0 0 Q (AW g.2.1 a 4 (fun j => if j < q then v else f j)) [(0, .ref a), (1, .int v), (2, .int (nI q)), (3, .int (nI 4))] 5 [] := by
    intro N
    induction N with
    | zero => intro q hm; exact absurd hm (Nat.not_lt_zero _)
    | succ N ih5 =>
      intro q hm5 hq
      refine zk_iload_n hc dJ7_fill_53178_5 2 rfl ?_
      refine zk_iload_n hc dJ7_fill_53178_6 3 rfl ?_
      refine zk_icmp_geN hc 20 dJ7_fill_53178_7 (by decide) (by omega) (by omega) (fun h_1 => ?_) (fun h_1 => ?_)
      · refine fin 0 0 _ _ _ (by decide) (by decide) dJ7_fill_53178_20 (?_)
        exact congrArg (AW g.2.1 a 4) (fil_end (by omega))
      · refine zk_aload_n hc dJ7_fill_53178_10 0 rfl ?_
        refine zk_iload_n hc dJ7_fill_53178_11 2 rfl ?_
        refine zk_iload_n hc dJ7_fill_53178_12 1 rfl ?_
        refine zk_iastR hc 0 rfl (by omega) (by decide) (ws2 := AW g.2.1 a 4 (upd (fun j => if j < q then v else f j) q v)) rfl dJ7_fill_53178_13 ?_
        refine zk_ws (ws2 := AW g.2.1 a 4 (fun j => if j < q + 1 then v else f j)) (congrArg (fun zz => AW g.2.1 a 4 zz) (show upd (fun j => if j < q then v else f j) q v = (fun j => if j < q + 1 then v else f j) from fil_step f v q)) ?_
        refine zk_iinc hc (v := nI (q + 1)) (lv2 := [(2, .int (nI (q + 1))), (0, .ref a), (1, .int v), (3, .int (nI 4))]) dJ7_fill_53178_14 2 rfl (nq_inc rfl) (by decide) rfl ?_
        refine zk_goto hc 5 dJ7_fill_53178_17 (by decide) ?_
        refine zk_lv [1, 2, 0, 3] (lv2 := [(0, .ref a), (1, .int v), (2, .int (nI (q + 1))), (3, .int (nI 4))]) rfl ?_
        exact ih5 (q + 1) (by omega) (by omega)
  refine zk_lv [2, 3, 1, 0] (lv2 := [(0, .ref a), (1, .int v), (2, .int (nI 0)), (3, .int (nI 4))]) rfl ?_
  exact loop5 ((4 - 0) + 1) 0 (Nat.lt_succ_self _) (Nat.zero_le _)

set_option maxHeartbeats 4000000 in
set_option maxRecDepth 100000 in
theorem ct_X5_restart (g : GG) (l : Launch) (a : Nat → Nat) (st ds le wg : Nat → Nat) (te : Nat → Int32) (K C ck mv mm tg gn wc tn g1 g2 g3 : Nat) (k1 c1 : Nat) : CtV g l yX5_restart cX5_restart 3 (rmK 2 0 0) (YW g.2.1 a st ds le wg te K C ck mv mm tg gn wc tn g1 g2 g3) [.ref (a 0), .int (nI k1), .int (nI c1)] (fun W1 => W1 = YW g.2.1 a st ds (fun j => if j < 4 then 0 else le j) wg (fun j => if j < 4 then (-1) else te j) k1 c1 0 0 0 0 0 0 0 g1 g2 g3) := by
  refine CtV.go RX5 rfl (by decide +kernel) (Nat.le_of_ble_eq_true rfl) ?_
  intro p e s m args below meth c A H0 Q hc hnm fin
  show KW g p l e (rmK 2 0 0) s m args below meth c 3 A H0 0 0 Q (YW g.2.1 a st ds le wg te K C ck mv mm tg gn wc tn g1 g2 g3) [(0, .ref (a 0)), (1, .int (nI k1)), (2, .int (nI c1))] 0 []
  refine zk_aload_n hc dX5_restart_0 0 rfl ?_
  refine zk_iload_n hc dX5_restart_1 1 rfl ?_
  refine zk_put hc inlX5 (ci := 5) rfl tyX5 tyX5_ok nmX5 0 0 (by decide) mw_2_6 rfl rfl rfl rfl rfl (Nat.le_of_ble_eq_true rfl) (ws2 := YW g.2.1 a st ds le wg te k1 C ck mv mm tg gn wc tn g1 g2 g3) rfl dX5_restart_2 ?_
  refine zk_aload_n hc dX5_restart_5 0 rfl ?_
  refine zk_iload_n hc dX5_restart_6 2 rfl ?_
  refine zk_put hc inlX5 (ci := 5) rfl tyX5 tyX5_ok nmX5 0 1 (by decide) mw_2_7 rfl rfl rfl rfl rfl (Nat.le_of_ble_eq_true rfl) (ws2 := YW g.2.1 a st ds le wg te k1 c1 ck mv mm tg gn wc tn g1 g2 g3) rfl dX5_restart_7 ?_
  refine zk_aload_n hc dX5_restart_10 0 rfl ?_
  refine zk_iconst hc (nI 0) dX5_restart_11 rfl ?_
  refine zk_put hc inlX5 (ci := 5) rfl tyX5 tyX5_ok nmX5 0 2 (by decide) mw_8_10 rfl rfl rfl rfl rfl (Nat.le_of_ble_eq_true rfl) (ws2 := YW g.2.1 a st ds le wg te k1 c1 0 mv mm tg gn wc tn g1 g2 g3) rfl dX5_restart_12 ?_
  refine zk_aload_n hc dX5_restart_15 0 rfl ?_
  refine zk_iconst hc (nI 0) dX5_restart_16 rfl ?_
  refine zk_put hc inlX5 (ci := 5) rfl tyX5 tyX5_ok nmX5 0 3 (by decide) mw_8_11 rfl rfl rfl rfl rfl (Nat.le_of_ble_eq_true rfl) (ws2 := YW g.2.1 a st ds le wg te k1 c1 0 0 mm tg gn wc tn g1 g2 g3) rfl dX5_restart_17 ?_
  refine zk_aload_n hc dX5_restart_20 0 rfl ?_
  refine zk_iconst hc (nI 0) dX5_restart_21 rfl ?_
  refine zk_put hc inlX5 (ci := 5) rfl tyX5 tyX5_ok nmX5 0 4 (by decide) mw_8_12 rfl rfl rfl rfl rfl (Nat.le_of_ble_eq_true rfl) (ws2 := YW g.2.1 a st ds le wg te k1 c1 0 0 0 tg gn wc tn g1 g2 g3) rfl dX5_restart_22 ?_
  refine zk_aload_n hc dX5_restart_25 0 rfl ?_
  refine zk_iconst hc (nI 0) dX5_restart_26 rfl ?_
  refine zk_put hc inlX5 (ci := 5) rfl tyX5 tyX5_ok nmX5 0 5 (by decide) mw_8_13 rfl rfl rfl rfl rfl (Nat.le_of_ble_eq_true rfl) (ws2 := YW g.2.1 a st ds le wg te k1 c1 0 0 0 0 gn wc tn g1 g2 g3) rfl dX5_restart_27 ?_
  refine zk_aload_n hc dX5_restart_30 0 rfl ?_
  refine zk_iconst hc (nI 0) dX5_restart_31 rfl ?_
  refine zk_put hc inlX5 (ci := 5) rfl tyX5 tyX5_ok nmX5 0 6 (by decide) mw_8_14 rfl rfl rfl rfl rfl (Nat.le_of_ble_eq_true rfl) (ws2 := YW g.2.1 a st ds le wg te k1 c1 0 0 0 0 0 wc tn g1 g2 g3) rfl dX5_restart_32 ?_
  refine zk_aload_n hc dX5_restart_35 0 rfl ?_
  refine zk_iconst hc (nI 0) dX5_restart_36 rfl ?_
  refine zk_put hc inlX5 (ci := 5) rfl tyX5 tyX5_ok nmX5 0 7 (by decide) mw_8_15 rfl rfl rfl rfl rfl (Nat.le_of_ble_eq_true rfl) (ws2 := YW g.2.1 a st ds le wg te k1 c1 0 0 0 0 0 0 tn g1 g2 g3) rfl dX5_restart_37 ?_
  refine zk_aload_n hc dX5_restart_40 0 rfl ?_
  refine zk_iconst hc (nI 0) dX5_restart_41 rfl ?_
  refine zk_put hc inlX5 (ci := 5) rfl tyX5 tyX5_ok nmX5 0 8 (by decide) mw_7_1 rfl rfl rfl rfl rfl (Nat.le_of_ble_eq_true rfl) (ws2 := YW g.2.1 a st ds le wg te k1 c1 0 0 0 0 0 0 0 g1 g2 g3) rfl dX5_restart_42 ?_
  refine zk_aload_n hc dX5_restart_45 0 rfl ?_
  refine zk_get hc inlX5 (ci := 5) rfl 0 11 (by decide) mw_2_11 rfl rfl rfl dX5_restart_46 ?_
  refine zk_iconst hc (nI 0) dX5_restart_49 rfl ?_
  refine zk_callSv hc (rest := []) (ct_J7_fill_53178 g l (a 3) (aN le) (nI 0)) gg_X5_68 cd_J7_fill_53178 ⟨Nat.le_of_ble_eq_true rfl, Nat.le_of_ble_eq_true rfl⟩ ⟨Nat.le_of_ble_eq_true rfl, Nat.le_of_ble_eq_true rfl⟩ (List.take 3 (YW g.2.1 a st ds le wg te k1 c1 0 0 0 0 0 0 0 g1 g2 g3)) (List.drop 4 (YW g.2.1 a st ds le wg te k1 c1 0 0 0 0 0 0 0 g1 g2 g3)) rfl rfl (Nat.le_of_ble_eq_true rfl) dX5_restart_50 (fun W1 hp => ?_)
  obtain rfl := hp
  refine zk_ws (ws2 := YW g.2.1 a st ds (fun j => if j < 4 then 0 else le j) wg te k1 c1 0 0 0 0 0 0 0 g1 g2 g3) (congrArg (fun zz => List.take 3 (YW g.2.1 a st ds le wg te k1 c1 0 0 0 0 0 0 0 g1 g2 g3) ++ (AW g.2.1 (a 3) 4 zz ++ List.drop 4 (YW g.2.1 a st ds le wg te k1 c1 0 0 0 0 0 0 0 g1 g2 g3))) (fil_nat le 0 4)) ?_
  refine zk_aload_n hc dX5_restart_53 0 rfl ?_
  refine zk_get hc inlX5 (ci := 5) rfl 0 12 (by decide) mw_2_12 rfl rfl rfl dX5_restart_54 ?_
  refine zk_iconst hc ((-1)) dX5_restart_57 rfl ?_
  refine zk_callSv hc (rest := []) (ct_J7_fill_53178 g l (a 4) te (-1)) gg_X5_68 cd_J7_fill_53178 ⟨Nat.le_of_ble_eq_true rfl, Nat.le_of_ble_eq_true rfl⟩ ⟨Nat.le_of_ble_eq_true rfl, Nat.le_of_ble_eq_true rfl⟩ (List.take 4 (YW g.2.1 a st ds (fun j => if j < 4 then 0 else le j) wg te k1 c1 0 0 0 0 0 0 0 g1 g2 g3)) (List.drop 5 (YW g.2.1 a st ds (fun j => if j < 4 then 0 else le j) wg te k1 c1 0 0 0 0 0 0 0 g1 g2 g3)) rfl rfl (Nat.le_of_ble_eq_true rfl) dX5_restart_58 (fun W1 hp => ?_)
  obtain rfl := hp
  refine zk_ws (ws2 := YW g.2.1 a st ds (fun j => if j < 4 then 0 else le j) wg (fun j => if j < 4 then (-1) else te j) k1 c1 0 0 0 0 0 0 0 g1 g2 g3) rfl ?_
  exact fin 0 0 _ _ _ (by decide) (by decide) dX5_restart_61 (rfl)

set_option maxHeartbeats 4000000 in
set_option maxRecDepth 100000 in
theorem ct_X5_copyFrom (g : GG) (l : Launch) (a : Nat → Nat) (st ds le wg : Nat → Nat) (te : Nat → Int32) (K C ck mv mm tg gn wc tn g1 g2 g3 : Nat) (a2 : Nat → Nat) (st2 ds2 le2 wg2 : Nat → Nat) (te2 : Nat → Int32) (K2 C2 ck2 mv2 mm2 tg2 gn2 wc2 tn2 g12 g22 g32 : Nat) : CtV g l yX5_copyFrom cX5_copyFrom 2 (rmK 1 0 0) (YW g.2.1 a st ds le wg te K C ck mv mm tg gn wc tn g1 g2 g3 ++ (YW g.2.1 a2 st2 ds2 le2 wg2 te2 K2 C2 ck2 mv2 mm2 tg2 gn2 wc2 tn2 g12 g22 g32)) [.ref (a 0), .ref (a2 0)] (fun W1 => W1 = YW g.2.1 a (va_cpy st2 st 0 0 4) (va_cpy ds2 ds 0 0 10) (va_cpy le2 le 0 0 4) (va_cpy wg2 wg 0 0 32) (va_cpy te2 te 0 0 4) K2 C2 ck2 mv2 mm2 tg2 gn2 wc2 tn2 g1 g2 g3 ++ (YW g.2.1 a2 st2 ds2 le2 wg2 te2 K2 C2 ck2 mv2 mm2 tg2 gn2 wc2 tn2 g12 g22 g32)) := by
  refine CtV.go RX5 rfl (by decide +kernel) (Nat.le_of_ble_eq_true rfl) ?_
  intro p e s m args below meth c A H0 Q hc hnm fin
  show KW g p l e (rmK 1 0 0) s m args below meth c 2 A H0 0 0 Q (YW g.2.1 a st ds le wg te K C ck mv mm tg gn wc tn g1 g2 g3 ++ (YW g.2.1 a2 st2 ds2 le2 wg2 te2 K2 C2 ck2 mv2 mm2 tg2 gn2 wc2 tn2 g12 g22 g32)) [(0, .ref (a 0)), (1, .ref (a2 0))] 0 []
  refine zk_aload_n hc dX5_copyFrom_0 0 rfl ?_
  refine zk_aload_n hc dX5_copyFrom_1 1 rfl ?_
  refine zk_get hc inlX5 (ci := 5) rfl 7 0 (by decide) mw_2_6 rfl rfl rfl dX5_copyFrom_2 ?_
  refine zk_put hc inlX5 (ci := 5) rfl tyX5 tyX5_ok nmX5 0 0 (by decide) mw_2_6 rfl rfl rfl rfl rfl (Nat.le_of_ble_eq_true rfl) (ws2 := YW g.2.1 a st ds le wg te K2 C ck mv mm tg gn wc tn g1 g2 g3 ++ (YW g.2.1 a2 st2 ds2 le2 wg2 te2 K2 C2 ck2 mv2 mm2 tg2 gn2 wc2 tn2 g12 g22 g32)) rfl dX5_copyFrom_5 ?_
  refine zk_aload_n hc dX5_copyFrom_8 0 rfl ?_
  refine zk_aload_n hc dX5_copyFrom_9 1 rfl ?_
  refine zk_get hc inlX5 (ci := 5) rfl 7 1 (by decide) mw_2_7 rfl rfl rfl dX5_copyFrom_10 ?_
  refine zk_put hc inlX5 (ci := 5) rfl tyX5 tyX5_ok nmX5 0 1 (by decide) mw_2_7 rfl rfl rfl rfl rfl (Nat.le_of_ble_eq_true rfl) (ws2 := YW g.2.1 a st ds le wg te K2 C2 ck mv mm tg gn wc tn g1 g2 g3 ++ (YW g.2.1 a2 st2 ds2 le2 wg2 te2 K2 C2 ck2 mv2 mm2 tg2 gn2 wc2 tn2 g12 g22 g32)) rfl dX5_copyFrom_13 ?_
  refine zk_aload_n hc dX5_copyFrom_16 0 rfl ?_
  refine zk_aload_n hc dX5_copyFrom_17 1 rfl ?_
  refine zk_get hc inlX5 (ci := 5) rfl 7 2 (by decide) mw_8_10 rfl rfl rfl dX5_copyFrom_18 ?_
  refine zk_put hc inlX5 (ci := 5) rfl tyX5 tyX5_ok nmX5 0 2 (by decide) mw_8_10 rfl rfl rfl rfl rfl (Nat.le_of_ble_eq_true rfl) (ws2 := YW g.2.1 a st ds le wg te K2 C2 ck2 mv mm tg gn wc tn g1 g2 g3 ++ (YW g.2.1 a2 st2 ds2 le2 wg2 te2 K2 C2 ck2 mv2 mm2 tg2 gn2 wc2 tn2 g12 g22 g32)) rfl dX5_copyFrom_21 ?_
  refine zk_aload_n hc dX5_copyFrom_24 0 rfl ?_
  refine zk_aload_n hc dX5_copyFrom_25 1 rfl ?_
  refine zk_get hc inlX5 (ci := 5) rfl 7 3 (by decide) mw_8_11 rfl rfl rfl dX5_copyFrom_26 ?_
  refine zk_put hc inlX5 (ci := 5) rfl tyX5 tyX5_ok nmX5 0 3 (by decide) mw_8_11 rfl rfl rfl rfl rfl (Nat.le_of_ble_eq_true rfl) (ws2 := YW g.2.1 a st ds le wg te K2 C2 ck2 mv2 mm tg gn wc tn g1 g2 g3 ++ (YW g.2.1 a2 st2 ds2 le2 wg2 te2 K2 C2 ck2 mv2 mm2 tg2 gn2 wc2 tn2 g12 g22 g32)) rfl dX5_copyFrom_29 ?_
  refine zk_aload_n hc dX5_copyFrom_32 0 rfl ?_
  refine zk_aload_n hc dX5_copyFrom_33 1 rfl ?_
  refine zk_get hc inlX5 (ci := 5) rfl 7 4 (by decide) mw_8_12 rfl rfl rfl dX5_copyFrom_34 ?_
  refine zk_put hc inlX5 (ci := 5) rfl tyX5 tyX5_ok nmX5 0 4 (by decide) mw_8_12 rfl rfl rfl rfl rfl (Nat.le_of_ble_eq_true rfl) (ws2 := YW g.2.1 a st ds le wg te K2 C2 ck2 mv2 mm2 tg gn wc tn g1 g2 g3 ++ (YW g.2.1 a2 st2 ds2 le2 wg2 te2 K2 C2 ck2 mv2 mm2 tg2 gn2 wc2 tn2 g12 g22 g32)) rfl dX5_copyFrom_37 ?_
  refine zk_aload_n hc dX5_copyFrom_40 0 rfl ?_
  refine zk_aload_n hc dX5_copyFrom_41 1 rfl ?_
  refine zk_get hc inlX5 (ci := 5) rfl 7 5 (by decide) mw_8_13 rfl rfl rfl dX5_copyFrom_42 ?_
  refine zk_put hc inlX5 (ci := 5) rfl tyX5 tyX5_ok nmX5 0 5 (by decide) mw_8_13 rfl rfl rfl rfl rfl (Nat.le_of_ble_eq_true rfl) (ws2 := YW g.2.1 a st ds le wg te K2 C2 ck2 mv2 mm2 tg2 gn wc tn g1 g2 g3 ++ (YW g.2.1 a2 st2 ds2 le2 wg2 te2 K2 C2 ck2 mv2 mm2 tg2 gn2 wc2 tn2 g12 g22 g32)) rfl dX5_copyFrom_45 ?_
  refine zk_aload_n hc dX5_copyFrom_48 0 rfl ?_
  refine zk_aload_n hc dX5_copyFrom_49 1 rfl ?_
  refine zk_get hc inlX5 (ci := 5) rfl 7 6 (by decide) mw_8_14 rfl rfl rfl dX5_copyFrom_50 ?_
  refine zk_put hc inlX5 (ci := 5) rfl tyX5 tyX5_ok nmX5 0 6 (by decide) mw_8_14 rfl rfl rfl rfl rfl (Nat.le_of_ble_eq_true rfl) (ws2 := YW g.2.1 a st ds le wg te K2 C2 ck2 mv2 mm2 tg2 gn2 wc tn g1 g2 g3 ++ (YW g.2.1 a2 st2 ds2 le2 wg2 te2 K2 C2 ck2 mv2 mm2 tg2 gn2 wc2 tn2 g12 g22 g32)) rfl dX5_copyFrom_53 ?_
  refine zk_aload_n hc dX5_copyFrom_56 0 rfl ?_
  refine zk_aload_n hc dX5_copyFrom_57 1 rfl ?_
  refine zk_get hc inlX5 (ci := 5) rfl 7 7 (by decide) mw_8_15 rfl rfl rfl dX5_copyFrom_58 ?_
  refine zk_put hc inlX5 (ci := 5) rfl tyX5 tyX5_ok nmX5 0 7 (by decide) mw_8_15 rfl rfl rfl rfl rfl (Nat.le_of_ble_eq_true rfl) (ws2 := YW g.2.1 a st ds le wg te K2 C2 ck2 mv2 mm2 tg2 gn2 wc2 tn g1 g2 g3 ++ (YW g.2.1 a2 st2 ds2 le2 wg2 te2 K2 C2 ck2 mv2 mm2 tg2 gn2 wc2 tn2 g12 g22 g32)) rfl dX5_copyFrom_61 ?_
  refine zk_aload_n hc dX5_copyFrom_64 0 rfl ?_
  refine zk_aload_n hc dX5_copyFrom_65 1 rfl ?_
  refine zk_get hc inlX5 (ci := 5) rfl 7 8 (by decide) mw_7_1 rfl rfl rfl dX5_copyFrom_66 ?_
  refine zk_put hc inlX5 (ci := 5) rfl tyX5 tyX5_ok nmX5 0 8 (by decide) mw_7_1 rfl rfl rfl rfl rfl (Nat.le_of_ble_eq_true rfl) (ws2 := YW g.2.1 a st ds le wg te K2 C2 ck2 mv2 mm2 tg2 gn2 wc2 tn2 g1 g2 g3 ++ (YW g.2.1 a2 st2 ds2 le2 wg2 te2 K2 C2 ck2 mv2 mm2 tg2 gn2 wc2 tn2 g12 g22 g32)) rfl dX5_copyFrom_69 ?_
  refine zk_aload_n hc dX5_copyFrom_72 1 rfl ?_
  refine zk_get hc inlX5 (ci := 5) rfl 7 9 (by decide) mw_2_9 rfl rfl rfl dX5_copyFrom_73 ?_
  refine zk_iconst hc (nI 0) dX5_copyFrom_76 rfl ?_
  refine zk_aload_n hc dX5_copyFrom_77 0 rfl ?_
  refine zk_get hc inlX5 (ci := 5) rfl 0 9 (by decide) mw_2_9 rfl rfl rfl dX5_copyFrom_78 ?_
  refine zk_iconst hc (nI 0) dX5_copyFrom_81 rfl ?_
  refine zk_aload_n hc dX5_copyFrom_82 0 rfl ?_
  refine zk_get hc inlX5 (ci := 5) rfl 0 9 (by decide) mw_2_9 rfl rfl rfl dX5_copyFrom_83 ?_
  refine zk_alenI hc 1 rfl dX5_copyFrom_86 ?_
  refine zk_copyN hc mw_8_16 mw_8_17 mw_8_18 mw_8_19 8 1 rfl rfl (by decide) (by decide) (by omega) (by omega) ⟨by decide, by decide⟩ (Nat.le_of_ble_eq_true rfl) (ws2 := YW g.2.1 a (va_cpy st2 st 0 0 4) ds le wg te K2 C2 ck2 mv2 mm2 tg2 gn2 wc2 tn2 g1 g2 g3 ++ (YW g.2.1 a2 st2 ds2 le2 wg2 te2 K2 C2 ck2 mv2 mm2 tg2 gn2 wc2 tn2 g12 g22 g32)) rfl dX5_copyFrom_87 ?_
  refine zk_aload_n hc dX5_copyFrom_90 1 rfl ?_
  refine zk_get hc inlX5 (ci := 5) rfl 7 10 (by decide) mw_2_10 rfl rfl rfl dX5_copyFrom_91 ?_
  refine zk_iconst hc (nI 0) dX5_copyFrom_94 rfl ?_
  refine zk_aload_n hc dX5_copyFrom_95 0 rfl ?_
  refine zk_get hc inlX5 (ci := 5) rfl 0 10 (by decide) mw_2_10 rfl rfl rfl dX5_copyFrom_96 ?_
  refine zk_iconst hc (nI 0) dX5_copyFrom_99 rfl ?_
  refine zk_aload_n hc dX5_copyFrom_100 0 rfl ?_
  refine zk_get hc inlX5 (ci := 5) rfl 0 10 (by decide) mw_2_10 rfl rfl rfl dX5_copyFrom_101 ?_
  refine zk_alenI hc 2 rfl dX5_copyFrom_104 ?_
  refine zk_copyN hc mw_8_16 mw_8_17 mw_8_18 mw_8_19 9 2 rfl rfl (by decide) (by decide) (by omega) (by omega) ⟨by decide, by decide⟩ (Nat.le_of_ble_eq_true rfl) (ws2 := YW g.2.1 a (va_cpy st2 st 0 0 4) (va_cpy ds2 ds 0 0 10) le wg te K2 C2 ck2 mv2 mm2 tg2 gn2 wc2 tn2 g1 g2 g3 ++ (YW g.2.1 a2 st2 ds2 le2 wg2 te2 K2 C2 ck2 mv2 mm2 tg2 gn2 wc2 tn2 g12 g22 g32)) rfl dX5_copyFrom_105 ?_
  refine zk_aload_n hc dX5_copyFrom_108 1 rfl ?_
  refine zk_get hc inlX5 (ci := 5) rfl 7 11 (by decide) mw_2_11 rfl rfl rfl dX5_copyFrom_109 ?_
  refine zk_iconst hc (nI 0) dX5_copyFrom_112 rfl ?_
  refine zk_aload_n hc dX5_copyFrom_113 0 rfl ?_
  refine zk_get hc inlX5 (ci := 5) rfl 0 11 (by decide) mw_2_11 rfl rfl rfl dX5_copyFrom_114 ?_
  refine zk_iconst hc (nI 0) dX5_copyFrom_117 rfl ?_
  refine zk_aload_n hc dX5_copyFrom_118 0 rfl ?_
  refine zk_get hc inlX5 (ci := 5) rfl 0 11 (by decide) mw_2_11 rfl rfl rfl dX5_copyFrom_119 ?_
  refine zk_alenI hc 3 rfl dX5_copyFrom_122 ?_
  refine zk_copyN hc mw_8_16 mw_8_17 mw_8_18 mw_8_19 10 3 rfl rfl (by decide) (by decide) (by omega) (by omega) ⟨by decide, by decide⟩ (Nat.le_of_ble_eq_true rfl) (ws2 := YW g.2.1 a (va_cpy st2 st 0 0 4) (va_cpy ds2 ds 0 0 10) (va_cpy le2 le 0 0 4) wg te K2 C2 ck2 mv2 mm2 tg2 gn2 wc2 tn2 g1 g2 g3 ++ (YW g.2.1 a2 st2 ds2 le2 wg2 te2 K2 C2 ck2 mv2 mm2 tg2 gn2 wc2 tn2 g12 g22 g32)) rfl dX5_copyFrom_123 ?_
  refine zk_aload_n hc dX5_copyFrom_126 1 rfl ?_
  refine zk_get hc inlX5 (ci := 5) rfl 7 12 (by decide) mw_2_12 rfl rfl rfl dX5_copyFrom_127 ?_
  refine zk_iconst hc (nI 0) dX5_copyFrom_130 rfl ?_
  refine zk_aload_n hc dX5_copyFrom_131 0 rfl ?_
  refine zk_get hc inlX5 (ci := 5) rfl 0 12 (by decide) mw_2_12 rfl rfl rfl dX5_copyFrom_132 ?_
  refine zk_iconst hc (nI 0) dX5_copyFrom_135 rfl ?_
  refine zk_aload_n hc dX5_copyFrom_136 0 rfl ?_
  refine zk_get hc inlX5 (ci := 5) rfl 0 12 (by decide) mw_2_12 rfl rfl rfl dX5_copyFrom_137 ?_
  refine zk_alenI hc 4 rfl dX5_copyFrom_140 ?_
  refine zk_copy hc mw_8_16 mw_8_17 mw_8_18 mw_8_19 11 4 rfl rfl (by decide) (by decide) (by omega) (by omega) ⟨by decide, by decide⟩ (Nat.le_of_ble_eq_true rfl) (ws2 := YW g.2.1 a (va_cpy st2 st 0 0 4) (va_cpy ds2 ds 0 0 10) (va_cpy le2 le 0 0 4) wg (va_cpy te2 te 0 0 4) K2 C2 ck2 mv2 mm2 tg2 gn2 wc2 tn2 g1 g2 g3 ++ (YW g.2.1 a2 st2 ds2 le2 wg2 te2 K2 C2 ck2 mv2 mm2 tg2 gn2 wc2 tn2 g12 g22 g32)) rfl dX5_copyFrom_141 ?_
  refine zk_aload_n hc dX5_copyFrom_144 1 rfl ?_
  refine zk_get hc inlX5 (ci := 5) rfl 7 13 (by decide) mw_2_13 rfl rfl rfl dX5_copyFrom_145 ?_
  refine zk_iconst hc (nI 0) dX5_copyFrom_148 rfl ?_
  refine zk_aload_n hc dX5_copyFrom_149 0 rfl ?_
  refine zk_get hc inlX5 (ci := 5) rfl 0 13 (by decide) mw_2_13 rfl rfl rfl dX5_copyFrom_150 ?_
  refine zk_iconst hc (nI 0) dX5_copyFrom_153 rfl ?_
  refine zk_aload_n hc dX5_copyFrom_154 0 rfl ?_
  refine zk_get hc inlX5 (ci := 5) rfl 0 13 (by decide) mw_2_13 rfl rfl rfl dX5_copyFrom_155 ?_
  refine zk_alenI hc 5 rfl dX5_copyFrom_158 ?_
  refine zk_copyN hc mw_8_16 mw_8_17 mw_8_18 mw_8_19 12 5 rfl rfl (by decide) (by decide) (by omega) (by omega) ⟨by decide, by decide⟩ (Nat.le_of_ble_eq_true rfl) (ws2 := YW g.2.1 a (va_cpy st2 st 0 0 4) (va_cpy ds2 ds 0 0 10) (va_cpy le2 le 0 0 4) (va_cpy wg2 wg 0 0 32) (va_cpy te2 te 0 0 4) K2 C2 ck2 mv2 mm2 tg2 gn2 wc2 tn2 g1 g2 g3 ++ (YW g.2.1 a2 st2 ds2 le2 wg2 te2 K2 C2 ck2 mv2 mm2 tg2 gn2 wc2 tn2 g12 g22 g32)) rfl dX5_copyFrom_159 ?_
  exact fin 0 0 _ _ _ (by decide) (by decide) dX5_copyFrom_162 (rfl)

set_option maxHeartbeats 4000000 in
set_option maxRecDepth 100000 in
theorem ct_X4_append (g : GG) (l : Launch) (a : Nat → Nat) (tx rd : Nat → Nat) (ln fn : Nat) (fk fp : Int32) (v : Nat) (hl : ln < 60) : CtV g l yX4_append cX4_append 2 (rmK 1 0 0) (TXW g.2.1 a tx rd ln fn fk fp) [.ref (a 0), .int (nI v)] (fun W1 => W1 = TXW g.2.1 a (va_up tx ln v) rd (ln + 1) fn fk fp) := by
  refine CtV.go RX4 rfl (by decide +kernel) (Nat.le_of_ble_eq_true rfl) ?_
  intro p e s m args below meth c A H0 Q hc hnm fin
  show KW g p l e (rmK 1 0 0) s m args below meth c 2 A H0 0 0 Q (TXW g.2.1 a tx rd ln fn fk fp) [(0, .ref (a 0)), (1, .int (nI v))] 0 []
  refine zk_aload_n hc dX4_append_0 0 rfl ?_
  refine zk_get hc inlX4 (ci := 4) rfl 0 0 (by decide) mw_3_5 rfl rfl rfl dX4_append_1 ?_
  refine zk_aload_n hc dX4_append_4 0 rfl ?_
  refine zk_get hc inlX4 (ci := 4) rfl 0 1 (by decide) mw_10_9 rfl rfl rfl dX4_append_5 ?_
  refine zk_iload_n hc dX4_append_8 1 rfl ?_
  refine zk_iastN hc 1 rfl (by omega) (by decide) (ws2 := TXW g.2.1 a (va_up tx ln v) rd ln fn fk fp) rfl dX4_append_9 ?_
  refine zk_aload_n hc dX4_append_10 0 rfl ?_
  refine zk_dup hc dX4_append_11 rfl ?_
  refine zk_get hc inlX4 (ci := 4) rfl 0 1 (by decide) mw_10_9 rfl rfl rfl dX4_append_12 ?_
  refine zk_iconst hc (nI 1) dX4_append_15 rfl ?_
  refine zk_iaddN hc dX4_append_16 ?_
  refine zk_put hc inlX4 (ci := 4) rfl tyX4 tyX4_ok nmX4 0 1 (by decide) mw_10_9 rfl rfl rfl rfl rfl (Nat.le_of_ble_eq_true rfl) (ws2 := TXW g.2.1 a (va_up tx ln v) rd (ln + 1) fn fk fp) rfl dX4_append_17 ?_
  exact fin 0 0 _ _ _ (by decide) (by decide) dX4_append_20 (rfl)

set_option maxHeartbeats 4000000 in
set_option maxRecDepth 100000 in
theorem ct_X4_foundFault (g : GG) (l : Launch) (a : Nat → Nat) (tx rd : Nat → Nat) (ln fn : Nat) (fk fp : Int32) (v w : Int32) : CtI g l yX4_foundFault cX4_foundFault 3 (some .boolean) (rmK 1 0 0) (TXW g.2.1 a tx rd ln fn fk fp) [.ref (a 0), .int v, .int w] (fun r W1 => r = nI 0 ∧ W1 = TXW g.2.1 a tx rd ln fn v w) := by
  refine CtZ.go RX4 rfl (by decide +kernel) (Nat.le_of_ble_eq_true rfl) ?_
  intro p e s m args below meth c A H0 Q hc hnm fin
  show KW g p l e (rmK 1 0 0) s m args below meth c 3 A H0 0 0 Q (TXW g.2.1 a tx rd ln fn fk fp) [(0, .ref (a 0)), (1, .int v), (2, .int w)] 0 []
  refine zk_aload_n hc dX4_foundFault_0 0 rfl ?_
  refine zk_iload_n hc dX4_foundFault_1 1 rfl ?_
  refine zk_put hc inlX4 (ci := 4) rfl tyX4 tyX4_ok nmX4 0 4 (by decide) mw_3_7 rfl rfl rfl rfl rfl (Nat.le_of_ble_eq_true rfl) (ws2 := TXW g.2.1 a tx rd ln fn v fp) rfl dX4_foundFault_2 ?_
  refine zk_aload_n hc dX4_foundFault_5 0 rfl ?_
  refine zk_iload_n hc dX4_foundFault_6 2 rfl ?_
  refine zk_put hc inlX4 (ci := 4) rfl tyX4 tyX4_ok nmX4 0 5 (by decide) mw_3_8 rfl rfl rfl rfl rfl (Nat.le_of_ble_eq_true rfl) (ws2 := TXW g.2.1 a tx rd ln fn v w) rfl dX4_foundFault_7 ?_
  refine zk_iconst hc (nI 0) dX4_foundFault_10 rfl ?_
  exact fin 0 0 _ _ _ _ (by decide) (by decide) dX4_foundFault_11 rfl (⟨rfl, rfl⟩)

set_option maxHeartbeats 4000000 in
set_option maxRecDepth 100000 in
theorem ct_X4_fillLatest (g : GG) (l : Launch) (a : Nat → Nat) (tx rd : Nat → Nat) (ln fn : Nat) (fk fp : Int32) (x w : Nat) (hm : x ≤ fn) (hf : fn ≤ 10) : CtV g l yX4_fillLatest cX4_fillLatest 4 (rmK 1 0 0) (TXW g.2.1 a tx rd ln fn fk fp) [.ref (a 0), .int (nI x), .int (nI w)] (fun W1 => W1 = TXW g.2.1 a tx (va_cpy (fun _ => w) rd 0 (fn - x) x) ln fn fk fp) := by
  refine CtV.go RX4 rfl (by decide +kernel) (Nat.le_of_ble_eq_true rfl) ?_
  intro p e s m args below meth c A H0 Q hc hnm fin
  show KW g p l e (rmK 1 0 0) s m args below meth c 4 A H0 0 0 Q (TXW g.2.1 a tx rd ln fn fk fp) [(0, .ref (a 0)), (1, .int (nI x)), (2, .int (nI w))] 0 []
  refine zk_aload_n hc dX4_fillLatest_0 0 rfl ?_
  refine zk_get hc inlX4 (ci := 4) rfl 0 3 (by decide) mw_10_18 rfl rfl rfl dX4_fillLatest_1 ?_
  refine zk_iload_n hc dX4_fillLatest_4 1 rfl ?_
  refine zk_isubN hc dX4_fillLatest_5 (by omega) ?_
  refine zk_istore_n hc (lv2 := [(3, .int (nI (fn - x))), (0, .ref (a 0)), (1, .int (nI x)), (2, .int (nI w))]) dX4_fillLatest_6 (by decide) rfl ?_
  refine zk_ws (ws2 := TXW g.2.1 a tx (va_cpy (fun _ => w) rd 0 (fn - x) 0) ln fn fk fp) (congrArg (fun zz => TXW g.2.1 a tx zz ln fn fk fp) (show rd = va_cpy (fun _ => w) rd 0 (fn - x) 0 from cpy_zero _ _ _ _)) ?_
  have loop7 : ∀ (N : Nat) (q : Nat), x - q < N → (q ≤ x) → KW g p l e (rmK 1 0 0) s m args below meth c 4 A H0 0 0 Q (TXW g.2.1 a tx (va_cpy (fun _ => w) rd 0 (fn - x) q) ln fn fk fp) [(0, .ref (a 0)), (1, .int (nI x)), (2, .int (nI w)), (3, .int (nI (fn - x + q)))] 7 [] := by
    intro N
    induction N with
    | zero => intro q hm; exact absurd hm (Nat.not_lt_zero _)
    | succ N ih7 =>
      intro q hm7 hq
      refine zk_iload_n hc dX4_fillLatest_7 3 rfl ?_
      refine zk_aload_n hc dX4_fillLatest_8 0 rfl ?_
      refine zk_get hc inlX4 (ci := 4) rfl 0 3 (by decide) mw_10_18 rfl rfl rfl dX4_fillLatest_9 ?_
      refine zk_icmp_geN hc 28 dX4_fillLatest_12 (by decide) (by omega) (by omega) (fun h_1 => ?_) (fun h_1 => ?_)
      · refine fin 0 0 _ _ _ (by decide) (by decide) dX4_fillLatest_28 (?_)
        rw [show x = q by omega]
      · refine zk_aload_n hc dX4_fillLatest_15 0 rfl ?_
        refine zk_get hc inlX4 (ci := 4) rfl 0 2 (by decide) mw_3_6 rfl rfl rfl dX4_fillLatest_16 ?_
        refine zk_iload_n hc dX4_fillLatest_19 3 rfl ?_
        refine zk_iload_n hc dX4_fillLatest_20 2 rfl ?_
        refine zk_iastN hc 2 rfl (by omega) (by decide) (ws2 := TXW g.2.1 a tx (va_up (va_cpy (fun _ => w) rd 0 (fn - x) q) (fn - x + q) w) ln fn fk fp) rfl dX4_fillLatest_21 ?_
        refine zk_ws (ws2 := TXW g.2.1 a tx (va_cpy (fun _ => w) rd 0 (fn - x) (q + 1)) ln fn fk fp) (congrArg (fun zz => TXW g.2.1 a tx zz ln fn fk fp) (show va_up (va_cpy (fun _ => w) rd 0 (fn - x) q) (fn - x + q) w = va_cpy (fun _ => w) rd 0 (fn - x) (q + 1) from cpy_step rfl rfl)) ?_
        refine zk_iinc hc (v := nI (fn - x + q + 1)) (lv2 := [(3, .int (nI (fn - x + q + 1))), (0, .ref (a 0)), (1, .int (nI x)), (2, .int (nI w))]) dX4_fillLatest_22 3 rfl (nq_inc rfl) (by decide) rfl ?_
        refine zk_goto hc 7 dX4_fillLatest_25 (by decide) ?_
        refine zk_lv [1, 2, 3, 0] (lv2 := [(0, .ref (a 0)), (1, .int (nI x)), (2, .int (nI w)), (3, .int (nI (fn - x + q + 1)))]) rfl ?_
        exact ih7 (q + 1) (by omega) (by omega)
  refine zk_lv [1, 2, 3, 0] (lv2 := [(0, .ref (a 0)), (1, .int (nI x)), (2, .int (nI w)), (3, .int (nI (fn - x)))]) rfl ?_
  exact loop7 ((x - 0) + 1) 0 (Nat.lt_succ_self _) (Nat.zero_le _)
