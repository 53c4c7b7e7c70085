set_option maxHeartbeats 4000000 in
set_option maxRecDepth 100000 in
theorem ct_X1_add0 (g : GG) (l : Launch) (ah a : Nat → Nat) (f : Nat → Option Nat) (hs : Nat → Option YT) (nx ct : Nat) (u st ds le wg : Nat → Nat) (te : Nat → Int32) (ck mv mm tg gn wc g1 g2 g3 : Nat) (hf : ∀ k, k < 8 → f k = adO (hs k)) (hnx : nx < 8) (hct : ct ≤ 8) (hG : GU u) (hR : YRel (a, st, ds, le, wg, te, u 4, u 5, ck, mv, mm, tg, gn, wc, u 12, g1, g2, g3) u) (hn : hs nx = none) : CtV g l yX1_add cX1_add 2 (rmK 4 7 72) (HIW g.2.1 g.2.2 ah f nx ct ++ (YW g.2.1 a st ds le wg te (u 4) (u 5) ck mv mm tg gn wc (u 12) g1 g2 g3 ++ (HSW g.2.1 hs 8))) [.ref (ah 0), .ref (a 0)] (fun W1 => ∃ f2 hs2, W1 = HIW g.2.1 g.2.2 ah f2 ((nx + 1) % 8) (Nat.min (ct + 1) 8) ++ (YW g.2.1 a st ds le wg te (u 4) (u 5) ck mv mm tg gn wc (u 12) g1 g2 g3 ++ (HSW g.2.1 hs2 8)) ∧ (∀ k, k < 8 → f2 k = adO (hs2 k)) ∧ (∀ k, k ≠ nx → hs2 k = hs k) ∧ ∃ y, hs2 nx = some y ∧ YRel y u) := by
  refine CtV.go RX1 rfl (by decide +kernel) (Nat.le_of_ble_eq_true rfl) ?_
  intro p e s m args below meth c A H0 Q hc hnm fin
  show KW g p l e (rmK 4 7 72) s m args below meth c 2 A H0 0 0 Q (HIW g.2.1 g.2.2 ah f nx ct ++ (YW g.2.1 a st ds le wg te (u 4) (u 5) ck mv mm tg gn wc (u 12) g1 g2 g3 ++ (HSW g.2.1 hs 8))) [(0, .ref (ah 0)), (1, .ref (a 0))] 0 []
  refine zk_aload_n hc dX1_add_0 0 rfl ?_
  refine zk_get hc inlX1 (ci := 1) rfl 0 0 (by decide) mw_3_1 rfl rfl rfl dX1_add_1 ?_
  refine zk_aload_n hc dX1_add_4 0 rfl ?_
  refine zk_get hc inlX1 (ci := 1) rfl 0 1 (by decide) mw_8_3 rfl rfl rfl dX1_add_5 ?_
  refine zk_aald hc 1 rfl (by omega) (by decide) dX1_add_8 ?_
  rw [show f nx = none from by rw [hf nx hnx, hn]; rfl]
  show KW g p l e (rmK 4 7 72) s m args below meth c 2 A H0 0 0 Q (HIW g.2.1 g.2.2 ah f nx ct ++ (YW g.2.1 a st ds le wg te (u 4) (u 5) ck mv mm tg gn wc (u 12) g1 g2 g3 ++ (HSW g.2.1 hs 8))) [(0, .ref (ah 0)), (1, .ref (a 0))] 9 [.null]
  refine zk_null hc dX1_add_9 ?_
  refine zk_aload_n hc dX1_add_12 0 rfl ?_
  refine zk_get hc inlX1 (ci := 1) rfl 0 0 (by decide) mw_3_1 rfl rfl rfl dX1_add_13 ?_
  refine zk_aload_n hc dX1_add_16 0 rfl ?_
  refine zk_get hc inlX1 (ci := 1) rfl 0 1 (by decide) mw_8_3 rfl rfl rfl dX1_add_17 ?_
  refine zk_new hc inlX5 (ci := 5) rfl tyX5 tyX5_ok mw_3_0 mw_1_10 mw_1_11 (fs := [.int (nI 0), .int (nI 0), .int (nI 0), .int (nI 0), .int (nI 0), .int (nI 0), .int (nI 0), .int (nI 0), .int (nI 0), .null, .null, .null, .null, .null, .null]) (fun j hj => match j, hj with | 0, _ => rfl | 1, _ => rfl | 2, _ => rfl | 3, _ => rfl | 4, _ => rfl | 5, _ => rfl | 6, _ => rfl | 7, _ => rfl | 8, _ => rfl | 9, _ => rfl | 10, _ => rfl | 11, _ => rfl | 12, _ => rfl | 13, _ => rfl | 14, _ => rfl | k + 15, h => absurd h (by omega)) ⟨Nat.le_of_ble_eq_true rfl, Nat.le_of_ble_eq_true rfl⟩ dX1_add_20 (fun q_1 => ?_)
  refine zk_ws (ws2 := HIW g.2.1 g.2.2 ah f nx ct ++ (YW g.2.1 a st ds le wg te (u 4) (u 5) ck mv mm tg gn wc (u 12) g1 g2 g3 ++ (HSW g.2.1 hs 8 ++ (([(q_1, .inr (5, [.int (nI 0), .int (nI 0), .int (nI 0), .int (nI 0), .int (nI 0), .int (nI 0), .int (nI 0), .int (nI 0), .int (nI 0), .null, .null, .null, .null, .null, .null]))] : va_W))))) rfl ?_
  refine zk_perm (ws2 := HIW g.2.1 g.2.2 ah f nx ct ++ (YW g.2.1 a st ds le wg te (u 4) (u 5) ck mv mm tg gn wc (u 12) g1 g2 g3 ++ (([(q_1, .inr (5, [.int (nI 0), .int (nI 0), .int (nI 0), .int (nI 0), .int (nI 0), .int (nI 0), .int (nI 0), .int (nI 0), .int (nI 0), .null, .null, .null, .null, .null, .null]))] : va_W) ++ (HSW g.2.1 hs 8)))) (List.Perm.append_left _ (List.Perm.append_left _ (pm_en _ _))) ?_
  refine zk_dup hc dX1_add_23 rfl ?_
  refine zk_callJv hc (rest := [.ref q_1, .int (nI nx), .ref (ah 1)]) (ct_X5_init g l q_1) nl_X1_21 mw_2_4 mw_2_3 mw_1_11 rfl cd_X5_init ⟨Nat.le_of_ble_eq_true rfl, Nat.le_of_ble_eq_true rfl⟩ ⟨Nat.le_of_ble_eq_true rfl, Nat.le_of_ble_eq_true rfl⟩ (HIW g.2.1 g.2.2 ah f nx ct ++ (YW g.2.1 a st ds le wg te (u 4) (u 5) ck mv mm tg gn wc (u 12) g1 g2 g3)) (HSW g.2.1 hs 8) rfl rfl (Nat.le_of_ble_eq_true rfl) dX1_add_24 (fun W1 hp => ?_)
  obtain ⟨ai_2, rfl, rfl⟩ := hp
  refine zk_ws (ws2 := HIW g.2.1 g.2.2 ah f nx ct ++ (YW g.2.1 a st ds le wg te (u 4) (u 5) ck mv mm tg gn wc (u 12) g1 g2 g3 ++ (YW g.2.1 ai_2 (va_up (va_up (va_up (va_up (fun _ => 0) 0 1) 1 120) 2 4) 3 5) (fun _ => 0) (fun _ => 0) (fun _ => 0) (upd (upd (upd (upd (aN (fun _ => 0)) 0 (-1)) 1 (-1)) 2 (-1)) 3 (-1)) 3 6 0 0 0 0 0 0 0 0 0 0 ++ (HSW g.2.1 hs 8)))) rfl ?_
  refine zk_aast hc 1 9 rfl rfl (by omega) (by decide) (ws2 := HIW g.2.1 g.2.2 ah (va_up f nx (some (ai_2 0))) nx ct ++ (YW g.2.1 a st ds le wg te (u 4) (u 5) ck mv mm tg gn wc (u 12) g1 g2 g3 ++ (YW g.2.1 ai_2 (va_up (va_up (va_up (va_up (fun _ => 0) 0 1) 1 120) 2 4) 3 5) (fun _ => 0) (fun _ => 0) (fun _ => 0) (upd (upd (upd (upd (aN (fun _ => 0)) 0 (-1)) 1 (-1)) 2 (-1)) 3 (-1)) 3 6 0 0 0 0 0 0 0 0 0 0 ++ (HSW g.2.1 hs 8)))) rfl dX1_add_27 ?_
  refine zk_aload_n hc dX1_add_28 0 rfl ?_
  refine zk_get hc inlX1 (ci := 1) rfl 0 0 (by decide) mw_3_1 rfl rfl rfl dX1_add_29 ?_
  refine zk_aload_n hc dX1_add_32 0 rfl ?_
  refine zk_get hc inlX1 (ci := 1) rfl 0 1 (by decide) mw_8_3 rfl rfl rfl dX1_add_33 ?_
  refine zk_aald hc 1 rfl (by omega) (by decide) dX1_add_36 ?_
  rw [show va_up f nx (some (ai_2 0)) nx = some (ai_2 0) from if_pos rfl]
  show KW g p l e (rmK 4 7 72) s m args below meth c 2 A H0 7 72 Q (HIW g.2.1 g.2.2 ah (va_up f nx (some (ai_2 0))) nx ct ++ (YW g.2.1 a st ds le wg te (u 4) (u 5) ck mv mm tg gn wc (u 12) g1 g2 g3 ++ (YW g.2.1 ai_2 (va_up (va_up (va_up (va_up (fun _ => 0) 0 1) 1 120) 2 4) 3 5) (fun _ => 0) (fun _ => 0) (fun _ => 0) (upd (upd (upd (upd (aN (fun _ => 0)) 0 (-1)) 1 (-1)) 2 (-1)) 3 (-1)) 3 6 0 0 0 0 0 0 0 0 0 0 ++ (HSW g.2.1 hs 8)))) [(0, .ref (ah 0)), (1, .ref (a 0))] 37 [.ref (ai_2 0)]
  refine zk_aload_n hc dX1_add_37 1 rfl ?_
  refine zk_perm (ws2 := HIW g.2.1 g.2.2 ah (va_up f nx (some (ai_2 0))) nx ct ++ (YW g.2.1 ai_2 (va_up (va_up (va_up (va_up (fun _ => 0) 0 1) 1 120) 2 4) 3 5) (fun _ => 0) (fun _ => 0) (fun _ => 0) (upd (upd (upd (upd (aN (fun _ => 0)) 0 (-1)) 1 (-1)) 2 (-1)) 3 (-1)) 3 6 0 0 0 0 0 0 0 0 0 0 ++ (YW g.2.1 a st ds le wg te (u 4) (u 5) ck mv mm tg gn wc (u 12) g1 g2 g3 ++ (HSW g.2.1 hs 8)))) (List.Perm.append_left _ (pm_sw _ _ _)) ?_
  refine zk_callVv hc (rest := []) (ct_X5_copyFrom g l ai_2 (va_up (va_up (va_up (va_up (fun _ => 0) 0 1) 1 120) 2 4) 3 5) (fun _ => 0) (fun _ => 0) (fun _ => 0) (upd (upd (upd (upd (aN (fun _ => 0)) 0 (-1)) 1 (-1)) 2 (-1)) 3 (-1)) 3 6 0 0 0 0 0 0 0 0 0 0 a st ds le wg te (u 4) (u 5) ck mv mm tg gn wc (u 12) g1 g2 g3) gg_X1_22 cd_X5_copyFrom ⟨Nat.le_of_ble_eq_true rfl, Nat.le_of_ble_eq_true rfl⟩ ⟨Nat.le_of_ble_eq_true rfl, Nat.le_of_ble_eq_true rfl⟩ (HIW g.2.1 g.2.2 ah (va_up f nx (some (ai_2 0))) nx ct) (HSW g.2.1 hs 8) rfl 2 rfl rfl rfl (Nat.le_of_ble_eq_true rfl) dX1_add_38 (fun W1 hp => ?_)
  obtain rfl := hp
  refine zk_ws (ws2 := HIW g.2.1 g.2.2 ah (va_up f nx (some (ai_2 0))) nx ct ++ (YW g.2.1 ai_2 (va_cpy st (va_up (va_up (va_up (va_up (fun _ => 0) 0 1) 1 120) 2 4) 3 5) 0 0 4) (va_cpy ds (fun _ => 0) 0 0 10) (va_cpy le (fun _ => 0) 0 0 4) (va_cpy wg (fun _ => 0) 0 0 32) (va_cpy te (upd (upd (upd (upd (aN (fun _ => 0)) 0 (-1)) 1 (-1)) 2 (-1)) 3 (-1)) 0 0 4) (u 4) (u 5) ck mv mm tg gn wc (u 12) 0 0 0 ++ (YW g.2.1 a st ds le wg te (u 4) (u 5) ck mv mm tg gn wc (u 12) g1 g2 g3 ++ (HSW g.2.1 hs 8)))) rfl ?_
  refine zk_perm (ws2 := HIW g.2.1 g.2.2 ah (va_up f nx (some (ai_2 0))) nx ct ++ (YW g.2.1 a st ds le wg te (u 4) (u 5) ck mv mm tg gn wc (u 12) g1 g2 g3 ++ (YW g.2.1 ai_2 (va_cpy st (va_up (va_up (va_up (va_up (fun _ => 0) 0 1) 1 120) 2 4) 3 5) 0 0 4) (va_cpy ds (fun _ => 0) 0 0 10) (va_cpy le (fun _ => 0) 0 0 4) (va_cpy wg (fun _ => 0) 0 0 32) (va_cpy te (upd (upd (upd (upd (aN (fun _ => 0)) 0 (-1)) 1 (-1)) 2 (-1)) 3 (-1)) 0 0 4) (u 4) (u 5) ck mv mm tg gn wc (u 12) 0 0 0 ++ (HSW g.2.1 hs 8)))) (List.Perm.append_left _ (pm_sw _ _ _)) ?_
  refine zk_aload_n hc dX1_add_41 0 rfl ?_
  refine zk_aload_n hc dX1_add_42 0 rfl ?_
  refine zk_get hc inlX1 (ci := 1) rfl 0 1 (by decide) mw_8_3 rfl rfl rfl dX1_add_43 ?_
  refine zk_iconst hc (nI 1) dX1_add_46 rfl ?_
  refine zk_iaddN hc dX1_add_47 ?_
  refine zk_bipush hc (nI 8) dX1_add_48 rfl ?_
  refine zk_iremN hc dX1_add_50 (by omega) (by omega) (by omega) ?_
  refine zk_put hc inlX1 (ci := 1) rfl tyX1 tyX1_ok nmX1 0 1 (by decide) mw_8_3 rfl rfl rfl rfl rfl (Nat.le_of_ble_eq_true rfl) (ws2 := HIW g.2.1 g.2.2 ah (va_up f nx (some (ai_2 0))) ((nx + 1) % 8) ct ++ (YW g.2.1 a st ds le wg te (u 4) (u 5) ck mv mm tg gn wc (u 12) g1 g2 g3 ++ (YW g.2.1 ai_2 (va_cpy st (va_up (va_up (va_up (va_up (fun _ => 0) 0 1) 1 120) 2 4) 3 5) 0 0 4) (va_cpy ds (fun _ => 0) 0 0 10) (va_cpy le (fun _ => 0) 0 0 4) (va_cpy wg (fun _ => 0) 0 0 32) (va_cpy te (upd (upd (upd (upd (aN (fun _ => 0)) 0 (-1)) 1 (-1)) 2 (-1)) 3 (-1)) 0 0 4) (u 4) (u 5) ck mv mm tg gn wc (u 12) 0 0 0 ++ (HSW g.2.1 hs 8)))) rfl dX1_add_51 ?_
  refine zk_aload_n hc dX1_add_54 0 rfl ?_
  refine zk_aload_n hc dX1_add_55 0 rfl ?_
  refine zk_get hc inlX1 (ci := 1) rfl 0 2 (by decide) mw_8_4 rfl rfl rfl dX1_add_56 ?_
  refine zk_iconst hc (nI 1) dX1_add_59 rfl ?_
  refine zk_iaddN hc dX1_add_60 ?_
  refine zk_bipush hc (nI 8) dX1_add_61 rfl ?_
  refine zk_min hc mw_8_5 mw_6_18 mw_6_19 mw_6_20 ⟨by decide, by decide, by decide, by decide⟩ (Nat.le_of_ble_eq_true rfl) dX1_add_63 ?_
  refine zk_top (y := nI (Nat.min (ct + 1) 8)) (nq_min (by omega) (by omega)) ?_
  refine zk_put hc inlX1 (ci := 1) rfl tyX1 tyX1_ok nmX1 0 2 (by decide) mw_8_4 rfl rfl rfl rfl rfl (Nat.le_of_ble_eq_true rfl) (ws2 := HIW g.2.1 g.2.2 ah (va_up f nx (some (ai_2 0))) ((nx + 1) % 8) (Nat.min (ct + 1) 8) ++ (YW g.2.1 a st ds le wg te (u 4) (u 5) ck mv mm tg gn wc (u 12) g1 g2 g3 ++ (YW g.2.1 ai_2 (va_cpy st (va_up (va_up (va_up (va_up (fun _ => 0) 0 1) 1 120) 2 4) 3 5) 0 0 4) (va_cpy ds (fun _ => 0) 0 0 10) (va_cpy le (fun _ => 0) 0 0 4) (va_cpy wg (fun _ => 0) 0 0 32) (va_cpy te (upd (upd (upd (upd (aN (fun _ => 0)) 0 (-1)) 1 (-1)) 2 (-1)) 3 (-1)) 0 0 4) (u 4) (u 5) ck mv mm tg gn wc (u 12) 0 0 0 ++ (HSW g.2.1 hs 8)))) rfl dX1_add_66 ?_
  refine zk_ws (ws2 := HIW g.2.1 g.2.2 ah (va_up f nx (some (ai_2 0))) ((nx + 1) % 8) (Nat.min (ct + 1) 8) ++ (YW g.2.1 a st ds le wg te (u 4) (u 5) ck mv mm tg gn wc (u 12) g1 g2 g3 ++ (YW g.2.1 ai_2 (va_cpy st (va_up (va_up (va_up (va_up (fun _ => 0) 0 1) 1 120) 2 4) 3 5) 0 0 4) (va_cpy ds (fun _ => 0) 0 0 10) (va_cpy le (fun _ => 0) 0 0 4) (va_cpy wg (fun _ => 0) 0 0 32) (va_cpy te (upd (upd (upd (upd (aN (fun _ => 0)) 0 (-1)) 1 (-1)) 2 (-1)) 3 (-1)) 0 0 4) (u 4) (u 5) ck mv mm tg gn wc (u 12) 0 0 0 ++ (HSW g.2.1 (setO hs nx none) 8)))) (by rw [setO_id hn]) ?_
  refine zk_perm (ws2 := HIW g.2.1 g.2.2 ah (va_up f nx (some (ai_2 0))) ((nx + 1) % 8) (Nat.min (ct + 1) 8) ++ (YW g.2.1 a st ds le wg te (u 4) (u 5) ck mv mm tg gn wc (u 12) g1 g2 g3 ++ (HSW g.2.1 (setO hs nx (some (ai_2, va_cpy st (va_up (va_up (va_up (va_up (fun _ => 0) 0 1) 1 120) 2 4) 3 5) 0 0 4, va_cpy ds (fun _ => 0) 0 0 10, va_cpy le (fun _ => 0) 0 0 4, va_cpy wg (fun _ => 0) 0 0 32, va_cpy te (upd (upd (upd (upd (aN (fun _ => 0)) 0 (-1)) 1 (-1)) 2 (-1)) 3 (-1)) 0 0 4, u 4, u 5, ck, mv, mm, tg, gn, wc, u 12, 0, 0, 0))) 8))) (List.Perm.append_left _ (List.Perm.append_left _ (hs_in (cI := g.2.1) hnx).symm)) ?_
  refine fin 7 72 _ _ _ (by decide) (by decide) dX1_add_69 (?_)
  exact ⟨_, _, rfl, fun k hk => by unfold setO; by_cases e : k = nx; subst e; rw [if_pos rfl]; exact if_pos rfl; rw [if_neg e]; exact (if_neg e).trans (hf k hk), fun k hk => if_neg hk, _, if_pos rfl, YRel_cpy hR hG⟩
