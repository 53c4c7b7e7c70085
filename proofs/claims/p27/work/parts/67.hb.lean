set_option maxHeartbeats 4000000 in
set_option maxRecDepth 100000 in
theorem ct_X1_add1 (g : GG) (l : Launch) (ah a : Nat → Nat) (f : Nat → Option Nat) (hs : Nat → Option YT) (nx ct : Nat) (u st ds le wg : Nat → Nat) (te : Nat → Int32) (ck mv mm tg gn wc g1 g2 g3 : Nat) (hf : ∀ k, k < 8 → f k = adO (hs k)) (hnx : nx < 8) (hct : ct ≤ 8) (hG : GU u) (hR : YRel (a, st, ds, le, wg, te, u 4, u 5, ck, mv, mm, tg, gn, wc, u 12, g1, g2, g3) u) (a1 st1 ds1 le1 wg1 : Nat → Nat) (te1 : Nat → Int32) (K1 C1 ck1 mv1 mm1 tg1 gn1 wc1 tn1 g11 g21 g31 : Nat) (hn : hs nx = some (a1, st1, ds1, le1, wg1, te1, K1, C1, ck1, mv1, mm1, tg1, gn1, wc1, tn1, g11, g21, g31)) : CtV g l yX1_add cX1_add 2 (rmK 4 7 72) (HIW g.2.1 g.2.2 ah f nx ct ++ (YW g.2.1 a st ds le wg te (u 4) (u 5) ck mv mm tg gn wc (u 12) g1 g2 g3 ++ (HSW g.2.1 hs 8))) [.ref (ah 0), .ref (a 0)] (fun W1 => ∃ f2 hs2, W1 = HIW g.2.1 g.2.2 ah f2 ((nx + 1) % 8) (Nat.min (ct + 1) 8) ++ (YW g.2.1 a st ds le wg te (u 4) (u 5) ck mv mm tg gn wc (u 12) g1 g2 g3 ++ (HSW g.2.1 hs2 8)) ∧ (∀ k, k < 8 → f2 k = adO (hs2 k)) ∧ (∀ k, k ≠ nx → hs2 k = hs k) ∧ ∃ y, hs2 nx = some y ∧ YRel y u) := by
  refine CtV.go RX1 rfl (by decide +kernel) (Nat.le_of_ble_eq_true rfl) ?_
  intro p e s m args below meth c A H0 Q hc hnm fin
  show KW g p l e (rmK 4 7 72) s m args below meth c 2 A H0 0 0 Q (HIW g.2.1 g.2.2 ah f nx ct ++ (YW g.2.1 a st ds le wg te (u 4) (u 5) ck mv mm tg gn wc (u 12) g1 g2 g3 ++ (HSW g.2.1 hs 8))) [(0, .ref (ah 0)), (1, .ref (a 0))] 0 []
  refine zk_perm (ws2 := HIW g.2.1 g.2.2 ah f nx ct ++ (YW g.2.1 a st ds le wg te (u 4) (u 5) ck mv mm tg gn wc (u 12) g1 g2 g3 ++ (YW g.2.1 a1 st1 ds1 le1 wg1 te1 K1 C1 ck1 mv1 mm1 tg1 gn1 wc1 tn1 g11 g21 g31 ++ (HSW g.2.1 (setO hs nx none) 8)))) (List.Perm.append_left _ (List.Perm.append_left _ (hs_out (cI := g.2.1) hn hnx))) ?_
  refine zk_aload_n hc dX1_add_0 0 rfl ?_
  refine zk_get hc inlX1 (ci := 1) rfl 0 0 (by decide) mw_3_1 rfl rfl rfl dX1_add_1 ?_
  refine zk_aload_n hc dX1_add_4 0 rfl ?_
  refine zk_get hc inlX1 (ci := 1) rfl 0 1 (by decide) mw_8_3 rfl rfl rfl dX1_add_5 ?_
  refine zk_aald hc 1 rfl (by omega) (by decide) dX1_add_8 ?_
  rw [show f nx = some (a1 0) from by rw [hf nx hnx, hn]; rfl]
  show KW g p l e (rmK 4 7 72) s m args below meth c 2 A H0 0 0 Q (HIW g.2.1 g.2.2 ah f nx ct ++ (YW g.2.1 a st ds le wg te (u 4) (u 5) ck mv mm tg gn wc (u 12) g1 g2 g3 ++ (YW g.2.1 a1 st1 ds1 le1 wg1 te1 K1 C1 ck1 mv1 mm1 tg1 gn1 wc1 tn1 g11 g21 g31 ++ (HSW g.2.1 (setO hs nx none) 8)))) [(0, .ref (ah 0)), (1, .ref (a 0))] 9 [.ref (a1 0)]
  refine zk_nonnull hc 28 dX1_add_9 (by decide) ?_
  refine zk_aload_n hc dX1_add_28 0 rfl ?_
  refine zk_get hc inlX1 (ci := 1) rfl 0 0 (by decide) mw_3_1 rfl rfl rfl dX1_add_29 ?_
  refine zk_aload_n hc dX1_add_32 0 rfl ?_
  refine zk_get hc inlX1 (ci := 1) rfl 0 1 (by decide) mw_8_3 rfl rfl rfl dX1_add_33 ?_
  refine zk_aald hc 1 rfl (by omega) (by decide) dX1_add_36 ?_
  rw [show f nx = some (a1 0) from by rw [hf nx hnx, hn]; rfl]
  show KW g p l e (rmK 4 7 72) s m args below meth c 2 A H0 0 0 Q (HIW g.2.1 g.2.2 ah f nx ct ++ (YW g.2.1 a st ds le wg te (u 4) (u 5) ck mv mm tg gn wc (u 12) g1 g2 g3 ++ (YW g.2.1 a1 st1 ds1 le1 wg1 te1 K1 C1 ck1 mv1 mm1 tg1 gn1 wc1 tn1 g11 g21 g31 ++ (HSW g.2.1 (setO hs nx none) 8)))) [(0, .ref (ah 0)), (1, .ref (a 0))] 37 [.ref (a1 0)]
  refine zk_aload_n hc dX1_add_37 1 rfl ?_
  refine zk_perm (ws2 := HIW g.2.1 g.2.2 ah f nx ct ++ (YW g.2.1 a1 st1 ds1 le1 wg1 te1 K1 C1 ck1 mv1 mm1 tg1 gn1 wc1 tn1 g11 g21 g31 ++ (YW g.2.1 a st ds le wg te (u 4) (u 5) ck mv mm tg gn wc (u 12) g1 g2 g3 ++ (HSW g.2.1 (setO hs nx none) 8)))) (List.Perm.append_left _ (pm_sw _ _ _)) ?_
  refine zk_callVv hc (rest := []) (ct_X5_copyFrom g l a1 st1 ds1 le1 wg1 te1 K1 C1 ck1 mv1 mm1 tg1 gn1 wc1 tn1 g11 g21 g31 a st ds le wg te (u 4) (u 5) ck mv mm tg gn wc (u 12) g1 g2 g3) gg_X1_22 cd_X5_copyFrom ⟨Nat.le_of_ble_eq_true rfl, Nat.le_of_ble_eq_true rfl⟩ ⟨Nat.le_of_ble_eq_true rfl, Nat.le_of_ble_eq_true rfl⟩ (HIW g.2.1 g.2.2 ah f nx ct) (HSW g.2.1 (setO hs nx none) 8) rfl 2 rfl rfl rfl (Nat.le_of_ble_eq_true rfl) dX1_add_38 (fun W1 hp => ?_)
  obtain rfl := hp
  refine zk_ws (ws2 := HIW g.2.1 g.2.2 ah f nx ct ++ (YW g.2.1 a1 (va_cpy st st1 0 0 4) (va_cpy ds ds1 0 0 10) (va_cpy le le1 0 0 4) (va_cpy wg wg1 0 0 32) (va_cpy te te1 0 0 4) (u 4) (u 5) ck mv mm tg gn wc (u 12) g11 g21 g31 ++ (YW g.2.1 a st ds le wg te (u 4) (u 5) ck mv mm tg gn wc (u 12) g1 g2 g3 ++ (HSW g.2.1 (setO hs nx none) 8)))) rfl ?_
  refine zk_perm (ws2 := HIW g.2.1 g.2.2 ah f nx ct ++ (YW g.2.1 a st ds le wg te (u 4) (u 5) ck mv mm tg gn wc (u 12) g1 g2 g3 ++ (YW g.2.1 a1 (va_cpy st st1 0 0 4) (va_cpy ds ds1 0 0 10) (va_cpy le le1 0 0 4) (va_cpy wg wg1 0 0 32) (va_cpy te te1 0 0 4) (u 4) (u 5) ck mv mm tg gn wc (u 12) g11 g21 g31 ++ (HSW g.2.1 (setO hs nx none) 8)))) (List.Perm.append_left _ (pm_sw _ _ _)) ?_
  refine zk_aload_n hc dX1_add_41 0 rfl ?_
  refine zk_aload_n hc dX1_add_42 0 rfl ?_
  refine zk_get hc inlX1 (ci := 1) rfl 0 1 (by decide) mw_8_3 rfl rfl rfl dX1_add_43 ?_
  refine zk_iconst hc (nI 1) dX1_add_46 rfl ?_
  refine zk_iaddN hc dX1_add_47 ?_
  refine zk_bipush hc (nI 8) dX1_add_48 rfl ?_
  refine zk_iremN hc dX1_add_50 (by omega) (by omega) (by omega) ?_
  refine zk_put hc inlX1 (ci := 1) rfl tyX1 tyX1_ok nmX1 0 1 (by decide) mw_8_3 rfl rfl rfl rfl rfl (Nat.le_of_ble_eq_true rfl) (ws2 := HIW g.2.1 g.2.2 ah f ((nx + 1) % 8) ct ++ (YW g.2.1 a st ds le wg te (u 4) (u 5) ck mv mm tg gn wc (u 12) g1 g2 g3 ++ (YW g.2.1 a1 (va_cpy st st1 0 0 4) (va_cpy ds ds1 0 0 10) (va_cpy le le1 0 0 4) (va_cpy wg wg1 0 0 32) (va_cpy te te1 0 0 4) (u 4) (u 5) ck mv mm tg gn wc (u 12) g11 g21 g31 ++ (HSW g.2.1 (setO hs nx none) 8)))) rfl dX1_add_51 ?_
  refine zk_aload_n hc dX1_add_54 0 rfl ?_
  refine zk_aload_n hc dX1_add_55 0 rfl ?_
  refine zk_get hc inlX1 (ci := 1) rfl 0 2 (by decide) mw_8_4 rfl rfl rfl dX1_add_56 ?_
  refine zk_iconst hc (nI 1) dX1_add_59 rfl ?_
  refine zk_iaddN hc dX1_add_60 ?_
  refine zk_bipush hc (nI 8) dX1_add_61 rfl ?_
  refine zk_min hc mw_8_5 mw_6_18 mw_6_19 mw_6_20 ⟨by decide, by decide, by decide, by decide⟩ (Nat.le_of_ble_eq_true rfl) dX1_add_63 ?_
  refine zk_top (y := nI (Nat.min (ct + 1) 8)) (nq_min (by omega) (by omega)) ?_
  refine zk_put hc inlX1 (ci := 1) rfl tyX1 tyX1_ok nmX1 0 2 (by decide) mw_8_4 rfl rfl rfl rfl rfl (Nat.le_of_ble_eq_true rfl) (ws2 := HIW g.2.1 g.2.2 ah f ((nx + 1) % 8) (Nat.min (ct + 1) 8) ++ (YW g.2.1 a st ds le wg te (u 4) (u 5) ck mv mm tg gn wc (u 12) g1 g2 g3 ++ (YW g.2.1 a1 (va_cpy st st1 0 0 4) (va_cpy ds ds1 0 0 10) (va_cpy le le1 0 0 4) (va_cpy wg wg1 0 0 32) (va_cpy te te1 0 0 4) (u 4) (u 5) ck mv mm tg gn wc (u 12) g11 g21 g31 ++ (HSW g.2.1 (setO hs nx none) 8)))) rfl dX1_add_66 ?_
  refine zk_perm (ws2 := HIW g.2.1 g.2.2 ah f ((nx + 1) % 8) (Nat.min (ct + 1) 8) ++ (YW g.2.1 a st ds le wg te (u 4) (u 5) ck mv mm tg gn wc (u 12) g1 g2 g3 ++ (HSW g.2.1 (setO hs nx (some (a1, va_cpy st st1 0 0 4, va_cpy ds ds1 0 0 10, va_cpy le le1 0 0 4, va_cpy wg wg1 0 0 32, va_cpy te te1 0 0 4, u 4, u 5, ck, mv, mm, tg, gn, wc, u 12, g11, g21, g31))) 8))) (List.Perm.append_left _ (List.Perm.append_left _ (hs_in (cI := g.2.1) hnx).symm)) ?_
  refine fin 0 0 _ _ _ (by decide) (by decide) dX1_add_69 (?_)
  exact ⟨_, _, rfl, fun k hk => by unfold setO; by_cases e : k = nx; subst e; rw [if_pos rfl]; rw [hf k hnx, hn]; rfl; rw [if_neg e]; exact hf k hk, fun k hk => if_neg hk, _, if_pos rfl, YRel_cpy hR hG⟩
