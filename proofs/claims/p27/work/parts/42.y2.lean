set_option maxHeartbeats 4000000 in
set_option maxRecDepth 100000 in
theorem ct_X5_leastGap (g : GG) (l : Launch) (a : Nat → Nat) (u st ds le wg : Nat → Nat) (te : Nat → Int32) (ck mv mm tg gn wc g1 g2 g3 : Nat) (hY : YA u st ds le wg) (hG : GU u) (hN : GN u) (t : Nat) (ht : t < u 4) : CtI g l yX5_leastGap cX5_leastGap 2 (some .int) (rmK 3 0 0) (YW g.2.1 a st ds le wg te (u 4) (u 5) ck mv mm tg gn wc (u 12) g1 g2 g3) [.ref (a 0), .int (nI t)] (fun r W1 => r = encG (gap (kds u t (mny u t))) ∧ ∃ g4 g5 g6, W1 = YW g.2.1 a st ds le wg te (u 4) (u 5) ck mv mm tg gn wc (u 12) g4 g5 g6) := by
  refine CtI.go RX5 rfl (by decide +kernel) (Nat.le_of_ble_eq_true rfl) ?_
  intro p e s m args below meth c A H0 Q hc hnm fin
  obtain ⟨hK4, hC8, hv2, hg3, hm, hdk, h13, h12⟩ := id hG
  show KW g p l e (rmK 3 0 0) s m args below meth c 2 A H0 0 0 Q (YW g.2.1 a st ds le wg te (u 4) (u 5) ck mv mm tg gn wc (u 12) g1 g2 g3) [(0, .ref (a 0)), (1, .int (nI t))] 0 []
  refine zk_aload_n hc dX5_leastGap_0 0 rfl ?_
  refine zk_get hc inlX5 (ci := 5) rfl 0 14 (by decide) mw_2_17 rfl rfl rfl dX5_leastGap_1 ?_
  refine zk_callVv hc (rest := []) (ct_X0_start g l (a 6) g1 g2 g3) gg_X5_104 cd_X0_start ⟨Nat.le_of_ble_eq_true rfl, Nat.le_of_ble_eq_true rfl⟩ ⟨Nat.le_of_ble_eq_true rfl, Nat.le_of_ble_eq_true rfl⟩ (List.take 6 (YW g.2.1 a st ds le wg te (u 4) (u 5) ck mv mm tg gn wc (u 12) g1 g2 g3)) ([]) rfl 6 rfl rfl rfl (Nat.le_of_ble_eq_true rfl) dX5_leastGap_4 (fun W1 hp => ?_)
  obtain rfl := hp
  refine zk_ws (ws2 := YW g.2.1 a st ds le wg te (u 4) (u 5) ck mv mm tg gn wc (u 12) 99 0 0) rfl ?_
  refine zk_aload_n hc dX5_leastGap_7 0 rfl ?_
  refine zk_iload_n hc dX5_leastGap_8 1 rfl ?_
  refine zk_iconst hc (nI 0) dX5_leastGap_9 rfl ?_
  refine zk_aload_n hc dX5_leastGap_10 0 rfl ?_
  refine zk_get hc inlX5 (ci := 5) rfl 0 11 (by decide) mw_2_11 rfl rfl rfl dX5_leastGap_11 ?_
  refine zk_iload_n hc dX5_leastGap_14 1 rfl ?_
  refine zk_ialdN hc 3 rfl (by omega) (by decide) dX5_leastGap_15 ?_
  refine zk_top (y := nI (mny u t)) (yle hY (by omega)) ?_
  refine zk_callVv hc (rest := []) (ct_X5_passPart g l a u st ds le wg te ck mv mm tg gn wc 99 0 0 hY hG hN t 0 (mny u t) 0 (by omega) (by omega) (by omega) (show gok (99, 0, 0) 0 from ⟨Nat.le_refl 99, by decide, Nat.le_refl 0⟩) (by omega)) gg_X5_107 cd_X5_passPart ⟨Nat.le_of_ble_eq_true rfl, Nat.le_of_ble_eq_true rfl⟩ ⟨Nat.le_of_ble_eq_true rfl, Nat.le_of_ble_eq_true rfl⟩ ([]) ([]) rfl 0 rfl rfl rfl (Nat.le_of_ble_eq_true rfl) dX5_leastGap_16 (fun W1 hp => ?_)
  obtain ⟨rfl, hgk_1⟩ := hp
  refine zk_ws (ws2 := YW g.2.1 a st ds le wg te (u 4) (u 5) ck mv mm tg gn wc (u 12) (((kdf u t 0 ((mny u t) - 0)).foldl gstep (99, 0, 0)).1) (((kdf u t 0 ((mny u t) - 0)).foldl gstep (99, 0, 0)).2.1) (((kdf u t 0 ((mny u t) - 0)).foldl gstep (99, 0, 0)).2.2)) rfl ?_
  refine zk_aload_n hc dX5_leastGap_19 0 rfl ?_
  refine zk_get hc inlX5 (ci := 5) rfl 0 14 (by decide) mw_2_17 rfl rfl rfl dX5_leastGap_20 ?_
  refine zk_get hc inlX0 (ci := 0) rfl 6 0 (by decide) mw_5_19 rfl rfl rfl dX5_leastGap_23 ?_
  refine zk_bipush hc (nI 99) dX5_leastGap_26 rfl ?_
  refine zk_icmp_neN hc 36 dX5_leastGap_28 (by decide) (by have := hgk_1.1; omega) (by have := hgk_1.1; omega) (fun h99 => ?_) (fun h99 => ?_)
  · refine zk_aload_n hc dX5_leastGap_36 0 rfl ?_
    refine zk_get hc inlX5 (ci := 5) rfl 0 14 (by decide) mw_2_17 rfl rfl rfl dX5_leastGap_37 ?_
    refine zk_get hc inlX0 (ci := 0) rfl 6 0 (by decide) mw_5_19 rfl rfl rfl dX5_leastGap_40 ?_
    refine fin 0 0 _ _ _ _ (by decide) (by decide) dX5_leastGap_43 (?_)
    have hb : ((kdf u t 0 (mny u t - 0)).foldl gstep (99, 0, 0)).1 = gap (kds u t (mny u t)) := by rw [Nat.sub_zero, kdf_0]; rfl
    rw [hb] at h99
    exact ⟨by rw [← hb] at h99 ⊢; exact (if_neg h99).symm, _, _, _, rfl⟩
  · refine zk_bipush hc ((-9)) dX5_leastGap_31 rfl ?_
    refine zk_goto hc 43 dX5_leastGap_33 (by decide) ?_
    refine fin 0 0 _ _ _ _ (by decide) (by decide) dX5_leastGap_43 (?_)
    have hb : ((kdf u t 0 (mny u t - 0)).foldl gstep (99, 0, 0)).1 = gap (kds u t (mny u t)) := by rw [Nat.sub_zero, kdf_0]; rfl
    rw [hb] at h99
    exact ⟨by rw [h99]; rfl, _, _, _, rfl⟩

set_option maxHeartbeats 4000000 in
set_option maxRecDepth 100000 in
theorem ct_X5_unsafeTracks (g : GG) (l : Launch) (a : Nat → Nat) (u st ds le wg : Nat → Nat) (te : Nat → Int32) (ck mv mm tg gn wc g1 g2 g3 : Nat) (hY : YA u st ds le wg) (hG : GU u) (hN : GN u)  : CtI g l yX5_unsafeTracks cX5_unsafeTracks 3 (some .int) (rmK 4 0 0) (YW g.2.1 a st ds le wg te (u 4) (u 5) ck mv mm tg gn wc (u 12) g1 g2 g3) [.ref (a 0)] (fun r W1 => r = nI (unsN u (u 4)) ∧ ∃ g4 g5 g6, W1 = YW g.2.1 a st ds le wg te (u 4) (u 5) ck mv mm tg gn wc (u 12) g4 g5 g6) := by
  refine CtI.go RX5 rfl (by decide +kernel) (Nat.le_of_ble_eq_true rfl) ?_
  intro p e s m args below meth c A H0 Q hc hnm fin
  obtain ⟨hK4, hC8, hv2, hg3, hm, hdk, h13, h12⟩ := id hG
  show KW g p l e (rmK 4 0 0) s m args below meth c 3 A H0 0 0 Q (YW g.2.1 a st ds le wg te (u 4) (u 5) ck mv mm tg gn wc (u 12) g1 g2 g3) [(0, .ref (a 0))] 0 []
  refine zk_iconst hc (nI 0) dX5_unsafeTracks_0 rfl ?_
  refine zk_istore_n hc (lv2 := [(1, .int (nI 0)), (0, .ref (a 0))]) dX5_unsafeTracks_1 (by decide) rfl ?_
  refine zk_iconst hc (nI 0) dX5_unsafeTracks_2 rfl ?_
  refine zk_istore_n hc (lv2 := [(2, .int (nI 0)), (1, .int (nI 0)), (0, .ref (a 0))]) dX5_unsafeTracks_3 (by decide) rfl ?_
  have loop4 : ∀ (N : Nat) (q : Nat) (x : Nat) (g4 : Nat) (g5 : Nat) (g6 : Nat), u 4 - q < N → (q ≤ u 4) → (x = unsN u q) → KW g p l e (rmK 4 0 0) s m args below meth c 3 A H0 0 0 Q (YW g.2.1 a st ds le wg te (u 4) (u 5) ck mv mm tg gn wc (u 12) g4 g5 g6) [(0, .ref (a 0)), (1, .int (nI x)), (2, .int (nI q))] 4 [] := by
    intro N
    induction N with
    | zero => intro q x g4 g5 g6 hm; exact absurd hm (Nat.not_lt_zero _)
    | succ N ih4 =>
      intro q x g4 g5 g6 hm4 hq hx
      refine zk_iload_n hc dX5_unsafeTracks_4 2 rfl ?_
      refine zk_aload_n hc dX5_unsafeTracks_5 0 rfl ?_
      refine zk_get hc inlX5 (ci := 5) rfl 0 0 (by decide) mw_2_6 rfl rfl rfl dX5_unsafeTracks_6 ?_
      refine zk_icmp_geN hc 29 dX5_unsafeTracks_9 (by decide) (by omega) (by omega) (fun h_1 => ?_) (fun h_1 => ?_)
      · refine zk_iload_n hc dX5_unsafeTracks_29 1 rfl ?_
        refine fin 0 0 _ _ _ _ (by decide) (by decide) dX5_unsafeTracks_30 (?_)
        exact ⟨by rw [hx, show q = u 4 by omega], _, _, _, rfl⟩
      · refine zk_aload_n hc dX5_unsafeTracks_12 0 rfl ?_
        refine zk_iload_n hc dX5_unsafeTracks_13 2 rfl ?_
        refine zk_callVi hc (rest := []) (ct_X5_isSafe g l a u st ds le wg te ck mv mm tg gn wc g4 g5 g6 hY hG hN q (by omega)) gg_X5_118 cd_X5_isSafe ⟨Nat.le_of_ble_eq_true rfl, Nat.le_of_ble_eq_true rfl⟩ ⟨Nat.le_of_ble_eq_true rfl, Nat.le_of_ble_eq_true rfl⟩ ([]) ([]) rfl 0 rfl rfl rfl (Nat.le_of_ble_eq_true rfl) dX5_unsafeTracks_14 (fun r W1 hp => ?_)
        obtain ⟨rfl, g4z_2, g5z_2, g6z_2, rfl⟩ := hp
        refine zk_ws (ws2 := YW g.2.1 a st ds le wg te (u 4) (u 5) ck mv mm tg gn wc (u 12) g4z_2 g5z_2 g6z_2) rfl ?_
        by_cases hs : u 0 ≤ gap (kds u q (mny u q))
        · refine zk_top (y := nI 1) (if_pos hs) ?_
          refine zk_if_neN hc 23 dX5_unsafeTracks_17 (by decide) (by omega) (fun h_3 => ?_) (fun h_3 => ?_)
          · refine zk_iinc hc (v := nI (q + 1)) (lv2 := [(2, .int (nI (q + 1))), (0, .ref (a 0)), (1, .int (nI x))]) dX5_unsafeTracks_23 2 rfl (nq_inc rfl) (by decide) rfl ?_
            refine zk_goto hc 4 dX5_unsafeTracks_26 (by decide) ?_
            refine zk_lv [1, 2, 0] (lv2 := [(0, .ref (a 0)), (1, .int (nI x)), (2, .int (nI (q + 1)))]) rfl ?_
            exact ih4 (q + 1) x g4z_2 g5z_2 g6z_2 (by omega) (by omega) (by unfold unsN; rw [hx, if_pos hs, Nat.add_zero])
          · exact absurd h_3 (by decide)
        · refine zk_top (y := nI 0) (if_neg hs) ?_
          refine zk_if_neN hc 23 dX5_unsafeTracks_17 (by decide) (by omega) (fun h_4 => ?_) (fun h_4 => ?_)
          · exact absurd h_4 (by decide)
          · refine zk_iinc hc (v := nI (x + 1)) (lv2 := [(1, .int (nI (x + 1))), (0, .ref (a 0)), (2, .int (nI q))]) dX5_unsafeTracks_20 1 rfl (nq_inc rfl) (by decide) rfl ?_
            refine zk_iinc hc (v := nI (q + 1)) (lv2 := [(2, .int (nI (q + 1))), (1, .int (nI (x + 1))), (0, .ref (a 0))]) dX5_unsafeTracks_23 2 rfl (nq_inc rfl) (by decide) rfl ?_
            refine zk_goto hc 4 dX5_unsafeTracks_26 (by decide) ?_
            refine zk_lv [2, 1, 0] (lv2 := [(0, .ref (a 0)), (1, .int (nI (x + 1))), (2, .int (nI (q + 1)))]) rfl ?_
            exact ih4 (q + 1) (x + 1) g4z_2 g5z_2 g6z_2 (by omega) (by omega) (by unfold unsN; rw [hx, if_neg hs])
  refine zk_lv [2, 1, 0] (lv2 := [(0, .ref (a 0)), (1, .int (nI 0)), (2, .int (nI 0))]) rfl ?_
  exact loop4 ((u 4 - 0) + 1) 0 0 g1 g2 g3 (Nat.lt_succ_self _) (Nat.zero_le _) rfl

set_option maxHeartbeats 4000000 in
set_option maxRecDepth 100000 in
theorem ct_X5_isSafeBehindMove (g : GG) (l : Launch) (a : Nat → Nat) (u st ds le wg : Nat → Nat) (te : Nat → Int32) (ck mv mm tg gn wc g1 g2 g3 : Nat) (hY : YA u st ds le wg) (hG : GU u) (hN : GN u) (f t n : Nat) (hf : f < u 4) (ht : t < u 4) (hn : n ≤ mny u f) : CtI g l yX5_isSafeBehindMove cX5_isSafeBehindMove 5 (some .boolean) (rmK 3 0 0) (YW g.2.1 a st ds le wg te (u 4) (u 5) ck mv mm tg gn wc (u 12) g1 g2 g3) [.ref (a 0), .int (nI f), .int (nI t), .int (nI n)] (fun r W1 => r = (if (u 0 ≤ gap (kds u f (mny u f - n)) ∧ u 0 ≤ gap (kds u t (mny u t) ++ kdf u f (mny u f - n) n)) then nI 1 else nI 0) ∧ ∃ g4 g5 g6, W1 = YW g.2.1 a st ds le wg te (u 4) (u 5) ck mv mm tg gn wc (u 12) g4 g5 g6) := by
  refine CtZ.go RX5 rfl (by decide +kernel) (Nat.le_of_ble_eq_true rfl) ?_
  intro p e s m args below meth c A H0 Q hc hnm fin
  obtain ⟨hK4, hC8, hv2, hg3, hm, hdk, h13, h12⟩ := id hG
  show KW g p l e (rmK 3 0 0) s m args below meth c 5 A H0 0 0 Q (YW g.2.1 a st ds le wg te (u 4) (u 5) ck mv mm tg gn wc (u 12) g1 g2 g3) [(0, .ref (a 0)), (1, .int (nI f)), (2, .int (nI t)), (3, .int (nI n))] 0 []
  refine zk_aload_n hc dX5_isSafeBehindMove_0 0 rfl ?_
  refine zk_get hc inlX5 (ci := 5) rfl 0 11 (by decide) mw_2_11 rfl rfl rfl dX5_isSafeBehindMove_1 ?_
  refine zk_iload_n hc dX5_isSafeBehindMove_4 1 rfl ?_
  refine zk_ialdN hc 3 rfl (by omega) (by decide) dX5_isSafeBehindMove_5 ?_
  refine zk_top (y := nI (mny u f)) (yle hY (by omega)) ?_
  refine zk_iload_n hc dX5_isSafeBehindMove_6 3 rfl ?_
  refine zk_isubN hc dX5_isSafeBehindMove_7 (by omega) ?_
  refine zk_istore hc (lv2 := [(4, .int (nI ((mny u f) - n))), (0, .ref (a 0)), (1, .int (nI f)), (2, .int (nI t)), (3, .int (nI n))]) dX5_isSafeBehindMove_8 (by decide) rfl ?_
  refine zk_aload_n hc dX5_isSafeBehindMove_10 1 rfl ?_
  refine zk_get hc inlX5 (ci := 5) rfl 0 14 (by decide) mw_2_17 rfl rfl rfl dX5_isSafeBehindMove_11 ?_
  refine zk_callVv hc (rest := []) (ct_X0_start g l (a 6) g1 g2 g3) gg_X5_104 cd_X0_start ⟨Nat.le_of_ble_eq_true rfl, Nat.le_of_ble_eq_true rfl⟩ ⟨Nat.le_of_ble_eq_true rfl, Nat.le_of_ble_eq_true rfl⟩ (List.take 6 (YW g.2.1 a st ds le wg te (u 4) (u 5) ck mv mm tg gn wc (u 12) g1 g2 g3)) ([]) rfl 6 rfl rfl rfl (Nat.le_of_ble_eq_true rfl) dX5_isSafeBehindMove_14 (fun W1 hp => ?_)
  obtain rfl := hp
  refine zk_ws (ws2 := YW g.2.1 a st ds le wg te (u 4) (u 5) ck mv mm tg gn wc (u 12) 99 0 0) rfl ?_
  refine zk_aload_n hc dX5_isSafeBehindMove_17 1 rfl ?_
  refine zk_iload_n hc dX5_isSafeBehindMove_18 2 rfl ?_
  refine zk_iconst hc (nI 0) dX5_isSafeBehindMove_19 rfl ?_
  refine zk_iload hc dX5_isSafeBehindMove_20 0 rfl ?_
  refine zk_callVv hc (rest := []) (ct_X5_passPart g l a u st ds le wg te ck mv mm tg gn wc 99 0 0 hY hG hN f 0 ((mny u f) - n) 0 (by omega) (by omega) (by omega) (show gok (99, 0, 0) 0 from ⟨Nat.le_refl 99, by decide, Nat.le_refl 0⟩) (by omega)) gg_X5_107 cd_X5_passPart ⟨Nat.le_of_ble_eq_true rfl, Nat.le_of_ble_eq_true rfl⟩ ⟨Nat.le_of_ble_eq_true rfl, Nat.le_of_ble_eq_true rfl⟩ ([]) ([]) rfl 0 rfl rfl rfl (Nat.le_of_ble_eq_true rfl) dX5_isSafeBehindMove_22 (fun W1 hp => ?_)
  obtain ⟨rfl, hgk_1⟩ := hp
  refine zk_ws (ws2 := YW g.2.1 a st ds le wg te (u 4) (u 5) ck mv mm tg gn wc (u 12) (((kdf u f 0 (((mny u f) - n) - 0)).foldl gstep (99, 0, 0)).1) (((kdf u f 0 (((mny u f) - n) - 0)).foldl gstep (99, 0, 0)).2.1) (((kdf u f 0 (((mny u f) - n) - 0)).foldl gstep (99, 0, 0)).2.2)) rfl ?_
  refine zk_aload_n hc dX5_isSafeBehindMove_25 1 rfl ?_
  refine zk_get hc inlX5 (ci := 5) rfl 0 14 (by decide) mw_2_17 rfl rfl rfl dX5_isSafeBehindMove_26 ?_
  refine zk_get hc inlX0 (ci := 0) rfl 6 0 (by decide) mw_5_19 rfl rfl rfl dX5_isSafeBehindMove_29 ?_
  refine zk_aload_n hc dX5_isSafeBehindMove_32 1 rfl ?_
  refine zk_get hc inlX5 (ci := 5) rfl 0 9 (by decide) mw_2_9 rfl rfl rfl dX5_isSafeBehindMove_33 ?_
  refine zk_iconst hc (nI 0) dX5_isSafeBehindMove_36 rfl ?_
  refine zk_ialdN hc 1 rfl (by omega) (by decide) dX5_isSafeBehindMove_37 ?_
  refine zk_top (y := nI (u 0)) (yst hY (by omega)) ?_
  refine zk_icmp_geN hc 43 dX5_isSafeBehindMove_38 (by decide) (by have := hgk_1.1; omega) (by have := hgk_1.1; omega) (fun h38 => ?_) (fun h38 => ?_)
  · refine zk_aload_n hc dX5_isSafeBehindMove_43 1 rfl ?_
    refine zk_get hc inlX5 (ci := 5) rfl 0 14 (by decide) mw_2_17 rfl rfl rfl dX5_isSafeBehindMove_44 ?_
    refine zk_callVv hc (rest := []) (ct_X0_start g l (a 6) (((kdf u f 0 (((mny u f) - n) - 0)).foldl gstep (99, 0, 0)).1) (((kdf u f 0 (((mny u f) - n) - 0)).foldl gstep (99, 0, 0)).2.1) (((kdf u f 0 (((mny u f) - n) - 0)).foldl gstep (99, 0, 0)).2.2)) gg_X5_104 cd_X0_start ⟨Nat.le_of_ble_eq_true rfl, Nat.le_of_ble_eq_true rfl⟩ ⟨Nat.le_of_ble_eq_true rfl, Nat.le_of_ble_eq_true rfl⟩ (List.take 6 (YW g.2.1 a st ds le wg te (u 4) (u 5) ck mv mm tg gn wc (u 12) (((kdf u f 0 (((mny u f) - n) - 0)).foldl gstep (99, 0, 0)).1) (((kdf u f 0 (((mny u f) - n) - 0)).foldl gstep (99, 0, 0)).2.1) (((kdf u f 0 (((mny u f) - n) - 0)).foldl gstep (99, 0, 0)).2.2))) ([]) rfl 6 rfl rfl rfl (Nat.le_of_ble_eq_true rfl) dX5_isSafeBehindMove_47 (fun W1 hp => ?_)
    obtain rfl := hp
    refine zk_ws (ws2 := YW g.2.1 a st ds le wg te (u 4) (u 5) ck mv mm tg gn wc (u 12) 99 0 0) rfl ?_
    refine zk_aload_n hc dX5_isSafeBehindMove_50 1 rfl ?_
    refine zk_iload_n hc dX5_isSafeBehindMove_51 3 rfl ?_
    refine zk_iconst hc (nI 0) dX5_isSafeBehindMove_52 rfl ?_
    refine zk_aload_n hc dX5_isSafeBehindMove_53 1 rfl ?_
    refine zk_get hc inlX5 (ci := 5) rfl 0 11 (by decide) mw_2_11 rfl rfl rfl dX5_isSafeBehindMove_54 ?_
    refine zk_iload_n hc dX5_isSafeBehindMove_57 3 rfl ?_
    refine zk_ialdN hc 3 rfl (by omega) (by decide) dX5_isSafeBehindMove_58 ?_
    refine zk_top (y := nI (mny u t)) (yle hY (by omega)) ?_
    refine zk_callVv hc (rest := []) (ct_X5_passPart g l a u st ds le wg te ck mv mm tg gn wc 99 0 0 hY hG hN t 0 (mny u t) 0 (by omega) (by omega) (by omega) (show gok (99, 0, 0) 0 from ⟨Nat.le_refl 99, by decide, Nat.le_refl 0⟩) (by omega)) gg_X5_107 cd_X5_passPart ⟨Nat.le_of_ble_eq_true rfl, Nat.le_of_ble_eq_true rfl⟩ ⟨Nat.le_of_ble_eq_true rfl, Nat.le_of_ble_eq_true rfl⟩ ([]) ([]) rfl 0 rfl rfl rfl (Nat.le_of_ble_eq_true rfl) dX5_isSafeBehindMove_59 (fun W1 hp => ?_)
    obtain ⟨rfl, hgk_2⟩ := hp
    refine zk_ws (ws2 := YW g.2.1 a st ds le wg te (u 4) (u 5) ck mv mm tg gn wc (u 12) (((kdf u t 0 ((mny u t) - 0)).foldl gstep (99, 0, 0)).1) (((kdf u t 0 ((mny u t) - 0)).foldl gstep (99, 0, 0)).2.1) (((kdf u t 0 ((mny u t) - 0)).foldl gstep (99, 0, 0)).2.2)) rfl ?_
    refine zk_aload_n hc dX5_isSafeBehindMove_62 1 rfl ?_
    refine zk_iload_n hc dX5_isSafeBehindMove_63 2 rfl ?_
    refine zk_iload hc dX5_isSafeBehindMove_64 0 rfl ?_
    refine zk_aload_n hc dX5_isSafeBehindMove_66 1 rfl ?_
    refine zk_get hc inlX5 (ci := 5) rfl 0 11 (by decide) mw_2_11 rfl rfl rfl dX5_isSafeBehindMove_67 ?_
    refine zk_iload_n hc dX5_isSafeBehindMove_70 2 rfl ?_
    refine zk_ialdN hc 3 rfl (by omega) (by decide) dX5_isSafeBehindMove_71 ?_
    refine zk_top (y := nI (mny u f)) (yle hY (by omega)) ?_
    refine zk_callVv hc (rest := []) (ct_X5_passPart g l a u st ds le wg te ck mv mm tg gn wc (((kdf u t 0 ((mny u t) - 0)).foldl gstep (99, 0, 0)).1) (((kdf u t 0 ((mny u t) - 0)).foldl gstep (99, 0, 0)).2.1) (((kdf u t 0 ((mny u t) - 0)).foldl gstep (99, 0, 0)).2.2) hY hG hN f ((mny u f) - n) (mny u f) 8 (by omega) (by omega) (by omega) ⟨hgk_2.1, hgk_2.2.1, Nat.le_trans hgk_2.2.2 (by have := hm t (by omega); omega)⟩ (by omega)) gg_X5_107 cd_X5_passPart ⟨Nat.le_of_ble_eq_true rfl, Nat.le_of_ble_eq_true rfl⟩ ⟨Nat.le_of_ble_eq_true rfl, Nat.le_of_ble_eq_true rfl⟩ ([]) ([]) rfl 0 rfl rfl rfl (Nat.le_of_ble_eq_true rfl) dX5_isSafeBehindMove_72 (fun W1 hp => ?_)
    obtain ⟨rfl, hgk_3⟩ := hp
    refine zk_ws (ws2 := YW g.2.1 a st ds le wg te (u 4) (u 5) ck mv mm tg gn wc (u 12) (((kdf u f ((mny u f) - n) ((mny u f) - ((mny u f) - n))).foldl gstep (((kdf u t 0 ((mny u t) - 0)).foldl gstep (99, 0, 0)).1, ((kdf u t 0 ((mny u t) - 0)).foldl gstep (99, 0, 0)).2.1, ((kdf u t 0 ((mny u t) - 0)).foldl gstep (99, 0, 0)).2.2)).1) (((kdf u f ((mny u f) - n) ((mny u f) - ((mny u f) - n))).foldl gstep (((kdf u t 0 ((mny u t) - 0)).foldl gstep (99, 0, 0)).1, ((kdf u t 0 ((mny u t) - 0)).foldl gstep (99, 0, 0)).2.1, ((kdf u t 0 ((mny u t) - 0)).foldl gstep (99, 0, 0)).2.2)).2.1) (((kdf u f ((mny u f) - n) ((mny u f) - ((mny u f) - n))).foldl gstep (((kdf u t 0 ((mny u t) - 0)).foldl gstep (99, 0, 0)).1, ((kdf u t 0 ((mny u t) - 0)).foldl gstep (99, 0, 0)).2.1, ((kdf u t 0 ((mny u t) - 0)).foldl gstep (99, 0, 0)).2.2)).2.2)) rfl ?_
    refine zk_aload_n hc dX5_isSafeBehindMove_75 1 rfl ?_
    refine zk_get hc inlX5 (ci := 5) rfl 0 14 (by decide) mw_2_17 rfl rfl rfl dX5_isSafeBehindMove_76 ?_
    refine zk_get hc inlX0 (ci := 0) rfl 6 0 (by decide) mw_5_19 rfl rfl rfl dX5_isSafeBehindMove_79 ?_
    refine zk_aload_n hc dX5_isSafeBehindMove_82 1 rfl ?_
    refine zk_get hc inlX5 (ci := 5) rfl 0 9 (by decide) mw_2_9 rfl rfl rfl dX5_isSafeBehindMove_83 ?_
    refine zk_iconst hc (nI 0) dX5_isSafeBehindMove_86 rfl ?_
    refine zk_ialdN hc 1 rfl (by omega) (by decide) dX5_isSafeBehindMove_87 ?_
    refine zk_top (y := nI (u 0)) (yst hY (by omega)) ?_
    refine zk_icmp_ltN hc 95 dX5_isSafeBehindMove_88 (by decide) (by have := hgk_3.1; omega) (by have := hgk_3.1; omega) (fun h88 => ?_) (fun h88 => ?_)
    · refine zk_iconst hc (nI 0) dX5_isSafeBehindMove_95 rfl ?_
      refine fin 0 0 _ _ _ _ (by decide) (by decide) dX5_isSafeBehindMove_96 rfl (?_)
      have hb1 : ((kdf u f 0 (mny u f - n - 0)).foldl gstep (99, 0, 0)).1 = gap (kds u f (mny u f - n)) := by rw [Nat.sub_zero, kdf_0]; rfl
      rw [hb1] at h38
      have hb2 := isb_2 u f t n hn
      rw [hb2] at h88
      exact ⟨by rw [if_neg (by omega)], _, _, _, rfl⟩
    · refine zk_iconst hc (nI 1) dX5_isSafeBehindMove_91 rfl ?_
      refine zk_goto hc 96 dX5_isSafeBehindMove_92 (by decide) ?_
      refine fin 0 0 _ _ _ _ (by decide) (by decide) dX5_isSafeBehindMove_96 rfl (?_)
      have hb1 : ((kdf u f 0 (mny u f - n - 0)).foldl gstep (99, 0, 0)).1 = gap (kds u f (mny u f - n)) := by rw [Nat.sub_zero, kdf_0]; rfl
      rw [hb1] at h38
      have hb2 := isb_2 u f t n hn
      rw [hb2] at h88
      exact ⟨by rw [if_pos (by omega)], _, _, _, rfl⟩
  · refine zk_iconst hc (nI 0) dX5_isSafeBehindMove_41 rfl ?_
    refine fin 0 0 _ _ _ _ (by decide) (by decide) dX5_isSafeBehindMove_42 rfl (?_)
    have hb1 : ((kdf u f 0 (mny u f - n - 0)).foldl gstep (99, 0, 0)).1 = gap (kds u f (mny u f - n)) := by rw [Nat.sub_zero, kdf_0]; rfl
    rw [hb1] at h38
    exact ⟨by rw [if_neg (by omega)], _, _, _, rfl⟩

set_option maxHeartbeats 4000000 in
set_option maxRecDepth 100000 in
theorem ct_X5_minutesOf (g : GG) (l : Launch) (a : Nat → Nat) (u st ds le wg : Nat → Nat) (te : Nat → Int32) (ck mv mm tg gn wc g1 g2 g3 : Nat) (hY : YA u st ds le wg) (hG : GU u) (hN : GN u) (f t n : Nat) (hf : f < u 4) (ht : t < u 4) (hn : n ≤ mny u f) : CtI g l yX5_minutesOf cX5_minutesOf 6 (some .int) (rmK 2 0 0) (YW g.2.1 a st ds le wg te (u 4) (u 5) ck mv mm tg gn wc (u 12) g1 g2 g3) [.ref (a 0), .int (nI f), .int (nI t), .int (nI n)] (fun r W1 => r = nI (mins u f t n) ∧ W1 = YW g.2.1 a st ds le wg te (u 4) (u 5) ck mv mm tg gn wc (u 12) g1 g2 g3) := by
  refine CtI.go RX5 rfl (by decide +kernel) (Nat.le_of_ble_eq_true rfl) ?_
  intro p e s m args below meth c A H0 Q hc hnm fin
  obtain ⟨hK4, hC8, hv2, hg3, hm, hdk, h13, h12⟩ := id hG
  have hmf := hm f (by omega)
  have hbig := hN
  show KW g p l e (rmK 2 0 0) s m args below meth c 6 A H0 0 0 Q (YW g.2.1 a st ds le wg te (u 4) (u 5) ck mv mm tg gn wc (u 12) g1 g2 g3) [(0, .ref (a 0)), (1, .int (nI f)), (2, .int (nI t)), (3, .int (nI n))] 0 []
  refine zk_aload_n hc dX5_minutesOf_0 0 rfl ?_
  refine zk_get hc inlX5 (ci := 5) rfl 0 9 (by decide) mw_2_9 rfl rfl rfl dX5_minutesOf_1 ?_
  refine zk_iconst hc (nI 2) dX5_minutesOf_4 rfl ?_
  refine zk_ialdN hc 1 rfl (by omega) (by decide) dX5_minutesOf_5 ?_
  refine zk_top (y := nI (u 2)) (yst hY (by omega)) ?_
  refine zk_iload_n hc dX5_minutesOf_6 3 rfl ?_
  refine zk_iaddN hc dX5_minutesOf_7 ?_
  refine zk_iconst hc (nI 2) dX5_minutesOf_8 rfl ?_
  refine zk_iload_n hc dX5_minutesOf_9 1 rfl ?_
  refine zk_iload_n hc dX5_minutesOf_10 2 rfl ?_
  refine zk_isub hc dX5_minutesOf_11 ?_
  refine zk_abs hc mw_17_0 mw_17_1 mw_6_19 mw_17_2 ⟨by decide, by decide, by decide, by decide⟩ (Nat.le_of_ble_eq_true rfl) dX5_minutesOf_12 ?_
  refine zk_top (y := nI (if t < f then f - t else t - f)) (abs_sub (by omega) (by omega)) ?_
  refine zk_imulN hc dX5_minutesOf_15 ?_
  refine zk_iaddN hc dX5_minutesOf_16 ?_
  refine zk_istore hc (lv2 := [(4, .int (nI (((u 2) + n) + (2 * (if t < f then f - t else t - f))))), (0, .ref (a 0)), (1, .int (nI f)), (2, .int (nI t)), (3, .int (nI n))]) dX5_minutesOf_17 (by decide) rfl ?_
  refine zk_aload_n hc dX5_minutesOf_19 1 rfl ?_
  refine zk_get hc inlX5 (ci := 5) rfl 0 11 (by decide) mw_2_11 rfl rfl rfl dX5_minutesOf_20 ?_
  refine zk_iload_n hc dX5_minutesOf_23 2 rfl ?_
  refine zk_ialdN hc 3 rfl (by omega) (by decide) dX5_minutesOf_24 ?_
  refine zk_top (y := nI (mny u f)) (yle hY (by omega)) ?_
  refine zk_iload_n hc dX5_minutesOf_25 4 rfl ?_
  refine zk_isubN hc dX5_minutesOf_26 (by omega) ?_
  refine zk_istore hc (lv2 := [(5, .int (nI ((mny u f) - n))), (4, .int (nI (((u 2) + n) + (2 * (if t < f then f - t else t - f))))), (0, .ref (a 0)), (1, .int (nI f)), (2, .int (nI t)), (3, .int (nI n))]) dX5_minutesOf_27 (by decide) rfl ?_
  have loop29 : ∀ (N : Nat) (q : Nat), n - q < N → (q ≤ n) → (∀ j, j < q → knd u f (mny u f - n + j) ≠ 2) → KW g p l e (rmK 2 0 0) s m args below meth c 6 A H0 0 0 Q (YW g.2.1 a st ds le wg te (u 4) (u 5) ck mv mm tg gn wc (u 12) g1 g2 g3) [(0, .ref (a 0)), (1, .int (nI f)), (2, .int (nI t)), (3, .int (nI n)), (4, .int (nI (((u 2) + n) + (2 * (if t < f then f - t else t - f))))), (5, .int (nI (mny u f - n + q)))] 29 [] := by
    intro N
    induction N with
    | zero => intro q hm; exact absurd hm (Nat.not_lt_zero _)
    | succ N ih29 =>
      intro q hm29 hq hno
      refine zk_iload hc dX5_minutesOf_29 5 rfl ?_
      refine zk_aload_n hc dX5_minutesOf_31 0 rfl ?_
      refine zk_get hc inlX5 (ci := 5) rfl 0 11 (by decide) mw_2_11 rfl rfl rfl dX5_minutesOf_32 ?_
      refine zk_iload_n hc dX5_minutesOf_35 1 rfl ?_
      refine zk_ialdN hc 3 rfl (by omega) (by decide) dX5_minutesOf_36 ?_
      refine zk_top (y := nI (mny u f)) (yle hY (by omega)) ?_
      refine zk_icmp_geN hc 65 dX5_minutesOf_37 (by decide) (by omega) (by omega) (fun h_1 => ?_) (fun h_1 => ?_)
      · refine zk_iload hc dX5_minutesOf_65 4 rfl ?_
        refine fin 0 0 _ _ _ _ (by decide) (by decide) dX5_minutesOf_67 (?_)
        exact ⟨congrArg nI (min_b (show q = n by omega) hno), rfl⟩
      · refine zk_aload_n hc dX5_minutesOf_40 0 rfl ?_
        refine zk_iload_n hc dX5_minutesOf_41 1 rfl ?_
        refine zk_iload hc dX5_minutesOf_42 5 rfl ?_
        refine zk_callVi hc (rest := []) (ct_X5_wagonAt g l a u st ds le wg te ck mv mm tg gn wc g1 g2 g3 f (mny u f - n + q) (by omega)) gg_X5_78 cd_X5_wagonAt ⟨Nat.le_of_ble_eq_true rfl, Nat.le_of_ble_eq_true rfl⟩ ⟨Nat.le_of_ble_eq_true rfl, Nat.le_of_ble_eq_true rfl⟩ ([]) ([]) rfl 0 rfl rfl rfl (Nat.le_of_ble_eq_true rfl) dX5_minutesOf_44 (fun r W1 hp => ?_)
        obtain ⟨rfl, rfl⟩ := hp
        refine zk_ws (ws2 := YW g.2.1 a st ds le wg te (u 4) (u 5) ck mv mm tg gn wc (u 12) g1 g2 g3) rfl ?_
        refine zk_top (y := nI (enc u f (mny u f - n + q))) (ywg hY (by omega) (by omega)) ?_
        refine zk_callNi hc (rest := []) (ct_X6_kindOf g l (enc u f (mny u f - n + q)) (enc_b hG hN (by omega) (by omega)).1) (host := "ShuntYard") nl_X5_97 mw_6_12 mw_6_11 mw_1_2 cd_X6_kindOf ⟨Nat.le_of_ble_eq_true rfl, Nat.le_of_ble_eq_true rfl⟩ ⟨Nat.le_of_ble_eq_true rfl, Nat.le_of_ble_eq_true rfl⟩ ([]) (YW g.2.1 a st ds le wg te (u 4) (u 5) ck mv mm tg gn wc (u 12) g1 g2 g3) rfl rfl (Nat.le_of_ble_eq_true rfl) dX5_minutesOf_47 (fun r W1 hp => ?_)
        obtain ⟨rfl, rfl⟩ := hp
        refine zk_ws (ws2 := YW g.2.1 a st ds le wg te (u 4) (u 5) ck mv mm tg gn wc (u 12) g1 g2 g3) rfl ?_
        refine zk_top (y := nI (knd u f (mny u f - n + q))) (congrArg nI (enc_k (enc_b hG hN (by omega) (by omega)).2.1)) ?_
        refine zk_iconst hc (nI 2) dX5_minutesOf_50 rfl ?_
        refine zk_icmp_neN hc 59 dX5_minutesOf_51 (by decide) (by have := (hdk f (mny u f - n + q) (by omega) (by omega)).2; omega) (by have := (hdk f (mny u f - n + q) (by omega) (by omega)).2; omega) (fun hx2 => ?_) (fun hx2 => ?_)
        · refine zk_iinc hc (v := nI (mny u f - n + q + 1)) (lv2 := [(5, .int (nI (mny u f - n + q + 1))), (0, .ref (a 0)), (1, .int (nI f)), (2, .int (nI t)), (3, .int (nI n)), (4, .int (nI (((u 2) + n) + (2 * (if t < f then f - t else t - f)))))]) dX5_minutesOf_59 5 rfl (nq_inc rfl) (by decide) rfl ?_
          refine zk_goto hc 29 dX5_minutesOf_62 (by decide) ?_
          refine zk_lv [1, 2, 3, 4, 5, 0] (lv2 := [(0, .ref (a 0)), (1, .int (nI f)), (2, .int (nI t)), (3, .int (nI n)), (4, .int (nI (((u 2) + n) + (2 * (if t < f then f - t else t - f))))), (5, .int (nI (mny u f - n + q + 1)))]) rfl ?_
          exact ih29 (q + 1) (by omega) (by omega) (fun j hj => by rcases (show j < q ∨ j = q by omega) with z | z; exact hno j z; subst z; exact hx2)
        · refine zk_iload hc dX5_minutesOf_54 4 rfl ?_
          refine zk_iconst hc (nI 5) dX5_minutesOf_56 rfl ?_
          refine zk_iaddN hc dX5_minutesOf_57 ?_
          refine fin 0 0 _ _ _ _ (by decide) (by decide) dX5_minutesOf_58 (?_)
          exact ⟨congrArg nI (min_a hx2 (by omega)), rfl⟩
  refine zk_lv [2, 3, 4, 5, 1, 0] (lv2 := [(0, .ref (a 0)), (1, .int (nI f)), (2, .int (nI t)), (3, .int (nI n)), (4, .int (nI (((u 2) + n) + (2 * (if t < f then f - t else t - f))))), (5, .int (nI ((mny u f) - n)))]) rfl ?_
  exact loop29 ((n - 0) + 1) 0 (Nat.lt_succ_self _) (Nat.zero_le _) (fun j hj => absurd hj (Nat.not_lt_zero _))
