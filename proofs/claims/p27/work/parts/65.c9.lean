set_option maxHeartbeats 4000000 in
set_option maxRecDepth 100000 in
theorem ct_X5_isSafeWith (g : GG) (l : Launch) (a : Nat → Nat) (u st ds le wg : Nat → Nat) (te : Nat → Int32) (ck mv mm tg gn wc g1 g2 g3 : Nat) (ax : Nat → Nat) (tx rd B K : Nat → Nat) (ln fn : Nat) (fk fp : Int32) (hY : YA u st ds le wg) (hG : GU u) (hN : GN u) (hrd : ∀ j, j < fn → rd j = B j * 3 + K j) (hBK : ∀ j, j < fn → K j < 3 ∧ B j < 6) (hfn : fn ≤ 8) (t : Nat) (ht : t < u 4) : CtI g l yX5_isSafeWith cX5_isSafeWith 4 (some .boolean) (rmK 4 0 0) (YW g.2.1 a st ds le wg te (u 4) (u 5) ck mv mm tg gn wc (u 12) g1 g2 g3 ++ (TXW g.2.1 ax tx rd ln fn fk fp)) [.ref (a 0), .int (nI t), .ref (ax 0)] (fun r W1 => r = (if u 0 ≤ gap (kds u t (mny u t) ++ rowL K fn) then nI 1 else nI 0) ∧ ∃ g4 g5 g6, W1 = YW g.2.1 a st ds le wg te (u 4) (u 5) ck mv mm tg gn wc (u 12) g4 g5 g6 ++ (TXW g.2.1 ax tx rd ln fn fk fp)) := by
  refine CtZ.go RX5 rfl (by decide +kernel) (Nat.le_of_ble_eq_true rfl) ?_
  intro p e s m args below meth c A H0 Q hc hnm fin
  obtain ⟨hK4, hC8, hv2, hg3, hm, hdk, h13, h12⟩ := id hG
  have hmt := hm t (by omega)
  show KW g p l e (rmK 4 0 0) s m args below meth c 4 A H0 0 0 Q (YW g.2.1 a st ds le wg te (u 4) (u 5) ck mv mm tg gn wc (u 12) g1 g2 g3 ++ (TXW g.2.1 ax tx rd ln fn fk fp)) [(0, .ref (a 0)), (1, .int (nI t)), (2, .ref (ax 0))] 0 []
  refine zk_aload_n hc dX5_isSafeWith_0 0 rfl ?_
  refine zk_get hc inlX5 (ci := 5) rfl 0 14 (by decide) mw_2_17 rfl rfl rfl dX5_isSafeWith_1 ?_
  refine zk_callVv hc (rest := []) (ct_X0_start g l (a 6) g1 g2 g3) gg_X5_104 cd_X0_start ⟨Nat.le_of_ble_eq_true rfl, Nat.le_of_ble_eq_true rfl⟩ ⟨Nat.le_of_ble_eq_true rfl, Nat.le_of_ble_eq_true rfl⟩ (List.take 6 (YW g.2.1 a st ds le wg te (u 4) (u 5) ck mv mm tg gn wc (u 12) g1 g2 g3)) (TXW g.2.1 ax tx rd ln fn fk fp) rfl 6 rfl rfl rfl (Nat.le_of_ble_eq_true rfl) dX5_isSafeWith_4 (fun W1 hp => ?_)
  obtain rfl := hp
  refine zk_ws (ws2 := YW g.2.1 a st ds le wg te (u 4) (u 5) ck mv mm tg gn wc (u 12) 99 0 0 ++ (TXW g.2.1 ax tx rd ln fn fk fp)) rfl ?_
  refine zk_aload_n hc dX5_isSafeWith_7 0 rfl ?_
  refine zk_iload_n hc dX5_isSafeWith_8 1 rfl ?_
  refine zk_iconst hc (nI 0) dX5_isSafeWith_9 rfl ?_
  refine zk_aload_n hc dX5_isSafeWith_10 0 rfl ?_
  refine zk_get hc inlX5 (ci := 5) rfl 0 11 (by decide) mw_2_11 rfl rfl rfl dX5_isSafeWith_11 ?_
  refine zk_iload_n hc dX5_isSafeWith_14 1 rfl ?_
  refine zk_ialdN hc 3 rfl (by omega) (by decide) dX5_isSafeWith_15 ?_
  refine zk_top (y := nI (mny u t)) (yle hY (by omega)) ?_
  refine zk_callVv hc (rest := []) (ct_X5_passPart g l a u st ds le wg te ck mv mm tg gn wc 99 0 0 hY hG hN t 0 (mny u t) 0 (by omega) (by omega) (by omega) (show gok (99, 0, 0) 0 from ⟨Nat.le_refl 99, by decide, Nat.le_refl 0⟩) (by omega)) gg_X5_107 cd_X5_passPart ⟨Nat.le_of_ble_eq_true rfl, Nat.le_of_ble_eq_true rfl⟩ ⟨Nat.le_of_ble_eq_true rfl, Nat.le_of_ble_eq_true rfl⟩ ([]) (TXW g.2.1 ax tx rd ln fn fk fp) rfl 0 rfl rfl rfl (Nat.le_of_ble_eq_true rfl) dX5_isSafeWith_16 (fun W1 hp => ?_)
  obtain ⟨rfl, hgk_1⟩ := hp
  refine zk_ws (ws2 := YW g.2.1 a st ds le wg te (u 4) (u 5) ck mv mm tg gn wc (u 12) (((kdf u t 0 ((mny u t) - 0)).foldl gstep (99, 0, 0)).1) (((kdf u t 0 ((mny u t) - 0)).foldl gstep (99, 0, 0)).2.1) (((kdf u t 0 ((mny u t) - 0)).foldl gstep (99, 0, 0)).2.2) ++ (TXW g.2.1 ax tx rd ln fn fk fp)) rfl ?_
  refine zk_iconst hc (nI 0) dX5_isSafeWith_19 rfl ?_
  refine zk_istore_n hc (lv2 := [(3, .int (nI 0)), (0, .ref (a 0)), (1, .int (nI t)), (2, .ref (ax 0))]) dX5_isSafeWith_20 (by decide) rfl ?_
  have loop21 : ∀ (N : Nat) (i : Nat), fn - i < N → (i ≤ fn) → (gok ((rowL K i).foldl gstep ((kdf u t 0 (mny u t - 0)).foldl gstep (99, 0, 0))) (mny u t + i)) → KW g p l e (rmK 4 0 0) s m args below meth c 4 A H0 0 0 Q (YW g.2.1 a st ds le wg te (u 4) (u 5) ck mv mm tg gn wc (u 12) (((rowL K i).foldl gstep ((kdf u t 0 (mny u t - 0)).foldl gstep (99, 0, 0))).1) (((rowL K i).foldl gstep ((kdf u t 0 (mny u t - 0)).foldl gstep (99, 0, 0))).2.1) (((rowL K i).foldl gstep ((kdf u t 0 (mny u t - 0)).foldl gstep (99, 0, 0))).2.2) ++ (TXW g.2.1 ax tx rd ln fn fk fp)) [(0, .ref (a 0)), (1, .int (nI t)), (2, .ref (ax 0)), (3, .int (nI i))] 21 [] := by
    intro N
    induction N with
    | zero => intro i hm; exact absurd hm (Nat.not_lt_zero _)
    | succ N ih21 =>
      intro i hm21 hi hgi
      refine zk_iload_n hc dX5_isSafeWith_21 3 rfl ?_
      refine zk_aload_n hc dX5_isSafeWith_22 2 rfl ?_
      refine zk_get hc inlX4 (ci := 4) rfl 7 3 (by decide) mw_11_3 rfl rfl rfl dX5_isSafeWith_23 ?_
      refine zk_icmp_geN hc 51 dX5_isSafeWith_26 (by decide) (by omega) (by omega) (fun h_2 => ?_) (fun h_2 => ?_)
      · refine zk_aload_n hc dX5_isSafeWith_51 0 rfl ?_
        refine zk_get hc inlX5 (ci := 5) rfl 0 14 (by decide) mw_2_17 rfl rfl rfl dX5_isSafeWith_52 ?_
        refine zk_get hc inlX0 (ci := 0) rfl 6 0 (by decide) mw_5_19 rfl rfl rfl dX5_isSafeWith_55 ?_
        refine zk_aload_n hc dX5_isSafeWith_58 0 rfl ?_
        refine zk_get hc inlX5 (ci := 5) rfl 0 9 (by decide) mw_2_9 rfl rfl rfl dX5_isSafeWith_59 ?_
        refine zk_iconst hc (nI 0) dX5_isSafeWith_62 rfl ?_
        refine zk_ialdN hc 1 rfl (by omega) (by decide) dX5_isSafeWith_63 ?_
        refine zk_top (y := nI (u 0)) (yst hY (by omega)) ?_
        refine zk_icmp_ltN hc 71 dX5_isSafeWith_64 (by decide) (by have := hgi.1; omega) (by have := hgi.1; omega) (fun hlt => ?_) (fun hlt => ?_)
        · refine zk_iconst hc (nI 0) dX5_isSafeWith_71 rfl ?_
          refine fin 0 0 _ _ _ _ (by decide) (by decide) dX5_isSafeWith_72 rfl (?_)
          have hb := sw_gap u t fn K
          rw [show fn = i by omega] at hb ⊢
          rw [hb] at hlt
          exact ⟨by rw [if_neg (by omega)], _, _, _, rfl⟩
        · refine zk_iconst hc (nI 1) dX5_isSafeWith_67 rfl ?_
          refine zk_goto hc 72 dX5_isSafeWith_68 (by decide) ?_
          refine fin 0 0 _ _ _ _ (by decide) (by decide) dX5_isSafeWith_72 rfl (?_)
          have hb := sw_gap u t fn K
          rw [show fn = i by omega] at hb ⊢
          rw [hb] at hlt
          exact ⟨by rw [if_pos (by omega)], _, _, _, rfl⟩
      · refine zk_aload_n hc dX5_isSafeWith_29 0 rfl ?_
        refine zk_get hc inlX5 (ci := 5) rfl 0 14 (by decide) mw_2_17 rfl rfl rfl dX5_isSafeWith_30 ?_
        refine zk_aload_n hc dX5_isSafeWith_33 2 rfl ?_
        refine zk_get hc inlX4 (ci := 4) rfl 7 2 (by decide) mw_11_4 rfl rfl rfl dX5_isSafeWith_34 ?_
        refine zk_iload_n hc dX5_isSafeWith_37 3 rfl ?_
        refine zk_ialdN hc 9 rfl (by omega) (by decide) dX5_isSafeWith_38 ?_
        refine zk_top (y := nI (B i * 3 + K i)) (congrArg nI (hrd i (by omega))) ?_
        refine zk_callNi hc (rest := [.ref (a 6)]) (ct_X6_kindOf g l (B i * 3 + K i) (by have := hBK i (by omega); omega)) (host := "ShuntYard") nl_X5_97 mw_6_12 mw_6_11 mw_1_2 cd_X6_kindOf ⟨Nat.le_of_ble_eq_true rfl, Nat.le_of_ble_eq_true rfl⟩ ⟨Nat.le_of_ble_eq_true rfl, Nat.le_of_ble_eq_true rfl⟩ ([]) (YW g.2.1 a st ds le wg te (u 4) (u 5) ck mv mm tg gn wc (u 12) (((rowL K i).foldl gstep ((kdf u t 0 (mny u t - 0)).foldl gstep (99, 0, 0))).1) (((rowL K i).foldl gstep ((kdf u t 0 (mny u t - 0)).foldl gstep (99, 0, 0))).2.1) (((rowL K i).foldl gstep ((kdf u t 0 (mny u t - 0)).foldl gstep (99, 0, 0))).2.2) ++ (TXW g.2.1 ax tx rd ln fn fk fp)) rfl rfl (Nat.le_of_ble_eq_true rfl) dX5_isSafeWith_39 (fun r W1 hp => ?_)
        obtain ⟨rfl, rfl⟩ := hp
        refine zk_ws (ws2 := YW g.2.1 a st ds le wg te (u 4) (u 5) ck mv mm tg gn wc (u 12) (((rowL K i).foldl gstep ((kdf u t 0 (mny u t - 0)).foldl gstep (99, 0, 0))).1) (((rowL K i).foldl gstep ((kdf u t 0 (mny u t - 0)).foldl gstep (99, 0, 0))).2.1) (((rowL K i).foldl gstep ((kdf u t 0 (mny u t - 0)).foldl gstep (99, 0, 0))).2.2) ++ (TXW g.2.1 ax tx rd ln fn fk fp)) rfl ?_
        refine zk_top (y := nI (K i)) (congrArg nI (by have := hBK i (by omega); omega)) ?_
        refine zk_callVv hc (rest := []) (ct_X0_pass g l (a 6) (((rowL K i).foldl gstep ((kdf u t 0 (mny u t - 0)).foldl gstep (99, 0, 0))).1) (((rowL K i).foldl gstep ((kdf u t 0 (mny u t - 0)).foldl gstep (99, 0, 0))).2.1) (((rowL K i).foldl gstep ((kdf u t 0 (mny u t - 0)).foldl gstep (99, 0, 0))).2.2) (K i) (hBK i (by omega)).1 hgi.2.1 (by have := hgi.1; omega) (by have := hgi.2.2; omega)) gg_X5_114 cd_X0_pass ⟨Nat.le_of_ble_eq_true rfl, Nat.le_of_ble_eq_true rfl⟩ ⟨Nat.le_of_ble_eq_true rfl, Nat.le_of_ble_eq_true rfl⟩ (List.take 6 (YW g.2.1 a st ds le wg te (u 4) (u 5) ck mv mm tg gn wc (u 12) (((rowL K i).foldl gstep ((kdf u t 0 (mny u t - 0)).foldl gstep (99, 0, 0))).1) (((rowL K i).foldl gstep ((kdf u t 0 (mny u t - 0)).foldl gstep (99, 0, 0))).2.1) (((rowL K i).foldl gstep ((kdf u t 0 (mny u t - 0)).foldl gstep (99, 0, 0))).2.2))) (TXW g.2.1 ax tx rd ln fn fk fp) rfl 6 rfl rfl rfl (Nat.le_of_ble_eq_true rfl) dX5_isSafeWith_42 (fun W1 hp => ?_)
        obtain rfl := hp
        refine zk_ws (ws2 := YW g.2.1 a st ds le wg te (u 4) (u 5) ck mv mm tg gn wc (u 12) ((gstep (((rowL K i).foldl gstep ((kdf u t 0 (mny u t - 0)).foldl gstep (99, 0, 0))).1, ((rowL K i).foldl gstep ((kdf u t 0 (mny u t - 0)).foldl gstep (99, 0, 0))).2.1, ((rowL K i).foldl gstep ((kdf u t 0 (mny u t - 0)).foldl gstep (99, 0, 0))).2.2) (K i)).1) ((gstep (((rowL K i).foldl gstep ((kdf u t 0 (mny u t - 0)).foldl gstep (99, 0, 0))).1, ((rowL K i).foldl gstep ((kdf u t 0 (mny u t - 0)).foldl gstep (99, 0, 0))).2.1, ((rowL K i).foldl gstep ((kdf u t 0 (mny u t - 0)).foldl gstep (99, 0, 0))).2.2) (K i)).2.1) ((gstep (((rowL K i).foldl gstep ((kdf u t 0 (mny u t - 0)).foldl gstep (99, 0, 0))).1, ((rowL K i).foldl gstep ((kdf u t 0 (mny u t - 0)).foldl gstep (99, 0, 0))).2.1, ((rowL K i).foldl gstep ((kdf u t 0 (mny u t - 0)).foldl gstep (99, 0, 0))).2.2) (K i)).2.2) ++ (TXW g.2.1 ax tx rd ln fn fk fp)) rfl ?_
        refine zk_ws (ws2 := YW g.2.1 a st ds le wg te (u 4) (u 5) ck mv mm tg gn wc (u 12) (((rowL K (i + 1)).foldl gstep ((kdf u t 0 (mny u t - 0)).foldl gstep (99, 0, 0))).1) ((gstep (((rowL K i).foldl gstep ((kdf u t 0 (mny u t - 0)).foldl gstep (99, 0, 0))).1, ((rowL K i).foldl gstep ((kdf u t 0 (mny u t - 0)).foldl gstep (99, 0, 0))).2.1, ((rowL K i).foldl gstep ((kdf u t 0 (mny u t - 0)).foldl gstep (99, 0, 0))).2.2) (K i)).2.1) ((gstep (((rowL K i).foldl gstep ((kdf u t 0 (mny u t - 0)).foldl gstep (99, 0, 0))).1, ((rowL K i).foldl gstep ((kdf u t 0 (mny u t - 0)).foldl gstep (99, 0, 0))).2.1, ((rowL K i).foldl gstep ((kdf u t 0 (mny u t - 0)).foldl gstep (99, 0, 0))).2.2) (K i)).2.2) ++ (TXW g.2.1 ax tx rd ln fn fk fp)) (congrArg (fun zz => YW g.2.1 a st ds le wg te (u 4) (u 5) ck mv mm tg gn wc (u 12) zz ((gstep (((rowL K i).foldl gstep ((kdf u t 0 (mny u t - 0)).foldl gstep (99, 0, 0))).1, ((rowL K i).foldl gstep ((kdf u t 0 (mny u t - 0)).foldl gstep (99, 0, 0))).2.1, ((rowL K i).foldl gstep ((kdf u t 0 (mny u t - 0)).foldl gstep (99, 0, 0))).2.2) (K i)).2.1) ((gstep (((rowL K i).foldl gstep ((kdf u t 0 (mny u t - 0)).foldl gstep (99, 0, 0))).1, ((rowL K i).foldl gstep ((kdf u t 0 (mny u t - 0)).foldl gstep (99, 0, 0))).2.1, ((rowL K i).foldl gstep ((kdf u t 0 (mny u t - 0)).foldl gstep (99, 0, 0))).2.2) (K i)).2.2) ++ (TXW g.2.1 ax tx rd ln fn fk fp)) (show (gstep (((rowL K i).foldl gstep ((kdf u t 0 (mny u t - 0)).foldl gstep (99, 0, 0))).1, ((rowL K i).foldl gstep ((kdf u t 0 (mny u t - 0)).foldl gstep (99, 0, 0))).2.1, ((rowL K i).foldl gstep ((kdf u t 0 (mny u t - 0)).foldl gstep (99, 0, 0))).2.2) (K i)).1 = ((rowL K (i + 1)).foldl gstep ((kdf u t 0 (mny u t - 0)).foldl gstep (99, 0, 0))).1 from (congrArg (fun z => z.1) (rowL_gf K ((kdf u t 0 (mny u t - 0)).foldl gstep (99, 0, 0)) i)).symm)) ?_
        refine zk_ws (ws2 := YW g.2.1 a st ds le wg te (u 4) (u 5) ck mv mm tg gn wc (u 12) (((rowL K (i + 1)).foldl gstep ((kdf u t 0 (mny u t - 0)).foldl gstep (99, 0, 0))).1) (((rowL K (i + 1)).foldl gstep ((kdf u t 0 (mny u t - 0)).foldl gstep (99, 0, 0))).2.1) ((gstep (((rowL K i).foldl gstep ((kdf u t 0 (mny u t - 0)).foldl gstep (99, 0, 0))).1, ((rowL K i).foldl gstep ((kdf u t 0 (mny u t - 0)).foldl gstep (99, 0, 0))).2.1, ((rowL K i).foldl gstep ((kdf u t 0 (mny u t - 0)).foldl gstep (99, 0, 0))).2.2) (K i)).2.2) ++ (TXW g.2.1 ax tx rd ln fn fk fp)) (congrArg (fun zz => YW g.2.1 a st ds le wg te (u 4) (u 5) ck mv mm tg gn wc (u 12) (((rowL K (i + 1)).foldl gstep ((kdf u t 0 (mny u t - 0)).foldl gstep (99, 0, 0))).1) zz ((gstep (((rowL K i).foldl gstep ((kdf u t 0 (mny u t - 0)).foldl gstep (99, 0, 0))).1, ((rowL K i).foldl gstep ((kdf u t 0 (mny u t - 0)).foldl gstep (99, 0, 0))).2.1, ((rowL K i).foldl gstep ((kdf u t 0 (mny u t - 0)).foldl gstep (99, 0, 0))).2.2) (K i)).2.2) ++ (TXW g.2.1 ax tx rd ln fn fk fp)) (show (gstep (((rowL K i).foldl gstep ((kdf u t 0 (mny u t - 0)).foldl gstep (99, 0, 0))).1, ((rowL K i).foldl gstep ((kdf u t 0 (mny u t - 0)).foldl gstep (99, 0, 0))).2.1, ((rowL K i).foldl gstep ((kdf u t 0 (mny u t - 0)).foldl gstep (99, 0, 0))).2.2) (K i)).2.1 = ((rowL K (i + 1)).foldl gstep ((kdf u t 0 (mny u t - 0)).foldl gstep (99, 0, 0))).2.1 from (congrArg (fun z => z.2.1) (rowL_gf K ((kdf u t 0 (mny u t - 0)).foldl gstep (99, 0, 0)) i)).symm)) ?_
        refine zk_ws (ws2 := YW g.2.1 a st ds le wg te (u 4) (u 5) ck mv mm tg gn wc (u 12) (((rowL K (i + 1)).foldl gstep ((kdf u t 0 (mny u t - 0)).foldl gstep (99, 0, 0))).1) (((rowL K (i + 1)).foldl gstep ((kdf u t 0 (mny u t - 0)).foldl gstep (99, 0, 0))).2.1) (((rowL K (i + 1)).foldl gstep ((kdf u t 0 (mny u t - 0)).foldl gstep (99, 0, 0))).2.2) ++ (TXW g.2.1 ax tx rd ln fn fk fp)) (congrArg (fun zz => YW g.2.1 a st ds le wg te (u 4) (u 5) ck mv mm tg gn wc (u 12) (((rowL K (i + 1)).foldl gstep ((kdf u t 0 (mny u t - 0)).foldl gstep (99, 0, 0))).1) (((rowL K (i + 1)).foldl gstep ((kdf u t 0 (mny u t - 0)).foldl gstep (99, 0, 0))).2.1) zz ++ (TXW g.2.1 ax tx rd ln fn fk fp)) (show (gstep (((rowL K i).foldl gstep ((kdf u t 0 (mny u t - 0)).foldl gstep (99, 0, 0))).1, ((rowL K i).foldl gstep ((kdf u t 0 (mny u t - 0)).foldl gstep (99, 0, 0))).2.1, ((rowL K i).foldl gstep ((kdf u t 0 (mny u t - 0)).foldl gstep (99, 0, 0))).2.2) (K i)).2.2 = ((rowL K (i + 1)).foldl gstep ((kdf u t 0 (mny u t - 0)).foldl gstep (99, 0, 0))).2.2 from (congrArg (fun z => z.2.2) (rowL_gf K ((kdf u t 0 (mny u t - 0)).foldl gstep (99, 0, 0)) i)).symm)) ?_
        refine zk_iinc hc (v := nI (i + 1)) (lv2 := [(3, .int (nI (i + 1))), (0, .ref (a 0)), (1, .int (nI t)), (2, .ref (ax 0))]) dX5_isSafeWith_45 3 rfl (nq_inc rfl) (by decide) rfl ?_
        refine zk_goto hc 21 dX5_isSafeWith_48 (by decide) ?_
        refine zk_lv [1, 2, 3, 0] (lv2 := [(0, .ref (a 0)), (1, .int (nI t)), (2, .ref (ax 0)), (3, .int (nI (i + 1)))]) rfl ?_
        exact ih21 (i + 1) (by omega) (by omega) (by rw [rowL_gf]; exact gok_step hgi (hBK i (by omega)).1)
  refine zk_lv [1, 2, 3, 0] (lv2 := [(0, .ref (a 0)), (1, .int (nI t)), (2, .ref (ax 0)), (3, .int (nI 0))]) rfl ?_
  exact loop21 ((fn - 0) + 1) 0 (Nat.lt_succ_self _) (Nat.zero_le _) ⟨hgk_1.1, hgk_1.2.1, Nat.le_trans hgk_1.2.2 (by omega)⟩

set_option maxHeartbeats 4000000 in
set_option maxRecDepth 100000 in
theorem ct_X5_takeIn (g : GG) (l : Launch) (a : Nat → Nat) (u st ds le wg : Nat → Nat) (te : Nat → Int32) (ck mv mm tg gn wc g1 g2 g3 : Nat) (ax : Nat → Nat) (tx rd B K : Nat → Nat) (ln fn : Nat) (fk fp : Int32) (hY : YA u st ds le wg) (hG : GU u) (hN : GN u) (hrd : ∀ j, j < fn → rd j = B j * 3 + K j) (hBK : ∀ j, j < fn → K j < 3 ∧ B j < 6) (t : Nat) (ht : t < u 4) (hfit : mny u t + fn ≤ 8) (hwc : wc = u 7) (h7 : u 7 ≤ 600000) : CtV g l yX5_takeIn cX5_takeIn 5 (rmK 4 0 0) (YW g.2.1 a st ds le wg te (u 4) (u 5) ck mv mm tg gn wc (u 12) g1 g2 g3 ++ (TXW g.2.1 ax tx rd ln fn fk fp)) [.ref (a 0), .int (nI t), .ref (ax 0)] (fun W1 => ∃ le2 wg2 te2, W1 = YW g.2.1 a st ds le2 wg2 te2 (u 4) (u 5) ck mv mm tg gn (wc + fn) (u 12) g1 g2 g3 ++ (TXW g.2.1 ax tx rd ln fn fk fp) ∧ YA (arrS u t B K fn) st ds le2 wg2 ∧ te2 = (if fn = 0 then te else upd te t (-1)) ∧ le2 t = mny u t + fn) := by
  refine CtV.go RX5 rfl (by decide +kernel) (Nat.le_of_ble_eq_true rfl) ?_
  intro p e s m args below meth c A H0 Q hc hnm fin
  obtain ⟨hK4, hC8, hv2, hg3, hm, hdk, h13, h12⟩ := id hG
  have hmt := hm t (by omega)
  show KW g p l e (rmK 4 0 0) s m args below meth c 5 A H0 0 0 Q (YW g.2.1 a st ds le wg te (u 4) (u 5) ck mv mm tg gn wc (u 12) g1 g2 g3 ++ (TXW g.2.1 ax tx rd ln fn fk fp)) [(0, .ref (a 0)), (1, .int (nI t)), (2, .ref (ax 0))] 0 []
  refine zk_iconst hc (nI 0) dX5_takeIn_0 rfl ?_
  refine zk_istore_n hc (lv2 := [(3, .int (nI 0)), (0, .ref (a 0)), (1, .int (nI t)), (2, .ref (ax 0))]) dX5_takeIn_1 (by decide) rfl ?_
  have loop2 : ∀ (N : Nat) (i : Nat) (le1 : Nat → Nat) (wg1 : Nat → Nat) (te1 : Nat → Int32), fn - i < N → (i ≤ fn) → (YA (arrS u t B K i) st ds le1 wg1) → (te1 = if i = 0 then te else upd te t (-1)) → (le1 t = mny u t + i) → (∀ z, z < u 4 → mny (arrS u t B K i) z ≤ 8) → KW g p l e (rmK 4 0 0) s m args below meth c 5 A H0 0 0 Q (YW g.2.1 a st ds le1 wg1 te1 (u 4) (u 5) ck mv mm tg gn (wc + i) (u 12) g1 g2 g3 ++ (TXW g.2.1 ax tx rd ln fn fk fp)) [(0, .ref (a 0)), (1, .int (nI t)), (2, .ref (ax 0)), (3, .int (nI i))] 2 [] := by
    intro N
    induction N with
    | zero => intro i le1 wg1 te1 hm; exact absurd hm (Nat.not_lt_zero _)
    | succ N ih2 =>
      intro i le1 wg1 te1 hm2 hi hY hte hle hmz
      refine zk_iload_n hc dX5_takeIn_2 3 rfl ?_
      refine zk_aload_n hc dX5_takeIn_3 2 rfl ?_
      refine zk_get hc inlX4 (ci := 4) rfl 7 3 (by decide) mw_11_3 rfl rfl rfl dX5_takeIn_4 ?_
      refine zk_icmp_geN hc 84 dX5_takeIn_7 (by decide) (by omega) (by omega) (fun h_1 => ?_) (fun h_1 => ?_)
      · refine fin 0 0 _ _ _ (by decide) (by decide) dX5_takeIn_84 (?_)
        have ei : i = fn := by omega
        subst ei
        exact ⟨_, _, _, rfl, hY, hte, hle⟩
      · refine zk_aload_n hc dX5_takeIn_10 2 rfl ?_
        refine zk_get hc inlX4 (ci := 4) rfl 7 2 (by decide) mw_11_4 rfl rfl rfl dX5_takeIn_11 ?_
        refine zk_iload_n hc dX5_takeIn_14 3 rfl ?_
        refine zk_ialdN hc 9 rfl (by omega) (by decide) dX5_takeIn_15 ?_
        refine zk_top (y := nI (B i * 3 + K i)) (congrArg nI (hrd i (by omega))) ?_
        refine zk_istore hc (lv2 := [(4, .int (nI (B i * 3 + K i))), (0, .ref (a 0)), (1, .int (nI t)), (2, .ref (ax 0)), (3, .int (nI i))]) dX5_takeIn_16 (by decide) rfl ?_
        refine zk_aload_n hc dX5_takeIn_18 1 rfl ?_
        refine zk_get hc inlX5 (ci := 5) rfl 0 13 (by decide) mw_2_13 rfl rfl rfl dX5_takeIn_19 ?_
        refine zk_iload_n hc dX5_takeIn_22 2 rfl ?_
        refine zk_bipush hc (nI 8) dX5_takeIn_23 rfl ?_
        refine zk_imulN hc dX5_takeIn_25 ?_
        refine zk_aload_n hc dX5_takeIn_26 1 rfl ?_
        refine zk_get hc inlX5 (ci := 5) rfl 0 11 (by decide) mw_2_11 rfl rfl rfl dX5_takeIn_27 ?_
        refine zk_iload_n hc dX5_takeIn_30 2 rfl ?_
        refine zk_ialdN hc 3 rfl (by omega) (by decide) dX5_takeIn_31 ?_
        refine zk_top (y := nI (mny u t + i)) (congrArg nI hle) ?_
        refine zk_iaddN hc dX5_takeIn_32 ?_
        refine zk_aload_n hc dX5_takeIn_33 1 rfl ?_
        refine zk_get hc inlX5 (ci := 5) rfl 0 7 (by decide) mw_8_15 rfl rfl rfl dX5_takeIn_34 ?_
        refine zk_iload hc dX5_takeIn_37 0 rfl ?_
        refine zk_callNi hc (rest := [.int (nI (wc + i)), .int (nI ((t * 8) + (mny u t + i))), .ref (a 5)]) (ct_X6_destinationOf g l (B i * 3 + K i) (by have := hBK i (by omega); omega)) (host := "ShuntYard") nl_X5_94 mw_7_11 mw_7_10 mw_1_2 cd_X6_destinationOf ⟨Nat.le_of_ble_eq_true rfl, Nat.le_of_ble_eq_true rfl⟩ ⟨Nat.le_of_ble_eq_true rfl, Nat.le_of_ble_eq_true rfl⟩ ([]) (YW g.2.1 a st ds le1 wg1 te1 (u 4) (u 5) ck mv mm tg gn (wc + i) (u 12) g1 g2 g3 ++ (TXW g.2.1 ax tx rd ln fn fk fp)) rfl rfl (Nat.le_of_ble_eq_true rfl) dX5_takeIn_39 (fun r W1 hp => ?_)
        obtain ⟨rfl, rfl⟩ := hp
        refine zk_ws (ws2 := YW g.2.1 a st ds le1 wg1 te1 (u 4) (u 5) ck mv mm tg gn (wc + i) (u 12) g1 g2 g3 ++ (TXW g.2.1 ax tx rd ln fn fk fp)) rfl ?_
        refine zk_top (y := nI (B i)) (congrArg nI (by have := hBK i (by omega); omega)) ?_
        refine zk_iload hc dX5_takeIn_42 0 rfl ?_
        refine zk_callNi hc (rest := [.int (nI (B i)), .int (nI (wc + i)), .int (nI ((t * 8) + (mny u t + i))), .ref (a 5)]) (ct_X6_kindOf g l (B i * 3 + K i) (by have := hBK i (by omega); omega)) (host := "ShuntYard") nl_X5_97 mw_6_12 mw_6_11 mw_1_2 cd_X6_kindOf ⟨Nat.le_of_ble_eq_true rfl, Nat.le_of_ble_eq_true rfl⟩ ⟨Nat.le_of_ble_eq_true rfl, Nat.le_of_ble_eq_true rfl⟩ ([]) (YW g.2.1 a st ds le1 wg1 te1 (u 4) (u 5) ck mv mm tg gn (wc + i) (u 12) g1 g2 g3 ++ (TXW g.2.1 ax tx rd ln fn fk fp)) rfl rfl (Nat.le_of_ble_eq_true rfl) dX5_takeIn_44 (fun r W1 hp => ?_)
        obtain ⟨rfl, rfl⟩ := hp
        refine zk_ws (ws2 := YW g.2.1 a st ds le1 wg1 te1 (u 4) (u 5) ck mv mm tg gn (wc + i) (u 12) g1 g2 g3 ++ (TXW g.2.1 ax tx rd ln fn fk fp)) rfl ?_
        refine zk_top (y := nI (K i)) (congrArg nI (by have := hBK i (by omega); omega)) ?_
        refine zk_callNi hc (rest := [.int (nI ((t * 8) + (mny u t + i))), .ref (a 5)]) (ct_X6_wagonOf g l (wc + i) (B i) (K i)) (host := "ShuntYard") nl_X5_100 mw_11_23 mw_11_22 mw_1_2 cd_X6_wagonOf ⟨Nat.le_of_ble_eq_true rfl, Nat.le_of_ble_eq_true rfl⟩ ⟨Nat.le_of_ble_eq_true rfl, Nat.le_of_ble_eq_true rfl⟩ ([]) (YW g.2.1 a st ds le1 wg1 te1 (u 4) (u 5) ck mv mm tg gn (wc + i) (u 12) g1 g2 g3 ++ (TXW g.2.1 ax tx rd ln fn fk fp)) rfl rfl (Nat.le_of_ble_eq_true rfl) dX5_takeIn_47 (fun r W1 hp => ?_)
        obtain ⟨rfl, rfl⟩ := hp
        refine zk_ws (ws2 := YW g.2.1 a st ds le1 wg1 te1 (u 4) (u 5) ck mv mm tg gn (wc + i) (u 12) g1 g2 g3 ++ (TXW g.2.1 ax tx rd ln fn fk fp)) rfl ?_
        refine zk_iastN hc 5 rfl (by omega) (by decide) (ws2 := YW g.2.1 a st ds le1 (va_up wg1 ((t * 8) + (mny u t + i)) (((wc + i) * 6 + (B i)) * 3 + (K i))) te1 (u 4) (u 5) ck mv mm tg gn (wc + i) (u 12) g1 g2 g3 ++ (TXW g.2.1 ax tx rd ln fn fk fp)) rfl dX5_takeIn_50 ?_
        refine zk_aload_n hc dX5_takeIn_51 1 rfl ?_
        refine zk_dup hc dX5_takeIn_52 rfl ?_
        refine zk_get hc inlX5 (ci := 5) rfl 0 7 (by decide) mw_8_15 rfl rfl rfl dX5_takeIn_53 ?_
        refine zk_iconst hc (nI 1) dX5_takeIn_56 rfl ?_
        refine zk_iaddN hc dX5_takeIn_57 ?_
        refine zk_put hc inlX5 (ci := 5) rfl tyX5 tyX5_ok nmX5 0 7 (by decide) mw_8_15 rfl rfl rfl rfl rfl (Nat.le_of_ble_eq_true rfl) (ws2 := YW g.2.1 a st ds le1 (va_up wg1 ((t * 8) + (mny u t + i)) (((wc + i) * 6 + (B i)) * 3 + (K i))) te1 (u 4) (u 5) ck mv mm tg gn ((wc + i) + 1) (u 12) g1 g2 g3 ++ (TXW g.2.1 ax tx rd ln fn fk fp)) rfl dX5_takeIn_58 ?_
        refine zk_aload_n hc dX5_takeIn_61 1 rfl ?_
        refine zk_get hc inlX5 (ci := 5) rfl 0 11 (by decide) mw_2_11 rfl rfl rfl dX5_takeIn_62 ?_
        refine zk_iload_n hc dX5_takeIn_65 2 rfl ?_
        refine zk_dup2 hc dX5_takeIn_66 rfl rfl ?_
        refine zk_ialdN hc 3 rfl (by omega) (by decide) dX5_takeIn_67 ?_
        refine zk_top (y := nI (mny u t + i)) (congrArg nI hle) ?_
        refine zk_iconst hc (nI 1) dX5_takeIn_68 rfl ?_
        refine zk_iaddN hc dX5_takeIn_69 ?_
        refine zk_iastN hc 3 rfl (by omega) (by decide) (ws2 := YW g.2.1 a st ds (va_up le1 t ((mny u t + i) + 1)) (va_up wg1 ((t * 8) + (mny u t + i)) (((wc + i) * 6 + (B i)) * 3 + (K i))) te1 (u 4) (u 5) ck mv mm tg gn ((wc + i) + 1) (u 12) g1 g2 g3 ++ (TXW g.2.1 ax tx rd ln fn fk fp)) rfl dX5_takeIn_70 ?_
        refine zk_aload_n hc dX5_takeIn_71 1 rfl ?_
        refine zk_get hc inlX5 (ci := 5) rfl 0 12 (by decide) mw_2_12 rfl rfl rfl dX5_takeIn_72 ?_
        refine zk_iload_n hc dX5_takeIn_75 2 rfl ?_
        refine zk_iconst hc ((-1)) dX5_takeIn_76 rfl ?_
        refine zk_iastR hc 4 rfl (by omega) (by decide) (ws2 := YW g.2.1 a st ds (va_up le1 t ((mny u t + i) + 1)) (va_up wg1 ((t * 8) + (mny u t + i)) (((wc + i) * 6 + (B i)) * 3 + (K i))) (upd te1 t (-1)) (u 4) (u 5) ck mv mm tg gn ((wc + i) + 1) (u 12) g1 g2 g3 ++ (TXW g.2.1 ax tx rd ln fn fk fp)) rfl dX5_takeIn_77 ?_
        refine zk_iinc hc (v := nI (i + 1)) (lv2 := [(3, .int (nI (i + 1))), (4, .int (nI (B i * 3 + K i))), (0, .ref (a 0)), (1, .int (nI t)), (2, .ref (ax 0))]) dX5_takeIn_78 4 rfl (nq_inc rfl) (by decide) rfl ?_
        refine zk_goto hc 2 dX5_takeIn_81 (by decide) ?_
        refine zk_lv [2, 3, 4, 0] (lv2 := [(0, .ref (a 0)), (1, .int (nI t)), (2, .ref (ax 0)), (3, .int (nI (i + 1)))]) rfl ?_
        exact ih2 (i + 1) (va_up le1 t ((mny u t + i) + 1)) (va_up wg1 ((t * 8) + (mny u t + i)) (((wc + i) * 6 + (B i)) * 3 + (K i))) (upd te1 t (-1)) (by omega) (by omega) (by have := YA_arr hY hK4 h12 ht hmz (show mny u t + i < 8 by omega); rw [hwc]; exact this) (by rw [hte]; exact ti_te te t i) (if_pos rfl) (arr_mny hmz ht (show mny u t + i < 8 by omega))
  refine zk_lv [1, 2, 3, 0] (lv2 := [(0, .ref (a 0)), (1, .int (nI t)), (2, .ref (ax 0)), (3, .int (nI 0))]) rfl ?_
  exact loop2 ((fn - 0) + 1) 0 le wg te (Nat.lt_succ_self _) (Nat.zero_le _) hY (if_pos rfl).symm (hY.2.2.1 t ht) (fun z hz => hm z (by omega))

set_option maxHeartbeats 4000000 in
set_option maxRecDepth 100000 in
theorem ct_X5_takeTrains (g : GG) (l : Launch) (a : Nat → Nat) (u st ds le wg : Nat → Nat) (te : Nat → Int32) (ck mv mm tg gn wc g1 g2 g3 : Nat) (ax : Nat → Nat) (tx rd B K : Nat → Nat) (ln fn : Nat) (fk fp : Int32) (hY : YA u st ds le wg) (hG : GU u) (hN : GN u) (L : Nat → Nat) (hL : ∀ j, j < fn → rd j = L j) (hfn : fn ≤ 10) : CtV g l yX5_takeTrains cX5_takeTrains 2 (rmK 1 0 0) (YW g.2.1 a st ds le wg te (u 4) (u 5) ck mv mm tg gn wc (u 12) g1 g2 g3 ++ (TXW g.2.1 ax tx rd ln fn fk fp)) [.ref (a 0), .ref (ax 0)] (fun W1 => W1 = YW g.2.1 a st (va_cpy rd ds 0 0 fn) le wg te (u 4) (u 5) ck mv mm tg gn wc fn g1 g2 g3 ++ (TXW g.2.1 ax tx rd ln fn fk fp)) := by
  refine CtV.go RX5 rfl (by decide +kernel) (Nat.le_of_ble_eq_true rfl) ?_
  intro p e s m args below meth c A H0 Q hc hnm fin
  show KW g p l e (rmK 1 0 0) s m args below meth c 2 A H0 0 0 Q (YW g.2.1 a st ds le wg te (u 4) (u 5) ck mv mm tg gn wc (u 12) g1 g2 g3 ++ (TXW g.2.1 ax tx rd ln fn fk fp)) [(0, .ref (a 0)), (1, .ref (ax 0))] 0 []
  refine zk_aload_n hc dX5_takeTrains_0 0 rfl ?_
  refine zk_aload_n hc dX5_takeTrains_1 1 rfl ?_
  refine zk_get hc inlX4 (ci := 4) rfl 7 3 (by decide) mw_11_3 rfl rfl rfl dX5_takeTrains_2 ?_
  refine zk_put hc inlX5 (ci := 5) rfl tyX5 tyX5_ok nmX5 0 8 (by decide) mw_7_1 rfl rfl rfl rfl rfl (Nat.le_of_ble_eq_true rfl) (ws2 := YW g.2.1 a st ds le wg te (u 4) (u 5) ck mv mm tg gn wc fn g1 g2 g3 ++ (TXW g.2.1 ax tx rd ln fn fk fp)) rfl dX5_takeTrains_5 ?_
  refine zk_aload_n hc dX5_takeTrains_8 1 rfl ?_
  refine zk_get hc inlX4 (ci := 4) rfl 7 2 (by decide) mw_11_4 rfl rfl rfl dX5_takeTrains_9 ?_
  refine zk_iconst hc (nI 0) dX5_takeTrains_12 rfl ?_
  refine zk_aload_n hc dX5_takeTrains_13 0 rfl ?_
  refine zk_get hc inlX5 (ci := 5) rfl 0 10 (by decide) mw_2_10 rfl rfl rfl dX5_takeTrains_14 ?_
  refine zk_iconst hc (nI 0) dX5_takeTrains_17 rfl ?_
  refine zk_aload_n hc dX5_takeTrains_18 0 rfl ?_
  refine zk_get hc inlX5 (ci := 5) rfl 0 8 (by decide) mw_7_1 rfl rfl rfl dX5_takeTrains_19 ?_
  refine zk_copyN hc mw_8_16 mw_8_17 mw_8_18 mw_8_19 9 2 rfl rfl (by decide) (by decide) (by omega) (by omega) ⟨by decide, by decide⟩ (Nat.le_of_ble_eq_true rfl) (ws2 := YW g.2.1 a st (va_cpy rd ds 0 0 fn) le wg te (u 4) (u 5) ck mv mm tg gn wc fn g1 g2 g3 ++ (TXW g.2.1 ax tx rd ln fn fk fp)) rfl dX5_takeTrains_22 ?_
  exact fin 0 0 _ _ _ (by decide) (by decide) dX5_takeTrains_25 (rfl)

set_option maxHeartbeats 4000000 in
set_option maxRecDepth 100000 in
theorem ct_X6_leastOf (g : GG) (l : Launch) (k : Nat) (hk : k < 4) : CtI g l yX6_leastOf cX6_leastOf 1 (some .int) (rmK 1 0 0) (([] : va_W)) [.int (nI k)] (fun r W1 => r = nI (lsO k) ∧ W1 = []) := by
  refine CtI.go RX6 rfl (by decide +kernel) (Nat.le_of_ble_eq_true rfl) ?_
  intro p e s m args below meth c A H0 Q hc hnm fin
  show KW g p l e (rmK 1 0 0) s m args below meth c 1 A H0 0 0 Q (([] : va_W)) [(0, .int (nI k))] 0 []
  refine zk_iload_n hc dX6_leastOf_0 0 rfl ?_
  rcases (show k = 0 ∨ k = 1 ∨ k = 2 ∨ k = 3 by omega) with rfl | rfl | rfl | rfl
  · refine zk_lookup hc 33 dX6_leastOf_1 (by decide) rfl (by decide) ?_
    refine zk_iconst hc (nI 0) dX6_leastOf_33 rfl ?_
    exact fin 0 0 _ _ _ _ (by decide) (by decide) dX6_leastOf_34 (⟨rfl, rfl⟩)
  · refine zk_lookup hc 28 dX6_leastOf_1 (by decide) rfl (by decide) ?_
    refine zk_bipush hc (nI 10) dX6_leastOf_28 rfl ?_
    exact fin 0 0 _ _ _ _ (by decide) (by decide) dX6_leastOf_30 (⟨rfl, rfl⟩)
  · refine zk_lookup hc 31 dX6_leastOf_1 (by decide) rfl (by decide) ?_
    refine zk_iconst hc (nI 1) dX6_leastOf_31 rfl ?_
    exact fin 0 0 _ _ _ _ (by decide) (by decide) dX6_leastOf_32 (⟨rfl, rfl⟩)
  · refine zk_lookup hc 33 dX6_leastOf_1 (by decide) rfl (by decide) ?_
    refine zk_iconst hc (nI 0) dX6_leastOf_33 rfl ?_
    exact fin 0 0 _ _ _ _ (by decide) (by decide) dX6_leastOf_34 (⟨rfl, rfl⟩)

set_option maxHeartbeats 4000000 in
set_option maxRecDepth 100000 in
theorem ct_X6_greatestOf (g : GG) (l : Launch) (k : Nat) (hk : k < 4) : CtI g l yX6_greatestOf cX6_greatestOf 1 (some .int) (rmK 1 0 0) (([] : va_W)) [.int (nI k)] (fun r W1 => r = nI (grO k) ∧ W1 = []) := by
  refine CtI.go RX6 rfl (by decide +kernel) (Nat.le_of_ble_eq_true rfl) ?_
  intro p e s m args below meth c A H0 Q hc hnm fin
  show KW g p l e (rmK 1 0 0) s m args below meth c 1 A H0 0 0 Q (([] : va_W)) [(0, .int (nI k))] 0 []
  refine zk_iload_n hc dX6_greatestOf_0 0 rfl ?_
  rcases (show k = 0 ∨ k = 1 ∨ k = 2 ∨ k = 3 by omega) with rfl | rfl | rfl | rfl
  · refine zk_tableIn hc 28 dX6_greatestOf_1 (by decide) (by decide) rfl (by decide) ?_
    refine zk_iconst hc (nI 3) dX6_greatestOf_28 rfl ?_
    exact fin 0 0 _ _ _ _ (by decide) (by decide) dX6_greatestOf_29 (⟨rfl, rfl⟩)
  · refine zk_tableIn hc 30 dX6_greatestOf_1 (by decide) (by decide) rfl (by decide) ?_
    refine zk_sipush hc (nI 600) dX6_greatestOf_30 rfl ?_
    exact fin 0 0 _ _ _ _ (by decide) (by decide) dX6_greatestOf_33 (⟨rfl, rfl⟩)
  · refine zk_tableIn hc 34 dX6_greatestOf_1 (by decide) (by decide) rfl (by decide) ?_
    refine zk_bipush hc (nI 20) dX6_greatestOf_34 rfl ?_
    exact fin 0 0 _ _ _ _ (by decide) (by decide) dX6_greatestOf_36 (⟨rfl, rfl⟩)
  · refine zk_tableOut hc 37 dX6_greatestOf_1 (Or.inr (by decide)) (by decide) ?_
    refine zk_bipush hc (nI 30) dX6_greatestOf_37 rfl ?_
    exact fin 0 0 _ _ _ _ (by decide) (by decide) dX6_greatestOf_39 (⟨rfl, rfl⟩)
