set_option maxHeartbeats 4000000 in
set_option maxRecDepth 100000 in
theorem ct_X6_within (g : GG) (l : Launch) (v lo hi : Int32) : CtI g l yX6_within cX6_within 3 (some .boolean) (rmK 1 0 0) (([] : va_W)) [.int v, .int lo, .int hi] (fun r W1 => r = (if lo ≤ v ∧ v ≤ hi then nI 1 else nI 0) ∧ W1 = []) := by
  refine CtZ.go RX6 rfl (by decide +kernel) (Nat.le_of_ble_eq_true rfl) ?_
  intro p e s m args below meth c A H0 Q hc hnm fin
  show KW g p l e (rmK 1 0 0) s m args below meth c 3 A H0 0 0 Q (([] : va_W)) [(0, .int v), (1, .int lo), (2, .int hi)] 0 []
  refine zk_iload_n hc dX6_within_0 0 rfl ?_
  refine zk_iload_n hc dX6_within_1 1 rfl ?_
  refine zk_icmp_lt hc 14 dX6_within_2 (by decide) (fun ha => ?_) (fun ha => ?_)
  · refine zk_iconst hc (nI 0) dX6_within_14 rfl ?_
    exact fin 0 0 _ _ _ _ (by decide) (by decide) dX6_within_15 rfl (⟨nq_in2 ha, rfl⟩)
  · refine zk_iload_n hc dX6_within_5 0 rfl ?_
    refine zk_iload_n hc dX6_within_6 2 rfl ?_
    refine zk_icmp_gt hc 14 dX6_within_7 (by decide) (fun hb => ?_) (fun hb => ?_)
    · refine zk_iconst hc (nI 0) dX6_within_14 rfl ?_
      exact fin 0 0 _ _ _ _ (by decide) (by decide) dX6_within_15 rfl (⟨nq_in3 hb, rfl⟩)
    · refine zk_iconst hc (nI 1) dX6_within_10 rfl ?_
      refine zk_goto hc 15 dX6_within_11 (by decide) ?_
      exact fin 0 0 _ _ _ _ (by decide) (by decide) dX6_within_15 rfl (⟨nq_in1 ha hb, rfl⟩)

set_option maxHeartbeats 4000000 in
set_option maxRecDepth 100000 in
theorem ct_X6_isSetting (g : GG) (l : Launch) (v : Int32) : CtI g l yX6_isSetting cX6_isSetting 1 (some .boolean) (rmK 2 0 0) (([] : va_W)) [.int v] (fun r W1 => r = (if nI 0 ≤ v ∧ v ≤ nI 3 then nI 1 else nI 0) ∧ W1 = []) := by
  refine CtZ.go RX6 rfl (by decide +kernel) (Nat.le_of_ble_eq_true rfl) ?_
  intro p e s m args below meth c A H0 Q hc hnm fin
  show KW g p l e (rmK 2 0 0) s m args below meth c 1 A H0 0 0 Q (([] : va_W)) [(0, .int v)] 0 []
  refine zk_iload_n hc dX6_isSetting_0 0 rfl ?_
  refine zk_iconst hc (nI 0) dX6_isSetting_1 rfl ?_
  refine zk_iconst hc (nI 3) dX6_isSetting_2 rfl ?_
  refine zk_callSi hc (rest := []) (ct_X6_within g l v (nI 0) (nI 3)) gg_X6_45 cd_X6_within ⟨Nat.le_of_ble_eq_true rfl, Nat.le_of_ble_eq_true rfl⟩ ⟨Nat.le_of_ble_eq_true rfl, Nat.le_of_ble_eq_true rfl⟩ ([]) ([] : va_W) rfl rfl (Nat.le_of_ble_eq_true rfl) dX6_isSetting_3 (fun r W1 hp => ?_)
  obtain ⟨rfl, rfl⟩ := hp
  refine zk_ws (ws2 := ([] : va_W)) rfl ?_
  by_cases hi : nI 0 ≤ v ∧ v ≤ nI 3
  · refine zk_top (y := nI 1) (if_pos hi) ?_
    exact fin 0 0 _ _ _ _ (by decide) (by decide) dX6_isSetting_6 rfl (⟨by rw [if_pos hi], rfl⟩)
  · refine zk_top (y := nI 0) (if_neg hi) ?_
    exact fin 0 0 _ _ _ _ (by decide) (by decide) dX6_isSetting_6 rfl (⟨by rw [if_neg hi], rfl⟩)

set_option maxHeartbeats 4000000 in
set_option maxRecDepth 100000 in
theorem ct_X6_wagonOf (g : GG) (l : Launch) (x y z : Nat) : CtI g l yX6_wagonOf cX6_wagonOf 3 (some .int) (rmK 1 0 0) (([] : va_W)) [.int (nI x), .int (nI y), .int (nI z)] (fun r W1 => r = nI ((x * 6 + y) * 3 + z) ∧ W1 = []) := by
  refine CtI.go RX6 rfl (by decide +kernel) (Nat.le_of_ble_eq_true rfl) ?_
  intro p e s m args below meth c A H0 Q hc hnm fin
  show KW g p l e (rmK 1 0 0) s m args below meth c 3 A H0 0 0 Q (([] : va_W)) [(0, .int (nI x)), (1, .int (nI y)), (2, .int (nI z))] 0 []
  refine zk_iload_n hc dX6_wagonOf_0 0 rfl ?_
  refine zk_bipush hc (nI 6) dX6_wagonOf_1 rfl ?_
  refine zk_imulN hc dX6_wagonOf_3 ?_
  refine zk_iload_n hc dX6_wagonOf_4 1 rfl ?_
  refine zk_iaddN hc dX6_wagonOf_5 ?_
  refine zk_iconst hc (nI 3) dX6_wagonOf_6 rfl ?_
  refine zk_imulN hc dX6_wagonOf_7 ?_
  refine zk_iload_n hc dX6_wagonOf_8 2 rfl ?_
  refine zk_iaddN hc dX6_wagonOf_9 ?_
  exact fin 0 0 _ _ _ _ (by decide) (by decide) dX6_wagonOf_10 (⟨rfl, rfl⟩)

set_option maxHeartbeats 4000000 in
set_option maxRecDepth 100000 in
theorem ct_X6_numberOf (g : GG) (l : Launch) (x : Nat) (hx : x < 2147483648) : CtI g l yX6_numberOf cX6_numberOf 1 (some .int) (rmK 1 0 0) (([] : va_W)) [.int (nI x)] (fun r W1 => r = nI (x / 18) ∧ W1 = []) := by
  refine CtI.go RX6 rfl (by decide +kernel) (Nat.le_of_ble_eq_true rfl) ?_
  intro p e s m args below meth c A H0 Q hc hnm fin
  show KW g p l e (rmK 1 0 0) s m args below meth c 1 A H0 0 0 Q (([] : va_W)) [(0, .int (nI x))] 0 []
  refine zk_iload_n hc dX6_numberOf_0 0 rfl ?_
  refine zk_bipush hc (nI 18) dX6_numberOf_1 rfl ?_
  refine zk_idivN hc dX6_numberOf_3 (by omega) (by omega) (by omega) ?_
  exact fin 0 0 _ _ _ _ (by decide) (by decide) dX6_numberOf_4 (⟨rfl, rfl⟩)

set_option maxHeartbeats 4000000 in
set_option maxRecDepth 100000 in
theorem ct_X6_destinationOf (g : GG) (l : Launch) (x : Nat) (hx : x < 2147483648) : CtI g l yX6_destinationOf cX6_destinationOf 1 (some .int) (rmK 1 0 0) (([] : va_W)) [.int (nI x)] (fun r W1 => r = nI (x / 3 % 6) ∧ W1 = []) := by
  refine CtI.go RX6 rfl (by decide +kernel) (Nat.le_of_ble_eq_true rfl) ?_
  intro p e s m args below meth c A H0 Q hc hnm fin
  show KW g p l e (rmK 1 0 0) s m args below meth c 1 A H0 0 0 Q (([] : va_W)) [(0, .int (nI x))] 0 []
  refine zk_iload_n hc dX6_destinationOf_0 0 rfl ?_
  refine zk_iconst hc (nI 3) dX6_destinationOf_1 rfl ?_
  refine zk_idivN hc dX6_destinationOf_2 (by omega) (by omega) (by omega) ?_
  refine zk_bipush hc (nI 6) dX6_destinationOf_3 rfl ?_
  refine zk_iremN hc dX6_destinationOf_5 (by omega) (by omega) (by omega) ?_
  exact fin 0 0 _ _ _ _ (by decide) (by decide) dX6_destinationOf_6 (⟨rfl, rfl⟩)

set_option maxHeartbeats 4000000 in
set_option maxRecDepth 100000 in
theorem ct_X6_kindOf (g : GG) (l : Launch) (x : Nat) (hx : x < 2147483648) : CtI g l yX6_kindOf cX6_kindOf 1 (some .int) (rmK 1 0 0) (([] : va_W)) [.int (nI x)] (fun r W1 => r = nI (x % 3) ∧ W1 = []) := by
  refine CtI.go RX6 rfl (by decide +kernel) (Nat.le_of_ble_eq_true rfl) ?_
  intro p e s m args below meth c A H0 Q hc hnm fin
  show KW g p l e (rmK 1 0 0) s m args below meth c 1 A H0 0 0 Q (([] : va_W)) [(0, .int (nI x))] 0 []
  refine zk_iload_n hc dX6_kindOf_0 0 rfl ?_
  refine zk_iconst hc (nI 3) dX6_kindOf_1 rfl ?_
  refine zk_iremN hc dX6_kindOf_2 (by omega) (by omega) (by omega) ?_
  exact fin 0 0 _ _ _ _ (by decide) (by decide) dX6_kindOf_3 (⟨rfl, rfl⟩)

set_option maxHeartbeats 4000000 in
set_option maxRecDepth 100000 in
theorem ct_X5_hasTrack (g : GG) (l : Launch) (a : Nat → Nat) (u st ds le wg : Nat → Nat) (te : Nat → Int32) (ck mv mm tg gn wc g1 g2 g3 : Nat) (v : Int32) (hK1 : 1 ≤ u 4) : CtI g l yX5_hasTrack cX5_hasTrack 2 (some .boolean) (rmK 2 0 0) (YW g.2.1 a st ds le wg te (u 4) (u 5) ck mv mm tg gn wc (u 12) g1 g2 g3) [.ref (a 0), .int v] (fun r W1 => r = (if nI 0 ≤ v ∧ v ≤ nI (u 4 - 1) then nI 1 else nI 0) ∧ W1 = YW g.2.1 a st ds le wg te (u 4) (u 5) ck mv mm tg gn wc (u 12) g1 g2 g3) := by
  refine CtZ.go RX5 rfl (by decide +kernel) (Nat.le_of_ble_eq_true rfl) ?_
  intro p e s m args below meth c A H0 Q hc hnm fin
  show KW g p l e (rmK 2 0 0) s m args below meth c 2 A H0 0 0 Q (YW g.2.1 a st ds le wg te (u 4) (u 5) ck mv mm tg gn wc (u 12) g1 g2 g3) [(0, .ref (a 0)), (1, .int v)] 0 []
  refine zk_iload_n hc dX5_hasTrack_0 1 rfl ?_
  refine zk_iconst hc (nI 0) dX5_hasTrack_1 rfl ?_
  refine zk_aload_n hc dX5_hasTrack_2 0 rfl ?_
  refine zk_get hc inlX5 (ci := 5) rfl 0 0 (by decide) mw_2_6 rfl rfl rfl dX5_hasTrack_3 ?_
  refine zk_iconst hc (nI 1) dX5_hasTrack_6 rfl ?_
  refine zk_isubN hc dX5_hasTrack_7 (by omega) ?_
  refine zk_callNi hc (rest := []) (ct_X6_within g l v (nI 0) (nI ((u 4) - 1))) (host := "ShuntYard") nl_X5_74 mw_7_22 mw_7_21 mw_1_2 cd_X6_within ⟨Nat.le_of_ble_eq_true rfl, Nat.le_of_ble_eq_true rfl⟩ ⟨Nat.le_of_ble_eq_true rfl, Nat.le_of_ble_eq_true rfl⟩ ([]) (YW g.2.1 a st ds le wg te (u 4) (u 5) ck mv mm tg gn wc (u 12) g1 g2 g3) rfl rfl (Nat.le_of_ble_eq_true rfl) dX5_hasTrack_8 (fun r W1 hp => ?_)
  obtain ⟨rfl, rfl⟩ := hp
  refine zk_ws (ws2 := YW g.2.1 a st ds le wg te (u 4) (u 5) ck mv mm tg gn wc (u 12) g1 g2 g3) rfl ?_
  by_cases hi : nI 0 ≤ v ∧ v ≤ nI ((u 4) - 1)
  · refine zk_top (y := nI 1) (if_pos hi) ?_
    exact fin 0 0 _ _ _ _ (by decide) (by decide) dX5_hasTrack_11 rfl (⟨by rw [if_pos hi], rfl⟩)
  · refine zk_top (y := nI 0) (if_neg hi) ?_
    exact fin 0 0 _ _ _ _ (by decide) (by decide) dX5_hasTrack_11 rfl (⟨by rw [if_neg hi], rfl⟩)

set_option maxHeartbeats 4000000 in
set_option maxRecDepth 100000 in
theorem ct_X5_wagonAt (g : GG) (l : Launch) (a : Nat → Nat) (u st ds le wg : Nat → Nat) (te : Nat → Int32) (ck mv mm tg gn wc g1 g2 g3 : Nat) (t k : Nat) (hq : t * 8 + k < 32) : CtI g l yX5_wagonAt cX5_wagonAt 3 (some .int) (rmK 1 0 0) (YW g.2.1 a st ds le wg te (u 4) (u 5) ck mv mm tg gn wc (u 12) g1 g2 g3) [.ref (a 0), .int (nI t), .int (nI k)] (fun r W1 => r = nI (wg (t * 8 + k)) ∧ W1 = YW g.2.1 a st ds le wg te (u 4) (u 5) ck mv mm tg gn wc (u 12) g1 g2 g3) := by
  refine CtI.go RX5 rfl (by decide +kernel) (Nat.le_of_ble_eq_true rfl) ?_
  intro p e s m args below meth c A H0 Q hc hnm fin
  show KW g p l e (rmK 1 0 0) s m args below meth c 3 A H0 0 0 Q (YW g.2.1 a st ds le wg te (u 4) (u 5) ck mv mm tg gn wc (u 12) g1 g2 g3) [(0, .ref (a 0)), (1, .int (nI t)), (2, .int (nI k))] 0 []
  refine zk_aload_n hc dX5_wagonAt_0 0 rfl ?_
  refine zk_get hc inlX5 (ci := 5) rfl 0 13 (by decide) mw_2_13 rfl rfl rfl dX5_wagonAt_1 ?_
  refine zk_iload_n hc dX5_wagonAt_4 1 rfl ?_
  refine zk_bipush hc (nI 8) dX5_wagonAt_5 rfl ?_
  refine zk_imulN hc dX5_wagonAt_7 ?_
  refine zk_iload_n hc dX5_wagonAt_8 2 rfl ?_
  refine zk_iaddN hc dX5_wagonAt_9 ?_
  refine zk_ialdN hc 5 rfl (by omega) (by decide) dX5_wagonAt_10 ?_
  exact fin 0 0 _ _ _ _ (by decide) (by decide) dX5_wagonAt_11 (⟨rfl, rfl⟩)

set_option maxHeartbeats 4000000 in
set_option maxRecDepth 100000 in
theorem ct_X5_passPart (g : GG) (l : Launch) (a : Nat → Nat) (u st ds le wg : Nat → Nat) (te : Nat → Int32) (ck mv mm tg gn wc g1 g2 g3 : Nat) (hY : YA u st ds le wg) (hG : GU u) (hN : GN u) (t i j k : Nat) (ht : t < u 4) (hij : i ≤ j) (hj : j ≤ mny u t) (hg : gok (g1, g2, g3) k) (hk : k ≤ 1000) : CtV g l yX5_passPart cX5_passPart 5 (rmK 2 0 0) (YW g.2.1 a st ds le wg te (u 4) (u 5) ck mv mm tg gn wc (u 12) g1 g2 g3) [.ref (a 0), .int (nI t), .int (nI i), .int (nI j)] (fun W1 => W1 = YW g.2.1 a st ds le wg te (u 4) (u 5) ck mv mm tg gn wc (u 12) (((kdf u t i (j - i)).foldl gstep (g1, g2, g3)).1) (((kdf u t i (j - i)).foldl gstep (g1, g2, g3)).2.1) (((kdf u t i (j - i)).foldl gstep (g1, g2, g3)).2.2) ∧ gok ((kdf u t i (j - i)).foldl gstep (g1, g2, g3)) (k + (j - i))) := by
  refine CtV.go RX5 rfl (by decide +kernel) (Nat.le_of_ble_eq_true rfl) ?_
  intro p e s m args below meth c A H0 Q hc hnm fin
  obtain ⟨hK4, hC8, hv2, hg3, hm, hdk, h13, h12⟩ := id hG
  have hmt := hm t (by omega)
  show KW g p l e (rmK 2 0 0) s m args below meth c 5 A H0 0 0 Q (YW g.2.1 a st ds le wg te (u 4) (u 5) ck mv mm tg gn wc (u 12) g1 g2 g3) [(0, .ref (a 0)), (1, .int (nI t)), (2, .int (nI i)), (3, .int (nI j))] 0 []
  refine zk_iload_n hc dX5_passPart_0 2 rfl ?_
  refine zk_istore hc (lv2 := [(4, .int (nI i)), (0, .ref (a 0)), (1, .int (nI t)), (2, .int (nI i)), (3, .int (nI j))]) dX5_passPart_1 (by decide) rfl ?_
  have loop3 : ∀ (N : Nat) (q : Nat), j - i - q < N → (q ≤ j - i) → (gok ((kdf u t i (q)).foldl gstep (g1, g2, g3)) (k + q)) → KW g p l e (rmK 2 0 0) s m args below meth c 5 A H0 0 0 Q (YW g.2.1 a st ds le wg te (u 4) (u 5) ck mv mm tg gn wc (u 12) (((kdf u t i (q)).foldl gstep (g1, g2, g3)).1) (((kdf u t i (q)).foldl gstep (g1, g2, g3)).2.1) (((kdf u t i (q)).foldl gstep (g1, g2, g3)).2.2)) [(0, .ref (a 0)), (1, .int (nI t)), (2, .int (nI i)), (3, .int (nI j)), (4, .int (nI (i + q)))] 3 [] := by
    intro N
    induction N with
    | zero => intro q hm; exact absurd hm (Nat.not_lt_zero _)
    | succ N ih3 =>
      intro q hm3 hq hgq
      refine zk_iload hc dX5_passPart_3 4 rfl ?_
      refine zk_iload_n hc dX5_passPart_5 3 rfl ?_
      refine zk_icmp_geN hc 32 dX5_passPart_6 (by decide) (by omega) (by omega) (fun h_1 => ?_) (fun h_1 => ?_)
      · refine fin 0 0 _ _ _ (by decide) (by decide) dX5_passPart_32 (?_)
        exact ⟨by rw [show q = j - i by omega], by rw [show j - i = q by omega]; exact hgq⟩
      · refine zk_aload_n hc dX5_passPart_9 0 rfl ?_
        refine zk_get hc inlX5 (ci := 5) rfl 0 14 (by decide) mw_2_17 rfl rfl rfl dX5_passPart_10 ?_
        refine zk_aload_n hc dX5_passPart_13 0 rfl ?_
        refine zk_iload_n hc dX5_passPart_14 1 rfl ?_
        refine zk_iload hc dX5_passPart_15 4 rfl ?_
        refine zk_callVi hc (rest := [.ref (a 6)]) (ct_X5_wagonAt g l a u st ds le wg te ck mv mm tg gn wc (((kdf u t i (q)).foldl gstep (g1, g2, g3)).1) (((kdf u t i (q)).foldl gstep (g1, g2, g3)).2.1) (((kdf u t i (q)).foldl gstep (g1, g2, g3)).2.2) t (i + q) (by omega)) gg_X5_78 cd_X5_wagonAt ⟨Nat.le_of_ble_eq_true rfl, Nat.le_of_ble_eq_true rfl⟩ ⟨Nat.le_of_ble_eq_true rfl, Nat.le_of_ble_eq_true rfl⟩ ([]) ([]) rfl 0 rfl rfl rfl (Nat.le_of_ble_eq_true rfl) dX5_passPart_17 (fun r W1 hp => ?_)
        obtain ⟨rfl, rfl⟩ := hp
        refine zk_ws (ws2 := YW g.2.1 a st ds le wg te (u 4) (u 5) ck mv mm tg gn wc (u 12) (((kdf u t i (q)).foldl gstep (g1, g2, g3)).1) (((kdf u t i (q)).foldl gstep (g1, g2, g3)).2.1) (((kdf u t i (q)).foldl gstep (g1, g2, g3)).2.2)) rfl ?_
        refine zk_top (y := nI (enc u t (i + q))) (ywg hY (by omega) (by omega)) ?_
        refine zk_callNi hc (rest := [.ref (a 6)]) (ct_X6_kindOf g l (enc u t (i + q)) (enc_b hG hN (by omega) (by omega)).1) (host := "ShuntYard") nl_X5_97 mw_6_12 mw_6_11 mw_1_2 cd_X6_kindOf ⟨Nat.le_of_ble_eq_true rfl, Nat.le_of_ble_eq_true rfl⟩ ⟨Nat.le_of_ble_eq_true rfl, Nat.le_of_ble_eq_true rfl⟩ ([]) (YW g.2.1 a st ds le wg te (u 4) (u 5) ck mv mm tg gn wc (u 12) (((kdf u t i (q)).foldl gstep (g1, g2, g3)).1) (((kdf u t i (q)).foldl gstep (g1, g2, g3)).2.1) (((kdf u t i (q)).foldl gstep (g1, g2, g3)).2.2)) rfl rfl (Nat.le_of_ble_eq_true rfl) dX5_passPart_20 (fun r W1 hp => ?_)
        obtain ⟨rfl, rfl⟩ := hp
        refine zk_ws (ws2 := YW g.2.1 a st ds le wg te (u 4) (u 5) ck mv mm tg gn wc (u 12) (((kdf u t i (q)).foldl gstep (g1, g2, g3)).1) (((kdf u t i (q)).foldl gstep (g1, g2, g3)).2.1) (((kdf u t i (q)).foldl gstep (g1, g2, g3)).2.2)) rfl ?_
        refine zk_top (y := nI (knd u t (i + q))) (congrArg nI (enc_k (enc_b hG hN (by omega) (by omega)).2.1)) ?_
        refine zk_callVv hc (rest := []) (ct_X0_pass g l (a 6) (((kdf u t i (q)).foldl gstep (g1, g2, g3)).1) (((kdf u t i (q)).foldl gstep (g1, g2, g3)).2.1) (((kdf u t i (q)).foldl gstep (g1, g2, g3)).2.2) (knd u t (i + q)) (enc_b hG hN (by omega) (by omega)).2.1 hgq.2.1 (by have := hgq.1; omega) (by have := hgq.2.2; omega)) gg_X5_114 cd_X0_pass ⟨Nat.le_of_ble_eq_true rfl, Nat.le_of_ble_eq_true rfl⟩ ⟨Nat.le_of_ble_eq_true rfl, Nat.le_of_ble_eq_true rfl⟩ (List.take 6 (YW g.2.1 a st ds le wg te (u 4) (u 5) ck mv mm tg gn wc (u 12) (((kdf u t i (q)).foldl gstep (g1, g2, g3)).1) (((kdf u t i (q)).foldl gstep (g1, g2, g3)).2.1) (((kdf u t i (q)).foldl gstep (g1, g2, g3)).2.2))) ([]) rfl 6 rfl rfl rfl (Nat.le_of_ble_eq_true rfl) dX5_passPart_23 (fun W1 hp => ?_)
        obtain rfl := hp
        refine zk_ws (ws2 := YW g.2.1 a st ds le wg te (u 4) (u 5) ck mv mm tg gn wc (u 12) ((gstep (((kdf u t i (q)).foldl gstep (g1, g2, g3)).1, ((kdf u t i (q)).foldl gstep (g1, g2, g3)).2.1, ((kdf u t i (q)).foldl gstep (g1, g2, g3)).2.2) (knd u t (i + q))).1) ((gstep (((kdf u t i (q)).foldl gstep (g1, g2, g3)).1, ((kdf u t i (q)).foldl gstep (g1, g2, g3)).2.1, ((kdf u t i (q)).foldl gstep (g1, g2, g3)).2.2) (knd u t (i + q))).2.1) ((gstep (((kdf u t i (q)).foldl gstep (g1, g2, g3)).1, ((kdf u t i (q)).foldl gstep (g1, g2, g3)).2.1, ((kdf u t i (q)).foldl gstep (g1, g2, g3)).2.2) (knd u t (i + q))).2.2)) rfl ?_
        refine zk_ws (ws2 := YW g.2.1 a st ds le wg te (u 4) (u 5) ck mv mm tg gn wc (u 12) (((kdf u t i ((q + 1))).foldl gstep (g1, g2, g3)).1) ((gstep (((kdf u t i (q)).foldl gstep (g1, g2, g3)).1, ((kdf u t i (q)).foldl gstep (g1, g2, g3)).2.1, ((kdf u t i (q)).foldl gstep (g1, g2, g3)).2.2) (knd u t (i + q))).2.1) ((gstep (((kdf u t i (q)).foldl gstep (g1, g2, g3)).1, ((kdf u t i (q)).foldl gstep (g1, g2, g3)).2.1, ((kdf u t i (q)).foldl gstep (g1, g2, g3)).2.2) (knd u t (i + q))).2.2)) (congrArg (fun zz => YW g.2.1 a st ds le wg te (u 4) (u 5) ck mv mm tg gn wc (u 12) zz ((gstep (((kdf u t i (q)).foldl gstep (g1, g2, g3)).1, ((kdf u t i (q)).foldl gstep (g1, g2, g3)).2.1, ((kdf u t i (q)).foldl gstep (g1, g2, g3)).2.2) (knd u t (i + q))).2.1) ((gstep (((kdf u t i (q)).foldl gstep (g1, g2, g3)).1, ((kdf u t i (q)).foldl gstep (g1, g2, g3)).2.1, ((kdf u t i (q)).foldl gstep (g1, g2, g3)).2.2) (knd u t (i + q))).2.2)) (show (gstep (((kdf u t i (q)).foldl gstep (g1, g2, g3)).1, ((kdf u t i (q)).foldl gstep (g1, g2, g3)).2.1, ((kdf u t i (q)).foldl gstep (g1, g2, g3)).2.2) (knd u t (i + q))).1 = ((kdf u t i ((q + 1))).foldl gstep (g1, g2, g3)).1 from (congrArg (fun z => z.1) (kdf_fold u t i q (g1, g2, g3))).symm)) ?_
        refine zk_ws (ws2 := YW g.2.1 a st ds le wg te (u 4) (u 5) ck mv mm tg gn wc (u 12) (((kdf u t i ((q + 1))).foldl gstep (g1, g2, g3)).1) (((kdf u t i ((q + 1))).foldl gstep (g1, g2, g3)).2.1) ((gstep (((kdf u t i (q)).foldl gstep (g1, g2, g3)).1, ((kdf u t i (q)).foldl gstep (g1, g2, g3)).2.1, ((kdf u t i (q)).foldl gstep (g1, g2, g3)).2.2) (knd u t (i + q))).2.2)) (congrArg (fun zz => YW g.2.1 a st ds le wg te (u 4) (u 5) ck mv mm tg gn wc (u 12) (((kdf u t i ((q + 1))).foldl gstep (g1, g2, g3)).1) zz ((gstep (((kdf u t i (q)).foldl gstep (g1, g2, g3)).1, ((kdf u t i (q)).foldl gstep (g1, g2, g3)).2.1, ((kdf u t i (q)).foldl gstep (g1, g2, g3)).2.2) (knd u t (i + q))).2.2)) (show (gstep (((kdf u t i (q)).foldl gstep (g1, g2, g3)).1, ((kdf u t i (q)).foldl gstep (g1, g2, g3)).2.1, ((kdf u t i (q)).foldl gstep (g1, g2, g3)).2.2) (knd u t (i + q))).2.1 = ((kdf u t i ((q + 1))).foldl gstep (g1, g2, g3)).2.1 from (congrArg (fun z => z.2.1) (kdf_fold u t i q (g1, g2, g3))).symm)) ?_
        refine zk_ws (ws2 := YW g.2.1 a st ds le wg te (u 4) (u 5) ck mv mm tg gn wc (u 12) (((kdf u t i ((q + 1))).foldl gstep (g1, g2, g3)).1) (((kdf u t i ((q + 1))).foldl gstep (g1, g2, g3)).2.1) (((kdf u t i ((q + 1))).foldl gstep (g1, g2, g3)).2.2)) (congrArg (fun zz => YW g.2.1 a st ds le wg te (u 4) (u 5) ck mv mm tg gn wc (u 12) (((kdf u t i ((q + 1))).foldl gstep (g1, g2, g3)).1) (((kdf u t i ((q + 1))).foldl gstep (g1, g2, g3)).2.1) zz) (show (gstep (((kdf u t i (q)).foldl gstep (g1, g2, g3)).1, ((kdf u t i (q)).foldl gstep (g1, g2, g3)).2.1, ((kdf u t i (q)).foldl gstep (g1, g2, g3)).2.2) (knd u t (i + q))).2.2 = ((kdf u t i ((q + 1))).foldl gstep (g1, g2, g3)).2.2 from (congrArg (fun z => z.2.2) (kdf_fold u t i q (g1, g2, g3))).symm)) ?_
        refine zk_iinc hc (v := nI (i + q + 1)) (lv2 := [(4, .int (nI (i + q + 1))), (0, .ref (a 0)), (1, .int (nI t)), (2, .int (nI i)), (3, .int (nI j))]) dX5_passPart_26 4 rfl (nq_inc rfl) (by decide) rfl ?_
        refine zk_goto hc 3 dX5_passPart_29 (by decide) ?_
        refine zk_lv [1, 2, 3, 4, 0] (lv2 := [(0, .ref (a 0)), (1, .int (nI t)), (2, .int (nI i)), (3, .int (nI j)), (4, .int (nI (i + q + 1)))]) rfl ?_
        exact ih3 (q + 1) (by omega) (by omega) (by rw [kdf_fold]; exact gok_step hgq (enc_b hG hN (by omega) (by omega)).2.1)
  refine zk_lv [1, 2, 3, 4, 0] (lv2 := [(0, .ref (a 0)), (1, .int (nI t)), (2, .int (nI i)), (3, .int (nI j)), (4, .int (nI i))]) rfl ?_
  exact loop3 ((j - i - 0) + 1) 0 (Nat.lt_succ_self _) (Nat.zero_le _) hg

set_option maxHeartbeats 4000000 in
set_option maxRecDepth 100000 in
theorem ct_X5_isSafe (g : GG) (l : Launch) (a : Nat → Nat) (u st ds le wg : Nat → Nat) (te : Nat → Int32) (ck mv mm tg gn wc g1 g2 g3 : Nat) (hY : YA u st ds le wg) (hG : GU u) (hN : GN u) (t : Nat) (ht : t < u 4) : CtI g l yX5_isSafe cX5_isSafe 2 (some .boolean) (rmK 3 0 0) (YW g.2.1 a st ds le wg te (u 4) (u 5) ck mv mm tg gn wc (u 12) g1 g2 g3) [.ref (a 0), .int (nI t)] (fun r W1 => r = (if u 0 ≤ gap (kds u t (mny u t)) then nI 1 else nI 0) ∧ ∃ g4 g5 g6, W1 = YW g.2.1 a st ds le wg te (u 4) (u 5) ck mv mm tg gn wc (u 12) g4 g5 g6) := by
  refine CtZ.go RX5 rfl (by decide +kernel) (Nat.le_of_ble_eq_true rfl) ?_
  intro p e s m args below meth c A H0 Q hc hnm fin
  obtain ⟨hK4, hC8, hv2, hg3, hm, hdk, h13, h12⟩ := id hG
  show KW g p l e (rmK 3 0 0) s m args below meth c 2 A H0 0 0 Q (YW g.2.1 a st ds le wg te (u 4) (u 5) ck mv mm tg gn wc (u 12) g1 g2 g3) [(0, .ref (a 0)), (1, .int (nI t))] 0 []
  refine zk_aload_n hc dX5_isSafe_0 0 rfl ?_
  refine zk_get hc inlX5 (ci := 5) rfl 0 14 (by decide) mw_2_17 rfl rfl rfl dX5_isSafe_1 ?_
  refine zk_callVv hc (rest := []) (ct_X0_start g l (a 6) g1 g2 g3) gg_X5_104 cd_X0_start ⟨Nat.le_of_ble_eq_true rfl, Nat.le_of_ble_eq_true rfl⟩ ⟨Nat.le_of_ble_eq_true rfl, Nat.le_of_ble_eq_true rfl⟩ (List.take 6 (YW g.2.1 a st ds le wg te (u 4) (u 5) ck mv mm tg gn wc (u 12) g1 g2 g3)) ([]) rfl 6 rfl rfl rfl (Nat.le_of_ble_eq_true rfl) dX5_isSafe_4 (fun W1 hp => ?_)
  obtain rfl := hp
  refine zk_ws (ws2 := YW g.2.1 a st ds le wg te (u 4) (u 5) ck mv mm tg gn wc (u 12) 99 0 0) rfl ?_
  refine zk_aload_n hc dX5_isSafe_7 0 rfl ?_
  refine zk_iload_n hc dX5_isSafe_8 1 rfl ?_
  refine zk_iconst hc (nI 0) dX5_isSafe_9 rfl ?_
  refine zk_aload_n hc dX5_isSafe_10 0 rfl ?_
  refine zk_get hc inlX5 (ci := 5) rfl 0 11 (by decide) mw_2_11 rfl rfl rfl dX5_isSafe_11 ?_
  refine zk_iload_n hc dX5_isSafe_14 1 rfl ?_
  refine zk_ialdN hc 3 rfl (by omega) (by decide) dX5_isSafe_15 ?_
  refine zk_top (y := nI (mny u t)) (yle hY (by omega)) ?_
  refine zk_callVv hc (rest := []) (ct_X5_passPart g l a u st ds le wg te ck mv mm tg gn wc 99 0 0 hY hG hN t 0 (mny u t) 0 (by omega) (by omega) (by omega) (show gok (99, 0, 0) 0 from ⟨Nat.le_refl 99, by decide, Nat.le_refl 0⟩) (by omega)) gg_X5_107 cd_X5_passPart ⟨Nat.le_of_ble_eq_true rfl, Nat.le_of_ble_eq_true rfl⟩ ⟨Nat.le_of_ble_eq_true rfl, Nat.le_of_ble_eq_true rfl⟩ ([]) ([]) rfl 0 rfl rfl rfl (Nat.le_of_ble_eq_true rfl) dX5_isSafe_16 (fun W1 hp => ?_)
  obtain ⟨rfl, hgk_1⟩ := hp
  refine zk_ws (ws2 := YW g.2.1 a st ds le wg te (u 4) (u 5) ck mv mm tg gn wc (u 12) (((kdf u t 0 ((mny u t) - 0)).foldl gstep (99, 0, 0)).1) (((kdf u t 0 ((mny u t) - 0)).foldl gstep (99, 0, 0)).2.1) (((kdf u t 0 ((mny u t) - 0)).foldl gstep (99, 0, 0)).2.2)) rfl ?_
  refine zk_aload_n hc dX5_isSafe_19 0 rfl ?_
  refine zk_get hc inlX5 (ci := 5) rfl 0 14 (by decide) mw_2_17 rfl rfl rfl dX5_isSafe_20 ?_
  refine zk_get hc inlX0 (ci := 0) rfl 6 0 (by decide) mw_5_19 rfl rfl rfl dX5_isSafe_23 ?_
  refine zk_aload_n hc dX5_isSafe_26 0 rfl ?_
  refine zk_get hc inlX5 (ci := 5) rfl 0 9 (by decide) mw_2_9 rfl rfl rfl dX5_isSafe_27 ?_
  refine zk_iconst hc (nI 0) dX5_isSafe_30 rfl ?_
  refine zk_ialdN hc 1 rfl (by omega) (by decide) dX5_isSafe_31 ?_
  refine zk_top (y := nI (u 0)) (yst hY (by omega)) ?_
  refine zk_icmp_ltN hc 39 dX5_isSafe_32 (by decide) (by have := hgk_1.1; omega) (by have := hgk_1.1; omega) (fun hlt => ?_) (fun hlt => ?_)
  · refine zk_iconst hc (nI 0) dX5_isSafe_39 rfl ?_
    refine fin 0 0 _ _ _ _ (by decide) (by decide) dX5_isSafe_40 rfl (?_)
    have hb : ((kdf u t 0 (mny u t - 0)).foldl gstep (99, 0, 0)).1 = gap (kds u t (mny u t)) := by rw [Nat.sub_zero, kdf_0]; rfl
    rw [hb] at hlt
    exact ⟨by rw [if_neg (by omega)], _, _, _, rfl⟩
  · refine zk_iconst hc (nI 1) dX5_isSafe_35 rfl ?_
    refine zk_goto hc 40 dX5_isSafe_36 (by decide) ?_
    refine fin 0 0 _ _ _ _ (by decide) (by decide) dX5_isSafe_40 rfl (?_)
    have hb : ((kdf u t 0 (mny u t - 0)).foldl gstep (99, 0, 0)).1 = gap (kds u t (mny u t)) := by rw [Nat.sub_zero, kdf_0]; rfl
    rw [hb] at hlt
    exact ⟨by rw [if_pos (by omega)], _, _, _, rfl⟩
