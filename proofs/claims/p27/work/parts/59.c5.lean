set_option maxHeartbeats 4000000 in
set_option maxRecDepth 100000 in
theorem ct_X3_keepIfCheaper (g : GG) (l : Launch) (a ab ar : Nat → Nat) (wf wt wn bf bt bn : Nat → Nat) (rmv rmi bmv bmi : Nat) (wa wi wo : Nat → Nat) (hb : Nat) (ay : Nat → Nat) (u st ds le wg : Nat → Nat) (te : Nat → Int32) (ck mv mm tg gn wc g1 g2 g3 : Nat) (ro : List MV) (mt : Nat) (bb : BST) (hY : YA u st ds le wg) (hG : GU u) (hN : GN u) (hl1 : u 12 ≠ 0) (hR : RRc rmv rmi wf wt wn ro mt) (hB : BRc hb bmv bmi bf bt bn bb)  : CtV g l yX3_keepIfCheaper cX3_keepIfCheaper 1 (rmK 3 0 0) (SEW g.2.1 a (ab 0) (ay 0) (ar 0) wa wi wo hb ++ (YW g.2.1 ay st ds le wg te (u 4) (u 5) ck mv mm tg gn wc (u 12) g1 g2 g3 ++ (RWW g.2.1 ar wf wt wn rmv rmi ++ (RWW g.2.1 ab bf bt bn bmv bmi)))) [.ref (a 0)] (fun W1 => ∃ hb2 bmv2 bmi2 bf2 bt2 bn2, W1 = SEW g.2.1 a (ab 0) (ay 0) (ar 0) wa wi wo hb2 ++ (YW g.2.1 ay st ds le wg te (u 4) (u 5) ck mv mm tg gn wc (u 12) g1 g2 g3 ++ (RWW g.2.1 ar wf wt wn rmv rmi ++ (RWW g.2.1 ab bf2 bt2 bn2 bmv2 bmi2))) ∧ BRc hb2 bmv2 bmi2 bf2 bt2 bn2 (rec1 bb mt ro)) := by
  refine CtV.go RX3 rfl (by decide +kernel) (Nat.le_of_ble_eq_true rfl) ?_
  intro p e s m args below meth c A H0 Q hc hnm fin
  obtain ⟨hK4, hC8, hv2, hg3, hm, hdk, h13, h12⟩ := id hG
  obtain ⟨hr1, hr2, hr3, hr4, hr5⟩ := id hR
  have hb1 := BRc_b hB
  show KW g p l e (rmK 3 0 0) s m args below meth c 1 A H0 0 0 Q (SEW g.2.1 a (ab 0) (ay 0) (ar 0) wa wi wo hb ++ (YW g.2.1 ay st ds le wg te (u 4) (u 5) ck mv mm tg gn wc (u 12) g1 g2 g3 ++ (RWW g.2.1 ar wf wt wn rmv rmi ++ (RWW g.2.1 ab bf bt bn bmv bmi)))) [(0, .ref (a 0))] 0 []
  refine zk_aload_n hc dX3_keepIfCheaper_0 0 rfl ?_
  refine zk_get hc inlX3 (ci := 3) rfl 0 1 (by decide) mw_14_8 rfl rfl rfl dX3_keepIfCheaper_1 ?_
  refine zk_if_eqN hc 21 dX3_keepIfCheaper_4 (by decide) (by omega) (fun h4 => ?_) (fun h4 => ?_)
  · refine zk_aload_n hc dX3_keepIfCheaper_21 0 rfl ?_
    refine zk_get hc inlX3 (ci := 3) rfl 0 0 (by decide) mw_3_15 rfl rfl rfl dX3_keepIfCheaper_22 ?_
    refine zk_aload_n hc dX3_keepIfCheaper_25 0 rfl ?_
    refine zk_get hc inlX3 (ci := 3) rfl 0 3 (by decide) mw_3_18 rfl rfl rfl dX3_keepIfCheaper_26 ?_
    refine zk_callVv hc (rest := []) (ct_X2_copyFrom g l ab bf bt bn bmv bmi ar wf wt wn rmv rmi) gg_X3_112 cd_X2_copyFrom ⟨Nat.le_of_ble_eq_true rfl, Nat.le_of_ble_eq_true rfl⟩ ⟨Nat.le_of_ble_eq_true rfl, Nat.le_of_ble_eq_true rfl⟩ (SEW g.2.1 a (ab 0) (ay 0) (ar 0) wa wi wo hb ++ (YW g.2.1 ay st ds le wg te (u 4) (u 5) ck mv mm tg gn wc (u 12) g1 g2 g3)) ([]) rfl 15 rfl rfl rfl (Nat.le_of_ble_eq_true rfl) dX3_keepIfCheaper_29 (fun W1 hp => ?_)
    obtain rfl := hp
    refine zk_ws (ws2 := SEW g.2.1 a (ab 0) (ay 0) (ar 0) wa wi wo hb ++ (YW g.2.1 ay st ds le wg te (u 4) (u 5) ck mv mm tg gn wc (u 12) g1 g2 g3 ++ (RWW g.2.1 ar wf wt wn rmv rmi ++ (RWW g.2.1 ab (va_cpy wf bf 0 0 3) (va_cpy wt bt 0 0 3) (va_cpy wn bn 0 0 3) rmv rmi)))) rfl ?_
    refine zk_aload_n hc dX3_keepIfCheaper_32 0 rfl ?_
    refine zk_iconst hc (nI 1) dX3_keepIfCheaper_33 rfl ?_
    refine zk_put hc inlX3 (ci := 3) rfl tyX3 tyX3_ok nmX3 0 1 (by decide) mw_14_8 rfl rfl rfl rfl rfl (Nat.le_of_ble_eq_true rfl) (ws2 := SEW g.2.1 a (ab 0) (ay 0) (ar 0) wa wi wo 1 ++ (YW g.2.1 ay st ds le wg te (u 4) (u 5) ck mv mm tg gn wc (u 12) g1 g2 g3 ++ (RWW g.2.1 ar wf wt wn rmv rmi ++ (RWW g.2.1 ab (va_cpy wf bf 0 0 3) (va_cpy wt bt 0 0 3) (va_cpy wn bn 0 0 3) rmv rmi)))) rfl dX3_keepIfCheaper_34 ?_
    refine fin 0 0 _ _ _ (by decide) (by decide) dX3_keepIfCheaper_37 (?_)
    exact ⟨_, _, _, _, _, _, rfl, BRc_new hB hR (Or.inl h4) (fun i hi => ⟨cp3 hi, cp3 hi, cp3 hi⟩)⟩
  · obtain ⟨hb120, hb3, -⟩ := BRc_1 hB h4
    refine zk_aload_n hc dX3_keepIfCheaper_7 0 rfl ?_
    refine zk_get hc inlX3 (ci := 3) rfl 0 3 (by decide) mw_3_18 rfl rfl rfl dX3_keepIfCheaper_8 ?_
    refine zk_aload_n hc dX3_keepIfCheaper_11 0 rfl ?_
    refine zk_get hc inlX3 (ci := 3) rfl 0 0 (by decide) mw_3_15 rfl rfl rfl dX3_keepIfCheaper_12 ?_
    refine zk_callVi hc (rest := []) (ct_X2_isCheaperThan g l ar wf wt wn rmv rmi ab bf bt bn bmv bmi (by omega) (by omega) (by omega) (by omega)) gg_X3_108 cd_X2_isCheaperThan ⟨Nat.le_of_ble_eq_true rfl, Nat.le_of_ble_eq_true rfl⟩ ⟨Nat.le_of_ble_eq_true rfl, Nat.le_of_ble_eq_true rfl⟩ (SEW g.2.1 a (ab 0) (ay 0) (ar 0) wa wi wo hb ++ (YW g.2.1 ay st ds le wg te (u 4) (u 5) ck mv mm tg gn wc (u 12) g1 g2 g3)) ([]) rfl 11 rfl rfl rfl (Nat.le_of_ble_eq_true rfl) dX3_keepIfCheaper_15 (fun r W1 hp => ?_)
    obtain ⟨rfl, rfl⟩ := hp
    refine zk_ws (ws2 := SEW g.2.1 a (ab 0) (ay 0) (ar 0) wa wi wo hb ++ (YW g.2.1 ay st ds le wg te (u 4) (u 5) ck mv mm tg gn wc (u 12) g1 g2 g3 ++ (RWW g.2.1 ar wf wt wn rmv rmi ++ (RWW g.2.1 ab bf bt bn bmv bmi)))) rfl ?_
    by_cases hch : rmi < bmi ∨ rmi = bmi ∧ rmv < bmv
    · refine zk_top (y := nI 1) (if_pos hch) ?_
      refine zk_if_eqN hc 37 dX3_keepIfCheaper_18 (by decide) (by omega) (fun h_1 => ?_) (fun h_1 => ?_)
      · exact absurd h_1 (by decide)
      · refine zk_aload_n hc dX3_keepIfCheaper_21 0 rfl ?_
        refine zk_get hc inlX3 (ci := 3) rfl 0 0 (by decide) mw_3_15 rfl rfl rfl dX3_keepIfCheaper_22 ?_
        refine zk_aload_n hc dX3_keepIfCheaper_25 0 rfl ?_
        refine zk_get hc inlX3 (ci := 3) rfl 0 3 (by decide) mw_3_18 rfl rfl rfl dX3_keepIfCheaper_26 ?_
        refine zk_callVv hc (rest := []) (ct_X2_copyFrom g l ab bf bt bn bmv bmi ar wf wt wn rmv rmi) gg_X3_112 cd_X2_copyFrom ⟨Nat.le_of_ble_eq_true rfl, Nat.le_of_ble_eq_true rfl⟩ ⟨Nat.le_of_ble_eq_true rfl, Nat.le_of_ble_eq_true rfl⟩ (SEW g.2.1 a (ab 0) (ay 0) (ar 0) wa wi wo hb ++ (YW g.2.1 ay st ds le wg te (u 4) (u 5) ck mv mm tg gn wc (u 12) g1 g2 g3)) ([]) rfl 15 rfl rfl rfl (Nat.le_of_ble_eq_true rfl) dX3_keepIfCheaper_29 (fun W1 hp => ?_)
        obtain rfl := hp
        refine zk_ws (ws2 := SEW g.2.1 a (ab 0) (ay 0) (ar 0) wa wi wo hb ++ (YW g.2.1 ay st ds le wg te (u 4) (u 5) ck mv mm tg gn wc (u 12) g1 g2 g3 ++ (RWW g.2.1 ar wf wt wn rmv rmi ++ (RWW g.2.1 ab (va_cpy wf bf 0 0 3) (va_cpy wt bt 0 0 3) (va_cpy wn bn 0 0 3) rmv rmi)))) rfl ?_
        refine zk_aload_n hc dX3_keepIfCheaper_32 0 rfl ?_
        refine zk_iconst hc (nI 1) dX3_keepIfCheaper_33 rfl ?_
        refine zk_put hc inlX3 (ci := 3) rfl tyX3 tyX3_ok nmX3 0 1 (by decide) mw_14_8 rfl rfl rfl rfl rfl (Nat.le_of_ble_eq_true rfl) (ws2 := SEW g.2.1 a (ab 0) (ay 0) (ar 0) wa wi wo 1 ++ (YW g.2.1 ay st ds le wg te (u 4) (u 5) ck mv mm tg gn wc (u 12) g1 g2 g3 ++ (RWW g.2.1 ar wf wt wn rmv rmi ++ (RWW g.2.1 ab (va_cpy wf bf 0 0 3) (va_cpy wt bt 0 0 3) (va_cpy wn bn 0 0 3) rmv rmi)))) rfl dX3_keepIfCheaper_34 ?_
        refine fin 0 0 _ _ _ (by decide) (by decide) dX3_keepIfCheaper_37 (?_)
        exact ⟨_, _, _, _, _, _, rfl, BRc_new hB hR (Or.inr hch) (fun i hi => ⟨cp3 hi, cp3 hi, cp3 hi⟩)⟩
    · refine zk_top (y := nI 0) (if_neg hch) ?_
      refine zk_if_eqN hc 37 dX3_keepIfCheaper_18 (by decide) (by omega) (fun h_2 => ?_) (fun h_2 => ?_)
      · refine fin 0 0 _ _ _ (by decide) (by decide) dX3_keepIfCheaper_37 (?_)
        exact ⟨_, _, _, _, _, _, rfl, BRc_keep hB h4 hR hch⟩
      · exact absurd h_2 (by decide)

set_option maxHeartbeats 4000000 in
set_option maxRecDepth 100000 in
theorem ct_X3_isTooDear (g : GG) (l : Launch) (a ab ar : Nat → Nat) (wf wt wn bf bt bn : Nat → Nat) (rmv rmi bmv bmi : Nat) (wa wi wo : Nat → Nat) (hb : Nat) (ay : Nat → Nat) (u st ds le wg : Nat → Nat) (te : Nat → Int32) (ck mv mm tg gn wc g1 g2 g3 : Nat) (ro : List MV) (mt : Nat) (bb : BST) (hY : YA u st ds le wg) (hG : GU u) (hN : GN u) (hl1 : u 12 ≠ 0) (hR : RRc rmv rmi wf wt wn ro mt) (hB : BRc hb bmv bmi bf bt bn bb) (x : Nat) (hx6 : x ≤ 6) : CtI g l yX3_isTooDear cX3_isTooDear 3 (some .boolean) (rmK 2 0 0) (SEW g.2.1 a (ab 0) (ay 0) (ar 0) wa wi wo hb ++ (YW g.2.1 ay st ds le wg te (u 4) (u 5) ck mv mm tg gn wc (u 12) g1 g2 g3 ++ (RWW g.2.1 ar wf wt wn rmv rmi ++ (RWW g.2.1 ab bf bt bn bmv bmi)))) [.ref (a 0), .int (nI x)] (fun r W1 => r = (if hb ≠ 0 ∧ bmi < rmi + x * (u 2 + 1 + 2) then nI 1 else nI 0) ∧ W1 = SEW g.2.1 a (ab 0) (ay 0) (ar 0) wa wi wo hb ++ (YW g.2.1 ay st ds le wg te (u 4) (u 5) ck mv mm tg gn wc (u 12) g1 g2 g3 ++ (RWW g.2.1 ar wf wt wn rmv rmi ++ (RWW g.2.1 ab bf bt bn bmv bmi)))) := by
  refine CtZ.go RX3 rfl (by decide +kernel) (Nat.le_of_ble_eq_true rfl) ?_
  intro p e s m args below meth c A H0 Q hc hnm fin
  obtain ⟨hK4, hC8, hv2, hg3, hm, hdk, h13, h12⟩ := id hG
  obtain ⟨hr1, hr2, hr3, hr4, hr5⟩ := id hR
  have hb1 := BRc_b hB
  have hmul := Nat.mul_le_mul hx6 (show u 2 + 1 + 2 ≤ 23 by omega)
  show KW g p l e (rmK 2 0 0) s m args below meth c 3 A H0 0 0 Q (SEW g.2.1 a (ab 0) (ay 0) (ar 0) wa wi wo hb ++ (YW g.2.1 ay st ds le wg te (u 4) (u 5) ck mv mm tg gn wc (u 12) g1 g2 g3 ++ (RWW g.2.1 ar wf wt wn rmv rmi ++ (RWW g.2.1 ab bf bt bn bmv bmi)))) [(0, .ref (a 0)), (1, .int (nI x))] 0 []
  refine zk_aload_n hc dX3_isTooDear_0 0 rfl ?_
  refine zk_get hc inlX3 (ci := 3) rfl 0 2 (by decide) mw_3_17 rfl rfl rfl dX3_isTooDear_1 ?_
  refine zk_get hc inlX5 (ci := 5) rfl 4 9 (by decide) mw_16_9 rfl rfl rfl dX3_isTooDear_4 ?_
  refine zk_iconst hc (nI 2) dX3_isTooDear_7 rfl ?_
  refine zk_ialdN hc 5 rfl (by omega) (by decide) dX3_isTooDear_8 ?_
  refine zk_top (y := nI (u 2)) (yst hY (by omega)) ?_
  refine zk_iconst hc (nI 1) dX3_isTooDear_9 rfl ?_
  refine zk_iaddN hc dX3_isTooDear_10 ?_
  refine zk_iconst hc (nI 2) dX3_isTooDear_11 rfl ?_
  refine zk_iaddN hc dX3_isTooDear_12 ?_
  refine zk_istore_n hc (lv2 := [(2, .int (nI (((u 2) + 1) + 2))), (0, .ref (a 0)), (1, .int (nI x))]) dX3_isTooDear_13 (by decide) rfl ?_
  refine zk_aload_n hc dX3_isTooDear_14 1 rfl ?_
  refine zk_get hc inlX3 (ci := 3) rfl 0 1 (by decide) mw_14_8 rfl rfl rfl dX3_isTooDear_15 ?_
  refine zk_if_eqN hc 46 dX3_isTooDear_18 (by decide) (by omega) (fun h18 => ?_) (fun h18 => ?_)
  · refine zk_iconst hc (nI 0) dX3_isTooDear_46 rfl ?_
    refine fin 0 0 _ _ _ _ (by decide) (by decide) dX3_isTooDear_47 rfl (?_)
    exact ⟨by rw [if_neg (fun z => z.1 h18)], rfl⟩
  · obtain ⟨hb120, hb3, -⟩ := BRc_1 hB h18
    refine zk_aload_n hc dX3_isTooDear_21 1 rfl ?_
    refine zk_get hc inlX3 (ci := 3) rfl 0 3 (by decide) mw_3_18 rfl rfl rfl dX3_isTooDear_22 ?_
    refine zk_get hc inlX2 (ci := 2) rfl 11 1 (by decide) mw_16_10 rfl rfl rfl dX3_isTooDear_25 ?_
    refine zk_iload_n hc dX3_isTooDear_28 2 rfl ?_
    refine zk_iload_n hc dX3_isTooDear_29 0 rfl ?_
    refine zk_imulN hc dX3_isTooDear_30 ?_
    refine zk_iaddN hc dX3_isTooDear_31 ?_
    refine zk_aload_n hc dX3_isTooDear_32 1 rfl ?_
    refine zk_get hc inlX3 (ci := 3) rfl 0 0 (by decide) mw_3_15 rfl rfl rfl dX3_isTooDear_33 ?_
    refine zk_get hc inlX2 (ci := 2) rfl 15 1 (by decide) mw_16_10 rfl rfl rfl dX3_isTooDear_36 ?_
    refine zk_icmp_leN hc 46 dX3_isTooDear_39 (by decide) (by omega) (by omega) (fun h39 => ?_) (fun h39 => ?_)
    · refine zk_iconst hc (nI 0) dX3_isTooDear_46 rfl ?_
      refine fin 0 0 _ _ _ _ (by decide) (by decide) dX3_isTooDear_47 rfl (?_)
      exact ⟨by rw [if_neg (fun z => by omega)], rfl⟩
    · refine zk_iconst hc (nI 1) dX3_isTooDear_42 rfl ?_
      refine zk_goto hc 47 dX3_isTooDear_43 (by decide) ?_
      refine fin 0 0 _ _ _ _ (by decide) (by decide) dX3_isTooDear_47 rfl (?_)
      exact ⟨by rw [if_pos ⟨h18, h39⟩], rfl⟩
