set_option maxHeartbeats 4000000 in
set_option maxRecDepth 100000 in
theorem ct_X3_seek_0 (g : GG) (l : Launch) (a ab ar : Nat → Nat) (wf wt wn bf bt bn : Nat → Nat) (rmv rmi bmv bmi : Nat) (wa wi wo : Nat → Nat) (hb : Nat) (ay : Nat → Nat) (u st ds le wg : Nat → Nat) (te : Nat → Int32) (ck mv mm tg gn wc g1 g2 g3 : Nat) (ro : List MV) (mt : Nat) (bb : BST) (hY : YA u st ds le wg) (hG : GU u) (hN : GN u) (hl1 : u 12 ≠ 0) (hR : RRc rmv rmi wf wt wn ro mt) (hB : BRc hb bmv bmi bf bt bn bb) (hK1 : 1 ≤ u 4) (hlr : ro.length + 0 ≤ 3) : CtV g l yX3_seek cX3_seek 8 (rmK 6 0 0) (SEW g.2.1 a (ab 0) (ay 0) (ar 0) wa wi wo hb ++ (YW g.2.1 ay st ds le wg te (u 4) (u 5) ck mv mm tg gn wc (u 12) g1 g2 g3 ++ (RWW g.2.1 ar wf wt wn rmv rmi ++ (RWW g.2.1 ab bf bt bn bmv bmi)))) [.ref (a 0), .int (nI 0)] (fun W1 => ∃ wa2 wi2 wo2 hb2 le2 wg2 g4 g5 g6 wf2 wt2 wn2 bmv2 bmi2 bf2 bt2 bn2, W1 = SEW g.2.1 a (ab 0) (ay 0) (ar 0) wa2 wi2 wo2 hb2 ++ (YW g.2.1 ay st ds le2 wg2 te (u 4) (u 5) ck mv mm tg gn wc (u 12) g4 g5 g6 ++ (RWW g.2.1 ar wf2 wt2 wn2 rmv rmi ++ (RWW g.2.1 ab bf2 bt2 bn2 bmv2 bmi2))) ∧ SK u st ds le2 wg2 rmv rmi bmv2 bmi2 hb2 wf2 wt2 wn2 bf2 bt2 bn2 ro mt (vis 0 u ro mt bb)) := by
  refine CtV.go RX3 rfl (by decide +kernel) (Nat.le_of_ble_eq_true rfl) ?_
  intro p e s m args below meth c A H0 Q hc hnm fin
  obtain ⟨hK4, hC8, hv2, hg3, hm, hdk, h13, h12⟩ := id hG
  obtain ⟨hr1, hr2, hr3, hr4, hr5⟩ := id hR
  have hb1 := BRc_b hB
  show KW g p l e (rmK 6 0 0) s m args below meth c 8 A H0 0 0 Q (SEW g.2.1 a (ab 0) (ay 0) (ar 0) wa wi wo hb ++ (YW g.2.1 ay st ds le wg te (u 4) (u 5) ck mv mm tg gn wc (u 12) g1 g2 g3 ++ (RWW g.2.1 ar wf wt wn rmv rmi ++ (RWW g.2.1 ab bf bt bn bmv bmi)))) [(0, .ref (a 0)), (1, .int (nI 0))] 0 []
  refine zk_aload_n hc dX3_seek_0 0 rfl ?_
  refine zk_get hc inlX3 (ci := 3) rfl 0 2 (by decide) mw_3_17 rfl rfl rfl dX3_seek_1 ?_
  refine zk_callVi hc (rest := []) (ct_X5_madeUpTrack g l ay u st ds le wg te ck mv mm tg gn wc g1 g2 g3 hY hG hN) gg_X3_70 cd_X5_madeUpTrack ⟨Nat.le_of_ble_eq_true rfl, Nat.le_of_ble_eq_true rfl⟩ ⟨Nat.le_of_ble_eq_true rfl, Nat.le_of_ble_eq_true rfl⟩ (SEW g.2.1 a (ab 0) (ay 0) (ar 0) wa wi wo hb) (RWW g.2.1 ar wf wt wn rmv rmi ++ (RWW g.2.1 ab bf bt bn bmv bmi)) rfl 4 rfl rfl rfl (Nat.le_of_ble_eq_true rfl) dX3_seek_4 (fun r W1 hp => ?_)
  obtain ⟨rfl, rfl⟩ := hp
  refine zk_ws (ws2 := SEW g.2.1 a (ab 0) (ay 0) (ar 0) wa wi wo hb ++ (YW g.2.1 ay st ds le wg te (u 4) (u 5) ck mv mm tg gn wc (u 12) g1 g2 g3 ++ (RWW g.2.1 ar wf wt wn rmv rmi ++ (RWW g.2.1 ab bf bt bn bmv bmi)))) rfl ?_
  refine zk_bipush hc ((-9)) dX3_seek_7 rfl ?_
  refine zk_icmp_eq hc 17 dX3_seek_9 (by decide) (fun hmu => ?_) (fun hmu => ?_)
  · refine zk_aload_n hc dX3_seek_17 0 rfl ?_
    refine zk_callVi hc (rest := []) (ct_X3_movesNeeded g l a (ab 0) (ar 0) wa wi wo hb ay u st ds le wg te ck mv mm tg gn wc g1 g2 g3 hY hG hN hl1 (by omega)) gg_X3_76 cd_X3_movesNeeded ⟨Nat.le_of_ble_eq_true rfl, Nat.le_of_ble_eq_true rfl⟩ ⟨Nat.le_of_ble_eq_true rfl, Nat.le_of_ble_eq_true rfl⟩ ([]) (RWW g.2.1 ar wf wt wn rmv rmi ++ (RWW g.2.1 ab bf bt bn bmv bmi)) rfl 0 rfl rfl rfl (Nat.le_of_ble_eq_true rfl) dX3_seek_18 (fun r W1 hp => ?_)
    obtain ⟨rfl, waz_1, wiz_1, woz_1, rfl⟩ := hp
    refine zk_ws (ws2 := SEW g.2.1 a (ab 0) (ay 0) (ar 0) waz_1 wiz_1 woz_1 hb ++ (YW g.2.1 ay st ds le wg te (u 4) (u 5) ck mv mm tg gn wc (u 12) g1 g2 g3 ++ (RWW g.2.1 ar wf wt wn rmv rmi ++ (RWW g.2.1 ab bf bt bn bmv bmi)))) rfl ?_
    have hn6 := needU_6 hK4
    refine zk_istore_n hc (lv2 := [(2, .int (nI (needU u))), (0, .ref (a 0)), (1, .int (nI 0))]) dX3_seek_21 (by decide) rfl ?_
    refine zk_iload_n hc dX3_seek_22 2 rfl ?_
    refine zk_if_leN hc 39 dX3_seek_23 (by decide) (by omega) (fun h_2 => ?_) (fun h_2 => ?_)
    · refine fin 0 0 _ _ _ (by decide) (by decide) dX3_seek_39 (?_)
      exact ⟨_, _, _, _, _, _, _, _, _, _, _, _, _, _, _, _, _, rfl, hY, hR, by rw [vis_0 (not_not_intro hmu)]; exact hB⟩
    · exact absurd h_2 (by decide)
  · refine zk_aload_n hc dX3_seek_12 0 rfl ?_
    refine zk_callVv hc (rest := []) (ct_X3_keepIfCheaper g l a ab ar wf wt wn bf bt bn rmv rmi bmv bmi wa wi wo hb ay u st ds le wg te ck mv mm tg gn wc g1 g2 g3 ro mt bb hY hG hN hl1 hR hB) gg_X3_73 cd_X3_keepIfCheaper ⟨Nat.le_of_ble_eq_true rfl, Nat.le_of_ble_eq_true rfl⟩ ⟨Nat.le_of_ble_eq_true rfl, Nat.le_of_ble_eq_true rfl⟩ ([]) ([]) rfl 0 rfl rfl rfl (Nat.le_of_ble_eq_true rfl) dX3_seek_13 (fun W1 hp => ?_)
    obtain ⟨hbz_3, bmvz_3, bmiz_3, bfz_3, btz_3, bnz_3, rfl, hKz_3⟩ := hp
    refine zk_ws (ws2 := SEW g.2.1 a (ab 0) (ay 0) (ar 0) wa wi wo hbz_3 ++ (YW g.2.1 ay st ds le wg te (u 4) (u 5) ck mv mm tg gn wc (u 12) g1 g2 g3 ++ (RWW g.2.1 ar wf wt wn rmv rmi ++ (RWW g.2.1 ab bfz_3 btz_3 bnz_3 bmvz_3 bmiz_3)))) rfl ?_
    refine fin 0 0 _ _ _ (by decide) (by decide) dX3_seek_16 (?_)
    exact ⟨_, _, _, _, _, _, _, _, _, _, _, _, _, _, _, _, _, rfl, hY, hR, by rw [vis_made hmu]; exact hKz_3⟩
