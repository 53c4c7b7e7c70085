set_option maxHeartbeats 4000000 in
set_option maxRecDepth 100000 in
theorem ct_X3_seek_2 (g : GG) (l : Launch) (a ab ar : Nat → Nat) (wf wt wn bf bt bn : Nat → Nat) (rmv rmi bmv bmi : Nat) (wa wi wo : Nat → Nat) (hb : Nat) (ay : Nat → Nat) (u st ds le wg : Nat → Nat) (te : Nat → Int32) (ck mv mm tg gn wc g1 g2 g3 : Nat) (ro : List MV) (mt : Nat) (bb : BST) (hY : YA u st ds le wg) (hG : GU u) (hN : GN u) (hl1 : u 12 ≠ 0) (hR : RRc rmv rmi wf wt wn ro mt) (hB : BRc hb bmv bmi bf bt bn bb) (hK1 : 1 ≤ u 4) (hlr : ro.length + 2 ≤ 3) : CtV g l yX3_seek cX3_seek 8 (rmK 10 0 0) (SEW g.2.1 a (ab 0) (ay 0) (ar 0) wa wi wo hb ++ (YW g.2.1 ay st ds le wg te (u 4) (u 5) ck mv mm tg gn wc (u 12) g1 g2 g3 ++ (RWW g.2.1 ar wf wt wn rmv rmi ++ (RWW g.2.1 ab bf bt bn bmv bmi)))) [.ref (a 0), .int (nI 2)] (fun W1 => ∃ wa2 wi2 wo2 hb2 le2 wg2 g4 g5 g6 wf2 wt2 wn2 bmv2 bmi2 bf2 bt2 bn2, W1 = SEW g.2.1 a (ab 0) (ay 0) (ar 0) wa2 wi2 wo2 hb2 ++ (YW g.2.1 ay st ds le2 wg2 te (u 4) (u 5) ck mv mm tg gn wc (u 12) g4 g5 g6 ++ (RWW g.2.1 ar wf2 wt2 wn2 rmv rmi ++ (RWW g.2.1 ab bf2 bt2 bn2 bmv2 bmi2))) ∧ SK u st ds le2 wg2 rmv rmi bmv2 bmi2 hb2 wf2 wt2 wn2 bf2 bt2 bn2 ro mt (vis 2 u ro mt bb)) := by
  refine CtV.go RX3 rfl (by decide +kernel) (Nat.le_of_ble_eq_true rfl) ?_
  intro p e s m args below meth c A H0 Q hc hnm fin
  obtain ⟨hK4, hC8, hv2, hg3, hm, hdk, h13, h12⟩ := id hG
  obtain ⟨hr1, hr2, hr3, hr4, hr5⟩ := id hR
  have hb1 := BRc_b hB
  show KW g p l e (rmK 10 0 0) s m args below meth c 8 A H0 0 0 Q (SEW g.2.1 a (ab 0) (ay 0) (ar 0) wa wi wo hb ++ (YW g.2.1 ay st ds le wg te (u 4) (u 5) ck mv mm tg gn wc (u 12) g1 g2 g3 ++ (RWW g.2.1 ar wf wt wn rmv rmi ++ (RWW g.2.1 ab bf bt bn bmv bmi)))) [(0, .ref (a 0)), (1, .int (nI 2))] 0 []
  refine zk_aload_n hc dX3_seek_0 0 rfl ?_
  refine zk_get hc inlX3 (ci := 3) rfl 0 2 (by decide) mw_3_17 rfl rfl rfl dX3_seek_1 ?_
  refine zk_callVi hc (rest := []) (ct_X5_madeUpTrack g l ay u st ds le wg te ck mv mm tg gn wc g1 g2 g3 hY hG hN) gg_X3_70 cd_X5_madeUpTrack ⟨Nat.le_of_ble_eq_true rfl, Nat.le_of_ble_eq_true rfl⟩ ⟨Nat.le_of_ble_eq_true rfl, Nat.le_of_ble_eq_true rfl⟩ (SEW g.2.1 a (ab 0) (ay 0) (ar 0) wa wi wo hb) (RWW g.2.1 ar wf wt wn rmv rmi ++ (RWW g.2.1 ab bf bt bn bmv bmi)) rfl 4 rfl rfl rfl (Nat.le_of_ble_eq_true rfl) dX3_seek_4 (fun r W1 hp => ?_)
  obtain ⟨rfl, rfl⟩ := hp
  refine zk_ws (ws2 := SEW g.2.1 a (ab 0) (ay 0) (ar 0) wa wi wo hb ++ (YW g.2.1 ay st ds le wg te (u 4) (u 5) ck mv mm tg gn wc (u 12) g1 g2 g3 ++ (RWW g.2.1 ar wf wt wn rmv rmi ++ (RWW g.2.1 ab bf bt bn bmv bmi)))) rfl ?_
  refine zk_bipush hc ((-9)) dX3_seek_7 rfl ?_
  refine zk_icmp_eq hc 17 dX3_seek_9 (by decide) (fun hmu => ?_) (fun hmu => ?_)
  · refine zk_aload_n hc dX3_seek_17 0 rfl ?_
    refine zk_callVi hc (rest := []) (ct_X3_movesNeeded g l a (ab 0) (ar 0) wa wi wo hb ay u st ds le wg te ck mv mm tg gn wc g1 g2 g3 hY hG hN hl1 (by omega)) gg_X3_76 cd_X3_movesNeeded ⟨Nat.le_of_ble_eq_true rfl, Nat.le_of_ble_eq_true rfl⟩ ⟨Nat.le_of_ble_eq_true rfl, Nat.le_of_ble_eq_true rfl⟩ ([]) (RWW g.2.1 ar wf wt wn rmv rmi ++ (RWW g.2.1 ab bf bt bn bmv bmi)) rfl 0 rfl rfl rfl (Nat.le_of_ble_eq_true rfl) dX3_seek_18 (fun r W1 hp => ?_)
    obtain ⟨rfl, waz_1, wiz_1, woz_1, rfl⟩ := hp
    refine zk_ws (ws2 := SEW g.2.1 a (ab 0) (ay 0) (ar 0) waz_1 wiz_1 woz_1 hb ++ (YW g.2.1 ay st ds le wg te (u 4) (u 5) ck mv mm tg gn wc (u 12) g1 g2 g3 ++ (RWW g.2.1 ar wf wt wn rmv rmi ++ (RWW g.2.1 ab bf bt bn bmv bmi)))) rfl ?_
    have hn6 := needU_6 hK4
    refine zk_istore_n hc (lv2 := [(2, .int (nI (needU u))), (0, .ref (a 0)), (1, .int (nI 2))]) dX3_seek_21 (by decide) rfl ?_
    refine zk_iload_n hc dX3_seek_22 2 rfl ?_
    refine zk_if_leN hc 39 dX3_seek_23 (by decide) (by omega) (fun h_2 => ?_) (fun h_2 => ?_)
    · exact absurd h_2 (by decide)
    · refine zk_iload_n hc dX3_seek_26 0 rfl ?_
      refine zk_iload_n hc dX3_seek_27 2 rfl ?_
      refine zk_icmp_gtN hc 39 dX3_seek_28 (by decide) (by omega) (by omega) (fun h28 => ?_) (fun h28 => ?_)
      · refine fin 0 0 _ _ _ (by decide) (by decide) dX3_seek_39 (?_)
        exact ⟨_, _, _, _, _, _, _, _, _, _, _, _, _, _, _, _, _, rfl, hY, hR, by rw [vis_need hG.Cw h28]; exact hB⟩
      · refine zk_aload_n hc dX3_seek_31 1 rfl ?_
        refine zk_iload_n hc dX3_seek_32 0 rfl ?_
        refine zk_callVi hc (rest := []) (ct_X3_isTooDear g l a ab ar wf wt wn bf bt bn rmv rmi bmv bmi waz_1 wiz_1 woz_1 hb ay u st ds le wg te ck mv mm tg gn wc g1 g2 g3 ro mt bb hY hG hN hl1 hR hB (needU u) (by omega)) gg_X3_79 cd_X3_isTooDear ⟨Nat.le_of_ble_eq_true rfl, Nat.le_of_ble_eq_true rfl⟩ ⟨Nat.le_of_ble_eq_true rfl, Nat.le_of_ble_eq_true rfl⟩ ([]) ([]) rfl 0 rfl rfl rfl (Nat.le_of_ble_eq_true rfl) dX3_seek_33 (fun r W1 hp => ?_)
        obtain ⟨rfl, rfl⟩ := hp
        refine zk_ws (ws2 := SEW g.2.1 a (ab 0) (ay 0) (ar 0) waz_1 wiz_1 woz_1 hb ++ (YW g.2.1 ay st ds le wg te (u 4) (u 5) ck mv mm tg gn wc (u 12) g1 g2 g3 ++ (RWW g.2.1 ar wf wt wn rmv rmi ++ (RWW g.2.1 ab bf bt bn bmv bmi)))) rfl ?_
        by_cases hde : hb ≠ 0 ∧ bmi < rmi + (needU u) * (u 2 + 1 + 2)
        · refine zk_top (y := nI 1) (if_pos hde) ?_
          refine zk_if_eqN hc 40 dX3_seek_36 (by decide) (by omega) (fun h_3 => ?_) (fun h_3 => ?_)
          · exact absurd h_3 (by decide)
          · refine fin 0 0 _ _ _ (by decide) (by decide) dX3_seek_39 (?_)
            obtain ⟨hd1, hd2⟩ := hde
            obtain ⟨hb120, hb3, z, hz, hz1, hz2⟩ := BRc_1 hB hd1
            subst hz
            obtain ⟨z1, z2⟩ := z
            exact ⟨_, _, _, _, _, _, _, _, _, _, _, _, _, _, _, _, _, rfl, hY, hR, by rw [vis_costly hG.Cw (by have e : bmi = z1 := hz1; exact (show z1 < mt + needU u * (u 2 + 1 + 2) by omega))]; exact hB⟩
        · refine zk_top (y := nI 0) (if_neg hde) ?_
          refine zk_if_eqN hc 40 dX3_seek_36 (by decide) (by omega) (fun h_4 => ?_) (fun h_4 => ?_)
          · refine zk_iconst hc (nI 0) dX3_seek_40 rfl ?_
            refine zk_istore_n hc (lv2 := [(3, .int (nI 0)), (2, .int (nI (needU u))), (0, .ref (a 0)), (1, .int (nI 2))]) dX3_seek_41 (by decide) rfl ?_
            have loop42 : ∀ (N : Nat) (f : Nat) (wa1 : Nat → Nat) (wi1 : Nat → Nat) (wo1 : Nat → Nat) (hb1 : Nat) (le1 : Nat → Nat) (wg1 : Nat → Nat) (g4_1 : Nat) (g5_1 : Nat) (g6_1 : Nat) (wf1 : Nat → Nat) (wt1 : Nat → Nat) (wn1 : Nat → Nat) (bmv1 : Nat) (bmi1 : Nat) (bf1 : Nat → Nat) (bt1 : Nat → Nat) (bn1 : Nat → Nat), u 4 - f < N → (f ≤ u 4) → (YA u st ds le1 wg1 ∧ RRc rmv rmi wf1 wt1 wn1 ro mt ∧ BRc hb1 bmv1 bmi1 bf1 bt1 bn1 (fF (vis 1) u ro mt f bb)) → KW g p l e (rmK 10 0 0) s m args below meth c 8 A H0 0 0 Q (SEW g.2.1 a (ab 0) (ay 0) (ar 0) wa1 wi1 wo1 hb1 ++ (YW g.2.1 ay st ds le1 wg1 te (u 4) (u 5) ck mv mm tg gn wc (u 12) g4_1 g5_1 g6_1 ++ (RWW g.2.1 ar wf1 wt1 wn1 rmv rmi ++ (RWW g.2.1 ab bf1 bt1 bn1 bmv1 bmi1)))) [(0, .ref (a 0)), (1, .int (nI 2)), (3, .int (nI f))] 42 [] := by
              intro N
              induction N with
              | zero => intro f wa1 wi1 wo1 hb1 le1 wg1 g4_1 g5_1 g6_1 wf1 wt1 wn1 bmv1 bmi1 bf1 bt1 bn1 hm; exact absurd hm (Nat.not_lt_zero _)
              | succ N ih42 =>
                intro f wa1 wi1 wo1 hb1 le1 wg1 g4_1 g5_1 g6_1 wf1 wt1 wn1 bmv1 bmi1 bf1 bt1 bn1 hm42 hf hS1
                obtain ⟨hY, hR, hB⟩ := hS1
                refine zk_iload_n hc dX3_seek_42 2 rfl ?_
                refine zk_aload_n hc dX3_seek_43 0 rfl ?_
                refine zk_get hc inlX3 (ci := 3) rfl 0 2 (by decide) mw_3_17 rfl rfl rfl dX3_seek_44 ?_
                refine zk_get hc inlX5 (ci := 5) rfl 4 0 (by decide) mw_15_0 rfl rfl rfl dX3_seek_47 ?_
                refine zk_icmp_geN hc 138 dX3_seek_50 (by decide) (by omega) (by omega) (fun h_5 => ?_) (fun h_5 => ?_)
                · refine fin 0 0 _ _ _ (by decide) (by decide) dX3_seek_138 (?_)
                  exact ⟨_, _, _, _, _, _, _, _, _, _, _, _, _, _, _, _, _, rfl, hY, hR, by rw [vis_go (by decide) (not_not_intro hmu), show u 4 = f by omega]; exact hB⟩
                · refine zk_aload_n hc dX3_seek_53 0 rfl ?_
                  refine zk_get hc inlX3 (ci := 3) rfl 0 2 (by decide) mw_3_17 rfl rfl rfl dX3_seek_54 ?_
                  refine zk_get hc inlX5 (ci := 5) rfl 4 11 (by decide) mw_15_1 rfl rfl rfl dX3_seek_57 ?_
                  refine zk_iload_n hc dX3_seek_60 2 rfl ?_
                  refine zk_ialdN hc 7 rfl (by omega) (by decide) dX3_seek_61 ?_
                  refine zk_top (y := nI (mny u f)) (yle hY (by omega)) ?_
                  refine zk_istore hc (lv2 := [(4, .int (nI (mny u f))), (0, .ref (a 0)), (1, .int (nI 2)), (3, .int (nI f))]) dX3_seek_62 (by decide) rfl ?_
                  refine zk_iconst hc (nI 0) dX3_seek_64 rfl ?_
                  refine zk_istore hc (lv2 := [(5, .int (nI 0)), (4, .int (nI (mny u f))), (0, .ref (a 0)), (1, .int (nI 2)), (3, .int (nI f))]) dX3_seek_65 (by decide) rfl ?_
                  have loop67 : ∀ (N : Nat) (t : Nat) (wa2 : Nat → Nat) (wi2 : Nat → Nat) (wo2 : Nat → Nat) (hb2 : Nat) (le2 : Nat → Nat) (wg2 : Nat → Nat) (g4_2 : Nat) (g5_2 : Nat) (g6_2 : Nat) (wf2 : Nat → Nat) (wt2 : Nat → Nat) (wn2 : Nat → Nat) (bmv2 : Nat) (bmi2 : Nat) (bf2 : Nat → Nat) (bt2 : Nat → Nat) (bn2 : Nat → Nat), u 4 - t < N → (t ≤ u 4) → (YA u st ds le2 wg2 ∧ RRc rmv rmi wf2 wt2 wn2 ro mt ∧ BRc hb2 bmv2 bmi2 bf2 bt2 bn2 (fT (vis 1) u ro mt f t (fF (vis 1) u ro mt f bb))) → KW g p l e (rmK 10 0 0) s m args below meth c 8 A H0 0 0 Q (SEW g.2.1 a (ab 0) (ay 0) (ar 0) wa2 wi2 wo2 hb2 ++ (YW g.2.1 ay st ds le2 wg2 te (u 4) (u 5) ck mv mm tg gn wc (u 12) g4_2 g5_2 g6_2 ++ (RWW g.2.1 ar wf2 wt2 wn2 rmv rmi ++ (RWW g.2.1 ab bf2 bt2 bn2 bmv2 bmi2)))) [(0, .ref (a 0)), (1, .int (nI 2)), (3, .int (nI f)), (4, .int (nI (mny u f))), (5, .int (nI t))] 67 [] := by
                    intro N
                    induction N with
                    | zero => intro t wa2 wi2 wo2 hb2 le2 wg2 g4_2 g5_2 g6_2 wf2 wt2 wn2 bmv2 bmi2 bf2 bt2 bn2 hm; exact absurd hm (Nat.not_lt_zero _)
                    | succ N ih67 =>
                      intro t wa2 wi2 wo2 hb2 le2 wg2 g4_2 g5_2 g6_2 wf2 wt2 wn2 bmv2 bmi2 bf2 bt2 bn2 hm67 ht hS2
                      obtain ⟨hY, hR, hB⟩ := hS2
                      refine zk_iload hc dX3_seek_67 4 rfl ?_
                      refine zk_aload_n hc dX3_seek_69 0 rfl ?_
                      refine zk_get hc inlX3 (ci := 3) rfl 0 2 (by decide) mw_3_17 rfl rfl rfl dX3_seek_70 ?_
                      refine zk_get hc inlX5 (ci := 5) rfl 4 0 (by decide) mw_15_0 rfl rfl rfl dX3_seek_73 ?_
                      refine zk_icmp_geN hc 132 dX3_seek_76 (by decide) (by omega) (by omega) (fun h_6 => ?_) (fun h_6 => ?_)
                      · refine zk_iinc hc (v := nI (f + 1)) (lv2 := [(3, .int (nI (f + 1))), (0, .ref (a 0)), (1, .int (nI 2)), (4, .int (nI (mny u f))), (5, .int (nI t))]) dX3_seek_132 2 rfl (nq_inc rfl) (by decide) rfl ?_
                        refine zk_goto hc 42 dX3_seek_135 (by decide) ?_
                        refine zk_lv [1, 2, 0] (lv2 := [(0, .ref (a 0)), (1, .int (nI 2)), (3, .int (nI (f + 1)))]) rfl ?_
                        exact ih42 (f + 1) wa2 wi2 wo2 hb2 le2 wg2 g4_2 g5_2 g6_2 wf2 wt2 wn2 bmv2 bmi2 bf2 bt2 bn2 (by omega) (by omega) ⟨hY, hR, (by unfold fF; rw [show u 4 = t by omega]; exact hB)⟩
                      · refine zk_iconst hc (nI 1) dX3_seek_79 rfl ?_
                        refine zk_istore hc (lv2 := [(6, .int (nI 1)), (0, .ref (a 0)), (1, .int (nI 2)), (3, .int (nI f)), (4, .int (nI (mny u f))), (5, .int (nI t))]) dX3_seek_80 (by decide) rfl ?_
                        have loop82 : ∀ (N : Nat) (n : Nat) (wa3 : Nat → Nat) (wi3 : Nat → Nat) (wo3 : Nat → Nat) (hb3 : Nat) (le3 : Nat → Nat) (wg3 : Nat → Nat) (g4_3 : Nat) (g5_3 : Nat) (g6_3 : Nat) (wf3 : Nat → Nat) (wt3 : Nat → Nat) (wn3 : Nat → Nat) (bmv3 : Nat) (bmi3 : Nat) (bf3 : Nat → Nat) (bt3 : Nat → Nat) (bn3 : Nat → Nat), mny u f - n < N → (n ≤ mny u f) → (YA u st ds le3 wg3 ∧ RRc rmv rmi wf3 wt3 wn3 ro mt ∧ BRc hb3 bmv3 bmi3 bf3 bt3 bn3 (fN (vis 1) u ro mt f t n (fT (vis 1) u ro mt f t (fF (vis 1) u ro mt f bb)))) → KW g p l e (rmK 10 0 0) s m args below meth c 8 A H0 0 0 Q (SEW g.2.1 a (ab 0) (ay 0) (ar 0) wa3 wi3 wo3 hb3 ++ (YW g.2.1 ay st ds le3 wg3 te (u 4) (u 5) ck mv mm tg gn wc (u 12) g4_3 g5_3 g6_3 ++ (RWW g.2.1 ar wf3 wt3 wn3 rmv rmi ++ (RWW g.2.1 ab bf3 bt3 bn3 bmv3 bmi3)))) [(0, .ref (a 0)), (1, .int (nI 2)), (3, .int (nI f)), (4, .int (nI (mny u f))), (5, .int (nI t)), (6, .int (nI (n + 1)))] 82 [] := by
                          intro N
                          induction N with
                          | zero => intro n wa3 wi3 wo3 hb3 le3 wg3 g4_3 g5_3 g6_3 wf3 wt3 wn3 bmv3 bmi3 bf3 bt3 bn3 hm; exact absurd hm (Nat.not_lt_zero _)
                          | succ N ih82 =>
                            intro n wa3 wi3 wo3 hb3 le3 wg3 g4_3 g5_3 g6_3 wf3 wt3 wn3 bmv3 bmi3 bf3 bt3 bn3 hm82 hn hS3
                            obtain ⟨hY, hR, hB⟩ := hS3
                            refine zk_iload hc dX3_seek_82 5 rfl ?_
                            refine zk_iload hc dX3_seek_84 3 rfl ?_
                            refine zk_icmp_gtN hc 126 dX3_seek_86 (by decide) (by have := hm f (by omega); omega) (by have := hm f (by omega); omega) (fun h_7 => ?_) (fun h_7 => ?_)
                            · refine zk_iinc hc (v := nI (t + 1)) (lv2 := [(5, .int (nI (t + 1))), (0, .ref (a 0)), (1, .int (nI 2)), (3, .int (nI f)), (4, .int (nI (mny u f))), (6, .int (nI (n + 1)))]) dX3_seek_126 4 rfl (nq_inc rfl) (by decide) rfl ?_
                              refine zk_goto hc 67 dX3_seek_129 (by decide) ?_
                              refine zk_lv [1, 2, 3, 4, 0] (lv2 := [(0, .ref (a 0)), (1, .int (nI 2)), (3, .int (nI f)), (4, .int (nI (mny u f))), (5, .int (nI (t + 1)))]) rfl ?_
                              exact ih67 (t + 1) wa3 wi3 wo3 hb3 le3 wg3 g4_3 g5_3 g6_3 wf3 wt3 wn3 bmv3 bmi3 bf3 bt3 bn3 (by omega) (by omega) ⟨hY, hR, (by unfold fT; rw [show mny u f = n by omega]; exact hB)⟩
                            · refine zk_aload_n hc dX3_seek_89 0 rfl ?_
                              refine zk_get hc inlX3 (ci := 3) rfl 0 2 (by decide) mw_3_17 rfl rfl rfl dX3_seek_90 ?_
                              refine zk_iload_n hc dX3_seek_93 2 rfl ?_
                              refine zk_iload hc dX3_seek_94 4 rfl ?_
                              refine zk_iload hc dX3_seek_96 5 rfl ?_
                              refine zk_callVi hc (rest := []) (ct_X5_costOrCode g l ay u st ds le3 wg3 te ck mv mm tg gn wc g4_3 g5_3 g6_3 hY hG hN (nI f) (nI t) (nI (n + 1)) (by omega)) gg_X3_89 cd_X5_costOrCode ⟨Nat.le_of_ble_eq_true rfl, Nat.le_of_ble_eq_true rfl⟩ ⟨Nat.le_of_ble_eq_true rfl, Nat.le_of_ble_eq_true rfl⟩ (SEW g.2.1 a (ab 0) (ay 0) (ar 0) wa3 wi3 wo3 hb3) (RWW g.2.1 ar wf3 wt3 wn3 rmv rmi ++ (RWW g.2.1 ab bf3 bt3 bn3 bmv3 bmi3)) rfl 4 rfl rfl rfl (Nat.le_of_ble_eq_true rfl) dX3_seek_98 (fun r W1 hp => ?_)
                              obtain ⟨rfl, g4z_8, g5z_8, g6z_8, rfl⟩ := hp
                              refine zk_ws (ws2 := SEW g.2.1 a (ab 0) (ay 0) (ar 0) wa3 wi3 wo3 hb3 ++ (YW g.2.1 ay st ds le3 wg3 te (u 4) (u 5) ck mv mm tg gn wc (u 12) g4z_8 g5z_8 g6z_8 ++ (RWW g.2.1 ar wf3 wt3 wn3 rmv rmi ++ (RWW g.2.1 ab bf3 bt3 bn3 bmv3 bmi3)))) rfl ?_
                              refine zk_istore hc (lv2 := [(7, .int (aCos u (nI f) (nI t) (nI (n + 1)))), (0, .ref (a 0)), (1, .int (nI 2)), (3, .int (nI f)), (4, .int (nI (mny u f))), (5, .int (nI t)), (6, .int (nI (n + 1)))]) dX3_seek_101 (by decide) rfl ?_
                              refine zk_iload hc dX3_seek_103 0 rfl ?_
                              refine zk_if_lt hc 120 dX3_seek_105 (by decide) (fun hlt => ?_) (fun hlt => ?_)
                              · refine zk_iinc hc (v := nI (n + 1 + 1)) (lv2 := [(6, .int (nI (n + 1 + 1))), (7, .int (aCos u (nI f) (nI t) (nI (n + 1)))), (0, .ref (a 0)), (1, .int (nI 2)), (3, .int (nI f)), (4, .int (nI (mny u f))), (5, .int (nI t))]) dX3_seek_120 6 rfl (nq_inc rfl) (by decide) rfl ?_
                                refine zk_goto hc 82 dX3_seek_123 (by decide) ?_
                                refine zk_lv [2, 3, 4, 5, 6, 0] (lv2 := [(0, .ref (a 0)), (1, .int (nI 2)), (3, .int (nI f)), (4, .int (nI (mny u f))), (5, .int (nI t)), (6, .int (nI (n + 1 + 1)))]) rfl ?_
                                exact ih82 (n + 1) wa3 wi3 wo3 hb3 le3 wg3 g4z_8 g5z_8 g6z_8 wf3 wt3 wn3 bmv3 bmi3 bf3 bt3 bn3 (by omega) (by omega) ⟨hY, hR, (by unfold fN; rw [coc_neg hK4 (by omega) (by omega) (by omega) (by have := hm f (by omega); omega) hlt]; exact hB)⟩
                              · obtain ⟨ho, hco⟩ := coc_pos hK4 (show f < u 4 by omega) (show t < u 4 by omega) (show 1 ≤ n + 1 by omega) (by have := hm f (by omega); omega) (by omega) hlt
                                refine zk_aload_n hc dX3_seek_108 1 rfl ?_
                                refine zk_iload_n hc dX3_seek_109 3 rfl ?_
                                refine zk_iload hc dX3_seek_110 5 rfl ?_
                                refine zk_iload hc dX3_seek_112 6 rfl ?_
                                refine zk_iload hc dX3_seek_114 0 rfl ?_
                                refine zk_top (y := nI (mins u f t (n + 1))) hco ?_
                                refine zk_iload_n hc dX3_seek_116 2 rfl ?_
                                refine zk_callVv hc (rest := []) (ct_X3_behind_2 g l a ab ar wf3 wt3 wn3 bf3 bt3 bn3 rmv rmi bmv3 bmi3 wa3 wi3 wo3 hb3 ay u st ds le3 wg3 te ck mv mm tg gn wc g4z_8 g5z_8 g6z_8 ro mt (fN (vis 1) u ro mt f t n (fT (vis 1) u ro mt f t (fF (vis 1) u ro mt f bb))) hY hG hN hl1 hR hB (by omega) hlr f t (n + 1) ho) gg_X3_93 cd_X3_seekBehindMove ⟨Nat.le_of_ble_eq_true rfl, Nat.le_of_ble_eq_true rfl⟩ ⟨Nat.le_of_ble_eq_true rfl, Nat.le_of_ble_eq_true rfl⟩ ([]) ([]) rfl 0 rfl rfl rfl (Nat.le_of_ble_eq_true rfl) dX3_seek_117 (fun W1 hp => ?_)
                                obtain ⟨waz_9, wiz_9, woz_9, hbz_9, lez_9, wgz_9, g4z_9, g5z_9, g6z_9, wfz_9, wtz_9, wnz_9, bmvz_9, bmiz_9, bfz_9, btz_9, bnz_9, rfl, hY, hR, hB⟩ := hp
                                refine zk_ws (ws2 := SEW g.2.1 a (ab 0) (ay 0) (ar 0) waz_9 wiz_9 woz_9 hbz_9 ++ (YW g.2.1 ay st ds lez_9 wgz_9 te (u 4) (u 5) ck mv mm tg gn wc (u 12) g4z_9 g5z_9 g6z_9 ++ (RWW g.2.1 ar wfz_9 wtz_9 wnz_9 rmv rmi ++ (RWW g.2.1 ab bfz_9 btz_9 bnz_9 bmvz_9 bmiz_9)))) rfl ?_
                                refine zk_iinc hc (v := nI (n + 1 + 1)) (lv2 := [(6, .int (nI (n + 1 + 1))), (7, .int (aCos u (nI f) (nI t) (nI (n + 1)))), (0, .ref (a 0)), (1, .int (nI 2)), (3, .int (nI f)), (4, .int (nI (mny u f))), (5, .int (nI t))]) dX3_seek_120 6 rfl (nq_inc rfl) (by decide) rfl ?_
                                refine zk_goto hc 82 dX3_seek_123 (by decide) ?_
                                refine zk_lv [2, 3, 4, 5, 6, 0] (lv2 := [(0, .ref (a 0)), (1, .int (nI 2)), (3, .int (nI f)), (4, .int (nI (mny u f))), (5, .int (nI t)), (6, .int (nI (n + 1 + 1)))]) rfl ?_
                                exact ih82 (n + 1) waz_9 wiz_9 woz_9 hbz_9 lez_9 wgz_9 g4z_9 g5z_9 g6z_9 wfz_9 wtz_9 wnz_9 bmvz_9 bmiz_9 bfz_9 btz_9 bnz_9 (by omega) (by omega) ⟨hY, hR, (by unfold fN; rw [stp_ok ho]; exact hB)⟩
                        refine zk_lv [1, 2, 3, 4, 5, 0] (lv2 := [(0, .ref (a 0)), (1, .int (nI 2)), (3, .int (nI f)), (4, .int (nI (mny u f))), (5, .int (nI t)), (6, .int (nI 1))]) rfl ?_
                        exact loop82 ((mny u f - 0) + 1) 0 wa2 wi2 wo2 hb2 le2 wg2 g4_2 g5_2 g6_2 wf2 wt2 wn2 bmv2 bmi2 bf2 bt2 bn2 (Nat.lt_succ_self _) (Nat.zero_le _) ⟨hY, hR, hB⟩
                  refine zk_lv [2, 3, 4, 1, 0] (lv2 := [(0, .ref (a 0)), (1, .int (nI 2)), (3, .int (nI f)), (4, .int (nI (mny u f))), (5, .int (nI 0))]) rfl ?_
                  exact loop67 ((u 4 - 0) + 1) 0 wa1 wi1 wo1 hb1 le1 wg1 g4_1 g5_1 g6_1 wf1 wt1 wn1 bmv1 bmi1 bf1 bt1 bn1 (Nat.lt_succ_self _) (Nat.zero_le _) ⟨hY, hR, hB⟩
            refine zk_lv [2, 3, 0] (lv2 := [(0, .ref (a 0)), (1, .int (nI 2)), (3, .int (nI 0))]) rfl ?_
            exact loop42 ((u 4 - 0) + 1) 0 waz_1 wiz_1 woz_1 hb le wg g1 g2 g3 wf wt wn bmv bmi bf bt bn (Nat.lt_succ_self _) (Nat.zero_le _) ⟨hY, hR, hB⟩
          · exact absurd h_4 (by decide)
  · refine zk_aload_n hc dX3_seek_12 0 rfl ?_
    refine zk_callVv hc (rest := []) (ct_X3_keepIfCheaper g l a ab ar wf wt wn bf bt bn rmv rmi bmv bmi wa wi wo hb ay u st ds le wg te ck mv mm tg gn wc g1 g2 g3 ro mt bb hY hG hN hl1 hR hB) gg_X3_73 cd_X3_keepIfCheaper ⟨Nat.le_of_ble_eq_true rfl, Nat.le_of_ble_eq_true rfl⟩ ⟨Nat.le_of_ble_eq_true rfl, Nat.le_of_ble_eq_true rfl⟩ ([]) ([]) rfl 0 rfl rfl rfl (Nat.le_of_ble_eq_true rfl) dX3_seek_13 (fun W1 hp => ?_)
    obtain ⟨hbz_10, bmvz_10, bmiz_10, bfz_10, btz_10, bnz_10, rfl, hKz_10⟩ := hp
    refine zk_ws (ws2 := SEW g.2.1 a (ab 0) (ay 0) (ar 0) wa wi wo hbz_10 ++ (YW g.2.1 ay st ds le wg te (u 4) (u 5) ck mv mm tg gn wc (u 12) g1 g2 g3 ++ (RWW g.2.1 ar wf wt wn rmv rmi ++ (RWW g.2.1 ab bfz_10 btz_10 bnz_10 bmvz_10 bmiz_10)))) rfl ?_
    refine fin 0 0 _ _ _ (by decide) (by decide) dX3_seek_16 (?_)
    exact ⟨_, _, _, _, _, _, _, _, _, _, _, _, _, _, _, _, _, rfl, hY, hR, by rw [vis_made hmu]; exact hKz_10⟩
