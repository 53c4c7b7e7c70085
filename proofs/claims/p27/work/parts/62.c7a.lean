set_option maxHeartbeats 4000000 in
set_option maxRecDepth 100000 in
theorem ct_X3_succeeds_0 (g : GG) (l : Launch) (a ab ar ay a5 : Nat → Nat) (wf wt wn bf bt bn : Nat → Nat) (rmv rmi bmv bmi : Nat) (wa wi wo : Nat → Nat) (hb : Nat) (st0 ds0 le0 wg0 : Nat → Nat) (te0 : Nat → Int32) (K0 C0 ck0 mv0 mm0 tg0 gn0 wc0 tn0 g10 g20 g30 : Nat) (u st ds le wg : Nat → Nat) (te : Nat → Int32) (ck mv mm tg gn wc g1 g2 g3 : Nat) (hY : YA u st ds le wg) (hG : GU u) (hN : GN u) (hK1 : 1 ≤ u 4) (hM : fitK u) : CtI g l yX3_succeeds cX3_succeeds 4 (some .boolean) (rmK 13 0 0) (SEW g.2.1 a (ab 0) (ay 0) (ar 0) wa wi wo hb ++ (YW g.2.1 ay st0 ds0 le0 wg0 te0 K0 C0 ck0 mv0 mm0 tg0 gn0 wc0 tn0 g10 g20 g30 ++ (RWW g.2.1 ar wf wt wn rmv rmi ++ (RWW g.2.1 ab bf bt bn bmv bmi ++ (YW g.2.1 a5 st ds le wg te (u 4) (u 5) ck mv mm tg gn wc (u 12) g1 g2 g3))))) [.ref (a 0), .ref (a5 0), .int (nI 0)] (fun r W1 => ∃ wa2 wi2 wo2 hb2 st2 ds2 le2 wg2 te2 K2 C2 ck2 mv2 mm2 tg2 gn2 wc2 tn2 g12 g22 g32 wf2 wt2 wn2 rmv2 rmi2 bmv2 bmi2 bf2 bt2 bn2, r = nI hb2 ∧ W1 = SEW g.2.1 a (ab 0) (ay 0) (ar 0) wa2 wi2 wo2 hb2 ++ (YW g.2.1 ay st2 ds2 le2 wg2 te2 K2 C2 ck2 mv2 mm2 tg2 gn2 wc2 tn2 g12 g22 g32 ++ (RWW g.2.1 ar wf2 wt2 wn2 rmv2 rmi2 ++ (RWW g.2.1 ab bf2 bt2 bn2 bmv2 bmi2 ++ (YW g.2.1 a5 st ds le wg te (u 4) (u 5) ck mv mm tg gn wc (u 12) g1 g2 g3)))) ∧ BRc hb2 bmv2 bmi2 bf2 bt2 bn2 (vis 0 u [] 0 none)) := by
  refine CtZ.go RX3 rfl (by decide +kernel) (Nat.le_of_ble_eq_true rfl) ?_
  intro p e s m args below meth c A H0 Q hc hnm fin
  obtain ⟨hK4, hC8, hv2, hg3, hm, hdk, h13, h12⟩ := id hG
  show KW g p l e (rmK 13 0 0) s m args below meth c 4 A H0 0 0 Q (SEW g.2.1 a (ab 0) (ay 0) (ar 0) wa wi wo hb ++ (YW g.2.1 ay st0 ds0 le0 wg0 te0 K0 C0 ck0 mv0 mm0 tg0 gn0 wc0 tn0 g10 g20 g30 ++ (RWW g.2.1 ar wf wt wn rmv rmi ++ (RWW g.2.1 ab bf bt bn bmv bmi ++ (YW g.2.1 a5 st ds le wg te (u 4) (u 5) ck mv mm tg gn wc (u 12) g1 g2 g3))))) [(0, .ref (a 0)), (1, .ref (a5 0)), (2, .int (nI 0))] 0 []
  refine zk_aload_n hc dX3_succeeds_0 0 rfl ?_
  refine zk_iconst hc (nI 0) dX3_succeeds_1 rfl ?_
  refine zk_put hc inlX3 (ci := 3) rfl tyX3 tyX3_ok nmX3 0 1 (by decide) mw_14_8 rfl rfl rfl rfl rfl (Nat.le_of_ble_eq_true rfl) (ws2 := SEW g.2.1 a (ab 0) (ay 0) (ar 0) wa wi wo 0 ++ (YW g.2.1 ay st0 ds0 le0 wg0 te0 K0 C0 ck0 mv0 mm0 tg0 gn0 wc0 tn0 g10 g20 g30 ++ (RWW g.2.1 ar wf wt wn rmv rmi ++ (RWW g.2.1 ab bf bt bn bmv bmi ++ (YW g.2.1 a5 st ds le wg te (u 4) (u 5) ck mv mm tg gn wc (u 12) g1 g2 g3))))) rfl dX3_succeeds_2 ?_
  refine zk_aload_n hc dX3_succeeds_5 0 rfl ?_
  refine zk_get hc inlX3 (ci := 3) rfl 0 0 (by decide) mw_3_15 rfl rfl rfl dX3_succeeds_6 ?_
  refine zk_callVv hc (rest := []) (ct_X2_clear g l ab bf bt bn bmv bmi) gg_X3_42 cd_X2_clear ⟨Nat.le_of_ble_eq_true rfl, Nat.le_of_ble_eq_true rfl⟩ ⟨Nat.le_of_ble_eq_true rfl, Nat.le_of_ble_eq_true rfl⟩ (SEW g.2.1 a (ab 0) (ay 0) (ar 0) wa wi wo 0 ++ (YW g.2.1 ay st0 ds0 le0 wg0 te0 K0 C0 ck0 mv0 mm0 tg0 gn0 wc0 tn0 g10 g20 g30 ++ (RWW g.2.1 ar wf wt wn rmv rmi))) (YW g.2.1 a5 st ds le wg te (u 4) (u 5) ck mv mm tg gn wc (u 12) g1 g2 g3) rfl 15 rfl rfl rfl (Nat.le_of_ble_eq_true rfl) dX3_succeeds_9 (fun W1 hp => ?_)
  obtain rfl := hp
  refine zk_ws (ws2 := SEW g.2.1 a (ab 0) (ay 0) (ar 0) wa wi wo 0 ++ (YW g.2.1 ay st0 ds0 le0 wg0 te0 K0 C0 ck0 mv0 mm0 tg0 gn0 wc0 tn0 g10 g20 g30 ++ (RWW g.2.1 ar wf wt wn rmv rmi ++ (RWW g.2.1 ab bf bt bn 0 0 ++ (YW g.2.1 a5 st ds le wg te (u 4) (u 5) ck mv mm tg gn wc (u 12) g1 g2 g3))))) rfl ?_
  refine zk_aload_n hc dX3_succeeds_12 0 rfl ?_
  refine zk_get hc inlX3 (ci := 3) rfl 0 3 (by decide) mw_3_18 rfl rfl rfl dX3_succeeds_13 ?_
  refine zk_callVv hc (rest := []) (ct_X2_clear g l ar wf wt wn rmv rmi) gg_X3_42 cd_X2_clear ⟨Nat.le_of_ble_eq_true rfl, Nat.le_of_ble_eq_true rfl⟩ ⟨Nat.le_of_ble_eq_true rfl, Nat.le_of_ble_eq_true rfl⟩ (SEW g.2.1 a (ab 0) (ay 0) (ar 0) wa wi wo 0 ++ (YW g.2.1 ay st0 ds0 le0 wg0 te0 K0 C0 ck0 mv0 mm0 tg0 gn0 wc0 tn0 g10 g20 g30)) (RWW g.2.1 ab bf bt bn 0 0 ++ (YW g.2.1 a5 st ds le wg te (u 4) (u 5) ck mv mm tg gn wc (u 12) g1 g2 g3)) rfl 11 rfl rfl rfl (Nat.le_of_ble_eq_true rfl) dX3_succeeds_16 (fun W1 hp => ?_)
  obtain rfl := hp
  refine zk_ws (ws2 := SEW g.2.1 a (ab 0) (ay 0) (ar 0) wa wi wo 0 ++ (YW g.2.1 ay st0 ds0 le0 wg0 te0 K0 C0 ck0 mv0 mm0 tg0 gn0 wc0 tn0 g10 g20 g30 ++ (RWW g.2.1 ar wf wt wn 0 0 ++ (RWW g.2.1 ab bf bt bn 0 0 ++ (YW g.2.1 a5 st ds le wg te (u 4) (u 5) ck mv mm tg gn wc (u 12) g1 g2 g3))))) rfl ?_
  refine zk_aload_n hc dX3_succeeds_19 1 rfl ?_
  refine zk_get hc inlX5 (ci := 5) rfl 19 8 (by decide) mw_14_9 rfl rfl rfl dX3_succeeds_20 ?_
  refine zk_if_neN hc 28 dX3_succeeds_23 (by decide) (by omega) (fun hl1 => ?_) (fun hl1 => ?_)
  · refine zk_aload_n hc dX3_succeeds_28 1 rfl ?_
    refine zk_callVi hc (rest := []) (ct_X5_forFirstInYard g l a5 u st ds le wg te ck mv mm tg gn wc g1 g2 g3 hY hG hN hl1) gg_X3_49 cd_X5_forFirstInYard ⟨Nat.le_of_ble_eq_true rfl, Nat.le_of_ble_eq_true rfl⟩ ⟨Nat.le_of_ble_eq_true rfl, Nat.le_of_ble_eq_true rfl⟩ (SEW g.2.1 a (ab 0) (ay 0) (ar 0) wa wi wo 0 ++ (YW g.2.1 ay st0 ds0 le0 wg0 te0 K0 C0 ck0 mv0 mm0 tg0 gn0 wc0 tn0 g10 g20 g30 ++ (RWW g.2.1 ar wf wt wn 0 0 ++ (RWW g.2.1 ab bf bt bn 0 0)))) ([]) rfl 19 rfl rfl rfl (Nat.le_of_ble_eq_true rfl) dX3_succeeds_29 (fun r W1 hp => ?_)
    obtain ⟨rfl, rfl⟩ := hp
    refine zk_ws (ws2 := SEW g.2.1 a (ab 0) (ay 0) (ar 0) wa wi wo 0 ++ (YW g.2.1 ay st0 ds0 le0 wg0 te0 K0 C0 ck0 mv0 mm0 tg0 gn0 wc0 tn0 g10 g20 g30 ++ (RWW g.2.1 ar wf wt wn 0 0 ++ (RWW g.2.1 ab bf bt bn 0 0 ++ (YW g.2.1 a5 st ds le wg te (u 4) (u 5) ck mv mm tg gn wc (u 12) g1 g2 g3))))) rfl ?_
    have hfiy := fiy_le u hm (u 4) hK4
    refine zk_istore_n hc (lv2 := [(3, .int (nI (fiy u (u 4)))), (0, .ref (a 0)), (1, .ref (a5 0)), (2, .int (nI 0))]) dX3_succeeds_32 (by decide) rfl ?_
    refine zk_iload_n hc dX3_succeeds_33 0 rfl ?_
    refine zk_if_eqN hc 45 dX3_succeeds_34 (by decide) (by omega) (fun h30 => ?_) (fun h30 => ?_)
    · refine zk_iconst hc (nI 0) dX3_succeeds_45 rfl ?_
      refine fin 0 0 _ _ _ _ (by decide) (by decide) dX3_succeeds_46 rfl (?_)
      exact ⟨_, _, _, _, _, _, _, _, _, _, _, _, _, _, _, _, _, _, _, _, _, _, _, _, _, _, _, _, _, _, _, rfl, rfl, by rw [vis_none hG.Cw (Or.inr (fiy_spr0 h30))]; exact rfl⟩
    · refine zk_iload_n hc dX3_succeeds_37 0 rfl ?_
      refine zk_aload_n hc dX3_succeeds_38 2 rfl ?_
      refine zk_get hc inlX5 (ci := 5) rfl 19 1 (by decide) mw_14_10 rfl rfl rfl dX3_succeeds_39 ?_
      refine zk_icmp_leN hc 47 dX3_succeeds_42 (by decide) (by omega) (by omega) (fun h42 => ?_) (fun h42 => ?_)
      · refine zk_aload_n hc dX3_succeeds_47 1 rfl ?_
        refine zk_get hc inlX3 (ci := 3) rfl 0 2 (by decide) mw_3_17 rfl rfl rfl dX3_succeeds_48 ?_
        refine zk_aload_n hc dX3_succeeds_51 2 rfl ?_
        refine zk_perm (ws2 := SEW g.2.1 a (ab 0) (ay 0) (ar 0) wa wi wo 0 ++ (RWW g.2.1 ar wf wt wn 0 0 ++ (RWW g.2.1 ab bf bt bn 0 0 ++ (YW g.2.1 ay st0 ds0 le0 wg0 te0 K0 C0 ck0 mv0 mm0 tg0 gn0 wc0 tn0 g10 g20 g30 ++ (YW g.2.1 a5 st ds le wg te (u 4) (u 5) ck mv mm tg gn wc (u 12) g1 g2 g3))))) (List.Perm.trans (List.Perm.append_left _ (List.Perm.append_left _ (pm_sw _ _ _))) (List.Perm.append_left _ (pm_sw _ _ _))) ?_
        refine zk_callVv hc (rest := []) (ct_X5_copyFrom g l ay st0 ds0 le0 wg0 te0 K0 C0 ck0 mv0 mm0 tg0 gn0 wc0 tn0 g10 g20 g30 a5 st ds le wg te (u 4) (u 5) ck mv mm tg gn wc (u 12) g1 g2 g3) gg_X3_56 cd_X5_copyFrom ⟨Nat.le_of_ble_eq_true rfl, Nat.le_of_ble_eq_true rfl⟩ ⟨Nat.le_of_ble_eq_true rfl, Nat.le_of_ble_eq_true rfl⟩ (SEW g.2.1 a (ab 0) (ay 0) (ar 0) wa wi wo 0 ++ (RWW g.2.1 ar wf wt wn 0 0 ++ (RWW g.2.1 ab bf bt bn 0 0))) ([]) rfl 12 rfl rfl rfl (Nat.le_of_ble_eq_true rfl) dX3_succeeds_52 (fun W1 hp => ?_)
        obtain rfl := hp
        refine zk_ws (ws2 := SEW g.2.1 a (ab 0) (ay 0) (ar 0) wa wi wo 0 ++ (RWW g.2.1 ar wf wt wn 0 0 ++ (RWW g.2.1 ab bf bt bn 0 0 ++ (YW g.2.1 ay (va_cpy st st0 0 0 4) (va_cpy ds ds0 0 0 10) (va_cpy le le0 0 0 4) (va_cpy wg wg0 0 0 32) (va_cpy te te0 0 0 4) (u 4) (u 5) ck mv mm tg gn wc (u 12) g10 g20 g30 ++ (YW g.2.1 a5 st ds le wg te (u 4) (u 5) ck mv mm tg gn wc (u 12) g1 g2 g3))))) rfl ?_
        refine zk_perm (ws2 := SEW g.2.1 a (ab 0) (ay 0) (ar 0) wa wi wo 0 ++ (YW g.2.1 ay (va_cpy st st0 0 0 4) (va_cpy ds ds0 0 0 10) (va_cpy le le0 0 0 4) (va_cpy wg wg0 0 0 32) (va_cpy te te0 0 0 4) (u 4) (u 5) ck mv mm tg gn wc (u 12) g10 g20 g30 ++ (RWW g.2.1 ar wf wt wn 0 0 ++ (RWW g.2.1 ab bf bt bn 0 0 ++ (YW g.2.1 a5 st ds le wg te (u 4) (u 5) ck mv mm tg gn wc (u 12) g1 g2 g3))))) (List.Perm.trans (List.Perm.append_left _ (pm_sw _ _ _)) (List.Perm.append_left _ (List.Perm.append_left _ (pm_sw _ _ _)))) ?_
        have hYc := YA_cpy (st2 := st0) (ds2 := ds0) (le2 := le0) (wg2 := wg0) hY hG
        refine zk_aload_n hc dX3_succeeds_55 1 rfl ?_
        refine zk_iload_n hc dX3_succeeds_56 3 rfl ?_
        refine zk_iconst hc (nI 3) dX3_succeeds_57 rfl ?_
        refine zk_min hc mw_14_11 mw_6_18 mw_6_19 mw_6_20 ⟨by decide, by decide, by decide, by decide⟩ (Nat.le_of_ble_eq_true rfl) dX3_succeeds_58 ?_
        refine zk_top (y := nI 0) rfl ?_
        refine zk_callVv hc (rest := []) (ct_X3_seek_0 g l a ab ar wf wt wn bf bt bn 0 0 0 0 wa wi wo 0 ay u (va_cpy st st0 0 0 4) (va_cpy ds ds0 0 0 10) (va_cpy le le0 0 0 4) (va_cpy wg wg0 0 0 32) (va_cpy te te0 0 0 4) ck mv mm tg gn wc g10 g20 g30 ([] : List MV) 0 none hYc hG hN hl1 (RRc_nil _ _ _) rfl (by have := h12; omega) (by decide)) gg_X3_66 cd_X3_seek ⟨Nat.le_of_ble_eq_true rfl, Nat.le_of_ble_eq_true rfl⟩ ⟨Nat.le_of_ble_eq_true rfl, Nat.le_of_ble_eq_true rfl⟩ ([]) (YW g.2.1 a5 st ds le wg te (u 4) (u 5) ck mv mm tg gn wc (u 12) g1 g2 g3) rfl 0 rfl rfl rfl (Nat.le_of_ble_eq_true rfl) dX3_succeeds_61 (fun W1 hp => ?_)
        obtain ⟨waz_1, wiz_1, woz_1, hbz_1, lez_1, wgz_1, g4z_1, g5z_1, g6z_1, wfz_1, wtz_1, wnz_1, bmvz_1, bmiz_1, bfz_1, btz_1, bnz_1, rfl, hY2, hR2, hB2⟩ := hp
        refine zk_ws (ws2 := SEW g.2.1 a (ab 0) (ay 0) (ar 0) waz_1 wiz_1 woz_1 hbz_1 ++ (YW g.2.1 ay (va_cpy st st0 0 0 4) (va_cpy ds ds0 0 0 10) lez_1 wgz_1 (va_cpy te te0 0 0 4) (u 4) (u 5) ck mv mm tg gn wc (u 12) g4z_1 g5z_1 g6z_1 ++ (RWW g.2.1 ar wfz_1 wtz_1 wnz_1 0 0 ++ (RWW g.2.1 ab bfz_1 btz_1 bnz_1 bmvz_1 bmiz_1 ++ (YW g.2.1 a5 st ds le wg te (u 4) (u 5) ck mv mm tg gn wc (u 12) g1 g2 g3))))) rfl ?_
        refine zk_aload_n hc dX3_succeeds_64 1 rfl ?_
        refine zk_get hc inlX3 (ci := 3) rfl 0 1 (by decide) mw_14_8 rfl rfl rfl dX3_succeeds_65 ?_
        have hz := BRc_b hB2
        rcases (show hbz_1 = 0 ∨ hbz_1 = 1 by omega) with rfl | rfl
        · exact fin 0 0 _ _ _ _ (by decide) (by decide) dX3_succeeds_68 rfl ⟨_, _, _, _, _, _, _, _, _, _, _, _, _, _, _, _, _, _, _, _, _, _, _, _, _, _, _, _, _, _, _, rfl, rfl, hB2⟩
        · exact fin 0 0 _ _ _ _ (by decide) (by decide) dX3_succeeds_68 rfl ⟨_, _, _, _, _, _, _, _, _, _, _, _, _, _, _, _, _, _, _, _, _, _, _, _, _, _, _, _, _, _, _, rfl, rfl, hB2⟩
      · refine zk_iconst hc (nI 0) dX3_succeeds_45 rfl ?_
        refine fin 0 0 _ _ _ _ (by decide) (by decide) dX3_succeeds_46 rfl (?_)
        exact ⟨_, _, _, _, _, _, _, _, _, _, _, _, _, _, _, _, _, _, _, _, _, _, _, _, _, _, _, _, _, _, _, rfl, rfl, by rw [vis_full hG.Cw hM h42]; exact rfl⟩
  · refine zk_iconst hc (nI 0) dX3_succeeds_26 rfl ?_
    refine fin 0 0 _ _ _ _ (by decide) (by decide) dX3_succeeds_27 rfl (?_)
    exact ⟨_, _, _, _, _, _, _, _, _, _, _, _, _, _, _, _, _, _, _, _, _, _, _, _, _, _, _, _, _, _, _, rfl, rfl, by rw [vis_none hG.Cw (Or.inl hl1)]; exact rfl⟩
