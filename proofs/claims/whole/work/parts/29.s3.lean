set_option maxHeartbeats 4000000 in
set_option maxRecDepth 100000 in
theorem ct_X7_search (g : GG) (l : Launch) (a : Nat → Nat) (u pa im tx rw rb rk rt he tr be sp : Nat → Nat) (pm fl ln rm rd bn : Nat) (fk fp rs wk wp bm : Int32) (mo : Nat) (hmo3 : mo ≤ 3) (hG : GU u) (hK2 : 2 ≤ u 4) : CtV g l yX7_search cX7_search 4 (rmK 7 0 0) (MW g.2.1 a u pa im tx rw rb rk rt he tr be sp pm fl ln rm rd bn fk fp rs wk wp bm) [.ref (a 0), .int (nI mo)] (fun W1 => ∃ (rw2 he2 tr2 be2 sp2 : Nat → Nat) (rm2 bn2 : Nat) (bm2 : Int32), W1 = MW g.2.1 a u pa im tx rw2 rb rk rt he2 tr2 be2 sp2 pm fl ln rm2 rd bn2 fk fp rs wk wp bm2 ∧ BR bm2 bn2 be2 (vis mo u [] 0 none)) := by
  refine CtV.go RX7 rfl (by decide +kernel) (Nat.le_of_ble_eq_true rfl) ?_
  intro p e s m args below meth c A H0 Q hc hnm fin
  have hC0 := hG.BPs
  show KW g p l e (rmK 7 0 0) s m args below meth c 4 A H0 0 0 Q (MW g.2.1 a u pa im tx rw rb rk rt he tr be sp pm fl ln rm rd bn fk fp rs wk wp bm) [(0, .ref (a 0)), (1, .int (nI mo))] 0 []
  refine zk_aload_n hc dX7_search_0 0 rfl ?_
  refine zk_bipush hc ((-9)) dX7_search_1 rfl ?_
  refine zk_put hc inlX7 (ci := 7) rfl tyX7 tyX7_ok nmX7 0 21 (by decide) mw_23_3 rfl rfl rfl rfl rfl (Nat.le_of_ble_eq_true rfl) (ws2 := MW g.2.1 a u pa im tx rw rb rk rt he tr be sp pm fl ln rm rd bn fk fp rs wk wp (-9)) rfl dX7_search_3 ?_
  refine zk_aload_n hc dX7_search_6 0 rfl ?_
  refine zk_iconst hc (nI 0) dX7_search_7 rfl ?_
  refine zk_put hc inlX7 (ci := 7) rfl tyX7 tyX7_ok nmX7 0 22 (by decide) mw_23_4 rfl rfl rfl rfl rfl (Nat.le_of_ble_eq_true rfl) (ws2 := MW g.2.1 a u pa im tx rw rb rk rt he tr be sp pm fl ln rm rd 0 fk fp rs wk wp (-9)) rfl dX7_search_8 ?_
  refine zk_aload_n hc dX7_search_11 0 rfl ?_
  refine zk_iconst hc (nI 0) dX7_search_12 rfl ?_
  refine zk_iconst hc (nI 0) dX7_search_13 rfl ?_
  refine zk_callVv hc (rest := []) (ct_X7_note g l a u pa im tx rw rb rk rt he tr be sp pm fl ln rm rd 0 fk fp rs wk wp (-9) 0 0 (by omega) (by omega) (by omega) hC0.1 hC0.2.1 hC0.2.2.1 hC0.2.2.2.1 hC0.2.2.2.2) gg_X7_172 cd_X7_note ⟨Nat.le_of_ble_eq_true rfl, Nat.le_of_ble_eq_true rfl⟩ ⟨Nat.le_of_ble_eq_true rfl, Nat.le_of_ble_eq_true rfl⟩ ([]) ([]) rfl 0 rfl rfl rfl (Nat.le_of_ble_eq_true rfl) dX7_search_14 (fun W1 hp => ?_)
  by_cases hN : noteC (-9) 0 0 0 ∧ ¬ muf u = -9
  · obtain rfl := (hp.1 hN)
    refine zk_ws (ws2 := MW g.2.1 a u pa im tx rw rb rk rt he tr (va_cpy tr be 0 0 9) sp pm fl ln rm rd 0 fk fp rs wk wp (nI 0)) rfl ?_
    refine zk_aload_n hc dX7_search_17 0 rfl ?_
    refine zk_get hc inlX7 (ci := 7) rfl 0 0 (by decide) mw_4_11 rfl rfl rfl dX7_search_18 ?_
    refine zk_bipush hc (nI 12) dX7_search_21 rfl ?_
    refine zk_ialdN hc 1 rfl (by omega) (by decide) dX7_search_23 ?_
    refine zk_if_eqN hc 49 dX7_search_24 (by decide) (by have := hG.2.2.2.2.2.2.2; omega) (fun h12 => ?_) (fun h12 => ?_)
    · refine fin 0 0 _ _ _ (by decide) (by decide) dX7_search_49 (?_)
      exact ⟨_, _, _, _, _, _, _, _, rfl, by rw [vis_made hN.2]; exact ⟨rfl, rfl, Nat.zero_le _, Nat.zero_le _, fun i x h => by simp at h⟩⟩
    · refine zk_aload_n hc dX7_search_27 0 rfl ?_
      refine zk_get hc inlX7 (ci := 7) rfl 0 21 (by decide) mw_23_3 rfl rfl rfl dX7_search_28 ?_
      refine zk_if_eq hc 49 dX7_search_31 (by decide) (fun hb0 => ?_) (fun hb0 => ?_)
      · refine fin 0 0 _ _ _ (by decide) (by decide) dX7_search_49 (?_)
        exact ⟨_, _, _, _, _, _, _, _, rfl, by rw [vis_made hN.2]; exact ⟨rfl, rfl, Nat.zero_le _, Nat.zero_le _, fun i x h => by simp at h⟩⟩
      · exact absurd rfl hb0
  · obtain rfl := (hp.2 hN)
    refine zk_ws (ws2 := MW g.2.1 a u pa im tx rw rb rk rt he tr be sp pm fl ln rm rd 0 fk fp rs wk wp (-9)) rfl ?_
    have hnm : ¬ ¬ muf u = -9 := fun z => hN ⟨Or.inl rfl, z⟩
    refine zk_aload_n hc dX7_search_17 0 rfl ?_
    refine zk_get hc inlX7 (ci := 7) rfl 0 0 (by decide) mw_4_11 rfl rfl rfl dX7_search_18 ?_
    refine zk_bipush hc (nI 12) dX7_search_21 rfl ?_
    refine zk_ialdN hc 1 rfl (by omega) (by decide) dX7_search_23 ?_
    refine zk_if_eqN hc 49 dX7_search_24 (by decide) (by have := hG.2.2.2.2.2.2.2; omega) (fun h12 => ?_) (fun h12 => ?_)
    · refine fin 0 0 _ _ _ (by decide) (by decide) dX7_search_49 (?_)
      exact ⟨_, _, _, _, _, _, _, _, rfl, by rw [vis_none hG.Cw (Or.inl h12)]; exact ⟨rfl, by omega⟩⟩
    · refine zk_aload_n hc dX7_search_27 0 rfl ?_
      refine zk_get hc inlX7 (ci := 7) rfl 0 21 (by decide) mw_23_3 rfl rfl rfl dX7_search_28 ?_
      refine zk_if_eq hc 49 dX7_search_31 (by decide) (fun hb0 => ?_) (fun hb0 => ?_)
      · exact absurd hb0 (by decide)
      · refine zk_aload_n hc dX7_search_34 0 rfl ?_
        refine zk_callVi hc (rest := []) (ct_X7_spread g l a u pa im tx rw rb rk rt he tr be sp pm fl ln rm rd 0 fk fp rs wk wp (-9) hC0.1 hC0.2.1 hC0.2.2.1 hC0.2.2.2.1) gg_X7_169 cd_X7_spread ⟨Nat.le_of_ble_eq_true rfl, Nat.le_of_ble_eq_true rfl⟩ ⟨Nat.le_of_ble_eq_true rfl, Nat.le_of_ble_eq_true rfl⟩ ([]) ([]) rfl 0 rfl rfl rfl (Nat.le_of_ble_eq_true rfl) dX7_search_35 (fun r W1 hp => ?_)
        obtain ⟨rfl, rfl⟩ := hp
        refine zk_ws (ws2 := MW g.2.1 a u pa im tx rw rb rk rt he tr be sp pm fl ln rm rd 0 fk fp rs wk wp (-9)) rfl ?_
        refine zk_if_eqN hc 49 dX7_search_38 (by decide) (by have := spr_le u (u 4); have := hG.1; omega) (fun hsp0 => ?_) (fun hsp0 => ?_)
        · refine fin 0 0 _ _ _ (by decide) (by decide) dX7_search_49 (?_)
          exact ⟨_, _, _, _, _, _, _, _, rfl, by rw [vis_none hG.Cw (Or.inr hsp0)]; exact ⟨rfl, by omega⟩⟩
        · refine zk_aload_n hc dX7_search_41 0 rfl ?_
          refine zk_iload_n hc dX7_search_42 1 rfl ?_
          refine zk_callVi hc (rest := []) (ct_X7_isWorthIt g l a u pa im tx rw rb rk rt he tr be sp pm fl ln rm rd 0 fk fp rs wk wp (-9) mo (by omega) hC0.1 hC0.2.1 hC0.2.2.1 hC0.2.2.2.1 hC0.2.2.2.2) gg_X7_175 cd_X7_isWorthIt ⟨Nat.le_of_ble_eq_true rfl, Nat.le_of_ble_eq_true rfl⟩ ⟨Nat.le_of_ble_eq_true rfl, Nat.le_of_ble_eq_true rfl⟩ ([]) ([]) rfl 0 rfl rfl rfl (Nat.le_of_ble_eq_true rfl) dX7_search_43 (fun r W1 hp => ?_)
          obtain ⟨rfl, rfl⟩ := hp
          refine zk_ws (ws2 := MW g.2.1 a u pa im tx rw rb rk rt he tr be sp pm fl ln rm rd 0 fk fp rs wk wp (-9)) rfl ?_
          by_cases hwi : 0 < mo ∧ spr u (u 4) - 1 ≤ mo ∧ muf u = -9
          · refine zk_top (y := nI 1) (if_pos hwi) ?_
            refine zk_if_neN hc 50 dX7_search_46 (by decide) (by omega) (fun h_1 => ?_) (fun h_1 => ?_)
            · refine zk_iconst hc (nI 0) dX7_search_50 rfl ?_
              refine zk_istore_n hc (lv2 := [(2, .int (nI 0)), (0, .ref (a 0)), (1, .int (nI mo))]) dX7_search_51 (by decide) rfl ?_
              refine zk_aload_n hc dX7_search_52 1 rfl ?_
              refine zk_get hc inlX7 (ci := 7) rfl 0 23 (by decide) mw_5_1 rfl rfl rfl dX7_search_53 ?_
              refine zk_iconst hc (nI 0) dX7_search_56 rfl ?_
              refine zk_iconst hc (nI 0) dX7_search_57 rfl ?_
              refine zk_iastN hc 12 rfl (by omega) (by decide) (ws2 := MW g.2.1 a u pa im tx rw rb rk rt he tr be (va_up sp 0 0) pm fl ln rm rd 0 fk fp rs wk wp (-9)) rfl dX7_search_58 ?_
              refine zk_aload_n hc dX7_search_59 1 rfl ?_
              refine zk_iconst hc (nI 0) dX7_search_60 rfl ?_
              refine zk_callVv hc (rest := []) (ct_X7_enter g l a u pa im tx rw rb rk rt he tr be (va_up sp 0 0) pm fl ln rm rd 0 fk fp rs wk wp (-9) 0 (by omega)) gg_X7_178 cd_X7_enter ⟨Nat.le_of_ble_eq_true rfl, Nat.le_of_ble_eq_true rfl⟩ ⟨Nat.le_of_ble_eq_true rfl, Nat.le_of_ble_eq_true rfl⟩ ([]) ([]) rfl 0 rfl rfl rfl (Nat.le_of_ble_eq_true rfl) dX7_search_61 (fun W1 hp => ?_)
              obtain rfl := hp
              refine zk_ws (ws2 := MW g.2.1 a u pa im tx rw rb rk rt (va_cpy u he 0 (131 * 0) 131) (va_up (va_up (va_up tr (3 * 0) 0) (3 * 0 + 1) 0) (3 * 0 + 2) 0) be (va_up sp 0 0) pm fl ln rm rd 0 fk fp rs wk wp (-9)) rfl ?_
              refine zk_lv [1, 2, 0] (lv2 := [(0, .ref (a 0)), (1, .int (nI mo)), (2, .int (nI 0))]) rfl ?_
              refine search_lv hc a pa im tx rb rk rt pm fl ln rd fk fp rs wk wp mo hmo3 (mo - 1) 0 (by omega) u [] 0 rfl (Nat.le_refl _) hG none 1000 0 0 0 u rw (va_cpy u he 0 (131 * 0) 131) (va_up (va_up (va_up tr (3 * 0) 0) (3 * 0 + 1) 0) (3 * 0 + 2) 0) be (va_up sp 0 0) rm 0 (-9) (by omega) ⟨rfl, by omega⟩ (Or.inl (Nat.zero_le _)) (by omega) (by omega) (by omega) (by simp [va_up]) (by simp [va_up]) (by simp [va_up]) (fun i x h => by simp at h) (by simp [va_up]) (fun k hk => by rw [pk_cpy_in (by omega) (by omega)]; exact congrArg _ (by omega)) (fun _ _ => rfl) ?_
              intro u2 rw2 he2 tr2 be2 sp2 rm2 bn2 bm2 k1 k2 k3 k4 k5
              refine zk_iload_n hc dX7_search_64 2 rfl ?_
              refine zk_if_lt hc 178 dX7_search_65 (by decide) (fun hlt => ?_) (fun hlt => ?_)
              · refine zk_aload_n hc dX7_search_178 0 rfl ?_
                refine zk_iconst hc (nI 0) dX7_search_179 rfl ?_
                refine zk_callVv hc (rest := []) (ct_X7_release g l a u2 pa im tx rw2 rb rk rt he2 tr2 be2 sp2 pm fl ln rm2 rd bn2 fk fp rs wk wp bm2 0 (by omega)) gg_X7_181 cd_X7_release ⟨Nat.le_of_ble_eq_true rfl, Nat.le_of_ble_eq_true rfl⟩ ⟨Nat.le_of_ble_eq_true rfl, Nat.le_of_ble_eq_true rfl⟩ ([]) ([]) rfl 0 rfl rfl rfl (Nat.le_of_ble_eq_true rfl) dX7_search_180 (fun W1 hp => ?_)
                obtain rfl := hp
                refine zk_ws (ws2 := MW g.2.1 a (va_cpy he2 u2 (131 * 0) 0 131) pa im tx rw2 rb rk rt he2 tr2 be2 sp2 pm fl ln rm2 rd bn2 fk fp rs wk wp bm2) rfl ?_
                refine zk_ws (ws2 := MW g.2.1 a u pa im tx rw2 rb rk rt he2 tr2 be2 sp2 pm fl ln rm2 rd bn2 fk fp rs wk wp bm2) (congrArg (fun zz => MW g.2.1 a zz pa im tx rw2 rb rk rt he2 tr2 be2 sp2 pm fl ln rm2 rd bn2 fk fp rs wk wp bm2) (show va_cpy he2 u2 (131 * 0) 0 131 = u from rel_U (fun k hk => by rw [k1 _ (by omega), pk_cpy_in (by omega) (by omega)]; exact congrArg _ (by omega)) k4)) ?_
                refine fin 0 0 _ _ _ (by decide) (by decide) dX7_search_183 (?_)
                exact ⟨_, _, _, _, _, _, _, _, rfl, by rw [vis_go hwi.1 hnm]; exact k5⟩
              · exact absurd (show nI 0 - 1 < 0 by decide) hlt
            · exact absurd h_1 (by decide)
          · refine zk_top (y := nI 0) (if_neg hwi) ?_
            refine zk_if_neN hc 50 dX7_search_46 (by decide) (by omega) (fun h_2 => ?_) (fun h_2 => ?_)
            · exact absurd h_2 (by decide)
            · refine fin 0 0 _ _ _ (by decide) (by decide) dX7_search_49 (?_)
              exact ⟨_, _, _, _, _, _, _, _, rfl, by rw [vis_un hG hnm hwi]; exact ⟨rfl, by omega⟩⟩
