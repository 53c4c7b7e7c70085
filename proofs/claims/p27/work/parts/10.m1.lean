set_option maxHeartbeats 4000000 in
set_option maxRecDepth 100000 in
theorem ct_X0_start (g : GG) (l : Launch) (a g1 g2 g3 : Nat) : CtV g l yX0_start cX0_start 1 (rmK 1 0 0) (GW a g1 g2 g3) [.ref a] (fun W1 => W1 = GW a 99 0 0) := by
  refine CtV.go RX0 rfl (by decide +kernel) (Nat.le_of_ble_eq_true rfl) ?_
  intro p e s m args below meth c A H0 Q hc hnm fin
  show KW g p l e (rmK 1 0 0) s m args below meth c 1 A H0 0 0 Q (GW a g1 g2 g3) [(0, .ref a)] 0 []
  refine zk_aload_n hc dX0_start_0 0 rfl ?_
  refine zk_bipush hc (nI 99) dX0_start_1 rfl ?_
  refine zk_put hc inlX0 (ci := 0) rfl tyX0 tyX0_ok nmX0 0 0 (by decide) mw_6_0 rfl rfl rfl rfl rfl (Nat.le_of_ble_eq_true rfl) (ws2 := GW a 99 g2 g3) rfl dX0_start_3 ?_
  refine zk_aload_n hc dX0_start_6 0 rfl ?_
  refine zk_iconst hc (nI 0) dX0_start_7 rfl ?_
  refine zk_put hc inlX0 (ci := 0) rfl tyX0 tyX0_ok nmX0 0 1 (by decide) mw_6_1 rfl rfl rfl rfl rfl (Nat.le_of_ble_eq_true rfl) (ws2 := GW a 99 0 g3) rfl dX0_start_8 ?_
  refine zk_aload_n hc dX0_start_11 0 rfl ?_
  refine zk_iconst hc (nI 0) dX0_start_12 rfl ?_
  refine zk_put hc inlX0 (ci := 0) rfl tyX0 tyX0_ok nmX0 0 2 (by decide) mw_6_2 rfl rfl rfl rfl rfl (Nat.le_of_ble_eq_true rfl) (ws2 := GW a 99 0 0) rfl dX0_start_13 ?_
  exact fin 0 0 _ _ _ (by decide) (by decide) dX0_start_16 (rfl)

set_option maxHeartbeats 4000000 in
set_option maxRecDepth 100000 in
theorem ct_X0_pass (g : GG) (l : Launch) (a g1 g2 g3 : Nat) (k : Nat) (hk : k < 3) (h2 : g2 < 3) (h1 : g1 < 2147483648) (h3 : g3 < 2147483648) : CtV g l yX0_pass cX0_pass 2 (rmK 1 0 0) (GW a g1 g2 g3) [.ref a, .int (nI k)] (fun W1 => W1 = GW a (gstep (g1, g2, g3) k).1 (gstep (g1, g2, g3) k).2.1 (gstep (g1, g2, g3) k).2.2) := by
  refine CtV.go RX0 rfl (by decide +kernel) (Nat.le_of_ble_eq_true rfl) ?_
  intro p e s m args below meth c A H0 Q hc hnm fin
  show KW g p l e (rmK 1 0 0) s m args below meth c 2 A H0 0 0 Q (GW a g1 g2 g3) [(0, .ref a), (1, .int (nI k))] 0 []
  refine zk_iload_n hc dX0_pass_0 1 rfl ?_
  refine zk_if_neN hc 15 dX0_pass_1 (by decide) (by omega) (fun h_1 => ?_) (fun h_1 => ?_)
  · refine zk_aload_n hc dX0_pass_15 0 rfl ?_
    refine zk_get hc inlX0 (ci := 0) rfl 0 1 (by decide) mw_6_1 rfl rfl rfl dX0_pass_16 ?_
    refine zk_if_eqN hc 45 dX0_pass_19 (by decide) (by omega) (fun h_2 => ?_) (fun h_2 => ?_)
    · refine zk_aload_n hc dX0_pass_45 0 rfl ?_
      refine zk_iload_n hc dX0_pass_46 1 rfl ?_
      refine zk_put hc inlX0 (ci := 0) rfl tyX0 tyX0_ok nmX0 0 1 (by decide) mw_6_1 rfl rfl rfl rfl rfl (Nat.le_of_ble_eq_true rfl) (ws2 := GW a g1 k g3) rfl dX0_pass_47 ?_
      refine zk_aload_n hc dX0_pass_50 0 rfl ?_
      refine zk_iconst hc (nI 0) dX0_pass_51 rfl ?_
      refine zk_put hc inlX0 (ci := 0) rfl tyX0 tyX0_ok nmX0 0 2 (by decide) mw_6_2 rfl rfl rfl rfl rfl (Nat.le_of_ble_eq_true rfl) (ws2 := GW a g1 k 0) rfl dX0_pass_52 ?_
      exact fin 0 0 _ _ _ (by decide) (by decide) dX0_pass_55 (by simp only [gstep]; simp [*])
    · refine zk_aload_n hc dX0_pass_22 0 rfl ?_
      refine zk_get hc inlX0 (ci := 0) rfl 0 1 (by decide) mw_6_1 rfl rfl rfl dX0_pass_23 ?_
      refine zk_iload_n hc dX0_pass_26 1 rfl ?_
      refine zk_icmp_eqN hc 45 dX0_pass_27 (by decide) (by omega) (by omega) (fun h_3 => ?_) (fun h_3 => ?_)
      · refine zk_aload_n hc dX0_pass_45 0 rfl ?_
        refine zk_iload_n hc dX0_pass_46 1 rfl ?_
        refine zk_put hc inlX0 (ci := 0) rfl tyX0 tyX0_ok nmX0 0 1 (by decide) mw_6_1 rfl rfl rfl rfl rfl (Nat.le_of_ble_eq_true rfl) (ws2 := GW a g1 k g3) rfl dX0_pass_47 ?_
        refine zk_aload_n hc dX0_pass_50 0 rfl ?_
        refine zk_iconst hc (nI 0) dX0_pass_51 rfl ?_
        refine zk_put hc inlX0 (ci := 0) rfl tyX0 tyX0_ok nmX0 0 2 (by decide) mw_6_2 rfl rfl rfl rfl rfl (Nat.le_of_ble_eq_true rfl) (ws2 := GW a g1 k 0) rfl dX0_pass_52 ?_
        exact fin 0 0 _ _ _ (by decide) (by decide) dX0_pass_55 (by simp only [gstep]; simp [*])
      · refine zk_aload_n hc dX0_pass_30 0 rfl ?_
        refine zk_aload_n hc dX0_pass_31 0 rfl ?_
        refine zk_get hc inlX0 (ci := 0) rfl 0 0 (by decide) mw_6_0 rfl rfl rfl dX0_pass_32 ?_
        refine zk_aload_n hc dX0_pass_35 0 rfl ?_
        refine zk_get hc inlX0 (ci := 0) rfl 0 2 (by decide) mw_6_2 rfl rfl rfl dX0_pass_36 ?_
        refine zk_min hc mw_6_17 mw_6_18 mw_6_19 mw_6_20 ⟨by decide, by decide, by decide, by decide⟩ (Nat.le_of_ble_eq_true rfl) dX0_pass_39 ?_
        refine zk_top (y := nI (Nat.min g1 g3)) (nq_min (by omega) (by omega)) ?_
        refine zk_put hc inlX0 (ci := 0) rfl tyX0 tyX0_ok nmX0 0 0 (by decide) mw_6_0 rfl rfl rfl rfl rfl (Nat.le_of_ble_eq_true rfl) (ws2 := GW a (Nat.min g1 g3) g2 g3) rfl dX0_pass_42 ?_
        refine zk_aload_n hc dX0_pass_45 0 rfl ?_
        refine zk_iload_n hc dX0_pass_46 1 rfl ?_
        refine zk_put hc inlX0 (ci := 0) rfl tyX0 tyX0_ok nmX0 0 1 (by decide) mw_6_1 rfl rfl rfl rfl rfl (Nat.le_of_ble_eq_true rfl) (ws2 := GW a (Nat.min g1 g3) k g3) rfl dX0_pass_47 ?_
        refine zk_aload_n hc dX0_pass_50 0 rfl ?_
        refine zk_iconst hc (nI 0) dX0_pass_51 rfl ?_
        refine zk_put hc inlX0 (ci := 0) rfl tyX0 tyX0_ok nmX0 0 2 (by decide) mw_6_2 rfl rfl rfl rfl rfl (Nat.le_of_ble_eq_true rfl) (ws2 := GW a (Nat.min g1 g3) k 0) rfl dX0_pass_52 ?_
        exact fin 0 0 _ _ _ (by decide) (by decide) dX0_pass_55 (by simp only [gstep]; simp [*])
  · refine zk_aload_n hc dX0_pass_4 0 rfl ?_
    refine zk_dup hc dX0_pass_5 rfl ?_
    refine zk_get hc inlX0 (ci := 0) rfl 0 2 (by decide) mw_6_2 rfl rfl rfl dX0_pass_6 ?_
    refine zk_iconst hc (nI 1) dX0_pass_9 rfl ?_
    refine zk_iaddN hc dX0_pass_10 ?_
    refine zk_put hc inlX0 (ci := 0) rfl tyX0 tyX0_ok nmX0 0 2 (by decide) mw_6_2 rfl rfl rfl rfl rfl (Nat.le_of_ble_eq_true rfl) (ws2 := GW a g1 g2 (g3 + 1)) rfl dX0_pass_11 ?_
    exact fin 0 0 _ _ _ (by decide) (by decide) dX0_pass_14 (by simp only [gstep]; simp [*])
