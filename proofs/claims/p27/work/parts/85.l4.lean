set_option maxHeartbeats 4000000 in
set_option maxRecDepth 100000 in
theorem ct_L_isDeparture (g : GG) (l : Launch) (b cN : Nat) (S : AS) (W : va_W) (hN : cN ≤ 500) (hI : INV cN S) (hS : CSt g b S W) (t : Nat) (ht : t < S.1 4) : CtI g l yL_isDeparture cL_isDeparture 10 (some .boolean) (rmK 9 7 72) (W) [.ref b, .int (nI t)] (fun r W1 => r = nI 1 ∧ ∃ S2, EqS S S2 ∧ INV cN S2 ∧ CSt g b S2 W1) := by
  refine CtZ.go RL rfl (by decide +kernel) (Nat.le_of_ble_eq_true rfl) ?_
  intro p e s m args below meth c A H0 Q hc hnm fin
  have h4 := hI.1.1
  have hG := wf_GU hI.1
  have hm8 := wf_m8 hI.1
  have h12 := hI.1.2.2.2.2.2.2.1
  have hB := hI.1.2.2.2.2.2.2.2.2.2.2.2
  have hmt8 := hm8 t (by omega)
  have hre := rea_le S.1 t
  show KW g p l e (rmK 9 7 72) s m args below meth c 10 A H0 0 0 Q (W) [(0, .ref b), (1, .int (nI t))] 0 []
  by_cases h0 : rea S.1 t ≠ 0
  · skip
    refine zk_aload_n hc dL_isDeparture_0 0 rfl ?_
    refine zk_iload_n hc dL_isDeparture_1 1 rfl ?_
    refine zk_iconst hc (nI 4) dL_isDeparture_2 rfl ?_
    obtain ⟨hat_3_f, hat_3⟩ := cs_at hS
    refine zk_callVi hc (rest := []) (kx_track g l b S W cN (by omega) hI hS (nI t) (nI 4)) gg_L_71 cd_X6_track ⟨Nat.le_of_ble_eq_true rfl, Nat.le_of_ble_eq_true rfl⟩ ⟨Nat.le_of_ble_eq_true rfl, Nat.le_of_ble_eq_true rfl⟩ ([]) ([]) (by simp only [List.append_nil, List.nil_append]) 0 hat_3 rfl rfl (Nat.le_of_ble_eq_true rfl) dL_isDeparture_3 (fun r W_1 hp => ?_)
    obtain ⟨rfl, hS_2⟩ := hp
    refine zk_ws (ws2 := W_1) (by simp only [List.append_nil, List.nil_append]) ?_
    refine zk_top (y := nI (rea S.1 t)) (trk_n h4.2 ht (by omega)) ?_
    refine zk_istore_n hc (lv2 := [(2, .int (nI (rea S.1 t))), (0, .ref b), (1, .int (nI t))]) dL_isDeparture_6 (by decide) rfl ?_
    refine zk_aload_n hc dL_isDeparture_7 1 rfl ?_
    refine zk_iload_n hc dL_isDeparture_8 2 rfl ?_
    refine zk_iconst hc (nI 0) dL_isDeparture_9 rfl ?_
    obtain ⟨hat_6_f, hat_6⟩ := cs_at hS_2
    refine zk_callVi hc (rest := []) (kx_track g l b S W_1 cN (by omega) hI hS_2 (nI t) (nI 0)) gg_L_71 cd_X6_track ⟨Nat.le_of_ble_eq_true rfl, Nat.le_of_ble_eq_true rfl⟩ ⟨Nat.le_of_ble_eq_true rfl, Nat.le_of_ble_eq_true rfl⟩ ([]) ([]) (by simp only [List.append_nil, List.nil_append]) 0 hat_6 rfl rfl (Nat.le_of_ble_eq_true rfl) dL_isDeparture_10 (fun r W_4 hp => ?_)
    obtain ⟨rfl, hS_5⟩ := hp
    refine zk_ws (ws2 := W_4) (by simp only [List.append_nil, List.nil_append]) ?_
    refine zk_top (y := nI (mny S.1 t)) (trk_n h4.2 ht (by omega)) ?_
    refine zk_istore_n hc (lv2 := [(3, .int (nI (mny S.1 t))), (2, .int (nI (rea S.1 t))), (0, .ref b), (1, .int (nI t))]) dL_isDeparture_13 (by decide) rfl ?_
    refine zk_aload_n hc dL_isDeparture_14 2 rfl ?_
    refine zk_iconst hc (nI 4) dL_isDeparture_15 rfl ?_
    obtain ⟨hat_9_f, hat_9⟩ := cs_at hS_5
    refine zk_callVi hc (rest := []) (kx_told g l b S W_4 cN (by omega) hI hS_5 (nI 4)) gg_L_25 cd_X6_told ⟨Nat.le_of_ble_eq_true rfl, Nat.le_of_ble_eq_true rfl⟩ ⟨Nat.le_of_ble_eq_true rfl, Nat.le_of_ble_eq_true rfl⟩ ([]) ([]) (by simp only [List.append_nil, List.nil_append]) 0 hat_9 rfl rfl (Nat.le_of_ble_eq_true rfl) dL_isDeparture_16 (fun r W_7 hp => ?_)
    obtain ⟨rfl, hS_8⟩ := hp
    refine zk_ws (ws2 := W_7) (by simp only [List.append_nil, List.nil_append]) ?_
    refine zk_top (y := nI (S.1 12)) (tol_n _ (by omega)) ?_
    refine zk_istore hc (lv2 := [(4, .int (nI (S.1 12))), (3, .int (nI (mny S.1 t))), (2, .int (nI (rea S.1 t))), (0, .ref b), (1, .int (nI t))]) dL_isDeparture_19 (by decide) rfl ?_
    refine zk_aload_n hc dL_isDeparture_21 3 rfl ?_
    refine zk_bipush hc (nI 11) dL_isDeparture_22 rfl ?_
    obtain ⟨hat_12_f, hat_12⟩ := cs_at hS_8
    refine zk_callVi hc (rest := []) (kx_told g l b S W_7 cN (by omega) hI hS_8 (nI 11)) gg_L_25 cd_X6_told ⟨Nat.le_of_ble_eq_true rfl, Nat.le_of_ble_eq_true rfl⟩ ⟨Nat.le_of_ble_eq_true rfl, Nat.le_of_ble_eq_true rfl⟩ ([]) ([]) (by simp only [List.append_nil, List.nil_append]) 0 hat_12 rfl rfl (Nat.le_of_ble_eq_true rfl) dL_isDeparture_24 (fun r W_10 hp => ?_)
    obtain ⟨rfl, hS_11⟩ := hp
    refine zk_ws (ws2 := W_10) (by simp only [List.append_nil, List.nil_append]) ?_
    refine zk_top (y := S.2.2.2.2.2.2.2.2.2) (tol_n _ (by omega)) ?_
    refine zk_istore hc (lv2 := [(5, .int S.2.2.2.2.2.2.2.2.2), (4, .int (nI (S.1 12))), (3, .int (nI (mny S.1 t))), (2, .int (nI (rea S.1 t))), (0, .ref b), (1, .int (nI t))]) dL_isDeparture_27 (by decide) rfl ?_
    refine zk_aload_n hc dL_isDeparture_29 4 rfl ?_
    refine zk_iconst hc (nI 0) dL_isDeparture_30 rfl ?_
    obtain ⟨hat_15_f, hat_15⟩ := cs_at hS_11
    refine zk_callVi hc (rest := []) (kx_train g l b S W_10 cN (by omega) hI hS_11 (nI 0)) gg_L_83 cd_X6_train ⟨Nat.le_of_ble_eq_true rfl, Nat.le_of_ble_eq_true rfl⟩ ⟨Nat.le_of_ble_eq_true rfl, Nat.le_of_ble_eq_true rfl⟩ ([]) ([]) (by simp only [List.append_nil, List.nil_append]) 0 hat_15 rfl rfl (Nat.le_of_ble_eq_true rfl) dL_isDeparture_31 (fun r W_13 hp => ?_)
    obtain ⟨rfl, hS_14⟩ := hp
    refine zk_ws (ws2 := W_13) (by simp only [List.append_nil, List.nil_append]) ?_
    refine zk_istore hc (lv2 := [(6, .int (aTra S.1 (nI 0))), (5, .int S.2.2.2.2.2.2.2.2.2), (4, .int (nI (S.1 12))), (3, .int (nI (mny S.1 t))), (2, .int (nI (rea S.1 t))), (0, .ref b), (1, .int (nI t))]) dL_isDeparture_34 (by decide) rfl ?_
    refine zk_aload_n hc dL_isDeparture_36 5 rfl ?_
    refine zk_iconst hc (nI 1) dL_isDeparture_37 rfl ?_
    obtain ⟨hat_18_f, hat_18⟩ := cs_at hS_14
    refine zk_callVi hc (rest := []) (kx_train g l b S W_13 cN (by omega) hI hS_14 (nI 1)) gg_L_83 cd_X6_train ⟨Nat.le_of_ble_eq_true rfl, Nat.le_of_ble_eq_true rfl⟩ ⟨Nat.le_of_ble_eq_true rfl, Nat.le_of_ble_eq_true rfl⟩ ([]) ([]) (by simp only [List.append_nil, List.nil_append]) 0 hat_18 rfl rfl (Nat.le_of_ble_eq_true rfl) dL_isDeparture_38 (fun r W_16 hp => ?_)
    obtain ⟨rfl, hS_17⟩ := hp
    refine zk_ws (ws2 := W_16) (by simp only [List.append_nil, List.nil_append]) ?_
    refine zk_istore hc (lv2 := [(7, .int (aTra S.1 (nI 1))), (6, .int (aTra S.1 (nI 0))), (5, .int S.2.2.2.2.2.2.2.2.2), (4, .int (nI (S.1 12))), (3, .int (nI (mny S.1 t))), (2, .int (nI (rea S.1 t))), (0, .ref b), (1, .int (nI t))]) dL_isDeparture_41 (by decide) rfl ?_
    refine zk_aload_n hc dL_isDeparture_43 6 rfl ?_
    refine zk_iload_n hc dL_isDeparture_44 7 rfl ?_
    obtain ⟨hat_21_f, hat_21⟩ := cs_at hS_17
    refine zk_callVi hc (rest := []) (kx_depart g l b S W_16 cN (by omega) hI hS_17 (nI t)) gg_L_52 cd_X6_depart ⟨Nat.le_of_ble_eq_true rfl, Nat.le_of_ble_eq_true rfl⟩ ⟨Nat.le_of_ble_eq_true rfl, Nat.le_of_ble_eq_true rfl⟩ ([]) ([]) (by simp only [List.append_nil, List.nil_append]) 0 hat_21 rfl rfl (Nat.le_of_ble_eq_true rfl) dL_isDeparture_45 (fun r W_19 hp => ?_)
    obtain ⟨rfl, hS_20⟩ := hp
    refine zk_ws (ws2 := W_19) (by simp only [List.append_nil, List.nil_append]) ?_
    refine zk_top (y := (-2)) ((dep_n h4.2 ht).trans (if_pos h0)) ?_
    rw [ndep_n h4.2 ht, if_pos h0] at hS_20
    refine zk_istore hc (lv2 := [(8, .int (-2)), (7, .int (aTra S.1 (nI 1))), (6, .int (aTra S.1 (nI 0))), (5, .int S.2.2.2.2.2.2.2.2.2), (4, .int (nI (S.1 12))), (3, .int (nI (mny S.1 t))), (2, .int (nI (rea S.1 t))), (0, .ref b), (1, .int (nI t))]) dL_isDeparture_48 (by decide) rfl ?_
    refine zk_iload_n hc dL_isDeparture_50 6 rfl ?_
    refine zk_if_leN hc 93 dL_isDeparture_51 (by decide) (by omega) (fun h51 => ?_) (fun h51 => ?_)
    · exact absurd h51 (by omega)
    · refine zk_iload_n hc dL_isDeparture_54 6 rfl ?_
      refine zk_bipush hc (nI 7) dL_isDeparture_55 rfl ?_
      refine zk_icmp_geN hc 91 dL_isDeparture_57 (by decide) (by omega) (by omega) (fun h_22 => ?_) (fun h_22 => ?_)
      · exact absurd h_22 (by omega)
      · refine zk_iload hc dL_isDeparture_60 0 rfl ?_
        refine zk_bipush hc ((-2)) dL_isDeparture_62 rfl ?_
        refine zk_icmp_ne hc 91 dL_isDeparture_64 (by decide) (fun h64 => ?_) (fun h64 => ?_)
        · exact absurd rfl h64
        · refine zk_aload_n hc dL_isDeparture_67 7 rfl ?_
          refine zk_bipush hc (nI 11) dL_isDeparture_68 rfl ?_
          obtain ⟨hat_25_f, hat_25⟩ := cs_at hS_20
          refine zk_callVi hc (rest := []) (kx_told g l b (setR S (nI (rea S.1 t))) W_19 cN (by omega) (show INV cN (setR S (nI (rea S.1 t))) from hI) hS_20 (nI 11)) gg_L_25 cd_X6_told ⟨Nat.le_of_ble_eq_true rfl, Nat.le_of_ble_eq_true rfl⟩ ⟨Nat.le_of_ble_eq_true rfl, Nat.le_of_ble_eq_true rfl⟩ ([]) ([]) (by simp only [List.append_nil, List.nil_append]) 0 hat_25 rfl rfl (Nat.le_of_ble_eq_true rfl) dL_isDeparture_70 (fun r W_23 hp => ?_)
          obtain ⟨rfl, hS_24⟩ := hp
          refine zk_ws (ws2 := W_23) (by simp only [List.append_nil, List.nil_append]) ?_
          refine zk_top (y := nI (rea S.1 t)) (tol_n _ (by omega)) ?_
          refine zk_iload_n hc dL_isDeparture_73 6 rfl ?_
          refine zk_icmp_neN hc 91 dL_isDeparture_74 (by decide) (by omega) (by omega) (fun h_26 => ?_) (fun h_26 => ?_)
          · exact absurd h_26 (by omega)
          · refine zk_aload_n hc dL_isDeparture_77 7 rfl ?_
            refine zk_iconst hc (nI 4) dL_isDeparture_78 rfl ?_
            obtain ⟨hat_29_f, hat_29⟩ := cs_at hS_24
            refine zk_callVi hc (rest := []) (kx_told g l b (setR S (nI (rea S.1 t))) W_23 cN (by omega) (show INV cN (setR S (nI (rea S.1 t))) from hI) hS_24 (nI 4)) gg_L_25 cd_X6_told ⟨Nat.le_of_ble_eq_true rfl, Nat.le_of_ble_eq_true rfl⟩ ⟨Nat.le_of_ble_eq_true rfl, Nat.le_of_ble_eq_true rfl⟩ ([]) ([]) (by simp only [List.append_nil, List.nil_append]) 0 hat_29 rfl rfl (Nat.le_of_ble_eq_true rfl) dL_isDeparture_79 (fun r W_27 hp => ?_)
            obtain ⟨rfl, hS_28⟩ := hp
            refine zk_ws (ws2 := W_27) (by simp only [List.append_nil, List.nil_append]) ?_
            refine zk_top (y := nI (S.1 12)) (tol_n _ (by omega)) ?_
            refine zk_iload hc dL_isDeparture_82 4 rfl ?_
            refine zk_icmp_neN hc 91 dL_isDeparture_84 (by decide) (by omega) (by omega) (fun h_30 => ?_) (fun h_30 => ?_)
            · exact absurd h_30 (by omega)
            · refine zk_iconst hc (nI 1) dL_isDeparture_87 rfl ?_
              refine zk_goto hc 92 dL_isDeparture_88 (by decide) ?_
              refine fin 7 72 _ _ _ _ (by decide) (by decide) dL_isDeparture_92 rfl (?_)
              exact ⟨rfl, setR S (nI (rea S.1 t)), ⟨rfl, rfl, rfl, rfl, rfl⟩, (show INV cN (setR S (nI (rea S.1 t))) from hI), hS_28⟩
  · replace h0 : rea S.1 t = 0 := Classical.not_not.mp h0
    have hrm := rea_0 h0
    have hr12 := rea_12 h0
    have hgo : nDep S (nI t) = chg S (depF S.1 t) := by rw [ndep_n h4.2 ht, if_neg (not_not_intro h0)]
    have hI2 : INV (cN + 1) (chg S (depF S.1 t)) := by have := INV_dep hI (nI t); rw [hgo] at this; exact this
    obtain ⟨hE, hI3, hun, hr8, -⟩ := und_back hI (u2 := depF S.1 t) (fun j hj => dep_big h12 (by omega) hj)
    have k4 : depF S.1 t 4 = S.1 4 := dep_4
    have q0 : aTrk (depF S.1 t) (nI t) (nI 0) = nI 0 := by rw [trk_n (by omega) (by omega) (by omega)]; show nI (mny _ t) = _; rw [dep_mny h12]
    refine zk_aload_n hc dL_isDeparture_0 0 rfl ?_
    refine zk_iload_n hc dL_isDeparture_1 1 rfl ?_
    refine zk_iconst hc (nI 4) dL_isDeparture_2 rfl ?_
    obtain ⟨hat_33_f, hat_33⟩ := cs_at hS
    refine zk_callVi hc (rest := []) (kx_track g l b S W cN (by omega) hI hS (nI t) (nI 4)) gg_L_71 cd_X6_track ⟨Nat.le_of_ble_eq_true rfl, Nat.le_of_ble_eq_true rfl⟩ ⟨Nat.le_of_ble_eq_true rfl, Nat.le_of_ble_eq_true rfl⟩ ([]) ([]) (by simp only [List.append_nil, List.nil_append]) 0 hat_33 rfl rfl (Nat.le_of_ble_eq_true rfl) dL_isDeparture_3 (fun r W_31 hp => ?_)
    obtain ⟨rfl, hS_32⟩ := hp
    refine zk_ws (ws2 := W_31) (by simp only [List.append_nil, List.nil_append]) ?_
    refine zk_top (y := nI (rea S.1 t)) (trk_n h4.2 ht (by omega)) ?_
    refine zk_istore_n hc (lv2 := [(2, .int (nI (rea S.1 t))), (0, .ref b), (1, .int (nI t))]) dL_isDeparture_6 (by decide) rfl ?_
    refine zk_aload_n hc dL_isDeparture_7 1 rfl ?_
    refine zk_iload_n hc dL_isDeparture_8 2 rfl ?_
    refine zk_iconst hc (nI 0) dL_isDeparture_9 rfl ?_
    obtain ⟨hat_36_f, hat_36⟩ := cs_at hS_32
    refine zk_callVi hc (rest := []) (kx_track g l b S W_31 cN (by omega) hI hS_32 (nI t) (nI 0)) gg_L_71 cd_X6_track ⟨Nat.le_of_ble_eq_true rfl, Nat.le_of_ble_eq_true rfl⟩ ⟨Nat.le_of_ble_eq_true rfl, Nat.le_of_ble_eq_true rfl⟩ ([]) ([]) (by simp only [List.append_nil, List.nil_append]) 0 hat_36 rfl rfl (Nat.le_of_ble_eq_true rfl) dL_isDeparture_10 (fun r W_34 hp => ?_)
    obtain ⟨rfl, hS_35⟩ := hp
    refine zk_ws (ws2 := W_34) (by simp only [List.append_nil, List.nil_append]) ?_
    refine zk_top (y := nI (mny S.1 t)) (trk_n h4.2 ht (by omega)) ?_
    refine zk_istore_n hc (lv2 := [(3, .int (nI (mny S.1 t))), (2, .int (nI (rea S.1 t))), (0, .ref b), (1, .int (nI t))]) dL_isDeparture_13 (by decide) rfl ?_
    refine zk_aload_n hc dL_isDeparture_14 2 rfl ?_
    refine zk_iconst hc (nI 4) dL_isDeparture_15 rfl ?_
    obtain ⟨hat_39_f, hat_39⟩ := cs_at hS_35
    refine zk_callVi hc (rest := []) (kx_told g l b S W_34 cN (by omega) hI hS_35 (nI 4)) gg_L_25 cd_X6_told ⟨Nat.le_of_ble_eq_true rfl, Nat.le_of_ble_eq_true rfl⟩ ⟨Nat.le_of_ble_eq_true rfl, Nat.le_of_ble_eq_true rfl⟩ ([]) ([]) (by simp only [List.append_nil, List.nil_append]) 0 hat_39 rfl rfl (Nat.le_of_ble_eq_true rfl) dL_isDeparture_16 (fun r W_37 hp => ?_)
    obtain ⟨rfl, hS_38⟩ := hp
    refine zk_ws (ws2 := W_37) (by simp only [List.append_nil, List.nil_append]) ?_
    refine zk_top (y := nI (S.1 12)) (tol_n _ (by omega)) ?_
    refine zk_istore hc (lv2 := [(4, .int (nI (S.1 12))), (3, .int (nI (mny S.1 t))), (2, .int (nI (rea S.1 t))), (0, .ref b), (1, .int (nI t))]) dL_isDeparture_19 (by decide) rfl ?_
    refine zk_aload_n hc dL_isDeparture_21 3 rfl ?_
    refine zk_bipush hc (nI 11) dL_isDeparture_22 rfl ?_
    obtain ⟨hat_42_f, hat_42⟩ := cs_at hS_38
    refine zk_callVi hc (rest := []) (kx_told g l b S W_37 cN (by omega) hI hS_38 (nI 11)) gg_L_25 cd_X6_told ⟨Nat.le_of_ble_eq_true rfl, Nat.le_of_ble_eq_true rfl⟩ ⟨Nat.le_of_ble_eq_true rfl, Nat.le_of_ble_eq_true rfl⟩ ([]) ([]) (by simp only [List.append_nil, List.nil_append]) 0 hat_42 rfl rfl (Nat.le_of_ble_eq_true rfl) dL_isDeparture_24 (fun r W_40 hp => ?_)
    obtain ⟨rfl, hS_41⟩ := hp
    refine zk_ws (ws2 := W_40) (by simp only [List.append_nil, List.nil_append]) ?_
    refine zk_top (y := S.2.2.2.2.2.2.2.2.2) (tol_n _ (by omega)) ?_
    refine zk_istore hc (lv2 := [(5, .int S.2.2.2.2.2.2.2.2.2), (4, .int (nI (S.1 12))), (3, .int (nI (mny S.1 t))), (2, .int (nI (rea S.1 t))), (0, .ref b), (1, .int (nI t))]) dL_isDeparture_27 (by decide) rfl ?_
    refine zk_aload_n hc dL_isDeparture_29 4 rfl ?_
    refine zk_iconst hc (nI 0) dL_isDeparture_30 rfl ?_
    obtain ⟨hat_45_f, hat_45⟩ := cs_at hS_41
    refine zk_callVi hc (rest := []) (kx_train g l b S W_40 cN (by omega) hI hS_41 (nI 0)) gg_L_83 cd_X6_train ⟨Nat.le_of_ble_eq_true rfl, Nat.le_of_ble_eq_true rfl⟩ ⟨Nat.le_of_ble_eq_true rfl, Nat.le_of_ble_eq_true rfl⟩ ([]) ([]) (by simp only [List.append_nil, List.nil_append]) 0 hat_45 rfl rfl (Nat.le_of_ble_eq_true rfl) dL_isDeparture_31 (fun r W_43 hp => ?_)
    obtain ⟨rfl, hS_44⟩ := hp
    refine zk_ws (ws2 := W_43) (by simp only [List.append_nil, List.nil_append]) ?_
    refine zk_istore hc (lv2 := [(6, .int (aTra S.1 (nI 0))), (5, .int S.2.2.2.2.2.2.2.2.2), (4, .int (nI (S.1 12))), (3, .int (nI (mny S.1 t))), (2, .int (nI (rea S.1 t))), (0, .ref b), (1, .int (nI t))]) dL_isDeparture_34 (by decide) rfl ?_
    refine zk_aload_n hc dL_isDeparture_36 5 rfl ?_
    refine zk_iconst hc (nI 1) dL_isDeparture_37 rfl ?_
    obtain ⟨hat_48_f, hat_48⟩ := cs_at hS_44
    refine zk_callVi hc (rest := []) (kx_train g l b S W_43 cN (by omega) hI hS_44 (nI 1)) gg_L_83 cd_X6_train ⟨Nat.le_of_ble_eq_true rfl, Nat.le_of_ble_eq_true rfl⟩ ⟨Nat.le_of_ble_eq_true rfl, Nat.le_of_ble_eq_true rfl⟩ ([]) ([]) (by simp only [List.append_nil, List.nil_append]) 0 hat_48 rfl rfl (Nat.le_of_ble_eq_true rfl) dL_isDeparture_38 (fun r W_46 hp => ?_)
    obtain ⟨rfl, hS_47⟩ := hp
    refine zk_ws (ws2 := W_46) (by simp only [List.append_nil, List.nil_append]) ?_
    refine zk_istore hc (lv2 := [(7, .int (aTra S.1 (nI 1))), (6, .int (aTra S.1 (nI 0))), (5, .int S.2.2.2.2.2.2.2.2.2), (4, .int (nI (S.1 12))), (3, .int (nI (mny S.1 t))), (2, .int (nI (rea S.1 t))), (0, .ref b), (1, .int (nI t))]) dL_isDeparture_41 (by decide) rfl ?_
    refine zk_aload_n hc dL_isDeparture_43 6 rfl ?_
    refine zk_iload_n hc dL_isDeparture_44 7 rfl ?_
    obtain ⟨hat_51_f, hat_51⟩ := cs_at hS_47
    refine zk_callVi hc (rest := []) (kx_depart g l b S W_46 cN (by omega) hI hS_47 (nI t)) gg_L_52 cd_X6_depart ⟨Nat.le_of_ble_eq_true rfl, Nat.le_of_ble_eq_true rfl⟩ ⟨Nat.le_of_ble_eq_true rfl, Nat.le_of_ble_eq_true rfl⟩ ([]) ([]) (by simp only [List.append_nil, List.nil_append]) 0 hat_51 rfl rfl (Nat.le_of_ble_eq_true rfl) dL_isDeparture_45 (fun r W_49 hp => ?_)
    obtain ⟨rfl, hS_50⟩ := hp
    refine zk_ws (ws2 := W_49) (by simp only [List.append_nil, List.nil_append]) ?_
    refine zk_top (y := nI (mny S.1 t)) ((dep_n h4.2 ht).trans (if_neg (not_not_intro h0))) ?_
    rw [hgo] at hS_50
    refine zk_istore hc (lv2 := [(8, .int (nI (mny S.1 t))), (7, .int (aTra S.1 (nI 1))), (6, .int (aTra S.1 (nI 0))), (5, .int S.2.2.2.2.2.2.2.2.2), (4, .int (nI (S.1 12))), (3, .int (nI (mny S.1 t))), (2, .int (nI (rea S.1 t))), (0, .ref b), (1, .int (nI t))]) dL_isDeparture_48 (by decide) rfl ?_
    refine zk_iload_n hc dL_isDeparture_50 6 rfl ?_
    refine zk_if_leN hc 93 dL_isDeparture_51 (by decide) (by omega) (fun h51 => ?_) (fun h51 => ?_)
    · refine zk_iload hc dL_isDeparture_93 0 rfl ?_
      refine zk_iload_n hc dL_isDeparture_95 5 rfl ?_
      refine zk_icmp_neN hc 149 dL_isDeparture_96 (by decide) (by omega) (by omega) (fun h_52 => ?_) (fun h_52 => ?_)
      · exact absurd h_52 (by omega)
      · refine zk_iload_n hc dL_isDeparture_99 5 rfl ?_
        refine zk_if_leN hc 149 dL_isDeparture_100 (by decide) (by omega) (fun h_53 => ?_) (fun h_53 => ?_)
        · exact absurd h_53 (by omega)
        · refine zk_aload_n hc dL_isDeparture_103 7 rfl ?_
          refine zk_iload_n hc dL_isDeparture_104 8 rfl ?_
          refine zk_iconst hc (nI 0) dL_isDeparture_105 rfl ?_
          obtain ⟨hat_56_f, hat_56⟩ := cs_at hS_50
          refine zk_callVi hc (rest := []) (kx_track g l b (chg S (depF S.1 t)) W_49 (cN + 1) (by omega) hI2 hS_50 (nI t) (nI 0)) gg_L_71 cd_X6_track ⟨Nat.le_of_ble_eq_true rfl, Nat.le_of_ble_eq_true rfl⟩ ⟨Nat.le_of_ble_eq_true rfl, Nat.le_of_ble_eq_true rfl⟩ ([]) ([]) (by simp only [List.append_nil, List.nil_append]) 0 hat_56 rfl rfl (Nat.le_of_ble_eq_true rfl) dL_isDeparture_106 (fun r W_54 hp => ?_)
          obtain ⟨rfl, hS_55⟩ := hp
          refine zk_ws (ws2 := W_54) (by simp only [List.append_nil, List.nil_append]) ?_
          refine zk_top (y := nI 0) q0 ?_
          refine zk_if_neN hc 149 dL_isDeparture_109 (by decide) (by omega) (fun h_57 => ?_) (fun h_57 => ?_)
          · exact absurd h_57 (by decide)
          · refine zk_aload_n hc dL_isDeparture_112 7 rfl ?_
            refine zk_iconst hc (nI 4) dL_isDeparture_113 rfl ?_
            obtain ⟨hat_60_f, hat_60⟩ := cs_at hS_55
            refine zk_callVi hc (rest := []) (kx_told g l b (chg S (depF S.1 t)) W_54 (cN + 1) (by omega) hI2 hS_55 (nI 4)) gg_L_25 cd_X6_told ⟨Nat.le_of_ble_eq_true rfl, Nat.le_of_ble_eq_true rfl⟩ ⟨Nat.le_of_ble_eq_true rfl, Nat.le_of_ble_eq_true rfl⟩ ([]) ([]) (by simp only [List.append_nil, List.nil_append]) 0 hat_60 rfl rfl (Nat.le_of_ble_eq_true rfl) dL_isDeparture_114 (fun r W_58 hp => ?_)
            obtain ⟨rfl, hS_59⟩ := hp
            refine zk_ws (ws2 := W_58) (by simp only [List.append_nil, List.nil_append]) ?_
            refine zk_top (y := nI (S.1 12 - 1)) ((tol_n _ (by omega)).trans (congrArg nI (dep_12 (u := S.1) (t := t)))) ?_
            refine zk_iload hc dL_isDeparture_117 4 rfl ?_
            refine zk_iconst hc (nI 1) dL_isDeparture_119 rfl ?_
            refine zk_isubN hc dL_isDeparture_120 (by omega) ?_
            refine zk_icmp_neN hc 149 dL_isDeparture_121 (by decide) (by omega) (by omega) (fun h_61 => ?_) (fun h_61 => ?_)
            · exact absurd h_61 (by omega)
            · refine zk_aload_n hc dL_isDeparture_124 7 rfl ?_
              refine zk_iconst hc (nI 0) dL_isDeparture_125 rfl ?_
              obtain ⟨hat_64_f, hat_64⟩ := cs_at hS_59
              refine zk_callVi hc (rest := []) (kx_train g l b (chg S (depF S.1 t)) W_58 (cN + 1) (by omega) hI2 hS_59 (nI 0)) gg_L_83 cd_X6_train ⟨Nat.le_of_ble_eq_true rfl, Nat.le_of_ble_eq_true rfl⟩ ⟨Nat.le_of_ble_eq_true rfl, Nat.le_of_ble_eq_true rfl⟩ ([]) ([]) (by simp only [List.append_nil, List.nil_append]) 0 hat_64 rfl rfl (Nat.le_of_ble_eq_true rfl) dL_isDeparture_126 (fun r W_62 hp => ?_)
              obtain ⟨rfl, hS_63⟩ := hp
              refine zk_ws (ws2 := W_62) (by simp only [List.append_nil, List.nil_append]) ?_
              refine zk_top (y := (aTra S.1 (nI 1))) (dep_tra h12 hr12) ?_
              refine zk_iload hc dL_isDeparture_129 1 rfl ?_
              refine zk_icmp_ne hc 149 dL_isDeparture_131 (by decide) (fun h131 => ?_) (fun h131 => ?_)
              · exact absurd rfl h131
              · refine zk_aload_n hc dL_isDeparture_134 7 rfl ?_
                refine zk_bipush hc (nI 11) dL_isDeparture_135 rfl ?_
                obtain ⟨hat_67_f, hat_67⟩ := cs_at hS_63
                refine zk_callVi hc (rest := []) (kx_told g l b (chg S (depF S.1 t)) W_62 (cN + 1) (by omega) hI2 hS_63 (nI 11)) gg_L_25 cd_X6_told ⟨Nat.le_of_ble_eq_true rfl, Nat.le_of_ble_eq_true rfl⟩ ⟨Nat.le_of_ble_eq_true rfl, Nat.le_of_ble_eq_true rfl⟩ ([]) ([]) (by simp only [List.append_nil, List.nil_append]) 0 hat_67 rfl rfl (Nat.le_of_ble_eq_true rfl) dL_isDeparture_137 (fun r W_65 hp => ?_)
                obtain ⟨rfl, hS_66⟩ := hp
                refine zk_ws (ws2 := W_65) (by simp only [List.append_nil, List.nil_append]) ?_
                refine zk_top (y := S.2.2.2.2.2.2.2.2.2) (tol_n _ (by omega)) ?_
                refine zk_iload hc dL_isDeparture_140 3 rfl ?_
                refine zk_icmp_ne hc 149 dL_isDeparture_142 (by decide) (fun h142 => ?_) (fun h142 => ?_)
                · exact absurd rfl h142
                · refine zk_iconst hc (nI 1) dL_isDeparture_145 rfl ?_
                  refine zk_goto hc 150 dL_isDeparture_146 (by decide) ?_
                  refine zk_istore hc (lv2 := [(9, .int (nI 1)), (8, .int (nI (mny S.1 t))), (7, .int (aTra S.1 (nI 1))), (6, .int (aTra S.1 (nI 0))), (5, .int S.2.2.2.2.2.2.2.2.2), (4, .int (nI (S.1 12))), (3, .int (nI (mny S.1 t))), (2, .int (nI (rea S.1 t))), (0, .ref b), (1, .int (nI t))]) dL_isDeparture_150 (by decide) rfl ?_
                  refine zk_aload_n hc dL_isDeparture_152 8 rfl ?_
                  obtain ⟨hat_70_f, hat_70⟩ := cs_at hS_66
                  refine zk_callVi hc (rest := []) (kx_undo g l b (chg S (depF S.1 t)) W_65 (cN + 1) (by omega) hI2 hS_66) gg_L_58 cd_X6_undo ⟨Nat.le_of_ble_eq_true rfl, Nat.le_of_ble_eq_true rfl⟩ ⟨Nat.le_of_ble_eq_true rfl, Nat.le_of_ble_eq_true rfl⟩ ([]) ([]) (by simp only [List.append_nil, List.nil_append]) 0 hat_70 rfl rfl (Nat.le_of_ble_eq_true rfl) dL_isDeparture_153 (fun r W_68 hp => ?_)
                  obtain ⟨rfl, hS_69⟩ := hp
                  refine zk_ws (ws2 := W_68) (by simp only [List.append_nil, List.nil_append]) ?_
                  refine zk_top (y := nI (remN S.2.2.1 - 1)) hun ?_
                  refine zk_if_lt hc 188 dL_isDeparture_156 (by decide) (fun h156 => ?_) (fun h156 => ?_)
                  · exact absurd h156 (nI_pos (by omega))
                  · refine zk_iload hc dL_isDeparture_159 0 rfl ?_
                    refine zk_if_eqN hc 188 dL_isDeparture_161 (by decide) (by omega) (fun h_71 => ?_) (fun h_71 => ?_)
                    · exact absurd h_71 (by decide)
                    · refine zk_aload_n hc dL_isDeparture_164 8 rfl ?_
                      refine zk_iconst hc (nI 0) dL_isDeparture_165 rfl ?_
                      obtain ⟨hat_74_f, hat_74⟩ := cs_at hS_69
                      refine zk_callVi hc (rest := []) (kx_train g l b (nUnd (chg S (depF S.1 t))) W_68 cN (by omega) hI3 hS_69 (nI 0)) gg_L_83 cd_X6_train ⟨Nat.le_of_ble_eq_true rfl, Nat.le_of_ble_eq_true rfl⟩ ⟨Nat.le_of_ble_eq_true rfl, Nat.le_of_ble_eq_true rfl⟩ ([]) ([]) (by simp only [List.append_nil, List.nil_append]) 0 hat_74 rfl rfl (Nat.le_of_ble_eq_true rfl) dL_isDeparture_166 (fun r W_72 hp => ?_)
                      obtain ⟨rfl, hS_73⟩ := hp
                      refine zk_ws (ws2 := W_72) (by simp only [List.append_nil, List.nil_append]) ?_
                      refine zk_top (y := (aTra S.1 (nI 0))) (congrArg (fun u : Nat → Nat => aTra u (nI 0)) hE.1.symm) ?_
                      refine zk_iload hc dL_isDeparture_169 3 rfl ?_
                      refine zk_icmp_ne hc 188 dL_isDeparture_171 (by decide) (fun h171 => ?_) (fun h171 => ?_)
                      · exact absurd rfl h171
                      · refine zk_aload_n hc dL_isDeparture_174 8 rfl ?_
                        refine zk_iload_n hc dL_isDeparture_175 9 rfl ?_
                        refine zk_iconst hc (nI 0) dL_isDeparture_176 rfl ?_
                        obtain ⟨hat_77_f, hat_77⟩ := cs_at hS_73
                        refine zk_callVi hc (rest := []) (kx_track g l b (nUnd (chg S (depF S.1 t))) W_72 cN (by omega) hI3 hS_73 (nI t) (nI 0)) gg_L_71 cd_X6_track ⟨Nat.le_of_ble_eq_true rfl, Nat.le_of_ble_eq_true rfl⟩ ⟨Nat.le_of_ble_eq_true rfl, Nat.le_of_ble_eq_true rfl⟩ ([]) ([]) (by simp only [List.append_nil, List.nil_append]) 0 hat_77 rfl rfl (Nat.le_of_ble_eq_true rfl) dL_isDeparture_177 (fun r W_75 hp => ?_)
                        obtain ⟨rfl, hS_76⟩ := hp
                        refine zk_ws (ws2 := W_75) (by simp only [List.append_nil, List.nil_append]) ?_
                        refine zk_top (y := nI (mny S.1 t)) ((congrArg (fun u : Nat → Nat => aTrk u (nI t) (nI 0)) hE.1.symm).trans (trk_n h4.2 ht (by omega))) ?_
                        refine zk_iload_n hc dL_isDeparture_180 6 rfl ?_
                        refine zk_icmp_neN hc 188 dL_isDeparture_181 (by decide) (by omega) (by omega) (fun h_78 => ?_) (fun h_78 => ?_)
                        · exact absurd h_78 (by omega)
                        · refine zk_iconst hc (nI 1) dL_isDeparture_184 rfl ?_
                          refine zk_goto hc 189 dL_isDeparture_185 (by decide) ?_
                          refine fin 7 72 _ _ _ _ (by decide) (by decide) dL_isDeparture_189 rfl (?_)
                          exact ⟨rfl, _, hE, hI3, hS_76⟩
    · exact absurd h51 (by omega)
