set_option maxHeartbeats 4000000 in
set_option maxRecDepth 100000 in
theorem ct_L_isCheapest (g : GG) (l : Launch) (b cN : Nat) (S : AS) (W : va_W) (hN : cN ≤ 500) (hI : INV cN S) (hS : CSt g b S W) : CtI g l yL_isCheapest cL_isCheapest 8 (some .boolean) (rmK 16 21 216) (W) [.ref b] (fun r W1 => r = nI 1 ∧ ∃ S2, EqS S S2 ∧ INV cN S2 ∧ CSt g b S2 W1) := by
  refine CtZ.go RL rfl (by decide +kernel) (Nat.le_of_ble_eq_true rfl) ?_
  intro p e s m args below meth c A H0 Q hc hnm fin
  have h4 := hI.1.1
  have hG := wf_GU hI.1
  have hm8 := wf_m8 hI.1
  have h12 := hI.1.2.2.2.2.2.2.1
  have hB := hI.1.2.2.2.2.2.2.2.2.2.2.2
  have hB6 := hB 6 (by omega)
  obtain ⟨S0, hE, hI0, hS0⟩ : ∃ S0, EqS S S0 ∧ INV cN S0 ∧ CSt g b S0 W := ⟨S, EqS.rf S, hI, hS⟩
  show KW g p l e (rmK 16 21 216) s m args below meth c 8 A H0 0 0 Q (W) [(0, .ref b)] 0 []
  by_cases hmu : muf S.1 = -9
  · skip
    refine zk_bipush hc ((-9)) dL_isCheapest_0 rfl ?_
    refine zk_istore_n hc (lv2 := [(1, .int (-9)), (0, .ref b)]) dL_isCheapest_2 (by decide) rfl ?_
    refine zk_iconst hc (nI 0) dL_isCheapest_3 rfl ?_
    refine zk_istore_n hc (lv2 := [(2, .int (nI 0)), (1, .int (-9)), (0, .ref b)]) dL_isCheapest_4 (by decide) rfl ?_
    refine zk_iload_n hc dL_isCheapest_5 0 rfl ?_
    refine zk_iconst hc (nI 3) dL_isCheapest_6 rfl ?_
    refine zk_icmp_geN hc 192 dL_isCheapest_7 (by decide) (by omega) (by omega) (fun h_1 => ?_) (fun h_1 => ?_)
    · exact absurd h_1 (by decide)
    · rcases hB_0 : vis 0 S.1 [] 0 none with _ | z_0
      · skip
        refine zk_aload_n hc dL_isCheapest_10 2 rfl ?_
        refine zk_iload_n hc dL_isCheapest_11 0 rfl ?_
        refine zk_iconst hc (nI 0) dL_isCheapest_12 rfl ?_
        obtain ⟨hat_4_f, hat_4⟩ := cs_at hS0
        refine zk_callVi hc (rest := []) (kx_cheapest g l b S0 W cN (by omega) hI0 hS0 (nI 0) (nI 0)) gg_L_89 cd_X6_cheapest ⟨Nat.le_of_ble_eq_true rfl, Nat.le_of_ble_eq_true rfl⟩ ⟨Nat.le_of_ble_eq_true rfl, Nat.le_of_ble_eq_true rfl⟩ ([]) ([]) (by simp only [List.append_nil, List.nil_append]) 0 hat_4 rfl rfl (Nat.le_of_ble_eq_true rfl) dL_isCheapest_13 (fun r W_2 hp => ?_)
        obtain ⟨rfl, hS_3⟩ := hp
        refine zk_ws (ws2 := W_2) (by simp only [List.append_nil, List.nil_append]) ?_
        refine zk_top (y := (-9)) (by rw [← hE.1, che_n _ (by omega) (by omega), hB_0]; rfl) ?_
        refine zk_istore_n hc (lv2 := [(3, .int (-9)), (2, .int (nI 0)), (1, .int (-9)), (0, .ref b)]) dL_isCheapest_16 (by decide) rfl ?_
        refine zk_aload_n hc dL_isCheapest_17 3 rfl ?_
        refine zk_iload_n hc dL_isCheapest_18 1 rfl ?_
        refine zk_iconst hc (nI 1) dL_isCheapest_19 rfl ?_
        obtain ⟨hat_7_f, hat_7⟩ := cs_at hS_3
        refine zk_callVi hc (rest := []) (kx_cheapest g l b S0 W_2 cN (by omega) hI0 hS_3 (nI 0) (nI 1)) gg_L_89 cd_X6_cheapest ⟨Nat.le_of_ble_eq_true rfl, Nat.le_of_ble_eq_true rfl⟩ ⟨Nat.le_of_ble_eq_true rfl, Nat.le_of_ble_eq_true rfl⟩ ([]) ([]) (by simp only [List.append_nil, List.nil_append]) 0 hat_7 rfl rfl (Nat.le_of_ble_eq_true rfl) dL_isCheapest_20 (fun r W_5 hp => ?_)
        obtain ⟨rfl, hS_6⟩ := hp
        refine zk_ws (ws2 := W_5) (by simp only [List.append_nil, List.nil_append]) ?_
        refine zk_top (y := (-9)) (by rw [← hE.1, che_n _ (by omega) (by omega), hB_0]; rfl) ?_
        refine zk_istore hc (lv2 := [(4, .int (-9)), (3, .int (-9)), (2, .int (nI 0)), (1, .int (-9)), (0, .ref b)]) dL_isCheapest_23 (by decide) rfl ?_
        refine zk_aload_n hc dL_isCheapest_25 4 rfl ?_
        refine zk_iconst hc (nI 2) dL_isCheapest_26 rfl ?_
        obtain ⟨hat_10_f, hat_10⟩ := cs_at hS_6
        refine zk_callVi hc (rest := []) (kx_told g l b S0 W_5 cN (by omega) hI0 hS_6 (nI 2)) gg_L_25 cd_X6_told ⟨Nat.le_of_ble_eq_true rfl, Nat.le_of_ble_eq_true rfl⟩ ⟨Nat.le_of_ble_eq_true rfl, Nat.le_of_ble_eq_true rfl⟩ ([]) ([]) (by simp only [List.append_nil, List.nil_append]) 0 hat_10 rfl rfl (Nat.le_of_ble_eq_true rfl) dL_isCheapest_27 (fun r W_8 hp => ?_)
        obtain ⟨rfl, hS_9⟩ := hp
        refine zk_ws (ws2 := W_8) (by simp only [List.append_nil, List.nil_append]) ?_
        refine zk_top (y := nI (S.1 6)) ((tol_n _ (by omega)).trans (congrArg (fun u : Nat → Nat => nI (u 6)) hE.1.symm)) ?_
        refine zk_istore hc (lv2 := [(5, .int (nI (S.1 6))), (4, .int (-9)), (3, .int (-9)), (2, .int (nI 0)), (1, .int (-9)), (0, .ref b)]) dL_isCheapest_30 (by decide) rfl ?_
        refine zk_iload_n hc dL_isCheapest_32 2 rfl ?_
        refine zk_if_ge hc 40 dL_isCheapest_33 (by decide) (fun h33 => ?_) (fun h33 => ?_)
        · exact absurd h33 (by decide)
        · refine zk_iconst hc (nI 1) dL_isCheapest_36 rfl ?_
          refine zk_goto hc 41 dL_isCheapest_37 (by decide) ?_
          refine zk_iload hc dL_isCheapest_41 1 rfl ?_
          refine zk_if_ge hc 50 dL_isCheapest_43 (by decide) (fun h43 => ?_) (fun h43 => ?_)
          · exact absurd h43 (by decide)
          · refine zk_iconst hc (nI 1) dL_isCheapest_46 rfl ?_
            refine zk_goto hc 51 dL_isCheapest_47 (by decide) ?_
            refine zk_icmp_neN hc 100 dL_isCheapest_51 (by decide) (by omega) (by omega) (fun h_11 => ?_) (fun h_11 => ?_)
            · exact absurd h_11 (by decide)
            · refine zk_iload hc dL_isCheapest_54 1 rfl ?_
              refine zk_iload_n hc dL_isCheapest_56 3 rfl ?_
              refine zk_icmp_gt hc 100 dL_isCheapest_57 (by decide) (fun h57 => ?_) (fun h57 => ?_)
              · exact absurd h57 (by decide)
              · refine zk_iload_n hc dL_isCheapest_60 4 rfl ?_
                refine zk_if_lt hc 73 dL_isCheapest_61 (by decide) (fun h61 => ?_) (fun h61 => ?_)
                · refine zk_iload hc dL_isCheapest_73 1 rfl ?_
                  refine zk_if_ne hc 82 dL_isCheapest_75 (by decide) (fun h75 => ?_) (fun h75 => ?_)
                  · refine zk_iconst hc (nI 0) dL_isCheapest_82 rfl ?_
                    refine zk_aload_n hc dL_isCheapest_83 5 rfl ?_
                    refine zk_bipush hc (nI 12) dL_isCheapest_84 rfl ?_
                    obtain ⟨hat_14_f, hat_14⟩ := cs_at hS_9
                    refine zk_callVi hc (rest := [.int (nI 0)]) (kx_told g l b S0 W_8 cN (by omega) hI0 hS_9 (nI 12)) gg_L_25 cd_X6_told ⟨Nat.le_of_ble_eq_true rfl, Nat.le_of_ble_eq_true rfl⟩ ⟨Nat.le_of_ble_eq_true rfl, Nat.le_of_ble_eq_true rfl⟩ ([]) ([]) (by simp only [List.append_nil, List.nil_append]) 0 hat_14 rfl rfl (Nat.le_of_ble_eq_true rfl) dL_isCheapest_86 (fun r W_12 hp => ?_)
                    obtain ⟨rfl, hS_13⟩ := hp
                    refine zk_ws (ws2 := W_12) (by simp only [List.append_nil, List.nil_append]) ?_
                    refine zk_top (y := (-9)) ((tol_n _ (by omega)).trans ((congrArg muf hE.1.symm).trans hmu)) ?_
                    refine zk_if_lt hc 96 dL_isCheapest_89 (by decide) (fun h89 => ?_) (fun h89 => ?_)
                    · refine zk_iconst hc (nI 0) dL_isCheapest_96 rfl ?_
                      refine zk_icmp_eqN hc 102 dL_isCheapest_97 (by decide) (by omega) (by omega) (fun h_15 => ?_) (fun h_15 => ?_)
                      · refine zk_iload_n hc dL_isCheapest_102 2 rfl ?_
                        refine zk_istore_n hc (lv2 := [(1, .int (-9)), (5, .int (nI (S.1 6))), (4, .int (-9)), (3, .int (-9)), (2, .int (nI 0)), (0, .ref b)]) dL_isCheapest_103 (by decide) rfl ?_
                        refine zk_aload_n hc dL_isCheapest_104 5 rfl ?_
                        refine zk_iload_n hc dL_isCheapest_105 4 rfl ?_
                        obtain ⟨hat_18_f, hat_18⟩ := cs_at hS_13
                        refine zk_callVi hc (rest := []) (kx_makeUp g l b S0 W_12 cN (by omega) hI0 hS_13 (nI 0)) gg_L_55 cd_X6_makeUp ⟨Nat.le_of_ble_eq_true rfl, Nat.le_of_ble_eq_true rfl⟩ ⟨Nat.le_of_ble_eq_true rfl, Nat.le_of_ble_eq_true rfl⟩ ([]) ([]) (by simp only [List.append_nil, List.nil_append]) 0 hat_18 rfl rfl (Nat.le_of_ble_eq_true rfl) dL_isCheapest_106 (fun r W_16 hp => ?_)
                        obtain ⟨rfl, hS_17⟩ := hp
                        refine zk_ws (ws2 := W_16) (by simp only [List.append_nil, List.nil_append]) ?_
                        refine zk_top (y := (-2)) (by rw [← hE.1, mak_n _ (by omega), hB_0]; rfl) ?_
                        rw [nmak_n _ (by omega), ← hE.1, hB_0] at hS_17
                        replace hS_17 : CSt g b S0 W_16 := hS_17
                        refine zk_istore hc (lv2 := [(6, .int (-2)), (1, .int (-9)), (5, .int (nI (S.1 6))), (4, .int (-9)), (3, .int (-9)), (2, .int (nI 0)), (0, .ref b)]) dL_isCheapest_109 (by decide) rfl ?_
                        refine zk_iload hc dL_isCheapest_111 0 rfl ?_
                        refine zk_iload_n hc dL_isCheapest_113 4 rfl ?_
                        refine zk_if_ge hc 122 dL_isCheapest_114 (by decide) (fun h114 => ?_) (fun h114 => ?_)
                        · exact absurd h114 (by decide)
                        · refine zk_bipush hc ((-2)) dL_isCheapest_117 rfl ?_
                          refine zk_goto hc 123 dL_isCheapest_119 (by decide) ?_
                          refine zk_icmp_eq hc 128 dL_isCheapest_123 (by decide) (fun h123 => ?_) (fun h123 => ?_)
                          · refine zk_iload hc dL_isCheapest_128 0 rfl ?_
                            refine zk_if_lt hc 186 dL_isCheapest_130 (by decide) (fun h130 => ?_) (fun h130 => ?_)
                            · refine zk_iinc hc (v := nI 1) (lv2 := [(2, .int (nI 1)), (6, .int (-2)), (1, .int (-9)), (5, .int (nI (S.1 6))), (4, .int (-9)), (3, .int (-9)), (0, .ref b)]) dL_isCheapest_186 5 rfl (by decide) (by decide) rfl ?_
                              refine zk_goto hc 5 dL_isCheapest_189 (by decide) ?_
                              refine zk_iload_n hc dL_isCheapest_5 0 rfl ?_
                              refine zk_iconst hc (nI 3) dL_isCheapest_6 rfl ?_
                              refine zk_icmp_geN hc 192 dL_isCheapest_7 (by decide) (by omega) (by omega) (fun h_19 => ?_) (fun h_19 => ?_)
                              · exact absurd h_19 (by decide)
                              · rcases hB_1 : vis 1 S.1 [] 0 none with _ | z_1
                                · skip
                                  refine zk_aload_n hc dL_isCheapest_10 6 rfl ?_
                                  refine zk_iload_n hc dL_isCheapest_11 0 rfl ?_
                                  refine zk_iconst hc (nI 0) dL_isCheapest_12 rfl ?_
                                  obtain ⟨hat_22_f, hat_22⟩ := cs_at hS_17
                                  refine zk_callVi hc (rest := []) (kx_cheapest g l b S0 W_16 cN (by omega) hI0 hS_17 (nI 1) (nI 0)) gg_L_89 cd_X6_cheapest ⟨Nat.le_of_ble_eq_true rfl, Nat.le_of_ble_eq_true rfl⟩ ⟨Nat.le_of_ble_eq_true rfl, Nat.le_of_ble_eq_true rfl⟩ ([]) ([]) (by simp only [List.append_nil, List.nil_append]) 0 hat_22 rfl rfl (Nat.le_of_ble_eq_true rfl) dL_isCheapest_13 (fun r W_20 hp => ?_)
                                  obtain ⟨rfl, hS_21⟩ := hp
                                  refine zk_ws (ws2 := W_20) (by simp only [List.append_nil, List.nil_append]) ?_
                                  refine zk_top (y := (-9)) (by rw [← hE.1, che_n _ (by omega) (by omega), hB_1]; rfl) ?_
                                  refine zk_istore_n hc (lv2 := [(3, .int (-9)), (2, .int (nI 1)), (6, .int (-2)), (1, .int (-9)), (5, .int (nI (S.1 6))), (4, .int (-9)), (0, .ref b)]) dL_isCheapest_16 (by decide) rfl ?_
                                  refine zk_aload_n hc dL_isCheapest_17 6 rfl ?_
                                  refine zk_iload_n hc dL_isCheapest_18 1 rfl ?_
                                  refine zk_iconst hc (nI 1) dL_isCheapest_19 rfl ?_
                                  obtain ⟨hat_25_f, hat_25⟩ := cs_at hS_21
                                  refine zk_callVi hc (rest := []) (kx_cheapest g l b S0 W_20 cN (by omega) hI0 hS_21 (nI 1) (nI 1)) gg_L_89 cd_X6_cheapest ⟨Nat.le_of_ble_eq_true rfl, Nat.le_of_ble_eq_true rfl⟩ ⟨Nat.le_of_ble_eq_true rfl, Nat.le_of_ble_eq_true rfl⟩ ([]) ([]) (by simp only [List.append_nil, List.nil_append]) 0 hat_25 rfl rfl (Nat.le_of_ble_eq_true rfl) dL_isCheapest_20 (fun r W_23 hp => ?_)
                                  obtain ⟨rfl, hS_24⟩ := hp
                                  refine zk_ws (ws2 := W_23) (by simp only [List.append_nil, List.nil_append]) ?_
                                  refine zk_top (y := (-9)) (by rw [← hE.1, che_n _ (by omega) (by omega), hB_1]; rfl) ?_
                                  refine zk_istore hc (lv2 := [(4, .int (-9)), (3, .int (-9)), (2, .int (nI 1)), (6, .int (-2)), (1, .int (-9)), (5, .int (nI (S.1 6))), (0, .ref b)]) dL_isCheapest_23 (by decide) rfl ?_
                                  refine zk_aload_n hc dL_isCheapest_25 6 rfl ?_
                                  refine zk_iconst hc (nI 2) dL_isCheapest_26 rfl ?_
                                  obtain ⟨hat_28_f, hat_28⟩ := cs_at hS_24
                                  refine zk_callVi hc (rest := []) (kx_told g l b S0 W_23 cN (by omega) hI0 hS_24 (nI 2)) gg_L_25 cd_X6_told ⟨Nat.le_of_ble_eq_true rfl, Nat.le_of_ble_eq_true rfl⟩ ⟨Nat.le_of_ble_eq_true rfl, Nat.le_of_ble_eq_true rfl⟩ ([]) ([]) (by simp only [List.append_nil, List.nil_append]) 0 hat_28 rfl rfl (Nat.le_of_ble_eq_true rfl) dL_isCheapest_27 (fun r W_26 hp => ?_)
                                  obtain ⟨rfl, hS_27⟩ := hp
                                  refine zk_ws (ws2 := W_26) (by simp only [List.append_nil, List.nil_append]) ?_
                                  refine zk_top (y := nI (S.1 6)) ((tol_n _ (by omega)).trans (congrArg (fun u : Nat → Nat => nI (u 6)) hE.1.symm)) ?_
                                  refine zk_istore hc (lv2 := [(5, .int (nI (S.1 6))), (4, .int (-9)), (3, .int (-9)), (2, .int (nI 1)), (6, .int (-2)), (1, .int (-9)), (0, .ref b)]) dL_isCheapest_30 (by decide) rfl ?_
                                  refine zk_iload_n hc dL_isCheapest_32 2 rfl ?_
                                  refine zk_if_ge hc 40 dL_isCheapest_33 (by decide) (fun h33 => ?_) (fun h33 => ?_)
                                  · exact absurd h33 (by decide)
                                  · refine zk_iconst hc (nI 1) dL_isCheapest_36 rfl ?_
                                    refine zk_goto hc 41 dL_isCheapest_37 (by decide) ?_
                                    refine zk_iload hc dL_isCheapest_41 1 rfl ?_
                                    refine zk_if_ge hc 50 dL_isCheapest_43 (by decide) (fun h43 => ?_) (fun h43 => ?_)
                                    · exact absurd h43 (by decide)
                                    · refine zk_iconst hc (nI 1) dL_isCheapest_46 rfl ?_
                                      refine zk_goto hc 51 dL_isCheapest_47 (by decide) ?_
                                      refine zk_icmp_neN hc 100 dL_isCheapest_51 (by decide) (by omega) (by omega) (fun h_29 => ?_) (fun h_29 => ?_)
                                      · exact absurd h_29 (by decide)
                                      · refine zk_iload hc dL_isCheapest_54 1 rfl ?_
                                        refine zk_iload_n hc dL_isCheapest_56 3 rfl ?_
                                        refine zk_icmp_gt hc 100 dL_isCheapest_57 (by decide) (fun h57 => ?_) (fun h57 => ?_)
                                        · exact absurd h57 (by decide)
                                        · refine zk_iload_n hc dL_isCheapest_60 5 rfl ?_
                                          refine zk_if_lt hc 73 dL_isCheapest_61 (by decide) (fun h61 => ?_) (fun h61 => ?_)
                                          · refine zk_iload hc dL_isCheapest_73 1 rfl ?_
                                            refine zk_if_ne hc 82 dL_isCheapest_75 (by decide) (fun h75 => ?_) (fun h75 => ?_)
                                            · refine zk_iconst hc (nI 0) dL_isCheapest_82 rfl ?_
                                              refine zk_aload_n hc dL_isCheapest_83 6 rfl ?_
                                              refine zk_bipush hc (nI 12) dL_isCheapest_84 rfl ?_
                                              obtain ⟨hat_32_f, hat_32⟩ := cs_at hS_27
                                              refine zk_callVi hc (rest := [.int (nI 0)]) (kx_told g l b S0 W_26 cN (by omega) hI0 hS_27 (nI 12)) gg_L_25 cd_X6_told ⟨Nat.le_of_ble_eq_true rfl, Nat.le_of_ble_eq_true rfl⟩ ⟨Nat.le_of_ble_eq_true rfl, Nat.le_of_ble_eq_true rfl⟩ ([]) ([]) (by simp only [List.append_nil, List.nil_append]) 0 hat_32 rfl rfl (Nat.le_of_ble_eq_true rfl) dL_isCheapest_86 (fun r W_30 hp => ?_)
                                              obtain ⟨rfl, hS_31⟩ := hp
                                              refine zk_ws (ws2 := W_30) (by simp only [List.append_nil, List.nil_append]) ?_
                                              refine zk_top (y := (-9)) ((tol_n _ (by omega)).trans ((congrArg muf hE.1.symm).trans hmu)) ?_
                                              refine zk_if_lt hc 96 dL_isCheapest_89 (by decide) (fun h89 => ?_) (fun h89 => ?_)
                                              · refine zk_iconst hc (nI 0) dL_isCheapest_96 rfl ?_
                                                refine zk_icmp_eqN hc 102 dL_isCheapest_97 (by decide) (by omega) (by omega) (fun h_33 => ?_) (fun h_33 => ?_)
                                                · refine zk_iload_n hc dL_isCheapest_102 2 rfl ?_
                                                  refine zk_istore_n hc (lv2 := [(1, .int (-9)), (5, .int (nI (S.1 6))), (4, .int (-9)), (3, .int (-9)), (2, .int (nI 1)), (6, .int (-2)), (0, .ref b)]) dL_isCheapest_103 (by decide) rfl ?_
                                                  refine zk_aload_n hc dL_isCheapest_104 6 rfl ?_
                                                  refine zk_iload_n hc dL_isCheapest_105 4 rfl ?_
                                                  obtain ⟨hat_36_f, hat_36⟩ := cs_at hS_31
                                                  refine zk_callVi hc (rest := []) (kx_makeUp g l b S0 W_30 cN (by omega) hI0 hS_31 (nI 1)) gg_L_55 cd_X6_makeUp ⟨Nat.le_of_ble_eq_true rfl, Nat.le_of_ble_eq_true rfl⟩ ⟨Nat.le_of_ble_eq_true rfl, Nat.le_of_ble_eq_true rfl⟩ ([]) ([]) (by simp only [List.append_nil, List.nil_append]) 0 hat_36 rfl rfl (Nat.le_of_ble_eq_true rfl) dL_isCheapest_106 (fun r W_34 hp => ?_)
                                                  obtain ⟨rfl, hS_35⟩ := hp
                                                  refine zk_ws (ws2 := W_34) (by simp only [List.append_nil, List.nil_append]) ?_
                                                  refine zk_top (y := (-2)) (by rw [← hE.1, mak_n _ (by omega), hB_1]; rfl) ?_
                                                  rw [nmak_n _ (by omega), ← hE.1, hB_1] at hS_35
                                                  replace hS_35 : CSt g b S0 W_34 := hS_35
                                                  refine zk_istore hc (lv2 := [(6, .int (-2)), (1, .int (-9)), (5, .int (nI (S.1 6))), (4, .int (-9)), (3, .int (-9)), (2, .int (nI 1)), (0, .ref b)]) dL_isCheapest_109 (by decide) rfl ?_
                                                  refine zk_iload hc dL_isCheapest_111 0 rfl ?_
                                                  refine zk_iload_n hc dL_isCheapest_113 4 rfl ?_
                                                  refine zk_if_ge hc 122 dL_isCheapest_114 (by decide) (fun h114 => ?_) (fun h114 => ?_)
                                                  · exact absurd h114 (by decide)
                                                  · refine zk_bipush hc ((-2)) dL_isCheapest_117 rfl ?_
                                                    refine zk_goto hc 123 dL_isCheapest_119 (by decide) ?_
                                                    refine zk_icmp_eq hc 128 dL_isCheapest_123 (by decide) (fun h123 => ?_) (fun h123 => ?_)
                                                    · refine zk_iload hc dL_isCheapest_128 0 rfl ?_
                                                      refine zk_if_lt hc 186 dL_isCheapest_130 (by decide) (fun h130 => ?_) (fun h130 => ?_)
                                                      · refine zk_iinc hc (v := nI 2) (lv2 := [(2, .int (nI 2)), (6, .int (-2)), (1, .int (-9)), (5, .int (nI (S.1 6))), (4, .int (-9)), (3, .int (-9)), (0, .ref b)]) dL_isCheapest_186 5 rfl (by decide) (by decide) rfl ?_
                                                        refine zk_goto hc 5 dL_isCheapest_189 (by decide) ?_
                                                        refine zk_iload_n hc dL_isCheapest_5 0 rfl ?_
                                                        refine zk_iconst hc (nI 3) dL_isCheapest_6 rfl ?_
                                                        refine zk_icmp_geN hc 192 dL_isCheapest_7 (by decide) (by omega) (by omega) (fun h_37 => ?_) (fun h_37 => ?_)
                                                        · exact absurd h_37 (by decide)
                                                        · rcases hB_2 : vis 2 S.1 [] 0 none with _ | z_2
                                                          · skip
                                                            refine zk_aload_n hc dL_isCheapest_10 6 rfl ?_
                                                            refine zk_iload_n hc dL_isCheapest_11 0 rfl ?_
                                                            refine zk_iconst hc (nI 0) dL_isCheapest_12 rfl ?_
                                                            obtain ⟨hat_40_f, hat_40⟩ := cs_at hS_35
                                                            refine zk_callVi hc (rest := []) (kx_cheapest g l b S0 W_34 cN (by omega) hI0 hS_35 (nI 2) (nI 0)) gg_L_89 cd_X6_cheapest ⟨Nat.le_of_ble_eq_true rfl, Nat.le_of_ble_eq_true rfl⟩ ⟨Nat.le_of_ble_eq_true rfl, Nat.le_of_ble_eq_true rfl⟩ ([]) ([]) (by simp only [List.append_nil, List.nil_append]) 0 hat_40 rfl rfl (Nat.le_of_ble_eq_true rfl) dL_isCheapest_13 (fun r W_38 hp => ?_)
                                                            obtain ⟨rfl, hS_39⟩ := hp
                                                            refine zk_ws (ws2 := W_38) (by simp only [List.append_nil, List.nil_append]) ?_
                                                            refine zk_top (y := (-9)) (by rw [← hE.1, che_n _ (by omega) (by omega), hB_2]; rfl) ?_
                                                            refine zk_istore_n hc (lv2 := [(3, .int (-9)), (2, .int (nI 2)), (6, .int (-2)), (1, .int (-9)), (5, .int (nI (S.1 6))), (4, .int (-9)), (0, .ref b)]) dL_isCheapest_16 (by decide) rfl ?_
                                                            refine zk_aload_n hc dL_isCheapest_17 6 rfl ?_
                                                            refine zk_iload_n hc dL_isCheapest_18 1 rfl ?_
                                                            refine zk_iconst hc (nI 1) dL_isCheapest_19 rfl ?_
                                                            obtain ⟨hat_43_f, hat_43⟩ := cs_at hS_39
                                                            refine zk_callVi hc (rest := []) (kx_cheapest g l b S0 W_38 cN (by omega) hI0 hS_39 (nI 2) (nI 1)) gg_L_89 cd_X6_cheapest ⟨Nat.le_of_ble_eq_true rfl, Nat.le_of_ble_eq_true rfl⟩ ⟨Nat.le_of_ble_eq_true rfl, Nat.le_of_ble_eq_true rfl⟩ ([]) ([]) (by simp only [List.append_nil, List.nil_append]) 0 hat_43 rfl rfl (Nat.le_of_ble_eq_true rfl) dL_isCheapest_20 (fun r W_41 hp => ?_)
                                                            obtain ⟨rfl, hS_42⟩ := hp
                                                            refine zk_ws (ws2 := W_41) (by simp only [List.append_nil, List.nil_append]) ?_
                                                            refine zk_top (y := (-9)) (by rw [← hE.1, che_n _ (by omega) (by omega), hB_2]; rfl) ?_
                                                            refine zk_istore hc (lv2 := [(4, .int (-9)), (3, .int (-9)), (2, .int (nI 2)), (6, .int (-2)), (1, .int (-9)), (5, .int (nI (S.1 6))), (0, .ref b)]) dL_isCheapest_23 (by decide) rfl ?_
                                                            refine zk_aload_n hc dL_isCheapest_25 6 rfl ?_
                                                            refine zk_iconst hc (nI 2) dL_isCheapest_26 rfl ?_
                                                            obtain ⟨hat_46_f, hat_46⟩ := cs_at hS_42
                                                            refine zk_callVi hc (rest := []) (kx_told g l b S0 W_41 cN (by omega) hI0 hS_42 (nI 2)) gg_L_25 cd_X6_told ⟨Nat.le_of_ble_eq_true rfl, Nat.le_of_ble_eq_true rfl⟩ ⟨Nat.le_of_ble_eq_true rfl, Nat.le_of_ble_eq_true rfl⟩ ([]) ([]) (by simp only [List.append_nil, List.nil_append]) 0 hat_46 rfl rfl (Nat.le_of_ble_eq_true rfl) dL_isCheapest_27 (fun r W_44 hp => ?_)
                                                            obtain ⟨rfl, hS_45⟩ := hp
                                                            refine zk_ws (ws2 := W_44) (by simp only [List.append_nil, List.nil_append]) ?_
                                                            refine zk_top (y := nI (S.1 6)) ((tol_n _ (by omega)).trans (congrArg (fun u : Nat → Nat => nI (u 6)) hE.1.symm)) ?_
                                                            refine zk_istore hc (lv2 := [(5, .int (nI (S.1 6))), (4, .int (-9)), (3, .int (-9)), (2, .int (nI 2)), (6, .int (-2)), (1, .int (-9)), (0, .ref b)]) dL_isCheapest_30 (by decide) rfl ?_
                                                            refine zk_iload_n hc dL_isCheapest_32 2 rfl ?_
                                                            refine zk_if_ge hc 40 dL_isCheapest_33 (by decide) (fun h33 => ?_) (fun h33 => ?_)
                                                            · exact absurd h33 (by decide)
                                                            · refine zk_iconst hc (nI 1) dL_isCheapest_36 rfl ?_
                                                              refine zk_goto hc 41 dL_isCheapest_37 (by decide) ?_
                                                              refine zk_iload hc dL_isCheapest_41 1 rfl ?_
                                                              refine zk_if_ge hc 50 dL_isCheapest_43 (by decide) (fun h43 => ?_) (fun h43 => ?_)
                                                              · exact absurd h43 (by decide)
                                                              · refine zk_iconst hc (nI 1) dL_isCheapest_46 rfl ?_
                                                                refine zk_goto hc 51 dL_isCheapest_47 (by decide) ?_
                                                                refine zk_icmp_neN hc 100 dL_isCheapest_51 (by decide) (by omega) (by omega) (fun h_47 => ?_) (fun h_47 => ?_)
                                                                · exact absurd h_47 (by decide)
                                                                · refine zk_iload hc dL_isCheapest_54 1 rfl ?_
                                                                  refine zk_iload_n hc dL_isCheapest_56 3 rfl ?_
                                                                  refine zk_icmp_gt hc 100 dL_isCheapest_57 (by decide) (fun h57 => ?_) (fun h57 => ?_)
                                                                  · exact absurd h57 (by decide)
                                                                  · refine zk_iload_n hc dL_isCheapest_60 5 rfl ?_
                                                                    refine zk_if_lt hc 73 dL_isCheapest_61 (by decide) (fun h61 => ?_) (fun h61 => ?_)
                                                                    · refine zk_iload hc dL_isCheapest_73 1 rfl ?_
                                                                      refine zk_if_ne hc 82 dL_isCheapest_75 (by decide) (fun h75 => ?_) (fun h75 => ?_)
                                                                      · refine zk_iconst hc (nI 0) dL_isCheapest_82 rfl ?_
                                                                        refine zk_aload_n hc dL_isCheapest_83 6 rfl ?_
                                                                        refine zk_bipush hc (nI 12) dL_isCheapest_84 rfl ?_
                                                                        obtain ⟨hat_50_f, hat_50⟩ := cs_at hS_45
                                                                        refine zk_callVi hc (rest := [.int (nI 0)]) (kx_told g l b S0 W_44 cN (by omega) hI0 hS_45 (nI 12)) gg_L_25 cd_X6_told ⟨Nat.le_of_ble_eq_true rfl, Nat.le_of_ble_eq_true rfl⟩ ⟨Nat.le_of_ble_eq_true rfl, Nat.le_of_ble_eq_true rfl⟩ ([]) ([]) (by simp only [List.append_nil, List.nil_append]) 0 hat_50 rfl rfl (Nat.le_of_ble_eq_true rfl) dL_isCheapest_86 (fun r W_48 hp => ?_)
                                                                        obtain ⟨rfl, hS_49⟩ := hp
                                                                        refine zk_ws (ws2 := W_48) (by simp only [List.append_nil, List.nil_append]) ?_
                                                                        refine zk_top (y := (-9)) ((tol_n _ (by omega)).trans ((congrArg muf hE.1.symm).trans hmu)) ?_
                                                                        refine zk_if_lt hc 96 dL_isCheapest_89 (by decide) (fun h89 => ?_) (fun h89 => ?_)
                                                                        · refine zk_iconst hc (nI 0) dL_isCheapest_96 rfl ?_
                                                                          refine zk_icmp_eqN hc 102 dL_isCheapest_97 (by decide) (by omega) (by omega) (fun h_51 => ?_) (fun h_51 => ?_)
                                                                          · refine zk_iload_n hc dL_isCheapest_102 2 rfl ?_
                                                                            refine zk_istore_n hc (lv2 := [(1, .int (-9)), (5, .int (nI (S.1 6))), (4, .int (-9)), (3, .int (-9)), (2, .int (nI 2)), (6, .int (-2)), (0, .ref b)]) dL_isCheapest_103 (by decide) rfl ?_
                                                                            refine zk_aload_n hc dL_isCheapest_104 6 rfl ?_
                                                                            refine zk_iload_n hc dL_isCheapest_105 4 rfl ?_
                                                                            obtain ⟨hat_54_f, hat_54⟩ := cs_at hS_49
                                                                            refine zk_callVi hc (rest := []) (kx_makeUp g l b S0 W_48 cN (by omega) hI0 hS_49 (nI 2)) gg_L_55 cd_X6_makeUp ⟨Nat.le_of_ble_eq_true rfl, Nat.le_of_ble_eq_true rfl⟩ ⟨Nat.le_of_ble_eq_true rfl, Nat.le_of_ble_eq_true rfl⟩ ([]) ([]) (by simp only [List.append_nil, List.nil_append]) 0 hat_54 rfl rfl (Nat.le_of_ble_eq_true rfl) dL_isCheapest_106 (fun r W_52 hp => ?_)
                                                                            obtain ⟨rfl, hS_53⟩ := hp
                                                                            refine zk_ws (ws2 := W_52) (by simp only [List.append_nil, List.nil_append]) ?_
                                                                            refine zk_top (y := (-2)) (by rw [← hE.1, mak_n _ (by omega), hB_2]; rfl) ?_
                                                                            rw [nmak_n _ (by omega), ← hE.1, hB_2] at hS_53
                                                                            replace hS_53 : CSt g b S0 W_52 := hS_53
                                                                            refine zk_istore hc (lv2 := [(6, .int (-2)), (1, .int (-9)), (5, .int (nI (S.1 6))), (4, .int (-9)), (3, .int (-9)), (2, .int (nI 2)), (0, .ref b)]) dL_isCheapest_109 (by decide) rfl ?_
                                                                            refine zk_iload hc dL_isCheapest_111 0 rfl ?_
                                                                            refine zk_iload_n hc dL_isCheapest_113 4 rfl ?_
                                                                            refine zk_if_ge hc 122 dL_isCheapest_114 (by decide) (fun h114 => ?_) (fun h114 => ?_)
                                                                            · exact absurd h114 (by decide)
                                                                            · refine zk_bipush hc ((-2)) dL_isCheapest_117 rfl ?_
                                                                              refine zk_goto hc 123 dL_isCheapest_119 (by decide) ?_
                                                                              refine zk_icmp_eq hc 128 dL_isCheapest_123 (by decide) (fun h123 => ?_) (fun h123 => ?_)
                                                                              · refine zk_iload hc dL_isCheapest_128 0 rfl ?_
                                                                                refine zk_if_lt hc 186 dL_isCheapest_130 (by decide) (fun h130 => ?_) (fun h130 => ?_)
                                                                                · refine zk_iinc hc (v := nI 3) (lv2 := [(2, .int (nI 3)), (6, .int (-2)), (1, .int (-9)), (5, .int (nI (S.1 6))), (4, .int (-9)), (3, .int (-9)), (0, .ref b)]) dL_isCheapest_186 5 rfl (by decide) (by decide) rfl ?_
                                                                                  refine zk_goto hc 5 dL_isCheapest_189 (by decide) ?_
                                                                                  refine zk_iload_n hc dL_isCheapest_5 0 rfl ?_
                                                                                  refine zk_iconst hc (nI 3) dL_isCheapest_6 rfl ?_
                                                                                  refine zk_icmp_geN hc 192 dL_isCheapest_7 (by decide) (by omega) (by omega) (fun h_55 => ?_) (fun h_55 => ?_)
                                                                                  · refine zk_aload_n hc dL_isCheapest_192 6 rfl ?_
                                                                                    refine zk_iconst hc (nI 4) dL_isCheapest_193 rfl ?_
                                                                                    refine zk_iconst hc (nI 0) dL_isCheapest_194 rfl ?_
                                                                                    obtain ⟨hat_58_f, hat_58⟩ := cs_at hS_53
                                                                                    refine zk_callVi hc (rest := []) (kx_cheapest g l b S0 W_52 cN (by omega) hI0 hS_53 (nI 4) (nI 0)) gg_L_89 cd_X6_cheapest ⟨Nat.le_of_ble_eq_true rfl, Nat.le_of_ble_eq_true rfl⟩ ⟨Nat.le_of_ble_eq_true rfl, Nat.le_of_ble_eq_true rfl⟩ ([]) ([]) (by simp only [List.append_nil, List.nil_append]) 0 hat_58 rfl rfl (Nat.le_of_ble_eq_true rfl) dL_isCheapest_195 (fun r W_56 hp => ?_)
                                                                                    obtain ⟨rfl, hS_57⟩ := hp
                                                                                    refine zk_ws (ws2 := W_56) (by simp only [List.append_nil, List.nil_append]) ?_
                                                                                    refine zk_top (y := (-1)) (che_40 _) ?_
                                                                                    refine zk_iconst hc ((-1)) dL_isCheapest_198 rfl ?_
                                                                                    refine zk_icmp_ne hc 216 dL_isCheapest_199 (by decide) (fun h199 => ?_) (fun h199 => ?_)
                                                                                    · exact absurd rfl h199
                                                                                    · refine zk_aload_n hc dL_isCheapest_202 6 rfl ?_
                                                                                      refine zk_iconst hc (nI 0) dL_isCheapest_203 rfl ?_
                                                                                      refine zk_iconst hc (nI 5) dL_isCheapest_204 rfl ?_
                                                                                      obtain ⟨hat_61_f, hat_61⟩ := cs_at hS_57
                                                                                      refine zk_callVi hc (rest := []) (kx_cheapest g l b S0 W_56 cN (by omega) hI0 hS_57 (nI 0) (nI 5)) gg_L_89 cd_X6_cheapest ⟨Nat.le_of_ble_eq_true rfl, Nat.le_of_ble_eq_true rfl⟩ ⟨Nat.le_of_ble_eq_true rfl, Nat.le_of_ble_eq_true rfl⟩ ([]) ([]) (by simp only [List.append_nil, List.nil_append]) 0 hat_61 rfl rfl (Nat.le_of_ble_eq_true rfl) dL_isCheapest_205 (fun r W_59 hp => ?_)
                                                                                      obtain ⟨rfl, hS_60⟩ := hp
                                                                                      refine zk_ws (ws2 := W_59) (by simp only [List.append_nil, List.nil_append]) ?_
                                                                                      refine zk_top (y := (-1)) (che_05 _) ?_
                                                                                      refine zk_iconst hc ((-1)) dL_isCheapest_208 rfl ?_
                                                                                      refine zk_icmp_ne hc 216 dL_isCheapest_209 (by decide) (fun h209 => ?_) (fun h209 => ?_)
                                                                                      · exact absurd rfl h209
                                                                                      · refine zk_iconst hc (nI 1) dL_isCheapest_212 rfl ?_
                                                                                        refine zk_goto hc 217 dL_isCheapest_213 (by decide) ?_
                                                                                        refine fin 21 216 _ _ _ _ (by decide) (by decide) dL_isCheapest_217 rfl (?_)
                                                                                        exact ⟨rfl, _, hE, hI0, hS_60⟩
                                                                                  · exact absurd h_55 (by decide)
                                                                                · exact absurd (by decide) h130
                                                                              · exact absurd rfl h123
                                                                          · exact absurd h_51 (by decide)
                                                                        · exact absurd (by decide) h89
                                                                      · exact absurd h75 (by decide)
                                                                    · exact absurd (by decide) h61
                                                          · obtain ⟨hok_2, htot_2, hlen_2⟩ := vis_ok hB_2
                                                            have htl_2 := tot_le hG hok_2
                                                            have hmk_2 := vis_makes hB_2
                                                            have hzl_2 : z_2.2.length ≠ 0 := fun y => ((vis_len hB_2).mp y) hmu
                                                            refine zk_aload_n hc dL_isCheapest_10 6 rfl ?_
                                                            refine zk_iload_n hc dL_isCheapest_11 0 rfl ?_
                                                            refine zk_iconst hc (nI 0) dL_isCheapest_12 rfl ?_
                                                            obtain ⟨hat_64_f, hat_64⟩ := cs_at hS_35
                                                            refine zk_callVi hc (rest := []) (kx_cheapest g l b S0 W_34 cN (by omega) hI0 hS_35 (nI 2) (nI 0)) gg_L_89 cd_X6_cheapest ⟨Nat.le_of_ble_eq_true rfl, Nat.le_of_ble_eq_true rfl⟩ ⟨Nat.le_of_ble_eq_true rfl, Nat.le_of_ble_eq_true rfl⟩ ([]) ([]) (by simp only [List.append_nil, List.nil_append]) 0 hat_64 rfl rfl (Nat.le_of_ble_eq_true rfl) dL_isCheapest_13 (fun r W_62 hp => ?_)
                                                            obtain ⟨rfl, hS_63⟩ := hp
                                                            refine zk_ws (ws2 := W_62) (by simp only [List.append_nil, List.nil_append]) ?_
                                                            refine zk_top (y := nI z_2.1) (by rw [← hE.1, che_n _ (by omega) (by omega), hB_2]; rfl) ?_
                                                            refine zk_istore_n hc (lv2 := [(3, .int (nI z_2.1)), (2, .int (nI 2)), (6, .int (-2)), (1, .int (-9)), (5, .int (nI (S.1 6))), (4, .int (-9)), (0, .ref b)]) dL_isCheapest_16 (by decide) rfl ?_
                                                            refine zk_aload_n hc dL_isCheapest_17 6 rfl ?_
                                                            refine zk_iload_n hc dL_isCheapest_18 1 rfl ?_
                                                            refine zk_iconst hc (nI 1) dL_isCheapest_19 rfl ?_
                                                            obtain ⟨hat_67_f, hat_67⟩ := cs_at hS_63
                                                            refine zk_callVi hc (rest := []) (kx_cheapest g l b S0 W_62 cN (by omega) hI0 hS_63 (nI 2) (nI 1)) gg_L_89 cd_X6_cheapest ⟨Nat.le_of_ble_eq_true rfl, Nat.le_of_ble_eq_true rfl⟩ ⟨Nat.le_of_ble_eq_true rfl, Nat.le_of_ble_eq_true rfl⟩ ([]) ([]) (by simp only [List.append_nil, List.nil_append]) 0 hat_67 rfl rfl (Nat.le_of_ble_eq_true rfl) dL_isCheapest_20 (fun r W_65 hp => ?_)
                                                            obtain ⟨rfl, hS_66⟩ := hp
                                                            refine zk_ws (ws2 := W_65) (by simp only [List.append_nil, List.nil_append]) ?_
                                                            refine zk_top (y := nI z_2.2.length) (by rw [← hE.1, che_n _ (by omega) (by omega), hB_2]; rfl) ?_
                                                            refine zk_istore hc (lv2 := [(4, .int (nI z_2.2.length)), (3, .int (nI z_2.1)), (2, .int (nI 2)), (6, .int (-2)), (1, .int (-9)), (5, .int (nI (S.1 6))), (0, .ref b)]) dL_isCheapest_23 (by decide) rfl ?_
                                                            refine zk_aload_n hc dL_isCheapest_25 6 rfl ?_
                                                            refine zk_iconst hc (nI 2) dL_isCheapest_26 rfl ?_
                                                            obtain ⟨hat_70_f, hat_70⟩ := cs_at hS_66
                                                            refine zk_callVi hc (rest := []) (kx_told g l b S0 W_65 cN (by omega) hI0 hS_66 (nI 2)) gg_L_25 cd_X6_told ⟨Nat.le_of_ble_eq_true rfl, Nat.le_of_ble_eq_true rfl⟩ ⟨Nat.le_of_ble_eq_true rfl, Nat.le_of_ble_eq_true rfl⟩ ([]) ([]) (by simp only [List.append_nil, List.nil_append]) 0 hat_70 rfl rfl (Nat.le_of_ble_eq_true rfl) dL_isCheapest_27 (fun r W_68 hp => ?_)
                                                            obtain ⟨rfl, hS_69⟩ := hp
                                                            refine zk_ws (ws2 := W_68) (by simp only [List.append_nil, List.nil_append]) ?_
                                                            refine zk_top (y := nI (S.1 6)) ((tol_n _ (by omega)).trans (congrArg (fun u : Nat → Nat => nI (u 6)) hE.1.symm)) ?_
                                                            refine zk_istore hc (lv2 := [(5, .int (nI (S.1 6))), (4, .int (nI z_2.2.length)), (3, .int (nI z_2.1)), (2, .int (nI 2)), (6, .int (-2)), (1, .int (-9)), (0, .ref b)]) dL_isCheapest_30 (by decide) rfl ?_
                                                            refine zk_iload_n hc dL_isCheapest_32 2 rfl ?_
                                                            refine zk_if_ge hc 40 dL_isCheapest_33 (by decide) (fun h33 => ?_) (fun h33 => ?_)
                                                            · refine zk_iconst hc (nI 0) dL_isCheapest_40 rfl ?_
                                                              refine zk_iload hc dL_isCheapest_41 1 rfl ?_
                                                              refine zk_if_ge hc 50 dL_isCheapest_43 (by decide) (fun h43 => ?_) (fun h43 => ?_)
                                                              · refine zk_iconst hc (nI 0) dL_isCheapest_50 rfl ?_
                                                                refine zk_icmp_neN hc 100 dL_isCheapest_51 (by decide) (by omega) (by omega) (fun h_71 => ?_) (fun h_71 => ?_)
                                                                · exact absurd h_71 (by decide)
                                                                · refine zk_iload hc dL_isCheapest_54 1 rfl ?_
                                                                  refine zk_iload_n hc dL_isCheapest_56 3 rfl ?_
                                                                  refine zk_icmp_gtN hc 100 dL_isCheapest_57 (by decide) (by omega) (by omega) (fun h57 => ?_) (fun h57 => ?_)
                                                                  · exact absurd h57 (by omega)
                                                                  · refine zk_iload_n hc dL_isCheapest_60 5 rfl ?_
                                                                    refine zk_if_lt hc 73 dL_isCheapest_61 (by decide) (fun h61 => ?_) (fun h61 => ?_)
                                                                    · refine zk_iload hc dL_isCheapest_73 1 rfl ?_
                                                                      refine zk_if_neN hc 82 dL_isCheapest_75 (by decide) (by omega) (fun h75 => ?_) (fun h75 => ?_)
                                                                      · refine zk_iconst hc (nI 0) dL_isCheapest_82 rfl ?_
                                                                        refine zk_aload_n hc dL_isCheapest_83 6 rfl ?_
                                                                        refine zk_bipush hc (nI 12) dL_isCheapest_84 rfl ?_
                                                                        obtain ⟨hat_74_f, hat_74⟩ := cs_at hS_69
                                                                        refine zk_callVi hc (rest := [.int (nI 0)]) (kx_told g l b S0 W_68 cN (by omega) hI0 hS_69 (nI 12)) gg_L_25 cd_X6_told ⟨Nat.le_of_ble_eq_true rfl, Nat.le_of_ble_eq_true rfl⟩ ⟨Nat.le_of_ble_eq_true rfl, Nat.le_of_ble_eq_true rfl⟩ ([]) ([]) (by simp only [List.append_nil, List.nil_append]) 0 hat_74 rfl rfl (Nat.le_of_ble_eq_true rfl) dL_isCheapest_86 (fun r W_72 hp => ?_)
                                                                        obtain ⟨rfl, hS_73⟩ := hp
                                                                        refine zk_ws (ws2 := W_72) (by simp only [List.append_nil, List.nil_append]) ?_
                                                                        refine zk_top (y := (-9)) ((tol_n _ (by omega)).trans ((congrArg muf hE.1.symm).trans hmu)) ?_
                                                                        refine zk_if_lt hc 96 dL_isCheapest_89 (by decide) (fun h89 => ?_) (fun h89 => ?_)
                                                                        · refine zk_iconst hc (nI 0) dL_isCheapest_96 rfl ?_
                                                                          refine zk_icmp_eqN hc 102 dL_isCheapest_97 (by decide) (by omega) (by omega) (fun h_75 => ?_) (fun h_75 => ?_)
                                                                          · refine zk_iload_n hc dL_isCheapest_102 2 rfl ?_
                                                                            refine zk_istore_n hc (lv2 := [(1, .int (nI z_2.1)), (5, .int (nI (S.1 6))), (4, .int (nI z_2.2.length)), (3, .int (nI z_2.1)), (2, .int (nI 2)), (6, .int (-2)), (0, .ref b)]) dL_isCheapest_103 (by decide) rfl ?_
                                                                            refine zk_aload_n hc dL_isCheapest_104 6 rfl ?_
                                                                            refine zk_iload_n hc dL_isCheapest_105 4 rfl ?_
                                                                            obtain ⟨hat_78_f, hat_78⟩ := cs_at hS_73
                                                                            refine zk_callVi hc (rest := []) (kx_makeUp g l b S0 W_72 cN (by omega) hI0 hS_73 (nI 2)) gg_L_55 cd_X6_makeUp ⟨Nat.le_of_ble_eq_true rfl, Nat.le_of_ble_eq_true rfl⟩ ⟨Nat.le_of_ble_eq_true rfl, Nat.le_of_ble_eq_true rfl⟩ ([]) ([]) (by simp only [List.append_nil, List.nil_append]) 0 hat_78 rfl rfl (Nat.le_of_ble_eq_true rfl) dL_isCheapest_106 (fun r W_76 hp => ?_)
                                                                            obtain ⟨rfl, hS_77⟩ := hp
                                                                            refine zk_ws (ws2 := W_76) (by simp only [List.append_nil, List.nil_append]) ?_
                                                                            refine zk_top (y := nI z_2.1) (by rw [← hE.1, mak_n _ (by omega), hB_2]; rfl) ?_
                                                                            rw [nmak_n _ (by omega), ← hE.1, hB_2] at hS_77
                                                                            replace hS_77 : CSt g b (chg S0 (rowU S0.1 z_2.2)) W_76 := hS_77
                                                                            have hIm_2 : INV (cN + 1) (chg S0 (rowU S0.1 z_2.2)) := by have := INV_mak hI0 (nI 2); rw [nmak_n _ (by omega), ← hE.1, hB_2] at this; exact this
                                                                            have hG_2 : GU S0.1 := by rw [← hE.1]; exact hG
                                                                            have ho2_2 : okRow S0.1 z_2.2 := by rw [← hE.1]; exact hok_2
                                                                            have hm2_2 : ¬ muf (rowU S0.1 z_2.2) = -9 := by rw [← hE.1]; exact hmk_2
                                                                            obtain ⟨tn_2, htn_2, htq_2⟩ := muf_n hm2_2
                                                                            have hq6_2 : (rowU S0.1 z_2.2) 6 = S.1 6 + z_2.1 := by rw [row_6, ← hE.1, htot_2]
                                                                            obtain ⟨hua_2, hub_2, huc_2, hud_2, -⟩ := und_back hI0 (u2 := (rowU S0.1 z_2.2)) (fun j hj => row_big hG_2 ho2_2 hj)
                                                                            refine zk_istore hc (lv2 := [(6, .int (nI z_2.1)), (1, .int (nI z_2.1)), (5, .int (nI (S.1 6))), (4, .int (nI z_2.2.length)), (3, .int (nI z_2.1)), (2, .int (nI 2)), (0, .ref b)]) dL_isCheapest_109 (by decide) rfl ?_
                                                                            refine zk_iload hc dL_isCheapest_111 0 rfl ?_
                                                                            refine zk_iload_n hc dL_isCheapest_113 4 rfl ?_
                                                                            refine zk_if_ge hc 122 dL_isCheapest_114 (by decide) (fun h114 => ?_) (fun h114 => ?_)
                                                                            · refine zk_iload_n hc dL_isCheapest_122 4 rfl ?_
                                                                              refine zk_icmp_eqN hc 128 dL_isCheapest_123 (by decide) (by omega) (by omega) (fun h123 => ?_) (fun h123 => ?_)
                                                                              · refine zk_iload hc dL_isCheapest_128 0 rfl ?_
                                                                                refine zk_if_lt hc 186 dL_isCheapest_130 (by decide) (fun h130 => ?_) (fun h130 => ?_)
                                                                                · exact absurd h130 (nI_pos (by omega))
                                                                                · refine zk_aload_n hc dL_isCheapest_133 6 rfl ?_
                                                                                  refine zk_bipush hc (nI 12) dL_isCheapest_134 rfl ?_
                                                                                  obtain ⟨hat_81_f, hat_81⟩ := cs_at hS_77
                                                                                  refine zk_callVi hc (rest := []) (kx_told g l b (chg S0 (rowU S0.1 z_2.2)) W_76 (cN + 1) (by omega) hIm_2 hS_77 (nI 12)) gg_L_25 cd_X6_told ⟨Nat.le_of_ble_eq_true rfl, Nat.le_of_ble_eq_true rfl⟩ ⟨Nat.le_of_ble_eq_true rfl, Nat.le_of_ble_eq_true rfl⟩ ([]) ([]) (by simp only [List.append_nil, List.nil_append]) 0 hat_81 rfl rfl (Nat.le_of_ble_eq_true rfl) dL_isCheapest_136 (fun r W_79 hp => ?_)
                                                                                  obtain ⟨rfl, hS_80⟩ := hp
                                                                                  refine zk_ws (ws2 := W_79) (by simp only [List.append_nil, List.nil_append]) ?_
                                                                                  refine zk_top (y := nI tn_2) ((tol_n _ (by omega)).trans htq_2) ?_
                                                                                  refine zk_if_lt hc 166 dL_isCheapest_139 (by decide) (fun h139 => ?_) (fun h139 => ?_)
                                                                                  · exact absurd h139 (nI_pos (by omega))
                                                                                  · refine zk_aload_n hc dL_isCheapest_142 6 rfl ?_
                                                                                    refine zk_iconst hc (nI 2) dL_isCheapest_143 rfl ?_
                                                                                    obtain ⟨hat_84_f, hat_84⟩ := cs_at hS_80
                                                                                    refine zk_callVi hc (rest := []) (kx_told g l b (chg S0 (rowU S0.1 z_2.2)) W_79 (cN + 1) (by omega) hIm_2 hS_80 (nI 2)) gg_L_25 cd_X6_told ⟨Nat.le_of_ble_eq_true rfl, Nat.le_of_ble_eq_true rfl⟩ ⟨Nat.le_of_ble_eq_true rfl, Nat.le_of_ble_eq_true rfl⟩ ([]) ([]) (by simp only [List.append_nil, List.nil_append]) 0 hat_84 rfl rfl (Nat.le_of_ble_eq_true rfl) dL_isCheapest_144 (fun r W_82 hp => ?_)
                                                                                    obtain ⟨rfl, hS_83⟩ := hp
                                                                                    refine zk_ws (ws2 := W_82) (by simp only [List.append_nil, List.nil_append]) ?_
                                                                                    refine zk_top (y := nI (S.1 6 + z_2.1)) ((tol_n _ (by omega)).trans (congrArg nI hq6_2)) ?_
                                                                                    refine zk_iload hc dL_isCheapest_147 2 rfl ?_
                                                                                    refine zk_iload hc dL_isCheapest_149 0 rfl ?_
                                                                                    refine zk_iaddN hc dL_isCheapest_151 ?_
                                                                                    refine zk_icmp_neN hc 166 dL_isCheapest_152 (by decide) (by omega) (by omega) (fun h_85 => ?_) (fun h_85 => ?_)
                                                                                    · exact absurd h_85 (by omega)
                                                                                    · refine zk_aload_n hc dL_isCheapest_155 6 rfl ?_
                                                                                      obtain ⟨hat_88_f, hat_88⟩ := cs_at hS_83
                                                                                      refine zk_callVi hc (rest := []) (kx_undo g l b (chg S0 (rowU S0.1 z_2.2)) W_82 (cN + 1) (by omega) hIm_2 hS_83) gg_L_58 cd_X6_undo ⟨Nat.le_of_ble_eq_true rfl, Nat.le_of_ble_eq_true rfl⟩ ⟨Nat.le_of_ble_eq_true rfl, Nat.le_of_ble_eq_true rfl⟩ ([]) ([]) (by simp only [List.append_nil, List.nil_append]) 0 hat_88 rfl rfl (Nat.le_of_ble_eq_true rfl) dL_isCheapest_156 (fun r W_86 hp => ?_)
                                                                                      obtain ⟨rfl, hS_87⟩ := hp
                                                                                      refine zk_ws (ws2 := W_86) (by simp only [List.append_nil, List.nil_append]) ?_
                                                                                      refine zk_top (y := nI (remN S0.2.2.1 - 1)) huc_2 ?_
                                                                                      obtain ⟨S_2, hE_2, hI_2, hSn_2⟩ : ∃ S2, EqS S S2 ∧ INV cN S2 ∧ CSt g b S2 W_86 := ⟨_, hE.tr hua_2, hub_2, hS_87⟩
                                                                                      refine zk_if_lt hc 166 dL_isCheapest_159 (by decide) (fun h159 => ?_) (fun h159 => ?_)
                                                                                      · exact absurd h159 (nI_pos (by omega))
                                                                                      · refine zk_iconst hc (nI 1) dL_isCheapest_162 rfl ?_
                                                                                        refine zk_goto hc 167 dL_isCheapest_163 (by decide) ?_
                                                                                        refine zk_istore hc (lv2 := [(7, .int (nI 1)), (6, .int (nI z_2.1)), (1, .int (nI z_2.1)), (5, .int (nI (S.1 6))), (4, .int (nI z_2.2.length)), (3, .int (nI z_2.1)), (2, .int (nI 2)), (0, .ref b)]) dL_isCheapest_167 (by decide) rfl ?_
                                                                                        refine zk_iload hc dL_isCheapest_169 0 rfl ?_
                                                                                        refine zk_if_eqN hc 184 dL_isCheapest_171 (by decide) (by omega) (fun h_89 => ?_) (fun h_89 => ?_)
                                                                                        · exact absurd h_89 (by decide)
                                                                                        · refine zk_aload_n hc dL_isCheapest_174 7 rfl ?_
                                                                                          refine zk_iconst hc (nI 2) dL_isCheapest_175 rfl ?_
                                                                                          obtain ⟨hat_92_f, hat_92⟩ := cs_at hSn_2
                                                                                          refine zk_callVi hc (rest := []) (kx_told g l b S_2 W_86 cN (by omega) hI_2 hSn_2 (nI 2)) gg_L_25 cd_X6_told ⟨Nat.le_of_ble_eq_true rfl, Nat.le_of_ble_eq_true rfl⟩ ⟨Nat.le_of_ble_eq_true rfl, Nat.le_of_ble_eq_true rfl⟩ ([]) ([]) (by simp only [List.append_nil, List.nil_append]) 0 hat_92 rfl rfl (Nat.le_of_ble_eq_true rfl) dL_isCheapest_176 (fun r W_90 hp => ?_)
                                                                                          obtain ⟨rfl, hS_91⟩ := hp
                                                                                          refine zk_ws (ws2 := W_90) (by simp only [List.append_nil, List.nil_append]) ?_
                                                                                          refine zk_top (y := nI (S.1 6)) ((tol_n _ (by omega)).trans (congrArg (fun u : Nat → Nat => nI (u 6)) hE_2.1.symm)) ?_
                                                                                          refine zk_iload hc dL_isCheapest_179 3 rfl ?_
                                                                                          refine zk_icmp_eqN hc 186 dL_isCheapest_181 (by decide) (by omega) (by omega) (fun h_93 => ?_) (fun h_93 => ?_)
                                                                                          · refine zk_iinc hc (v := nI 3) (lv2 := [(2, .int (nI 3)), (7, .int (nI 1)), (6, .int (nI z_2.1)), (1, .int (nI z_2.1)), (5, .int (nI (S.1 6))), (4, .int (nI z_2.2.length)), (3, .int (nI z_2.1)), (0, .ref b)]) dL_isCheapest_186 6 rfl (by decide) (by decide) rfl ?_
                                                                                            refine zk_goto hc 5 dL_isCheapest_189 (by decide) ?_
                                                                                            refine zk_iload_n hc dL_isCheapest_5 0 rfl ?_
                                                                                            refine zk_iconst hc (nI 3) dL_isCheapest_6 rfl ?_
                                                                                            refine zk_icmp_geN hc 192 dL_isCheapest_7 (by decide) (by omega) (by omega) (fun h_94 => ?_) (fun h_94 => ?_)
                                                                                            · refine zk_aload_n hc dL_isCheapest_192 7 rfl ?_
                                                                                              refine zk_iconst hc (nI 4) dL_isCheapest_193 rfl ?_
                                                                                              refine zk_iconst hc (nI 0) dL_isCheapest_194 rfl ?_
                                                                                              obtain ⟨hat_97_f, hat_97⟩ := cs_at hS_91
                                                                                              refine zk_callVi hc (rest := []) (kx_cheapest g l b S_2 W_90 cN (by omega) hI_2 hS_91 (nI 4) (nI 0)) gg_L_89 cd_X6_cheapest ⟨Nat.le_of_ble_eq_true rfl, Nat.le_of_ble_eq_true rfl⟩ ⟨Nat.le_of_ble_eq_true rfl, Nat.le_of_ble_eq_true rfl⟩ ([]) ([]) (by simp only [List.append_nil, List.nil_append]) 0 hat_97 rfl rfl (Nat.le_of_ble_eq_true rfl) dL_isCheapest_195 (fun r W_95 hp => ?_)
                                                                                              obtain ⟨rfl, hS_96⟩ := hp
                                                                                              refine zk_ws (ws2 := W_95) (by simp only [List.append_nil, List.nil_append]) ?_
                                                                                              refine zk_top (y := (-1)) (che_40 _) ?_
                                                                                              refine zk_iconst hc ((-1)) dL_isCheapest_198 rfl ?_
                                                                                              refine zk_icmp_ne hc 216 dL_isCheapest_199 (by decide) (fun h199 => ?_) (fun h199 => ?_)
                                                                                              · exact absurd rfl h199
                                                                                              · refine zk_aload_n hc dL_isCheapest_202 7 rfl ?_
                                                                                                refine zk_iconst hc (nI 0) dL_isCheapest_203 rfl ?_
                                                                                                refine zk_iconst hc (nI 5) dL_isCheapest_204 rfl ?_
                                                                                                obtain ⟨hat_100_f, hat_100⟩ := cs_at hS_96
                                                                                                refine zk_callVi hc (rest := []) (kx_cheapest g l b S_2 W_95 cN (by omega) hI_2 hS_96 (nI 0) (nI 5)) gg_L_89 cd_X6_cheapest ⟨Nat.le_of_ble_eq_true rfl, Nat.le_of_ble_eq_true rfl⟩ ⟨Nat.le_of_ble_eq_true rfl, Nat.le_of_ble_eq_true rfl⟩ ([]) ([]) (by simp only [List.append_nil, List.nil_append]) 0 hat_100 rfl rfl (Nat.le_of_ble_eq_true rfl) dL_isCheapest_205 (fun r W_98 hp => ?_)
                                                                                                obtain ⟨rfl, hS_99⟩ := hp
                                                                                                refine zk_ws (ws2 := W_98) (by simp only [List.append_nil, List.nil_append]) ?_
                                                                                                refine zk_top (y := (-1)) (che_05 _) ?_
                                                                                                refine zk_iconst hc ((-1)) dL_isCheapest_208 rfl ?_
                                                                                                refine zk_icmp_ne hc 216 dL_isCheapest_209 (by decide) (fun h209 => ?_) (fun h209 => ?_)
                                                                                                · exact absurd rfl h209
                                                                                                · refine zk_iconst hc (nI 1) dL_isCheapest_212 rfl ?_
                                                                                                  refine zk_goto hc 217 dL_isCheapest_213 (by decide) ?_
                                                                                                  refine fin 21 216 _ _ _ _ (by decide) (by decide) dL_isCheapest_217 rfl (?_)
                                                                                                  exact ⟨rfl, _, hE_2, hI_2, hS_99⟩
                                                                                            · exact absurd h_94 (by decide)
                                                                                          · exact absurd h_93 (by omega)
                                                                              · exact absurd rfl h123
                                                                            · exact absurd (nI_pos' (by omega)) h114
                                                                          · exact absurd h_75 (by decide)
                                                                        · exact absurd (by decide) h89
                                                                      · exact absurd h75 hzl_2
                                                                    · exact absurd (by decide) h61
                                                              · exact absurd (nI_pos' (by omega)) h43
                                                            · exact absurd (nI_pos' (by omega)) h33
                                                      · exact absurd (by decide) h130
                                                    · exact absurd rfl h123
                                                · exact absurd h_33 (by decide)
                                              · exact absurd (by decide) h89
                                            · exact absurd h75 (by decide)
                                          · exact absurd (by decide) h61
                                · obtain ⟨hok_1, htot_1, hlen_1⟩ := vis_ok hB_1
                                  have htl_1 := tot_le hG hok_1
                                  have hmk_1 := vis_makes hB_1
                                  have hzl_1 : z_1.2.length ≠ 0 := fun y => ((vis_len hB_1).mp y) hmu
                                  refine zk_aload_n hc dL_isCheapest_10 6 rfl ?_
                                  refine zk_iload_n hc dL_isCheapest_11 0 rfl ?_
                                  refine zk_iconst hc (nI 0) dL_isCheapest_12 rfl ?_
                                  obtain ⟨hat_103_f, hat_103⟩ := cs_at hS_17
                                  refine zk_callVi hc (rest := []) (kx_cheapest g l b S0 W_16 cN (by omega) hI0 hS_17 (nI 1) (nI 0)) gg_L_89 cd_X6_cheapest ⟨Nat.le_of_ble_eq_true rfl, Nat.le_of_ble_eq_true rfl⟩ ⟨Nat.le_of_ble_eq_true rfl, Nat.le_of_ble_eq_true rfl⟩ ([]) ([]) (by simp only [List.append_nil, List.nil_append]) 0 hat_103 rfl rfl (Nat.le_of_ble_eq_true rfl) dL_isCheapest_13 (fun r W_101 hp => ?_)
                                  obtain ⟨rfl, hS_102⟩ := hp
                                  refine zk_ws (ws2 := W_101) (by simp only [List.append_nil, List.nil_append]) ?_
                                  refine zk_top (y := nI z_1.1) (by rw [← hE.1, che_n _ (by omega) (by omega), hB_1]; rfl) ?_
                                  refine zk_istore_n hc (lv2 := [(3, .int (nI z_1.1)), (2, .int (nI 1)), (6, .int (-2)), (1, .int (-9)), (5, .int (nI (S.1 6))), (4, .int (-9)), (0, .ref b)]) dL_isCheapest_16 (by decide) rfl ?_
                                  refine zk_aload_n hc dL_isCheapest_17 6 rfl ?_
                                  refine zk_iload_n hc dL_isCheapest_18 1 rfl ?_
                                  refine zk_iconst hc (nI 1) dL_isCheapest_19 rfl ?_
                                  obtain ⟨hat_106_f, hat_106⟩ := cs_at hS_102
                                  refine zk_callVi hc (rest := []) (kx_cheapest g l b S0 W_101 cN (by omega) hI0 hS_102 (nI 1) (nI 1)) gg_L_89 cd_X6_cheapest ⟨Nat.le_of_ble_eq_true rfl, Nat.le_of_ble_eq_true rfl⟩ ⟨Nat.le_of_ble_eq_true rfl, Nat.le_of_ble_eq_true rfl⟩ ([]) ([]) (by simp only [List.append_nil, List.nil_append]) 0 hat_106 rfl rfl (Nat.le_of_ble_eq_true rfl) dL_isCheapest_20 (fun r W_104 hp => ?_)
                                  obtain ⟨rfl, hS_105⟩ := hp
                                  refine zk_ws (ws2 := W_104) (by simp only [List.append_nil, List.nil_append]) ?_
                                  refine zk_top (y := nI z_1.2.length) (by rw [← hE.1, che_n _ (by omega) (by omega), hB_1]; rfl) ?_
                                  refine zk_istore hc (lv2 := [(4, .int (nI z_1.2.length)), (3, .int (nI z_1.1)), (2, .int (nI 1)), (6, .int (-2)), (1, .int (-9)), (5, .int (nI (S.1 6))), (0, .ref b)]) dL_isCheapest_23 (by decide) rfl ?_
                                  refine zk_aload_n hc dL_isCheapest_25 6 rfl ?_
                                  refine zk_iconst hc (nI 2) dL_isCheapest_26 rfl ?_
                                  obtain ⟨hat_109_f, hat_109⟩ := cs_at hS_105
                                  refine zk_callVi hc (rest := []) (kx_told g l b S0 W_104 cN (by omega) hI0 hS_105 (nI 2)) gg_L_25 cd_X6_told ⟨Nat.le_of_ble_eq_true rfl, Nat.le_of_ble_eq_true rfl⟩ ⟨Nat.le_of_ble_eq_true rfl, Nat.le_of_ble_eq_true rfl⟩ ([]) ([]) (by simp only [List.append_nil, List.nil_append]) 0 hat_109 rfl rfl (Nat.le_of_ble_eq_true rfl) dL_isCheapest_27 (fun r W_107 hp => ?_)
                                  obtain ⟨rfl, hS_108⟩ := hp
                                  refine zk_ws (ws2 := W_107) (by simp only [List.append_nil, List.nil_append]) ?_
                                  refine zk_top (y := nI (S.1 6)) ((tol_n _ (by omega)).trans (congrArg (fun u : Nat → Nat => nI (u 6)) hE.1.symm)) ?_
                                  refine zk_istore hc (lv2 := [(5, .int (nI (S.1 6))), (4, .int (nI z_1.2.length)), (3, .int (nI z_1.1)), (2, .int (nI 1)), (6, .int (-2)), (1, .int (-9)), (0, .ref b)]) dL_isCheapest_30 (by decide) rfl ?_
                                  refine zk_iload_n hc dL_isCheapest_32 2 rfl ?_
                                  refine zk_if_ge hc 40 dL_isCheapest_33 (by decide) (fun h33 => ?_) (fun h33 => ?_)
                                  · refine zk_iconst hc (nI 0) dL_isCheapest_40 rfl ?_
                                    refine zk_iload hc dL_isCheapest_41 1 rfl ?_
                                    refine zk_if_ge hc 50 dL_isCheapest_43 (by decide) (fun h43 => ?_) (fun h43 => ?_)
                                    · refine zk_iconst hc (nI 0) dL_isCheapest_50 rfl ?_
                                      refine zk_icmp_neN hc 100 dL_isCheapest_51 (by decide) (by omega) (by omega) (fun h_110 => ?_) (fun h_110 => ?_)
                                      · exact absurd h_110 (by decide)
                                      · refine zk_iload hc dL_isCheapest_54 1 rfl ?_
                                        refine zk_iload_n hc dL_isCheapest_56 3 rfl ?_
                                        refine zk_icmp_gtN hc 100 dL_isCheapest_57 (by decide) (by omega) (by omega) (fun h57 => ?_) (fun h57 => ?_)
                                        · exact absurd h57 (by omega)
                                        · refine zk_iload_n hc dL_isCheapest_60 5 rfl ?_
                                          refine zk_if_lt hc 73 dL_isCheapest_61 (by decide) (fun h61 => ?_) (fun h61 => ?_)
                                          · refine zk_iload hc dL_isCheapest_73 1 rfl ?_
                                            refine zk_if_neN hc 82 dL_isCheapest_75 (by decide) (by omega) (fun h75 => ?_) (fun h75 => ?_)
                                            · refine zk_iconst hc (nI 0) dL_isCheapest_82 rfl ?_
                                              refine zk_aload_n hc dL_isCheapest_83 6 rfl ?_
                                              refine zk_bipush hc (nI 12) dL_isCheapest_84 rfl ?_
                                              obtain ⟨hat_113_f, hat_113⟩ := cs_at hS_108
                                              refine zk_callVi hc (rest := [.int (nI 0)]) (kx_told g l b S0 W_107 cN (by omega) hI0 hS_108 (nI 12)) gg_L_25 cd_X6_told ⟨Nat.le_of_ble_eq_true rfl, Nat.le_of_ble_eq_true rfl⟩ ⟨Nat.le_of_ble_eq_true rfl, Nat.le_of_ble_eq_true rfl⟩ ([]) ([]) (by simp only [List.append_nil, List.nil_append]) 0 hat_113 rfl rfl (Nat.le_of_ble_eq_true rfl) dL_isCheapest_86 (fun r W_111 hp => ?_)
                                              obtain ⟨rfl, hS_112⟩ := hp
                                              refine zk_ws (ws2 := W_111) (by simp only [List.append_nil, List.nil_append]) ?_
                                              refine zk_top (y := (-9)) ((tol_n _ (by omega)).trans ((congrArg muf hE.1.symm).trans hmu)) ?_
                                              refine zk_if_lt hc 96 dL_isCheapest_89 (by decide) (fun h89 => ?_) (fun h89 => ?_)
                                              · refine zk_iconst hc (nI 0) dL_isCheapest_96 rfl ?_
                                                refine zk_icmp_eqN hc 102 dL_isCheapest_97 (by decide) (by omega) (by omega) (fun h_114 => ?_) (fun h_114 => ?_)
                                                · refine zk_iload_n hc dL_isCheapest_102 2 rfl ?_
                                                  refine zk_istore_n hc (lv2 := [(1, .int (nI z_1.1)), (5, .int (nI (S.1 6))), (4, .int (nI z_1.2.length)), (3, .int (nI z_1.1)), (2, .int (nI 1)), (6, .int (-2)), (0, .ref b)]) dL_isCheapest_103 (by decide) rfl ?_
                                                  refine zk_aload_n hc dL_isCheapest_104 6 rfl ?_
                                                  refine zk_iload_n hc dL_isCheapest_105 4 rfl ?_
                                                  obtain ⟨hat_117_f, hat_117⟩ := cs_at hS_112
                                                  refine zk_callVi hc (rest := []) (kx_makeUp g l b S0 W_111 cN (by omega) hI0 hS_112 (nI 1)) gg_L_55 cd_X6_makeUp ⟨Nat.le_of_ble_eq_true rfl, Nat.le_of_ble_eq_true rfl⟩ ⟨Nat.le_of_ble_eq_true rfl, Nat.le_of_ble_eq_true rfl⟩ ([]) ([]) (by simp only [List.append_nil, List.nil_append]) 0 hat_117 rfl rfl (Nat.le_of_ble_eq_true rfl) dL_isCheapest_106 (fun r W_115 hp => ?_)
                                                  obtain ⟨rfl, hS_116⟩ := hp
                                                  refine zk_ws (ws2 := W_115) (by simp only [List.append_nil, List.nil_append]) ?_
                                                  refine zk_top (y := nI z_1.1) (by rw [← hE.1, mak_n _ (by omega), hB_1]; rfl) ?_
                                                  rw [nmak_n _ (by omega), ← hE.1, hB_1] at hS_116
                                                  replace hS_116 : CSt g b (chg S0 (rowU S0.1 z_1.2)) W_115 := hS_116
                                                  have hIm_1 : INV (cN + 1) (chg S0 (rowU S0.1 z_1.2)) := by have := INV_mak hI0 (nI 1); rw [nmak_n _ (by omega), ← hE.1, hB_1] at this; exact this
                                                  have hG_1 : GU S0.1 := by rw [← hE.1]; exact hG
                                                  have ho2_1 : okRow S0.1 z_1.2 := by rw [← hE.1]; exact hok_1
                                                  have hm2_1 : ¬ muf (rowU S0.1 z_1.2) = -9 := by rw [← hE.1]; exact hmk_1
                                                  obtain ⟨tn_1, htn_1, htq_1⟩ := muf_n hm2_1
                                                  have hq6_1 : (rowU S0.1 z_1.2) 6 = S.1 6 + z_1.1 := by rw [row_6, ← hE.1, htot_1]
                                                  obtain ⟨hua_1, hub_1, huc_1, hud_1, -⟩ := und_back hI0 (u2 := (rowU S0.1 z_1.2)) (fun j hj => row_big hG_1 ho2_1 hj)
                                                  refine zk_istore hc (lv2 := [(6, .int (nI z_1.1)), (1, .int (nI z_1.1)), (5, .int (nI (S.1 6))), (4, .int (nI z_1.2.length)), (3, .int (nI z_1.1)), (2, .int (nI 1)), (0, .ref b)]) dL_isCheapest_109 (by decide) rfl ?_
                                                  refine zk_iload hc dL_isCheapest_111 0 rfl ?_
                                                  refine zk_iload_n hc dL_isCheapest_113 4 rfl ?_
                                                  refine zk_if_ge hc 122 dL_isCheapest_114 (by decide) (fun h114 => ?_) (fun h114 => ?_)
                                                  · refine zk_iload_n hc dL_isCheapest_122 4 rfl ?_
                                                    refine zk_icmp_eqN hc 128 dL_isCheapest_123 (by decide) (by omega) (by omega) (fun h123 => ?_) (fun h123 => ?_)
                                                    · refine zk_iload hc dL_isCheapest_128 0 rfl ?_
                                                      refine zk_if_lt hc 186 dL_isCheapest_130 (by decide) (fun h130 => ?_) (fun h130 => ?_)
                                                      · exact absurd h130 (nI_pos (by omega))
                                                      · refine zk_aload_n hc dL_isCheapest_133 6 rfl ?_
                                                        refine zk_bipush hc (nI 12) dL_isCheapest_134 rfl ?_
                                                        obtain ⟨hat_120_f, hat_120⟩ := cs_at hS_116
                                                        refine zk_callVi hc (rest := []) (kx_told g l b (chg S0 (rowU S0.1 z_1.2)) W_115 (cN + 1) (by omega) hIm_1 hS_116 (nI 12)) gg_L_25 cd_X6_told ⟨Nat.le_of_ble_eq_true rfl, Nat.le_of_ble_eq_true rfl⟩ ⟨Nat.le_of_ble_eq_true rfl, Nat.le_of_ble_eq_true rfl⟩ ([]) ([]) (by simp only [List.append_nil, List.nil_append]) 0 hat_120 rfl rfl (Nat.le_of_ble_eq_true rfl) dL_isCheapest_136 (fun r W_118 hp => ?_)
                                                        obtain ⟨rfl, hS_119⟩ := hp
                                                        refine zk_ws (ws2 := W_118) (by simp only [List.append_nil, List.nil_append]) ?_
                                                        refine zk_top (y := nI tn_1) ((tol_n _ (by omega)).trans htq_1) ?_
                                                        refine zk_if_lt hc 166 dL_isCheapest_139 (by decide) (fun h139 => ?_) (fun h139 => ?_)
                                                        · exact absurd h139 (nI_pos (by omega))
                                                        · refine zk_aload_n hc dL_isCheapest_142 6 rfl ?_
                                                          refine zk_iconst hc (nI 2) dL_isCheapest_143 rfl ?_
                                                          obtain ⟨hat_123_f, hat_123⟩ := cs_at hS_119
                                                          refine zk_callVi hc (rest := []) (kx_told g l b (chg S0 (rowU S0.1 z_1.2)) W_118 (cN + 1) (by omega) hIm_1 hS_119 (nI 2)) gg_L_25 cd_X6_told ⟨Nat.le_of_ble_eq_true rfl, Nat.le_of_ble_eq_true rfl⟩ ⟨Nat.le_of_ble_eq_true rfl, Nat.le_of_ble_eq_true rfl⟩ ([]) ([]) (by simp only [List.append_nil, List.nil_append]) 0 hat_123 rfl rfl (Nat.le_of_ble_eq_true rfl) dL_isCheapest_144 (fun r W_121 hp => ?_)
                                                          obtain ⟨rfl, hS_122⟩ := hp
                                                          refine zk_ws (ws2 := W_121) (by simp only [List.append_nil, List.nil_append]) ?_
                                                          refine zk_top (y := nI (S.1 6 + z_1.1)) ((tol_n _ (by omega)).trans (congrArg nI hq6_1)) ?_
                                                          refine zk_iload hc dL_isCheapest_147 2 rfl ?_
                                                          refine zk_iload hc dL_isCheapest_149 0 rfl ?_
                                                          refine zk_iaddN hc dL_isCheapest_151 ?_
                                                          refine zk_icmp_neN hc 166 dL_isCheapest_152 (by decide) (by omega) (by omega) (fun h_124 => ?_) (fun h_124 => ?_)
                                                          · exact absurd h_124 (by omega)
                                                          · refine zk_aload_n hc dL_isCheapest_155 6 rfl ?_
                                                            obtain ⟨hat_127_f, hat_127⟩ := cs_at hS_122
                                                            refine zk_callVi hc (rest := []) (kx_undo g l b (chg S0 (rowU S0.1 z_1.2)) W_121 (cN + 1) (by omega) hIm_1 hS_122) gg_L_58 cd_X6_undo ⟨Nat.le_of_ble_eq_true rfl, Nat.le_of_ble_eq_true rfl⟩ ⟨Nat.le_of_ble_eq_true rfl, Nat.le_of_ble_eq_true rfl⟩ ([]) ([]) (by simp only [List.append_nil, List.nil_append]) 0 hat_127 rfl rfl (Nat.le_of_ble_eq_true rfl) dL_isCheapest_156 (fun r W_125 hp => ?_)
                                                            obtain ⟨rfl, hS_126⟩ := hp
                                                            refine zk_ws (ws2 := W_125) (by simp only [List.append_nil, List.nil_append]) ?_
                                                            refine zk_top (y := nI (remN S0.2.2.1 - 1)) huc_1 ?_
                                                            obtain ⟨S_1, hE_1, hI_1, hSn_1⟩ : ∃ S2, EqS S S2 ∧ INV cN S2 ∧ CSt g b S2 W_125 := ⟨_, hE.tr hua_1, hub_1, hS_126⟩
                                                            refine zk_if_lt hc 166 dL_isCheapest_159 (by decide) (fun h159 => ?_) (fun h159 => ?_)
                                                            · exact absurd h159 (nI_pos (by omega))
                                                            · refine zk_iconst hc (nI 1) dL_isCheapest_162 rfl ?_
                                                              refine zk_goto hc 167 dL_isCheapest_163 (by decide) ?_
                                                              refine zk_istore hc (lv2 := [(7, .int (nI 1)), (6, .int (nI z_1.1)), (1, .int (nI z_1.1)), (5, .int (nI (S.1 6))), (4, .int (nI z_1.2.length)), (3, .int (nI z_1.1)), (2, .int (nI 1)), (0, .ref b)]) dL_isCheapest_167 (by decide) rfl ?_
                                                              refine zk_iload hc dL_isCheapest_169 0 rfl ?_
                                                              refine zk_if_eqN hc 184 dL_isCheapest_171 (by decide) (by omega) (fun h_128 => ?_) (fun h_128 => ?_)
                                                              · exact absurd h_128 (by decide)
                                                              · refine zk_aload_n hc dL_isCheapest_174 7 rfl ?_
                                                                refine zk_iconst hc (nI 2) dL_isCheapest_175 rfl ?_
                                                                obtain ⟨hat_131_f, hat_131⟩ := cs_at hSn_1
                                                                refine zk_callVi hc (rest := []) (kx_told g l b S_1 W_125 cN (by omega) hI_1 hSn_1 (nI 2)) gg_L_25 cd_X6_told ⟨Nat.le_of_ble_eq_true rfl, Nat.le_of_ble_eq_true rfl⟩ ⟨Nat.le_of_ble_eq_true rfl, Nat.le_of_ble_eq_true rfl⟩ ([]) ([]) (by simp only [List.append_nil, List.nil_append]) 0 hat_131 rfl rfl (Nat.le_of_ble_eq_true rfl) dL_isCheapest_176 (fun r W_129 hp => ?_)
                                                                obtain ⟨rfl, hS_130⟩ := hp
                                                                refine zk_ws (ws2 := W_129) (by simp only [List.append_nil, List.nil_append]) ?_
                                                                refine zk_top (y := nI (S.1 6)) ((tol_n _ (by omega)).trans (congrArg (fun u : Nat → Nat => nI (u 6)) hE_1.1.symm)) ?_
                                                                refine zk_iload hc dL_isCheapest_179 3 rfl ?_
                                                                refine zk_icmp_eqN hc 186 dL_isCheapest_181 (by decide) (by omega) (by omega) (fun h_132 => ?_) (fun h_132 => ?_)
                                                                · refine zk_iinc hc (v := nI 2) (lv2 := [(2, .int (nI 2)), (7, .int (nI 1)), (6, .int (nI z_1.1)), (1, .int (nI z_1.1)), (5, .int (nI (S.1 6))), (4, .int (nI z_1.2.length)), (3, .int (nI z_1.1)), (0, .ref b)]) dL_isCheapest_186 6 rfl (by decide) (by decide) rfl ?_
                                                                  refine zk_goto hc 5 dL_isCheapest_189 (by decide) ?_
                                                                  refine zk_iload_n hc dL_isCheapest_5 0 rfl ?_
                                                                  refine zk_iconst hc (nI 3) dL_isCheapest_6 rfl ?_
                                                                  refine zk_icmp_geN hc 192 dL_isCheapest_7 (by decide) (by omega) (by omega) (fun h_133 => ?_) (fun h_133 => ?_)
                                                                  · exact absurd h_133 (by decide)
                                                                  · obtain ⟨z_2, hB_2, hle_2⟩ := vis_more 1 S.1 [] 0 none none (bLe.rf _) z_1 hB_1
                                                                    · obtain ⟨hok_2, htot_2, hlen_2⟩ := vis_ok hB_2
                                                                      have htl_2 := tot_le hG hok_2
                                                                      have hmk_2 := vis_makes hB_2
                                                                      have hzl_2 : z_2.2.length ≠ 0 := fun y => ((vis_len hB_2).mp y) hmu
                                                                      refine zk_aload_n hc dL_isCheapest_10 7 rfl ?_
                                                                      refine zk_iload_n hc dL_isCheapest_11 0 rfl ?_
                                                                      refine zk_iconst hc (nI 0) dL_isCheapest_12 rfl ?_
                                                                      obtain ⟨hat_136_f, hat_136⟩ := cs_at hS_130
                                                                      refine zk_callVi hc (rest := []) (kx_cheapest g l b S_1 W_129 cN (by omega) hI_1 hS_130 (nI 2) (nI 0)) gg_L_89 cd_X6_cheapest ⟨Nat.le_of_ble_eq_true rfl, Nat.le_of_ble_eq_true rfl⟩ ⟨Nat.le_of_ble_eq_true rfl, Nat.le_of_ble_eq_true rfl⟩ ([]) ([]) (by simp only [List.append_nil, List.nil_append]) 0 hat_136 rfl rfl (Nat.le_of_ble_eq_true rfl) dL_isCheapest_13 (fun r W_134 hp => ?_)
                                                                      obtain ⟨rfl, hS_135⟩ := hp
                                                                      refine zk_ws (ws2 := W_134) (by simp only [List.append_nil, List.nil_append]) ?_
                                                                      refine zk_top (y := nI z_2.1) (by rw [← hE_1.1, che_n _ (by omega) (by omega), hB_2]; rfl) ?_
                                                                      refine zk_istore_n hc (lv2 := [(3, .int (nI z_2.1)), (2, .int (nI 2)), (7, .int (nI 1)), (6, .int (nI z_1.1)), (1, .int (nI z_1.1)), (5, .int (nI (S.1 6))), (4, .int (nI z_1.2.length)), (0, .ref b)]) dL_isCheapest_16 (by decide) rfl ?_
                                                                      refine zk_aload_n hc dL_isCheapest_17 7 rfl ?_
                                                                      refine zk_iload_n hc dL_isCheapest_18 1 rfl ?_
                                                                      refine zk_iconst hc (nI 1) dL_isCheapest_19 rfl ?_
                                                                      obtain ⟨hat_139_f, hat_139⟩ := cs_at hS_135
                                                                      refine zk_callVi hc (rest := []) (kx_cheapest g l b S_1 W_134 cN (by omega) hI_1 hS_135 (nI 2) (nI 1)) gg_L_89 cd_X6_cheapest ⟨Nat.le_of_ble_eq_true rfl, Nat.le_of_ble_eq_true rfl⟩ ⟨Nat.le_of_ble_eq_true rfl, Nat.le_of_ble_eq_true rfl⟩ ([]) ([]) (by simp only [List.append_nil, List.nil_append]) 0 hat_139 rfl rfl (Nat.le_of_ble_eq_true rfl) dL_isCheapest_20 (fun r W_137 hp => ?_)
                                                                      obtain ⟨rfl, hS_138⟩ := hp
                                                                      refine zk_ws (ws2 := W_137) (by simp only [List.append_nil, List.nil_append]) ?_
                                                                      refine zk_top (y := nI z_2.2.length) (by rw [← hE_1.1, che_n _ (by omega) (by omega), hB_2]; rfl) ?_
                                                                      refine zk_istore hc (lv2 := [(4, .int (nI z_2.2.length)), (3, .int (nI z_2.1)), (2, .int (nI 2)), (7, .int (nI 1)), (6, .int (nI z_1.1)), (1, .int (nI z_1.1)), (5, .int (nI (S.1 6))), (0, .ref b)]) dL_isCheapest_23 (by decide) rfl ?_
                                                                      refine zk_aload_n hc dL_isCheapest_25 7 rfl ?_
                                                                      refine zk_iconst hc (nI 2) dL_isCheapest_26 rfl ?_
                                                                      obtain ⟨hat_142_f, hat_142⟩ := cs_at hS_138
                                                                      refine zk_callVi hc (rest := []) (kx_told g l b S_1 W_137 cN (by omega) hI_1 hS_138 (nI 2)) gg_L_25 cd_X6_told ⟨Nat.le_of_ble_eq_true rfl, Nat.le_of_ble_eq_true rfl⟩ ⟨Nat.le_of_ble_eq_true rfl, Nat.le_of_ble_eq_true rfl⟩ ([]) ([]) (by simp only [List.append_nil, List.nil_append]) 0 hat_142 rfl rfl (Nat.le_of_ble_eq_true rfl) dL_isCheapest_27 (fun r W_140 hp => ?_)
                                                                      obtain ⟨rfl, hS_141⟩ := hp
                                                                      refine zk_ws (ws2 := W_140) (by simp only [List.append_nil, List.nil_append]) ?_
                                                                      refine zk_top (y := nI (S.1 6)) ((tol_n _ (by omega)).trans (congrArg (fun u : Nat → Nat => nI (u 6)) hE_1.1.symm)) ?_
                                                                      refine zk_istore hc (lv2 := [(5, .int (nI (S.1 6))), (4, .int (nI z_2.2.length)), (3, .int (nI z_2.1)), (2, .int (nI 2)), (7, .int (nI 1)), (6, .int (nI z_1.1)), (1, .int (nI z_1.1)), (0, .ref b)]) dL_isCheapest_30 (by decide) rfl ?_
                                                                      refine zk_iload_n hc dL_isCheapest_32 2 rfl ?_
                                                                      refine zk_if_ge hc 40 dL_isCheapest_33 (by decide) (fun h33 => ?_) (fun h33 => ?_)
                                                                      · refine zk_iconst hc (nI 0) dL_isCheapest_40 rfl ?_
                                                                        refine zk_iload hc dL_isCheapest_41 1 rfl ?_
                                                                        refine zk_if_ge hc 50 dL_isCheapest_43 (by decide) (fun h43 => ?_) (fun h43 => ?_)
                                                                        · refine zk_iconst hc (nI 0) dL_isCheapest_50 rfl ?_
                                                                          refine zk_icmp_neN hc 100 dL_isCheapest_51 (by decide) (by omega) (by omega) (fun h_143 => ?_) (fun h_143 => ?_)
                                                                          · exact absurd h_143 (by decide)
                                                                          · refine zk_iload hc dL_isCheapest_54 1 rfl ?_
                                                                            refine zk_iload_n hc dL_isCheapest_56 3 rfl ?_
                                                                            refine zk_icmp_gtN hc 100 dL_isCheapest_57 (by decide) (by omega) (by omega) (fun h57 => ?_) (fun h57 => ?_)
                                                                            · exact absurd h57 (by omega)
                                                                            · refine zk_iload_n hc dL_isCheapest_60 6 rfl ?_
                                                                              refine zk_if_lt hc 73 dL_isCheapest_61 (by decide) (fun h61 => ?_) (fun h61 => ?_)
                                                                              · exact absurd h61 (nI_pos (by omega))
                                                                              · refine zk_iload_n hc dL_isCheapest_64 2 rfl ?_
                                                                                refine zk_if_lt hc 100 dL_isCheapest_65 (by decide) (fun h65 => ?_) (fun h65 => ?_)
                                                                                · exact absurd h65 (nI_pos (by omega))
                                                                                · refine zk_iload_n hc dL_isCheapest_68 2 rfl ?_
                                                                                  refine zk_iload_n hc dL_isCheapest_69 6 rfl ?_
                                                                                  refine zk_icmp_gtN hc 100 dL_isCheapest_70 (by decide) (by omega) (by omega) (fun h_144 => ?_) (fun h_144 => ?_)
                                                                                  · exact absurd h_144 (by omega)
                                                                                  · refine zk_iload hc dL_isCheapest_73 1 rfl ?_
                                                                                    refine zk_if_neN hc 82 dL_isCheapest_75 (by decide) (by omega) (fun h75 => ?_) (fun h75 => ?_)
                                                                                    · refine zk_iconst hc (nI 0) dL_isCheapest_82 rfl ?_
                                                                                      refine zk_aload_n hc dL_isCheapest_83 7 rfl ?_
                                                                                      refine zk_bipush hc (nI 12) dL_isCheapest_84 rfl ?_
                                                                                      obtain ⟨hat_147_f, hat_147⟩ := cs_at hS_141
                                                                                      refine zk_callVi hc (rest := [.int (nI 0)]) (kx_told g l b S_1 W_140 cN (by omega) hI_1 hS_141 (nI 12)) gg_L_25 cd_X6_told ⟨Nat.le_of_ble_eq_true rfl, Nat.le_of_ble_eq_true rfl⟩ ⟨Nat.le_of_ble_eq_true rfl, Nat.le_of_ble_eq_true rfl⟩ ([]) ([]) (by simp only [List.append_nil, List.nil_append]) 0 hat_147 rfl rfl (Nat.le_of_ble_eq_true rfl) dL_isCheapest_86 (fun r W_145 hp => ?_)
                                                                                      obtain ⟨rfl, hS_146⟩ := hp
                                                                                      refine zk_ws (ws2 := W_145) (by simp only [List.append_nil, List.nil_append]) ?_
                                                                                      refine zk_top (y := (-9)) ((tol_n _ (by omega)).trans ((congrArg muf hE_1.1.symm).trans hmu)) ?_
                                                                                      refine zk_if_lt hc 96 dL_isCheapest_89 (by decide) (fun h89 => ?_) (fun h89 => ?_)
                                                                                      · refine zk_iconst hc (nI 0) dL_isCheapest_96 rfl ?_
                                                                                        refine zk_icmp_eqN hc 102 dL_isCheapest_97 (by decide) (by omega) (by omega) (fun h_148 => ?_) (fun h_148 => ?_)
                                                                                        · refine zk_iload_n hc dL_isCheapest_102 2 rfl ?_
                                                                                          refine zk_istore_n hc (lv2 := [(1, .int (nI z_2.1)), (5, .int (nI (S.1 6))), (4, .int (nI z_2.2.length)), (3, .int (nI z_2.1)), (2, .int (nI 2)), (7, .int (nI 1)), (6, .int (nI z_1.1)), (0, .ref b)]) dL_isCheapest_103 (by decide) rfl ?_
                                                                                          refine zk_aload_n hc dL_isCheapest_104 7 rfl ?_
                                                                                          refine zk_iload_n hc dL_isCheapest_105 4 rfl ?_
                                                                                          obtain ⟨hat_151_f, hat_151⟩ := cs_at hS_146
                                                                                          refine zk_callVi hc (rest := []) (kx_makeUp g l b S_1 W_145 cN (by omega) hI_1 hS_146 (nI 2)) gg_L_55 cd_X6_makeUp ⟨Nat.le_of_ble_eq_true rfl, Nat.le_of_ble_eq_true rfl⟩ ⟨Nat.le_of_ble_eq_true rfl, Nat.le_of_ble_eq_true rfl⟩ ([]) ([]) (by simp only [List.append_nil, List.nil_append]) 0 hat_151 rfl rfl (Nat.le_of_ble_eq_true rfl) dL_isCheapest_106 (fun r W_149 hp => ?_)
                                                                                          obtain ⟨rfl, hS_150⟩ := hp
                                                                                          refine zk_ws (ws2 := W_149) (by simp only [List.append_nil, List.nil_append]) ?_
                                                                                          refine zk_top (y := nI z_2.1) (by rw [← hE_1.1, mak_n _ (by omega), hB_2]; rfl) ?_
                                                                                          rw [nmak_n _ (by omega), ← hE_1.1, hB_2] at hS_150
                                                                                          replace hS_150 : CSt g b (chg S_1 (rowU S_1.1 z_2.2)) W_149 := hS_150
                                                                                          have hIm_2 : INV (cN + 1) (chg S_1 (rowU S_1.1 z_2.2)) := by have := INV_mak hI_1 (nI 2); rw [nmak_n _ (by omega), ← hE_1.1, hB_2] at this; exact this
                                                                                          have hG_2 : GU S_1.1 := by rw [← hE_1.1]; exact hG
                                                                                          have ho2_2 : okRow S_1.1 z_2.2 := by rw [← hE_1.1]; exact hok_2
                                                                                          have hm2_2 : ¬ muf (rowU S_1.1 z_2.2) = -9 := by rw [← hE_1.1]; exact hmk_2
                                                                                          obtain ⟨tn_2, htn_2, htq_2⟩ := muf_n hm2_2
                                                                                          have hq6_2 : (rowU S_1.1 z_2.2) 6 = S.1 6 + z_2.1 := by rw [row_6, ← hE_1.1, htot_2]
                                                                                          obtain ⟨hua_2, hub_2, huc_2, hud_2, -⟩ := und_back hI_1 (u2 := (rowU S_1.1 z_2.2)) (fun j hj => row_big hG_2 ho2_2 hj)
                                                                                          refine zk_istore hc (lv2 := [(6, .int (nI z_2.1)), (1, .int (nI z_2.1)), (5, .int (nI (S.1 6))), (4, .int (nI z_2.2.length)), (3, .int (nI z_2.1)), (2, .int (nI 2)), (7, .int (nI 1)), (0, .ref b)]) dL_isCheapest_109 (by decide) rfl ?_
                                                                                          refine zk_iload hc dL_isCheapest_111 0 rfl ?_
                                                                                          refine zk_iload_n hc dL_isCheapest_113 4 rfl ?_
                                                                                          refine zk_if_ge hc 122 dL_isCheapest_114 (by decide) (fun h114 => ?_) (fun h114 => ?_)
                                                                                          · refine zk_iload_n hc dL_isCheapest_122 4 rfl ?_
                                                                                            refine zk_icmp_eqN hc 128 dL_isCheapest_123 (by decide) (by omega) (by omega) (fun h123 => ?_) (fun h123 => ?_)
                                                                                            · refine zk_iload hc dL_isCheapest_128 0 rfl ?_
                                                                                              refine zk_if_lt hc 186 dL_isCheapest_130 (by decide) (fun h130 => ?_) (fun h130 => ?_)
                                                                                              · exact absurd h130 (nI_pos (by omega))
                                                                                              · refine zk_aload_n hc dL_isCheapest_133 7 rfl ?_
                                                                                                refine zk_bipush hc (nI 12) dL_isCheapest_134 rfl ?_
                                                                                                obtain ⟨hat_154_f, hat_154⟩ := cs_at hS_150
                                                                                                refine zk_callVi hc (rest := []) (kx_told g l b (chg S_1 (rowU S_1.1 z_2.2)) W_149 (cN + 1) (by omega) hIm_2 hS_150 (nI 12)) gg_L_25 cd_X6_told ⟨Nat.le_of_ble_eq_true rfl, Nat.le_of_ble_eq_true rfl⟩ ⟨Nat.le_of_ble_eq_true rfl, Nat.le_of_ble_eq_true rfl⟩ ([]) ([]) (by simp only [List.append_nil, List.nil_append]) 0 hat_154 rfl rfl (Nat.le_of_ble_eq_true rfl) dL_isCheapest_136 (fun r W_152 hp => ?_)
                                                                                                obtain ⟨rfl, hS_153⟩ := hp
                                                                                                refine zk_ws (ws2 := W_152) (by simp only [List.append_nil, List.nil_append]) ?_
                                                                                                refine zk_top (y := nI tn_2) ((tol_n _ (by omega)).trans htq_2) ?_
                                                                                                refine zk_if_lt hc 166 dL_isCheapest_139 (by decide) (fun h139 => ?_) (fun h139 => ?_)
                                                                                                · exact absurd h139 (nI_pos (by omega))
                                                                                                · refine zk_aload_n hc dL_isCheapest_142 7 rfl ?_
                                                                                                  refine zk_iconst hc (nI 2) dL_isCheapest_143 rfl ?_
                                                                                                  obtain ⟨hat_157_f, hat_157⟩ := cs_at hS_153
                                                                                                  refine zk_callVi hc (rest := []) (kx_told g l b (chg S_1 (rowU S_1.1 z_2.2)) W_152 (cN + 1) (by omega) hIm_2 hS_153 (nI 2)) gg_L_25 cd_X6_told ⟨Nat.le_of_ble_eq_true rfl, Nat.le_of_ble_eq_true rfl⟩ ⟨Nat.le_of_ble_eq_true rfl, Nat.le_of_ble_eq_true rfl⟩ ([]) ([]) (by simp only [List.append_nil, List.nil_append]) 0 hat_157 rfl rfl (Nat.le_of_ble_eq_true rfl) dL_isCheapest_144 (fun r W_155 hp => ?_)
                                                                                                  obtain ⟨rfl, hS_156⟩ := hp
                                                                                                  refine zk_ws (ws2 := W_155) (by simp only [List.append_nil, List.nil_append]) ?_
                                                                                                  refine zk_top (y := nI (S.1 6 + z_2.1)) ((tol_n _ (by omega)).trans (congrArg nI hq6_2)) ?_
                                                                                                  refine zk_iload hc dL_isCheapest_147 2 rfl ?_
                                                                                                  refine zk_iload hc dL_isCheapest_149 0 rfl ?_
                                                                                                  refine zk_iaddN hc dL_isCheapest_151 ?_
                                                                                                  refine zk_icmp_neN hc 166 dL_isCheapest_152 (by decide) (by omega) (by omega) (fun h_158 => ?_) (fun h_158 => ?_)
                                                                                                  · exact absurd h_158 (by omega)
                                                                                                  · refine zk_aload_n hc dL_isCheapest_155 7 rfl ?_
                                                                                                    obtain ⟨hat_161_f, hat_161⟩ := cs_at hS_156
                                                                                                    refine zk_callVi hc (rest := []) (kx_undo g l b (chg S_1 (rowU S_1.1 z_2.2)) W_155 (cN + 1) (by omega) hIm_2 hS_156) gg_L_58 cd_X6_undo ⟨Nat.le_of_ble_eq_true rfl, Nat.le_of_ble_eq_true rfl⟩ ⟨Nat.le_of_ble_eq_true rfl, Nat.le_of_ble_eq_true rfl⟩ ([]) ([]) (by simp only [List.append_nil, List.nil_append]) 0 hat_161 rfl rfl (Nat.le_of_ble_eq_true rfl) dL_isCheapest_156 (fun r W_159 hp => ?_)
                                                                                                    obtain ⟨rfl, hS_160⟩ := hp
                                                                                                    refine zk_ws (ws2 := W_159) (by simp only [List.append_nil, List.nil_append]) ?_
                                                                                                    refine zk_top (y := nI (remN S_1.2.2.1 - 1)) huc_2 ?_
                                                                                                    obtain ⟨S_2, hE_2, hI_2, hSn_2⟩ : ∃ S2, EqS S S2 ∧ INV cN S2 ∧ CSt g b S2 W_159 := ⟨_, hE_1.tr hua_2, hub_2, hS_160⟩
                                                                                                    refine zk_if_lt hc 166 dL_isCheapest_159 (by decide) (fun h159 => ?_) (fun h159 => ?_)
                                                                                                    · exact absurd h159 (nI_pos (by omega))
                                                                                                    · refine zk_iconst hc (nI 1) dL_isCheapest_162 rfl ?_
                                                                                                      refine zk_goto hc 167 dL_isCheapest_163 (by decide) ?_
                                                                                                      refine zk_istore hc (lv2 := [(7, .int (nI 1)), (6, .int (nI z_2.1)), (1, .int (nI z_2.1)), (5, .int (nI (S.1 6))), (4, .int (nI z_2.2.length)), (3, .int (nI z_2.1)), (2, .int (nI 2)), (0, .ref b)]) dL_isCheapest_167 (by decide) rfl ?_
                                                                                                      refine zk_iload hc dL_isCheapest_169 0 rfl ?_
                                                                                                      refine zk_if_eqN hc 184 dL_isCheapest_171 (by decide) (by omega) (fun h_162 => ?_) (fun h_162 => ?_)
                                                                                                      · exact absurd h_162 (by decide)
                                                                                                      · refine zk_aload_n hc dL_isCheapest_174 7 rfl ?_
                                                                                                        refine zk_iconst hc (nI 2) dL_isCheapest_175 rfl ?_
                                                                                                        obtain ⟨hat_165_f, hat_165⟩ := cs_at hSn_2
                                                                                                        refine zk_callVi hc (rest := []) (kx_told g l b S_2 W_159 cN (by omega) hI_2 hSn_2 (nI 2)) gg_L_25 cd_X6_told ⟨Nat.le_of_ble_eq_true rfl, Nat.le_of_ble_eq_true rfl⟩ ⟨Nat.le_of_ble_eq_true rfl, Nat.le_of_ble_eq_true rfl⟩ ([]) ([]) (by simp only [List.append_nil, List.nil_append]) 0 hat_165 rfl rfl (Nat.le_of_ble_eq_true rfl) dL_isCheapest_176 (fun r W_163 hp => ?_)
                                                                                                        obtain ⟨rfl, hS_164⟩ := hp
                                                                                                        refine zk_ws (ws2 := W_163) (by simp only [List.append_nil, List.nil_append]) ?_
                                                                                                        refine zk_top (y := nI (S.1 6)) ((tol_n _ (by omega)).trans (congrArg (fun u : Nat → Nat => nI (u 6)) hE_2.1.symm)) ?_
                                                                                                        refine zk_iload hc dL_isCheapest_179 3 rfl ?_
                                                                                                        refine zk_icmp_eqN hc 186 dL_isCheapest_181 (by decide) (by omega) (by omega) (fun h_166 => ?_) (fun h_166 => ?_)
                                                                                                        · refine zk_iinc hc (v := nI 3) (lv2 := [(2, .int (nI 3)), (7, .int (nI 1)), (6, .int (nI z_2.1)), (1, .int (nI z_2.1)), (5, .int (nI (S.1 6))), (4, .int (nI z_2.2.length)), (3, .int (nI z_2.1)), (0, .ref b)]) dL_isCheapest_186 6 rfl (by decide) (by decide) rfl ?_
                                                                                                          refine zk_goto hc 5 dL_isCheapest_189 (by decide) ?_
                                                                                                          refine zk_iload_n hc dL_isCheapest_5 0 rfl ?_
                                                                                                          refine zk_iconst hc (nI 3) dL_isCheapest_6 rfl ?_
                                                                                                          refine zk_icmp_geN hc 192 dL_isCheapest_7 (by decide) (by omega) (by omega) (fun h_167 => ?_) (fun h_167 => ?_)
                                                                                                          · refine zk_aload_n hc dL_isCheapest_192 7 rfl ?_
                                                                                                            refine zk_iconst hc (nI 4) dL_isCheapest_193 rfl ?_
                                                                                                            refine zk_iconst hc (nI 0) dL_isCheapest_194 rfl ?_
                                                                                                            obtain ⟨hat_170_f, hat_170⟩ := cs_at hS_164
                                                                                                            refine zk_callVi hc (rest := []) (kx_cheapest g l b S_2 W_163 cN (by omega) hI_2 hS_164 (nI 4) (nI 0)) gg_L_89 cd_X6_cheapest ⟨Nat.le_of_ble_eq_true rfl, Nat.le_of_ble_eq_true rfl⟩ ⟨Nat.le_of_ble_eq_true rfl, Nat.le_of_ble_eq_true rfl⟩ ([]) ([]) (by simp only [List.append_nil, List.nil_append]) 0 hat_170 rfl rfl (Nat.le_of_ble_eq_true rfl) dL_isCheapest_195 (fun r W_168 hp => ?_)
                                                                                                            obtain ⟨rfl, hS_169⟩ := hp
                                                                                                            refine zk_ws (ws2 := W_168) (by simp only [List.append_nil, List.nil_append]) ?_
                                                                                                            refine zk_top (y := (-1)) (che_40 _) ?_
                                                                                                            refine zk_iconst hc ((-1)) dL_isCheapest_198 rfl ?_
                                                                                                            refine zk_icmp_ne hc 216 dL_isCheapest_199 (by decide) (fun h199 => ?_) (fun h199 => ?_)
                                                                                                            · exact absurd rfl h199
                                                                                                            · refine zk_aload_n hc dL_isCheapest_202 7 rfl ?_
                                                                                                              refine zk_iconst hc (nI 0) dL_isCheapest_203 rfl ?_
                                                                                                              refine zk_iconst hc (nI 5) dL_isCheapest_204 rfl ?_
                                                                                                              obtain ⟨hat_173_f, hat_173⟩ := cs_at hS_169
                                                                                                              refine zk_callVi hc (rest := []) (kx_cheapest g l b S_2 W_168 cN (by omega) hI_2 hS_169 (nI 0) (nI 5)) gg_L_89 cd_X6_cheapest ⟨Nat.le_of_ble_eq_true rfl, Nat.le_of_ble_eq_true rfl⟩ ⟨Nat.le_of_ble_eq_true rfl, Nat.le_of_ble_eq_true rfl⟩ ([]) ([]) (by simp only [List.append_nil, List.nil_append]) 0 hat_173 rfl rfl (Nat.le_of_ble_eq_true rfl) dL_isCheapest_205 (fun r W_171 hp => ?_)
                                                                                                              obtain ⟨rfl, hS_172⟩ := hp
                                                                                                              refine zk_ws (ws2 := W_171) (by simp only [List.append_nil, List.nil_append]) ?_
                                                                                                              refine zk_top (y := (-1)) (che_05 _) ?_
                                                                                                              refine zk_iconst hc ((-1)) dL_isCheapest_208 rfl ?_
                                                                                                              refine zk_icmp_ne hc 216 dL_isCheapest_209 (by decide) (fun h209 => ?_) (fun h209 => ?_)
                                                                                                              · exact absurd rfl h209
                                                                                                              · refine zk_iconst hc (nI 1) dL_isCheapest_212 rfl ?_
                                                                                                                refine zk_goto hc 217 dL_isCheapest_213 (by decide) ?_
                                                                                                                refine fin 21 216 _ _ _ _ (by decide) (by decide) dL_isCheapest_217 rfl (?_)
                                                                                                                exact ⟨rfl, _, hE_2, hI_2, hS_172⟩
                                                                                                          · exact absurd h_167 (by decide)
                                                                                                        · exact absurd h_166 (by omega)
                                                                                            · exact absurd rfl h123
                                                                                          · exact absurd (nI_pos' (by omega)) h114
                                                                                        · exact absurd h_148 (by decide)
                                                                                      · exact absurd (by decide) h89
                                                                                    · exact absurd h75 hzl_2
                                                                        · exact absurd (nI_pos' (by omega)) h43
                                                                      · exact absurd (nI_pos' (by omega)) h33
                                                                · exact absurd h_132 (by omega)
                                                    · exact absurd rfl h123
                                                  · exact absurd (nI_pos' (by omega)) h114
                                                · exact absurd h_114 (by decide)
                                              · exact absurd (by decide) h89
                                            · exact absurd h75 hzl_1
                                          · exact absurd (by decide) h61
                                    · exact absurd (nI_pos' (by omega)) h43
                                  · exact absurd (nI_pos' (by omega)) h33
                            · exact absurd (by decide) h130
                          · exact absurd rfl h123
                      · exact absurd h_15 (by decide)
                    · exact absurd (by decide) h89
                  · exact absurd h75 (by decide)
                · exact absurd (by decide) h61
      · obtain ⟨hok_0, htot_0, hlen_0⟩ := vis_ok hB_0
        have htl_0 := tot_le hG hok_0
        have hmk_0 := vis_makes hB_0
        have hzl_0 : z_0.2.length ≠ 0 := fun y => ((vis_len hB_0).mp y) hmu
        refine zk_aload_n hc dL_isCheapest_10 2 rfl ?_
        refine zk_iload_n hc dL_isCheapest_11 0 rfl ?_
        refine zk_iconst hc (nI 0) dL_isCheapest_12 rfl ?_
        obtain ⟨hat_176_f, hat_176⟩ := cs_at hS0
        refine zk_callVi hc (rest := []) (kx_cheapest g l b S0 W cN (by omega) hI0 hS0 (nI 0) (nI 0)) gg_L_89 cd_X6_cheapest ⟨Nat.le_of_ble_eq_true rfl, Nat.le_of_ble_eq_true rfl⟩ ⟨Nat.le_of_ble_eq_true rfl, Nat.le_of_ble_eq_true rfl⟩ ([]) ([]) (by simp only [List.append_nil, List.nil_append]) 0 hat_176 rfl rfl (Nat.le_of_ble_eq_true rfl) dL_isCheapest_13 (fun r W_174 hp => ?_)
        obtain ⟨rfl, hS_175⟩ := hp
        refine zk_ws (ws2 := W_174) (by simp only [List.append_nil, List.nil_append]) ?_
        refine zk_top (y := nI z_0.1) (by rw [← hE.1, che_n _ (by omega) (by omega), hB_0]; rfl) ?_
        refine zk_istore_n hc (lv2 := [(3, .int (nI z_0.1)), (2, .int (nI 0)), (1, .int (-9)), (0, .ref b)]) dL_isCheapest_16 (by decide) rfl ?_
        refine zk_aload_n hc dL_isCheapest_17 3 rfl ?_
        refine zk_iload_n hc dL_isCheapest_18 1 rfl ?_
        refine zk_iconst hc (nI 1) dL_isCheapest_19 rfl ?_
        obtain ⟨hat_179_f, hat_179⟩ := cs_at hS_175
        refine zk_callVi hc (rest := []) (kx_cheapest g l b S0 W_174 cN (by omega) hI0 hS_175 (nI 0) (nI 1)) gg_L_89 cd_X6_cheapest ⟨Nat.le_of_ble_eq_true rfl, Nat.le_of_ble_eq_true rfl⟩ ⟨Nat.le_of_ble_eq_true rfl, Nat.le_of_ble_eq_true rfl⟩ ([]) ([]) (by simp only [List.append_nil, List.nil_append]) 0 hat_179 rfl rfl (Nat.le_of_ble_eq_true rfl) dL_isCheapest_20 (fun r W_177 hp => ?_)
        obtain ⟨rfl, hS_178⟩ := hp
        refine zk_ws (ws2 := W_177) (by simp only [List.append_nil, List.nil_append]) ?_
        refine zk_top (y := nI z_0.2.length) (by rw [← hE.1, che_n _ (by omega) (by omega), hB_0]; rfl) ?_
        refine zk_istore hc (lv2 := [(4, .int (nI z_0.2.length)), (3, .int (nI z_0.1)), (2, .int (nI 0)), (1, .int (-9)), (0, .ref b)]) dL_isCheapest_23 (by decide) rfl ?_
        refine zk_aload_n hc dL_isCheapest_25 4 rfl ?_
        refine zk_iconst hc (nI 2) dL_isCheapest_26 rfl ?_
        obtain ⟨hat_182_f, hat_182⟩ := cs_at hS_178
        refine zk_callVi hc (rest := []) (kx_told g l b S0 W_177 cN (by omega) hI0 hS_178 (nI 2)) gg_L_25 cd_X6_told ⟨Nat.le_of_ble_eq_true rfl, Nat.le_of_ble_eq_true rfl⟩ ⟨Nat.le_of_ble_eq_true rfl, Nat.le_of_ble_eq_true rfl⟩ ([]) ([]) (by simp only [List.append_nil, List.nil_append]) 0 hat_182 rfl rfl (Nat.le_of_ble_eq_true rfl) dL_isCheapest_27 (fun r W_180 hp => ?_)
        obtain ⟨rfl, hS_181⟩ := hp
        refine zk_ws (ws2 := W_180) (by simp only [List.append_nil, List.nil_append]) ?_
        refine zk_top (y := nI (S.1 6)) ((tol_n _ (by omega)).trans (congrArg (fun u : Nat → Nat => nI (u 6)) hE.1.symm)) ?_
        refine zk_istore hc (lv2 := [(5, .int (nI (S.1 6))), (4, .int (nI z_0.2.length)), (3, .int (nI z_0.1)), (2, .int (nI 0)), (1, .int (-9)), (0, .ref b)]) dL_isCheapest_30 (by decide) rfl ?_
        refine zk_iload_n hc dL_isCheapest_32 2 rfl ?_
        refine zk_if_ge hc 40 dL_isCheapest_33 (by decide) (fun h33 => ?_) (fun h33 => ?_)
        · refine zk_iconst hc (nI 0) dL_isCheapest_40 rfl ?_
          refine zk_iload hc dL_isCheapest_41 1 rfl ?_
          refine zk_if_ge hc 50 dL_isCheapest_43 (by decide) (fun h43 => ?_) (fun h43 => ?_)
          · refine zk_iconst hc (nI 0) dL_isCheapest_50 rfl ?_
            refine zk_icmp_neN hc 100 dL_isCheapest_51 (by decide) (by omega) (by omega) (fun h_183 => ?_) (fun h_183 => ?_)
            · exact absurd h_183 (by decide)
            · refine zk_iload hc dL_isCheapest_54 1 rfl ?_
              refine zk_iload_n hc dL_isCheapest_56 3 rfl ?_
              refine zk_icmp_gtN hc 100 dL_isCheapest_57 (by decide) (by omega) (by omega) (fun h57 => ?_) (fun h57 => ?_)
              · exact absurd h57 (by omega)
              · refine zk_iload_n hc dL_isCheapest_60 4 rfl ?_
                refine zk_if_lt hc 73 dL_isCheapest_61 (by decide) (fun h61 => ?_) (fun h61 => ?_)
                · refine zk_iload hc dL_isCheapest_73 1 rfl ?_
                  refine zk_if_neN hc 82 dL_isCheapest_75 (by decide) (by omega) (fun h75 => ?_) (fun h75 => ?_)
                  · refine zk_iconst hc (nI 0) dL_isCheapest_82 rfl ?_
                    refine zk_aload_n hc dL_isCheapest_83 5 rfl ?_
                    refine zk_bipush hc (nI 12) dL_isCheapest_84 rfl ?_
                    obtain ⟨hat_186_f, hat_186⟩ := cs_at hS_181
                    refine zk_callVi hc (rest := [.int (nI 0)]) (kx_told g l b S0 W_180 cN (by omega) hI0 hS_181 (nI 12)) gg_L_25 cd_X6_told ⟨Nat.le_of_ble_eq_true rfl, Nat.le_of_ble_eq_true rfl⟩ ⟨Nat.le_of_ble_eq_true rfl, Nat.le_of_ble_eq_true rfl⟩ ([]) ([]) (by simp only [List.append_nil, List.nil_append]) 0 hat_186 rfl rfl (Nat.le_of_ble_eq_true rfl) dL_isCheapest_86 (fun r W_184 hp => ?_)
                    obtain ⟨rfl, hS_185⟩ := hp
                    refine zk_ws (ws2 := W_184) (by simp only [List.append_nil, List.nil_append]) ?_
                    refine zk_top (y := (-9)) ((tol_n _ (by omega)).trans ((congrArg muf hE.1.symm).trans hmu)) ?_
                    refine zk_if_lt hc 96 dL_isCheapest_89 (by decide) (fun h89 => ?_) (fun h89 => ?_)
                    · refine zk_iconst hc (nI 0) dL_isCheapest_96 rfl ?_
                      refine zk_icmp_eqN hc 102 dL_isCheapest_97 (by decide) (by omega) (by omega) (fun h_187 => ?_) (fun h_187 => ?_)
                      · refine zk_iload_n hc dL_isCheapest_102 2 rfl ?_
                        refine zk_istore_n hc (lv2 := [(1, .int (nI z_0.1)), (5, .int (nI (S.1 6))), (4, .int (nI z_0.2.length)), (3, .int (nI z_0.1)), (2, .int (nI 0)), (0, .ref b)]) dL_isCheapest_103 (by decide) rfl ?_
                        refine zk_aload_n hc dL_isCheapest_104 5 rfl ?_
                        refine zk_iload_n hc dL_isCheapest_105 4 rfl ?_
                        obtain ⟨hat_190_f, hat_190⟩ := cs_at hS_185
                        refine zk_callVi hc (rest := []) (kx_makeUp g l b S0 W_184 cN (by omega) hI0 hS_185 (nI 0)) gg_L_55 cd_X6_makeUp ⟨Nat.le_of_ble_eq_true rfl, Nat.le_of_ble_eq_true rfl⟩ ⟨Nat.le_of_ble_eq_true rfl, Nat.le_of_ble_eq_true rfl⟩ ([]) ([]) (by simp only [List.append_nil, List.nil_append]) 0 hat_190 rfl rfl (Nat.le_of_ble_eq_true rfl) dL_isCheapest_106 (fun r W_188 hp => ?_)
                        obtain ⟨rfl, hS_189⟩ := hp
                        refine zk_ws (ws2 := W_188) (by simp only [List.append_nil, List.nil_append]) ?_
                        refine zk_top (y := nI z_0.1) (by rw [← hE.1, mak_n _ (by omega), hB_0]; rfl) ?_
                        rw [nmak_n _ (by omega), ← hE.1, hB_0] at hS_189
                        replace hS_189 : CSt g b (chg S0 (rowU S0.1 z_0.2)) W_188 := hS_189
                        have hIm_0 : INV (cN + 1) (chg S0 (rowU S0.1 z_0.2)) := by have := INV_mak hI0 (nI 0); rw [nmak_n _ (by omega), ← hE.1, hB_0] at this; exact this
                        have hG_0 : GU S0.1 := by rw [← hE.1]; exact hG
                        have ho2_0 : okRow S0.1 z_0.2 := by rw [← hE.1]; exact hok_0
                        have hm2_0 : ¬ muf (rowU S0.1 z_0.2) = -9 := by rw [← hE.1]; exact hmk_0
                        obtain ⟨tn_0, htn_0, htq_0⟩ := muf_n hm2_0
                        have hq6_0 : (rowU S0.1 z_0.2) 6 = S.1 6 + z_0.1 := by rw [row_6, ← hE.1, htot_0]
                        obtain ⟨hua_0, hub_0, huc_0, hud_0, -⟩ := und_back hI0 (u2 := (rowU S0.1 z_0.2)) (fun j hj => row_big hG_0 ho2_0 hj)
                        refine zk_istore hc (lv2 := [(6, .int (nI z_0.1)), (1, .int (nI z_0.1)), (5, .int (nI (S.1 6))), (4, .int (nI z_0.2.length)), (3, .int (nI z_0.1)), (2, .int (nI 0)), (0, .ref b)]) dL_isCheapest_109 (by decide) rfl ?_
                        refine zk_iload hc dL_isCheapest_111 0 rfl ?_
                        refine zk_iload_n hc dL_isCheapest_113 4 rfl ?_
                        refine zk_if_ge hc 122 dL_isCheapest_114 (by decide) (fun h114 => ?_) (fun h114 => ?_)
                        · refine zk_iload_n hc dL_isCheapest_122 4 rfl ?_
                          refine zk_icmp_eqN hc 128 dL_isCheapest_123 (by decide) (by omega) (by omega) (fun h123 => ?_) (fun h123 => ?_)
                          · refine zk_iload hc dL_isCheapest_128 0 rfl ?_
                            refine zk_if_lt hc 186 dL_isCheapest_130 (by decide) (fun h130 => ?_) (fun h130 => ?_)
                            · exact absurd h130 (nI_pos (by omega))
                            · refine zk_aload_n hc dL_isCheapest_133 6 rfl ?_
                              refine zk_bipush hc (nI 12) dL_isCheapest_134 rfl ?_
                              obtain ⟨hat_193_f, hat_193⟩ := cs_at hS_189
                              refine zk_callVi hc (rest := []) (kx_told g l b (chg S0 (rowU S0.1 z_0.2)) W_188 (cN + 1) (by omega) hIm_0 hS_189 (nI 12)) gg_L_25 cd_X6_told ⟨Nat.le_of_ble_eq_true rfl, Nat.le_of_ble_eq_true rfl⟩ ⟨Nat.le_of_ble_eq_true rfl, Nat.le_of_ble_eq_true rfl⟩ ([]) ([]) (by simp only [List.append_nil, List.nil_append]) 0 hat_193 rfl rfl (Nat.le_of_ble_eq_true rfl) dL_isCheapest_136 (fun r W_191 hp => ?_)
                              obtain ⟨rfl, hS_192⟩ := hp
                              refine zk_ws (ws2 := W_191) (by simp only [List.append_nil, List.nil_append]) ?_
                              refine zk_top (y := nI tn_0) ((tol_n _ (by omega)).trans htq_0) ?_
                              refine zk_if_lt hc 166 dL_isCheapest_139 (by decide) (fun h139 => ?_) (fun h139 => ?_)
                              · exact absurd h139 (nI_pos (by omega))
                              · refine zk_aload_n hc dL_isCheapest_142 6 rfl ?_
                                refine zk_iconst hc (nI 2) dL_isCheapest_143 rfl ?_
                                obtain ⟨hat_196_f, hat_196⟩ := cs_at hS_192
                                refine zk_callVi hc (rest := []) (kx_told g l b (chg S0 (rowU S0.1 z_0.2)) W_191 (cN + 1) (by omega) hIm_0 hS_192 (nI 2)) gg_L_25 cd_X6_told ⟨Nat.le_of_ble_eq_true rfl, Nat.le_of_ble_eq_true rfl⟩ ⟨Nat.le_of_ble_eq_true rfl, Nat.le_of_ble_eq_true rfl⟩ ([]) ([]) (by simp only [List.append_nil, List.nil_append]) 0 hat_196 rfl rfl (Nat.le_of_ble_eq_true rfl) dL_isCheapest_144 (fun r W_194 hp => ?_)
                                obtain ⟨rfl, hS_195⟩ := hp
                                refine zk_ws (ws2 := W_194) (by simp only [List.append_nil, List.nil_append]) ?_
                                refine zk_top (y := nI (S.1 6 + z_0.1)) ((tol_n _ (by omega)).trans (congrArg nI hq6_0)) ?_
                                refine zk_iload hc dL_isCheapest_147 2 rfl ?_
                                refine zk_iload hc dL_isCheapest_149 0 rfl ?_
                                refine zk_iaddN hc dL_isCheapest_151 ?_
                                refine zk_icmp_neN hc 166 dL_isCheapest_152 (by decide) (by omega) (by omega) (fun h_197 => ?_) (fun h_197 => ?_)
                                · exact absurd h_197 (by omega)
                                · refine zk_aload_n hc dL_isCheapest_155 6 rfl ?_
                                  obtain ⟨hat_200_f, hat_200⟩ := cs_at hS_195
                                  refine zk_callVi hc (rest := []) (kx_undo g l b (chg S0 (rowU S0.1 z_0.2)) W_194 (cN + 1) (by omega) hIm_0 hS_195) gg_L_58 cd_X6_undo ⟨Nat.le_of_ble_eq_true rfl, Nat.le_of_ble_eq_true rfl⟩ ⟨Nat.le_of_ble_eq_true rfl, Nat.le_of_ble_eq_true rfl⟩ ([]) ([]) (by simp only [List.append_nil, List.nil_append]) 0 hat_200 rfl rfl (Nat.le_of_ble_eq_true rfl) dL_isCheapest_156 (fun r W_198 hp => ?_)
                                  obtain ⟨rfl, hS_199⟩ := hp
                                  refine zk_ws (ws2 := W_198) (by simp only [List.append_nil, List.nil_append]) ?_
                                  refine zk_top (y := nI (remN S0.2.2.1 - 1)) huc_0 ?_
                                  obtain ⟨S_0, hE_0, hI_0, hSn_0⟩ : ∃ S2, EqS S S2 ∧ INV cN S2 ∧ CSt g b S2 W_198 := ⟨_, hE.tr hua_0, hub_0, hS_199⟩
                                  refine zk_if_lt hc 166 dL_isCheapest_159 (by decide) (fun h159 => ?_) (fun h159 => ?_)
                                  · exact absurd h159 (nI_pos (by omega))
                                  · refine zk_iconst hc (nI 1) dL_isCheapest_162 rfl ?_
                                    refine zk_goto hc 167 dL_isCheapest_163 (by decide) ?_
                                    refine zk_istore hc (lv2 := [(7, .int (nI 1)), (6, .int (nI z_0.1)), (1, .int (nI z_0.1)), (5, .int (nI (S.1 6))), (4, .int (nI z_0.2.length)), (3, .int (nI z_0.1)), (2, .int (nI 0)), (0, .ref b)]) dL_isCheapest_167 (by decide) rfl ?_
                                    refine zk_iload hc dL_isCheapest_169 0 rfl ?_
                                    refine zk_if_eqN hc 184 dL_isCheapest_171 (by decide) (by omega) (fun h_201 => ?_) (fun h_201 => ?_)
                                    · exact absurd h_201 (by decide)
                                    · refine zk_aload_n hc dL_isCheapest_174 7 rfl ?_
                                      refine zk_iconst hc (nI 2) dL_isCheapest_175 rfl ?_
                                      obtain ⟨hat_204_f, hat_204⟩ := cs_at hSn_0
                                      refine zk_callVi hc (rest := []) (kx_told g l b S_0 W_198 cN (by omega) hI_0 hSn_0 (nI 2)) gg_L_25 cd_X6_told ⟨Nat.le_of_ble_eq_true rfl, Nat.le_of_ble_eq_true rfl⟩ ⟨Nat.le_of_ble_eq_true rfl, Nat.le_of_ble_eq_true rfl⟩ ([]) ([]) (by simp only [List.append_nil, List.nil_append]) 0 hat_204 rfl rfl (Nat.le_of_ble_eq_true rfl) dL_isCheapest_176 (fun r W_202 hp => ?_)
                                      obtain ⟨rfl, hS_203⟩ := hp
                                      refine zk_ws (ws2 := W_202) (by simp only [List.append_nil, List.nil_append]) ?_
                                      refine zk_top (y := nI (S.1 6)) ((tol_n _ (by omega)).trans (congrArg (fun u : Nat → Nat => nI (u 6)) hE_0.1.symm)) ?_
                                      refine zk_iload hc dL_isCheapest_179 3 rfl ?_
                                      refine zk_icmp_eqN hc 186 dL_isCheapest_181 (by decide) (by omega) (by omega) (fun h_205 => ?_) (fun h_205 => ?_)
                                      · refine zk_iinc hc (v := nI 1) (lv2 := [(2, .int (nI 1)), (7, .int (nI 1)), (6, .int (nI z_0.1)), (1, .int (nI z_0.1)), (5, .int (nI (S.1 6))), (4, .int (nI z_0.2.length)), (3, .int (nI z_0.1)), (0, .ref b)]) dL_isCheapest_186 6 rfl (by decide) (by decide) rfl ?_
                                        refine zk_goto hc 5 dL_isCheapest_189 (by decide) ?_
                                        refine zk_iload_n hc dL_isCheapest_5 0 rfl ?_
                                        refine zk_iconst hc (nI 3) dL_isCheapest_6 rfl ?_
                                        refine zk_icmp_geN hc 192 dL_isCheapest_7 (by decide) (by omega) (by omega) (fun h_206 => ?_) (fun h_206 => ?_)
                                        · exact absurd h_206 (by decide)
                                        · obtain ⟨z_1, hB_1, hle_1⟩ := vis_more 0 S.1 [] 0 none none (bLe.rf _) z_0 hB_0
                                          · obtain ⟨hok_1, htot_1, hlen_1⟩ := vis_ok hB_1
                                            have htl_1 := tot_le hG hok_1
                                            have hmk_1 := vis_makes hB_1
                                            have hzl_1 : z_1.2.length ≠ 0 := fun y => ((vis_len hB_1).mp y) hmu
                                            refine zk_aload_n hc dL_isCheapest_10 7 rfl ?_
                                            refine zk_iload_n hc dL_isCheapest_11 0 rfl ?_
                                            refine zk_iconst hc (nI 0) dL_isCheapest_12 rfl ?_
                                            obtain ⟨hat_209_f, hat_209⟩ := cs_at hS_203
                                            refine zk_callVi hc (rest := []) (kx_cheapest g l b S_0 W_202 cN (by omega) hI_0 hS_203 (nI 1) (nI 0)) gg_L_89 cd_X6_cheapest ⟨Nat.le_of_ble_eq_true rfl, Nat.le_of_ble_eq_true rfl⟩ ⟨Nat.le_of_ble_eq_true rfl, Nat.le_of_ble_eq_true rfl⟩ ([]) ([]) (by simp only [List.append_nil, List.nil_append]) 0 hat_209 rfl rfl (Nat.le_of_ble_eq_true rfl) dL_isCheapest_13 (fun r W_207 hp => ?_)
                                            obtain ⟨rfl, hS_208⟩ := hp
                                            refine zk_ws (ws2 := W_207) (by simp only [List.append_nil, List.nil_append]) ?_
                                            refine zk_top (y := nI z_1.1) (by rw [← hE_0.1, che_n _ (by omega) (by omega), hB_1]; rfl) ?_
                                            refine zk_istore_n hc (lv2 := [(3, .int (nI z_1.1)), (2, .int (nI 1)), (7, .int (nI 1)), (6, .int (nI z_0.1)), (1, .int (nI z_0.1)), (5, .int (nI (S.1 6))), (4, .int (nI z_0.2.length)), (0, .ref b)]) dL_isCheapest_16 (by decide) rfl ?_
                                            refine zk_aload_n hc dL_isCheapest_17 7 rfl ?_
                                            refine zk_iload_n hc dL_isCheapest_18 1 rfl ?_
                                            refine zk_iconst hc (nI 1) dL_isCheapest_19 rfl ?_
                                            obtain ⟨hat_212_f, hat_212⟩ := cs_at hS_208
                                            refine zk_callVi hc (rest := []) (kx_cheapest g l b S_0 W_207 cN (by omega) hI_0 hS_208 (nI 1) (nI 1)) gg_L_89 cd_X6_cheapest ⟨Nat.le_of_ble_eq_true rfl, Nat.le_of_ble_eq_true rfl⟩ ⟨Nat.le_of_ble_eq_true rfl, Nat.le_of_ble_eq_true rfl⟩ ([]) ([]) (by simp only [List.append_nil, List.nil_append]) 0 hat_212 rfl rfl (Nat.le_of_ble_eq_true rfl) dL_isCheapest_20 (fun r W_210 hp => ?_)
                                            obtain ⟨rfl, hS_211⟩ := hp
                                            refine zk_ws (ws2 := W_210) (by simp only [List.append_nil, List.nil_append]) ?_
                                            refine zk_top (y := nI z_1.2.length) (by rw [← hE_0.1, che_n _ (by omega) (by omega), hB_1]; rfl) ?_
                                            refine zk_istore hc (lv2 := [(4, .int (nI z_1.2.length)), (3, .int (nI z_1.1)), (2, .int (nI 1)), (7, .int (nI 1)), (6, .int (nI z_0.1)), (1, .int (nI z_0.1)), (5, .int (nI (S.1 6))), (0, .ref b)]) dL_isCheapest_23 (by decide) rfl ?_
                                            refine zk_aload_n hc dL_isCheapest_25 7 rfl ?_
                                            refine zk_iconst hc (nI 2) dL_isCheapest_26 rfl ?_
                                            obtain ⟨hat_215_f, hat_215⟩ := cs_at hS_211
                                            refine zk_callVi hc (rest := []) (kx_told g l b S_0 W_210 cN (by omega) hI_0 hS_211 (nI 2)) gg_L_25 cd_X6_told ⟨Nat.le_of_ble_eq_true rfl, Nat.le_of_ble_eq_true rfl⟩ ⟨Nat.le_of_ble_eq_true rfl, Nat.le_of_ble_eq_true rfl⟩ ([]) ([]) (by simp only [List.append_nil, List.nil_append]) 0 hat_215 rfl rfl (Nat.le_of_ble_eq_true rfl) dL_isCheapest_27 (fun r W_213 hp => ?_)
                                            obtain ⟨rfl, hS_214⟩ := hp
                                            refine zk_ws (ws2 := W_213) (by simp only [List.append_nil, List.nil_append]) ?_
                                            refine zk_top (y := nI (S.1 6)) ((tol_n _ (by omega)).trans (congrArg (fun u : Nat → Nat => nI (u 6)) hE_0.1.symm)) ?_
                                            refine zk_istore hc (lv2 := [(5, .int (nI (S.1 6))), (4, .int (nI z_1.2.length)), (3, .int (nI z_1.1)), (2, .int (nI 1)), (7, .int (nI 1)), (6, .int (nI z_0.1)), (1, .int (nI z_0.1)), (0, .ref b)]) dL_isCheapest_30 (by decide) rfl ?_
                                            refine zk_iload_n hc dL_isCheapest_32 2 rfl ?_
                                            refine zk_if_ge hc 40 dL_isCheapest_33 (by decide) (fun h33 => ?_) (fun h33 => ?_)
                                            · refine zk_iconst hc (nI 0) dL_isCheapest_40 rfl ?_
                                              refine zk_iload hc dL_isCheapest_41 1 rfl ?_
                                              refine zk_if_ge hc 50 dL_isCheapest_43 (by decide) (fun h43 => ?_) (fun h43 => ?_)
                                              · refine zk_iconst hc (nI 0) dL_isCheapest_50 rfl ?_
                                                refine zk_icmp_neN hc 100 dL_isCheapest_51 (by decide) (by omega) (by omega) (fun h_216 => ?_) (fun h_216 => ?_)
                                                · exact absurd h_216 (by decide)
                                                · refine zk_iload hc dL_isCheapest_54 1 rfl ?_
                                                  refine zk_iload_n hc dL_isCheapest_56 3 rfl ?_
                                                  refine zk_icmp_gtN hc 100 dL_isCheapest_57 (by decide) (by omega) (by omega) (fun h57 => ?_) (fun h57 => ?_)
                                                  · exact absurd h57 (by omega)
                                                  · refine zk_iload_n hc dL_isCheapest_60 6 rfl ?_
                                                    refine zk_if_lt hc 73 dL_isCheapest_61 (by decide) (fun h61 => ?_) (fun h61 => ?_)
                                                    · exact absurd h61 (nI_pos (by omega))
                                                    · refine zk_iload_n hc dL_isCheapest_64 2 rfl ?_
                                                      refine zk_if_lt hc 100 dL_isCheapest_65 (by decide) (fun h65 => ?_) (fun h65 => ?_)
                                                      · exact absurd h65 (nI_pos (by omega))
                                                      · refine zk_iload_n hc dL_isCheapest_68 2 rfl ?_
                                                        refine zk_iload_n hc dL_isCheapest_69 6 rfl ?_
                                                        refine zk_icmp_gtN hc 100 dL_isCheapest_70 (by decide) (by omega) (by omega) (fun h_217 => ?_) (fun h_217 => ?_)
                                                        · exact absurd h_217 (by omega)
                                                        · refine zk_iload hc dL_isCheapest_73 1 rfl ?_
                                                          refine zk_if_neN hc 82 dL_isCheapest_75 (by decide) (by omega) (fun h75 => ?_) (fun h75 => ?_)
                                                          · refine zk_iconst hc (nI 0) dL_isCheapest_82 rfl ?_
                                                            refine zk_aload_n hc dL_isCheapest_83 7 rfl ?_
                                                            refine zk_bipush hc (nI 12) dL_isCheapest_84 rfl ?_
                                                            obtain ⟨hat_220_f, hat_220⟩ := cs_at hS_214
                                                            refine zk_callVi hc (rest := [.int (nI 0)]) (kx_told g l b S_0 W_213 cN (by omega) hI_0 hS_214 (nI 12)) gg_L_25 cd_X6_told ⟨Nat.le_of_ble_eq_true rfl, Nat.le_of_ble_eq_true rfl⟩ ⟨Nat.le_of_ble_eq_true rfl, Nat.le_of_ble_eq_true rfl⟩ ([]) ([]) (by simp only [List.append_nil, List.nil_append]) 0 hat_220 rfl rfl (Nat.le_of_ble_eq_true rfl) dL_isCheapest_86 (fun r W_218 hp => ?_)
                                                            obtain ⟨rfl, hS_219⟩ := hp
                                                            refine zk_ws (ws2 := W_218) (by simp only [List.append_nil, List.nil_append]) ?_
                                                            refine zk_top (y := (-9)) ((tol_n _ (by omega)).trans ((congrArg muf hE_0.1.symm).trans hmu)) ?_
                                                            refine zk_if_lt hc 96 dL_isCheapest_89 (by decide) (fun h89 => ?_) (fun h89 => ?_)
                                                            · refine zk_iconst hc (nI 0) dL_isCheapest_96 rfl ?_
                                                              refine zk_icmp_eqN hc 102 dL_isCheapest_97 (by decide) (by omega) (by omega) (fun h_221 => ?_) (fun h_221 => ?_)
                                                              · refine zk_iload_n hc dL_isCheapest_102 2 rfl ?_
                                                                refine zk_istore_n hc (lv2 := [(1, .int (nI z_1.1)), (5, .int (nI (S.1 6))), (4, .int (nI z_1.2.length)), (3, .int (nI z_1.1)), (2, .int (nI 1)), (7, .int (nI 1)), (6, .int (nI z_0.1)), (0, .ref b)]) dL_isCheapest_103 (by decide) rfl ?_
                                                                refine zk_aload_n hc dL_isCheapest_104 7 rfl ?_
                                                                refine zk_iload_n hc dL_isCheapest_105 4 rfl ?_
                                                                obtain ⟨hat_224_f, hat_224⟩ := cs_at hS_219
                                                                refine zk_callVi hc (rest := []) (kx_makeUp g l b S_0 W_218 cN (by omega) hI_0 hS_219 (nI 1)) gg_L_55 cd_X6_makeUp ⟨Nat.le_of_ble_eq_true rfl, Nat.le_of_ble_eq_true rfl⟩ ⟨Nat.le_of_ble_eq_true rfl, Nat.le_of_ble_eq_true rfl⟩ ([]) ([]) (by simp only [List.append_nil, List.nil_append]) 0 hat_224 rfl rfl (Nat.le_of_ble_eq_true rfl) dL_isCheapest_106 (fun r W_222 hp => ?_)
                                                                obtain ⟨rfl, hS_223⟩ := hp
                                                                refine zk_ws (ws2 := W_222) (by simp only [List.append_nil, List.nil_append]) ?_
                                                                refine zk_top (y := nI z_1.1) (by rw [← hE_0.1, mak_n _ (by omega), hB_1]; rfl) ?_
                                                                rw [nmak_n _ (by omega), ← hE_0.1, hB_1] at hS_223
                                                                replace hS_223 : CSt g b (chg S_0 (rowU S_0.1 z_1.2)) W_222 := hS_223
                                                                have hIm_1 : INV (cN + 1) (chg S_0 (rowU S_0.1 z_1.2)) := by have := INV_mak hI_0 (nI 1); rw [nmak_n _ (by omega), ← hE_0.1, hB_1] at this; exact this
                                                                have hG_1 : GU S_0.1 := by rw [← hE_0.1]; exact hG
                                                                have ho2_1 : okRow S_0.1 z_1.2 := by rw [← hE_0.1]; exact hok_1
                                                                have hm2_1 : ¬ muf (rowU S_0.1 z_1.2) = -9 := by rw [← hE_0.1]; exact hmk_1
                                                                obtain ⟨tn_1, htn_1, htq_1⟩ := muf_n hm2_1
                                                                have hq6_1 : (rowU S_0.1 z_1.2) 6 = S.1 6 + z_1.1 := by rw [row_6, ← hE_0.1, htot_1]
                                                                obtain ⟨hua_1, hub_1, huc_1, hud_1, -⟩ := und_back hI_0 (u2 := (rowU S_0.1 z_1.2)) (fun j hj => row_big hG_1 ho2_1 hj)
                                                                refine zk_istore hc (lv2 := [(6, .int (nI z_1.1)), (1, .int (nI z_1.1)), (5, .int (nI (S.1 6))), (4, .int (nI z_1.2.length)), (3, .int (nI z_1.1)), (2, .int (nI 1)), (7, .int (nI 1)), (0, .ref b)]) dL_isCheapest_109 (by decide) rfl ?_
                                                                refine zk_iload hc dL_isCheapest_111 0 rfl ?_
                                                                refine zk_iload_n hc dL_isCheapest_113 4 rfl ?_
                                                                refine zk_if_ge hc 122 dL_isCheapest_114 (by decide) (fun h114 => ?_) (fun h114 => ?_)
                                                                · refine zk_iload_n hc dL_isCheapest_122 4 rfl ?_
                                                                  refine zk_icmp_eqN hc 128 dL_isCheapest_123 (by decide) (by omega) (by omega) (fun h123 => ?_) (fun h123 => ?_)
                                                                  · refine zk_iload hc dL_isCheapest_128 0 rfl ?_
                                                                    refine zk_if_lt hc 186 dL_isCheapest_130 (by decide) (fun h130 => ?_) (fun h130 => ?_)
                                                                    · exact absurd h130 (nI_pos (by omega))
                                                                    · refine zk_aload_n hc dL_isCheapest_133 7 rfl ?_
                                                                      refine zk_bipush hc (nI 12) dL_isCheapest_134 rfl ?_
                                                                      obtain ⟨hat_227_f, hat_227⟩ := cs_at hS_223
                                                                      refine zk_callVi hc (rest := []) (kx_told g l b (chg S_0 (rowU S_0.1 z_1.2)) W_222 (cN + 1) (by omega) hIm_1 hS_223 (nI 12)) gg_L_25 cd_X6_told ⟨Nat.le_of_ble_eq_true rfl, Nat.le_of_ble_eq_true rfl⟩ ⟨Nat.le_of_ble_eq_true rfl, Nat.le_of_ble_eq_true rfl⟩ ([]) ([]) (by simp only [List.append_nil, List.nil_append]) 0 hat_227 rfl rfl (Nat.le_of_ble_eq_true rfl) dL_isCheapest_136 (fun r W_225 hp => ?_)
                                                                      obtain ⟨rfl, hS_226⟩ := hp
                                                                      refine zk_ws (ws2 := W_225) (by simp only [List.append_nil, List.nil_append]) ?_
                                                                      refine zk_top (y := nI tn_1) ((tol_n _ (by omega)).trans htq_1) ?_
                                                                      refine zk_if_lt hc 166 dL_isCheapest_139 (by decide) (fun h139 => ?_) (fun h139 => ?_)
                                                                      · exact absurd h139 (nI_pos (by omega))
                                                                      · refine zk_aload_n hc dL_isCheapest_142 7 rfl ?_
                                                                        refine zk_iconst hc (nI 2) dL_isCheapest_143 rfl ?_
                                                                        obtain ⟨hat_230_f, hat_230⟩ := cs_at hS_226
                                                                        refine zk_callVi hc (rest := []) (kx_told g l b (chg S_0 (rowU S_0.1 z_1.2)) W_225 (cN + 1) (by omega) hIm_1 hS_226 (nI 2)) gg_L_25 cd_X6_told ⟨Nat.le_of_ble_eq_true rfl, Nat.le_of_ble_eq_true rfl⟩ ⟨Nat.le_of_ble_eq_true rfl, Nat.le_of_ble_eq_true rfl⟩ ([]) ([]) (by simp only [List.append_nil, List.nil_append]) 0 hat_230 rfl rfl (Nat.le_of_ble_eq_true rfl) dL_isCheapest_144 (fun r W_228 hp => ?_)
                                                                        obtain ⟨rfl, hS_229⟩ := hp
                                                                        refine zk_ws (ws2 := W_228) (by simp only [List.append_nil, List.nil_append]) ?_
                                                                        refine zk_top (y := nI (S.1 6 + z_1.1)) ((tol_n _ (by omega)).trans (congrArg nI hq6_1)) ?_
                                                                        refine zk_iload hc dL_isCheapest_147 2 rfl ?_
                                                                        refine zk_iload hc dL_isCheapest_149 0 rfl ?_
                                                                        refine zk_iaddN hc dL_isCheapest_151 ?_
                                                                        refine zk_icmp_neN hc 166 dL_isCheapest_152 (by decide) (by omega) (by omega) (fun h_231 => ?_) (fun h_231 => ?_)
                                                                        · exact absurd h_231 (by omega)
                                                                        · refine zk_aload_n hc dL_isCheapest_155 7 rfl ?_
                                                                          obtain ⟨hat_234_f, hat_234⟩ := cs_at hS_229
                                                                          refine zk_callVi hc (rest := []) (kx_undo g l b (chg S_0 (rowU S_0.1 z_1.2)) W_228 (cN + 1) (by omega) hIm_1 hS_229) gg_L_58 cd_X6_undo ⟨Nat.le_of_ble_eq_true rfl, Nat.le_of_ble_eq_true rfl⟩ ⟨Nat.le_of_ble_eq_true rfl, Nat.le_of_ble_eq_true rfl⟩ ([]) ([]) (by simp only [List.append_nil, List.nil_append]) 0 hat_234 rfl rfl (Nat.le_of_ble_eq_true rfl) dL_isCheapest_156 (fun r W_232 hp => ?_)
                                                                          obtain ⟨rfl, hS_233⟩ := hp
                                                                          refine zk_ws (ws2 := W_232) (by simp only [List.append_nil, List.nil_append]) ?_
                                                                          refine zk_top (y := nI (remN S_0.2.2.1 - 1)) huc_1 ?_
                                                                          obtain ⟨S_1, hE_1, hI_1, hSn_1⟩ : ∃ S2, EqS S S2 ∧ INV cN S2 ∧ CSt g b S2 W_232 := ⟨_, hE_0.tr hua_1, hub_1, hS_233⟩
                                                                          refine zk_if_lt hc 166 dL_isCheapest_159 (by decide) (fun h159 => ?_) (fun h159 => ?_)
                                                                          · exact absurd h159 (nI_pos (by omega))
                                                                          · refine zk_iconst hc (nI 1) dL_isCheapest_162 rfl ?_
                                                                            refine zk_goto hc 167 dL_isCheapest_163 (by decide) ?_
                                                                            refine zk_istore hc (lv2 := [(7, .int (nI 1)), (6, .int (nI z_1.1)), (1, .int (nI z_1.1)), (5, .int (nI (S.1 6))), (4, .int (nI z_1.2.length)), (3, .int (nI z_1.1)), (2, .int (nI 1)), (0, .ref b)]) dL_isCheapest_167 (by decide) rfl ?_
                                                                            refine zk_iload hc dL_isCheapest_169 0 rfl ?_
                                                                            refine zk_if_eqN hc 184 dL_isCheapest_171 (by decide) (by omega) (fun h_235 => ?_) (fun h_235 => ?_)
                                                                            · exact absurd h_235 (by decide)
                                                                            · refine zk_aload_n hc dL_isCheapest_174 7 rfl ?_
                                                                              refine zk_iconst hc (nI 2) dL_isCheapest_175 rfl ?_
                                                                              obtain ⟨hat_238_f, hat_238⟩ := cs_at hSn_1
                                                                              refine zk_callVi hc (rest := []) (kx_told g l b S_1 W_232 cN (by omega) hI_1 hSn_1 (nI 2)) gg_L_25 cd_X6_told ⟨Nat.le_of_ble_eq_true rfl, Nat.le_of_ble_eq_true rfl⟩ ⟨Nat.le_of_ble_eq_true rfl, Nat.le_of_ble_eq_true rfl⟩ ([]) ([]) (by simp only [List.append_nil, List.nil_append]) 0 hat_238 rfl rfl (Nat.le_of_ble_eq_true rfl) dL_isCheapest_176 (fun r W_236 hp => ?_)
                                                                              obtain ⟨rfl, hS_237⟩ := hp
                                                                              refine zk_ws (ws2 := W_236) (by simp only [List.append_nil, List.nil_append]) ?_
                                                                              refine zk_top (y := nI (S.1 6)) ((tol_n _ (by omega)).trans (congrArg (fun u : Nat → Nat => nI (u 6)) hE_1.1.symm)) ?_
                                                                              refine zk_iload hc dL_isCheapest_179 3 rfl ?_
                                                                              refine zk_icmp_eqN hc 186 dL_isCheapest_181 (by decide) (by omega) (by omega) (fun h_239 => ?_) (fun h_239 => ?_)
                                                                              · refine zk_iinc hc (v := nI 2) (lv2 := [(2, .int (nI 2)), (7, .int (nI 1)), (6, .int (nI z_1.1)), (1, .int (nI z_1.1)), (5, .int (nI (S.1 6))), (4, .int (nI z_1.2.length)), (3, .int (nI z_1.1)), (0, .ref b)]) dL_isCheapest_186 6 rfl (by decide) (by decide) rfl ?_
                                                                                refine zk_goto hc 5 dL_isCheapest_189 (by decide) ?_
                                                                                refine zk_iload_n hc dL_isCheapest_5 0 rfl ?_
                                                                                refine zk_iconst hc (nI 3) dL_isCheapest_6 rfl ?_
                                                                                refine zk_icmp_geN hc 192 dL_isCheapest_7 (by decide) (by omega) (by omega) (fun h_240 => ?_) (fun h_240 => ?_)
                                                                                · exact absurd h_240 (by decide)
                                                                                · obtain ⟨z_2, hB_2, hle_2⟩ := vis_more 1 S.1 [] 0 none none (bLe.rf _) z_1 hB_1
                                                                                  · obtain ⟨hok_2, htot_2, hlen_2⟩ := vis_ok hB_2
                                                                                    have htl_2 := tot_le hG hok_2
                                                                                    have hmk_2 := vis_makes hB_2
                                                                                    have hzl_2 : z_2.2.length ≠ 0 := fun y => ((vis_len hB_2).mp y) hmu
                                                                                    refine zk_aload_n hc dL_isCheapest_10 7 rfl ?_
                                                                                    refine zk_iload_n hc dL_isCheapest_11 0 rfl ?_
                                                                                    refine zk_iconst hc (nI 0) dL_isCheapest_12 rfl ?_
                                                                                    obtain ⟨hat_243_f, hat_243⟩ := cs_at hS_237
                                                                                    refine zk_callVi hc (rest := []) (kx_cheapest g l b S_1 W_236 cN (by omega) hI_1 hS_237 (nI 2) (nI 0)) gg_L_89 cd_X6_cheapest ⟨Nat.le_of_ble_eq_true rfl, Nat.le_of_ble_eq_true rfl⟩ ⟨Nat.le_of_ble_eq_true rfl, Nat.le_of_ble_eq_true rfl⟩ ([]) ([]) (by simp only [List.append_nil, List.nil_append]) 0 hat_243 rfl rfl (Nat.le_of_ble_eq_true rfl) dL_isCheapest_13 (fun r W_241 hp => ?_)
                                                                                    obtain ⟨rfl, hS_242⟩ := hp
                                                                                    refine zk_ws (ws2 := W_241) (by simp only [List.append_nil, List.nil_append]) ?_
                                                                                    refine zk_top (y := nI z_2.1) (by rw [← hE_1.1, che_n _ (by omega) (by omega), hB_2]; rfl) ?_
                                                                                    refine zk_istore_n hc (lv2 := [(3, .int (nI z_2.1)), (2, .int (nI 2)), (7, .int (nI 1)), (6, .int (nI z_1.1)), (1, .int (nI z_1.1)), (5, .int (nI (S.1 6))), (4, .int (nI z_1.2.length)), (0, .ref b)]) dL_isCheapest_16 (by decide) rfl ?_
                                                                                    refine zk_aload_n hc dL_isCheapest_17 7 rfl ?_
                                                                                    refine zk_iload_n hc dL_isCheapest_18 1 rfl ?_
                                                                                    refine zk_iconst hc (nI 1) dL_isCheapest_19 rfl ?_
                                                                                    obtain ⟨hat_246_f, hat_246⟩ := cs_at hS_242
                                                                                    refine zk_callVi hc (rest := []) (kx_cheapest g l b S_1 W_241 cN (by omega) hI_1 hS_242 (nI 2) (nI 1)) gg_L_89 cd_X6_cheapest ⟨Nat.le_of_ble_eq_true rfl, Nat.le_of_ble_eq_true rfl⟩ ⟨Nat.le_of_ble_eq_true rfl, Nat.le_of_ble_eq_true rfl⟩ ([]) ([]) (by simp only [List.append_nil, List.nil_append]) 0 hat_246 rfl rfl (Nat.le_of_ble_eq_true rfl) dL_isCheapest_20 (fun r W_244 hp => ?_)
                                                                                    obtain ⟨rfl, hS_245⟩ := hp
                                                                                    refine zk_ws (ws2 := W_244) (by simp only [List.append_nil, List.nil_append]) ?_
                                                                                    refine zk_top (y := nI z_2.2.length) (by rw [← hE_1.1, che_n _ (by omega) (by omega), hB_2]; rfl) ?_
                                                                                    refine zk_istore hc (lv2 := [(4, .int (nI z_2.2.length)), (3, .int (nI z_2.1)), (2, .int (nI 2)), (7, .int (nI 1)), (6, .int (nI z_1.1)), (1, .int (nI z_1.1)), (5, .int (nI (S.1 6))), (0, .ref b)]) dL_isCheapest_23 (by decide) rfl ?_
                                                                                    refine zk_aload_n hc dL_isCheapest_25 7 rfl ?_
                                                                                    refine zk_iconst hc (nI 2) dL_isCheapest_26 rfl ?_
                                                                                    obtain ⟨hat_249_f, hat_249⟩ := cs_at hS_245
                                                                                    refine zk_callVi hc (rest := []) (kx_told g l b S_1 W_244 cN (by omega) hI_1 hS_245 (nI 2)) gg_L_25 cd_X6_told ⟨Nat.le_of_ble_eq_true rfl, Nat.le_of_ble_eq_true rfl⟩ ⟨Nat.le_of_ble_eq_true rfl, Nat.le_of_ble_eq_true rfl⟩ ([]) ([]) (by simp only [List.append_nil, List.nil_append]) 0 hat_249 rfl rfl (Nat.le_of_ble_eq_true rfl) dL_isCheapest_27 (fun r W_247 hp => ?_)
                                                                                    obtain ⟨rfl, hS_248⟩ := hp
                                                                                    refine zk_ws (ws2 := W_247) (by simp only [List.append_nil, List.nil_append]) ?_
                                                                                    refine zk_top (y := nI (S.1 6)) ((tol_n _ (by omega)).trans (congrArg (fun u : Nat → Nat => nI (u 6)) hE_1.1.symm)) ?_
                                                                                    refine zk_istore hc (lv2 := [(5, .int (nI (S.1 6))), (4, .int (nI z_2.2.length)), (3, .int (nI z_2.1)), (2, .int (nI 2)), (7, .int (nI 1)), (6, .int (nI z_1.1)), (1, .int (nI z_1.1)), (0, .ref b)]) dL_isCheapest_30 (by decide) rfl ?_
                                                                                    refine zk_iload_n hc dL_isCheapest_32 2 rfl ?_
                                                                                    refine zk_if_ge hc 40 dL_isCheapest_33 (by decide) (fun h33 => ?_) (fun h33 => ?_)
                                                                                    · refine zk_iconst hc (nI 0) dL_isCheapest_40 rfl ?_
                                                                                      refine zk_iload hc dL_isCheapest_41 1 rfl ?_
                                                                                      refine zk_if_ge hc 50 dL_isCheapest_43 (by decide) (fun h43 => ?_) (fun h43 => ?_)
                                                                                      · refine zk_iconst hc (nI 0) dL_isCheapest_50 rfl ?_
                                                                                        refine zk_icmp_neN hc 100 dL_isCheapest_51 (by decide) (by omega) (by omega) (fun h_250 => ?_) (fun h_250 => ?_)
                                                                                        · exact absurd h_250 (by decide)
                                                                                        · refine zk_iload hc dL_isCheapest_54 1 rfl ?_
                                                                                          refine zk_iload_n hc dL_isCheapest_56 3 rfl ?_
                                                                                          refine zk_icmp_gtN hc 100 dL_isCheapest_57 (by decide) (by omega) (by omega) (fun h57 => ?_) (fun h57 => ?_)
                                                                                          · exact absurd h57 (by omega)
                                                                                          · refine zk_iload_n hc dL_isCheapest_60 6 rfl ?_
                                                                                            refine zk_if_lt hc 73 dL_isCheapest_61 (by decide) (fun h61 => ?_) (fun h61 => ?_)
                                                                                            · exact absurd h61 (nI_pos (by omega))
                                                                                            · refine zk_iload_n hc dL_isCheapest_64 2 rfl ?_
                                                                                              refine zk_if_lt hc 100 dL_isCheapest_65 (by decide) (fun h65 => ?_) (fun h65 => ?_)
                                                                                              · exact absurd h65 (nI_pos (by omega))
                                                                                              · refine zk_iload_n hc dL_isCheapest_68 2 rfl ?_
                                                                                                refine zk_iload_n hc dL_isCheapest_69 6 rfl ?_
                                                                                                refine zk_icmp_gtN hc 100 dL_isCheapest_70 (by decide) (by omega) (by omega) (fun h_251 => ?_) (fun h_251 => ?_)
                                                                                                · exact absurd h_251 (by omega)
                                                                                                · refine zk_iload hc dL_isCheapest_73 1 rfl ?_
                                                                                                  refine zk_if_neN hc 82 dL_isCheapest_75 (by decide) (by omega) (fun h75 => ?_) (fun h75 => ?_)
                                                                                                  · refine zk_iconst hc (nI 0) dL_isCheapest_82 rfl ?_
                                                                                                    refine zk_aload_n hc dL_isCheapest_83 7 rfl ?_
                                                                                                    refine zk_bipush hc (nI 12) dL_isCheapest_84 rfl ?_
                                                                                                    obtain ⟨hat_254_f, hat_254⟩ := cs_at hS_248
                                                                                                    refine zk_callVi hc (rest := [.int (nI 0)]) (kx_told g l b S_1 W_247 cN (by omega) hI_1 hS_248 (nI 12)) gg_L_25 cd_X6_told ⟨Nat.le_of_ble_eq_true rfl, Nat.le_of_ble_eq_true rfl⟩ ⟨Nat.le_of_ble_eq_true rfl, Nat.le_of_ble_eq_true rfl⟩ ([]) ([]) (by simp only [List.append_nil, List.nil_append]) 0 hat_254 rfl rfl (Nat.le_of_ble_eq_true rfl) dL_isCheapest_86 (fun r W_252 hp => ?_)
                                                                                                    obtain ⟨rfl, hS_253⟩ := hp
                                                                                                    refine zk_ws (ws2 := W_252) (by simp only [List.append_nil, List.nil_append]) ?_
                                                                                                    refine zk_top (y := (-9)) ((tol_n _ (by omega)).trans ((congrArg muf hE_1.1.symm).trans hmu)) ?_
                                                                                                    refine zk_if_lt hc 96 dL_isCheapest_89 (by decide) (fun h89 => ?_) (fun h89 => ?_)
                                                                                                    · refine zk_iconst hc (nI 0) dL_isCheapest_96 rfl ?_
                                                                                                      refine zk_icmp_eqN hc 102 dL_isCheapest_97 (by decide) (by omega) (by omega) (fun h_255 => ?_) (fun h_255 => ?_)
                                                                                                      · refine zk_iload_n hc dL_isCheapest_102 2 rfl ?_
                                                                                                        refine zk_istore_n hc (lv2 := [(1, .int (nI z_2.1)), (5, .int (nI (S.1 6))), (4, .int (nI z_2.2.length)), (3, .int (nI z_2.1)), (2, .int (nI 2)), (7, .int (nI 1)), (6, .int (nI z_1.1)), (0, .ref b)]) dL_isCheapest_103 (by decide) rfl ?_
                                                                                                        refine zk_aload_n hc dL_isCheapest_104 7 rfl ?_
                                                                                                        refine zk_iload_n hc dL_isCheapest_105 4 rfl ?_
                                                                                                        obtain ⟨hat_258_f, hat_258⟩ := cs_at hS_253
                                                                                                        refine zk_callVi hc (rest := []) (kx_makeUp g l b S_1 W_252 cN (by omega) hI_1 hS_253 (nI 2)) gg_L_55 cd_X6_makeUp ⟨Nat.le_of_ble_eq_true rfl, Nat.le_of_ble_eq_true rfl⟩ ⟨Nat.le_of_ble_eq_true rfl, Nat.le_of_ble_eq_true rfl⟩ ([]) ([]) (by simp only [List.append_nil, List.nil_append]) 0 hat_258 rfl rfl (Nat.le_of_ble_eq_true rfl) dL_isCheapest_106 (fun r W_256 hp => ?_)
                                                                                                        obtain ⟨rfl, hS_257⟩ := hp
                                                                                                        refine zk_ws (ws2 := W_256) (by simp only [List.append_nil, List.nil_append]) ?_
                                                                                                        refine zk_top (y := nI z_2.1) (by rw [← hE_1.1, mak_n _ (by omega), hB_2]; rfl) ?_
                                                                                                        rw [nmak_n _ (by omega), ← hE_1.1, hB_2] at hS_257
                                                                                                        replace hS_257 : CSt g b (chg S_1 (rowU S_1.1 z_2.2)) W_256 := hS_257
                                                                                                        have hIm_2 : INV (cN + 1) (chg S_1 (rowU S_1.1 z_2.2)) := by have := INV_mak hI_1 (nI 2); rw [nmak_n _ (by omega), ← hE_1.1, hB_2] at this; exact this
                                                                                                        have hG_2 : GU S_1.1 := by rw [← hE_1.1]; exact hG
                                                                                                        have ho2_2 : okRow S_1.1 z_2.2 := by rw [← hE_1.1]; exact hok_2
                                                                                                        have hm2_2 : ¬ muf (rowU S_1.1 z_2.2) = -9 := by rw [← hE_1.1]; exact hmk_2
                                                                                                        obtain ⟨tn_2, htn_2, htq_2⟩ := muf_n hm2_2
                                                                                                        have hq6_2 : (rowU S_1.1 z_2.2) 6 = S.1 6 + z_2.1 := by rw [row_6, ← hE_1.1, htot_2]
                                                                                                        obtain ⟨hua_2, hub_2, huc_2, hud_2, -⟩ := und_back hI_1 (u2 := (rowU S_1.1 z_2.2)) (fun j hj => row_big hG_2 ho2_2 hj)
                                                                                                        refine zk_istore hc (lv2 := [(6, .int (nI z_2.1)), (1, .int (nI z_2.1)), (5, .int (nI (S.1 6))), (4, .int (nI z_2.2.length)), (3, .int (nI z_2.1)), (2, .int (nI 2)), (7, .int (nI 1)), (0, .ref b)]) dL_isCheapest_109 (by decide) rfl ?_
                                                                                                        refine zk_iload hc dL_isCheapest_111 0 rfl ?_
                                                                                                        refine zk_iload_n hc dL_isCheapest_113 4 rfl ?_
                                                                                                        refine zk_if_ge hc 122 dL_isCheapest_114 (by decide) (fun h114 => ?_) (fun h114 => ?_)
                                                                                                        · refine zk_iload_n hc dL_isCheapest_122 4 rfl ?_
                                                                                                          refine zk_icmp_eqN hc 128 dL_isCheapest_123 (by decide) (by omega) (by omega) (fun h123 => ?_) (fun h123 => ?_)
                                                                                                          · refine zk_iload hc dL_isCheapest_128 0 rfl ?_
                                                                                                            refine zk_if_lt hc 186 dL_isCheapest_130 (by decide) (fun h130 => ?_) (fun h130 => ?_)
                                                                                                            · exact absurd h130 (nI_pos (by omega))
                                                                                                            · refine zk_aload_n hc dL_isCheapest_133 7 rfl ?_
                                                                                                              refine zk_bipush hc (nI 12) dL_isCheapest_134 rfl ?_
                                                                                                              obtain ⟨hat_261_f, hat_261⟩ := cs_at hS_257
                                                                                                              refine zk_callVi hc (rest := []) (kx_told g l b (chg S_1 (rowU S_1.1 z_2.2)) W_256 (cN + 1) (by omega) hIm_2 hS_257 (nI 12)) gg_L_25 cd_X6_told ⟨Nat.le_of_ble_eq_true rfl, Nat.le_of_ble_eq_true rfl⟩ ⟨Nat.le_of_ble_eq_true rfl, Nat.le_of_ble_eq_true rfl⟩ ([]) ([]) (by simp only [List.append_nil, List.nil_append]) 0 hat_261 rfl rfl (Nat.le_of_ble_eq_true rfl) dL_isCheapest_136 (fun r W_259 hp => ?_)
                                                                                                              obtain ⟨rfl, hS_260⟩ := hp
                                                                                                              refine zk_ws (ws2 := W_259) (by simp only [List.append_nil, List.nil_append]) ?_
                                                                                                              refine zk_top (y := nI tn_2) ((tol_n _ (by omega)).trans htq_2) ?_
                                                                                                              refine zk_if_lt hc 166 dL_isCheapest_139 (by decide) (fun h139 => ?_) (fun h139 => ?_)
                                                                                                              · exact absurd h139 (nI_pos (by omega))
                                                                                                              · refine zk_aload_n hc dL_isCheapest_142 7 rfl ?_
                                                                                                                refine zk_iconst hc (nI 2) dL_isCheapest_143 rfl ?_
                                                                                                                obtain ⟨hat_264_f, hat_264⟩ := cs_at hS_260
                                                                                                                refine zk_callVi hc (rest := []) (kx_told g l b (chg S_1 (rowU S_1.1 z_2.2)) W_259 (cN + 1) (by omega) hIm_2 hS_260 (nI 2)) gg_L_25 cd_X6_told ⟨Nat.le_of_ble_eq_true rfl, Nat.le_of_ble_eq_true rfl⟩ ⟨Nat.le_of_ble_eq_true rfl, Nat.le_of_ble_eq_true rfl⟩ ([]) ([]) (by simp only [List.append_nil, List.nil_append]) 0 hat_264 rfl rfl (Nat.le_of_ble_eq_true rfl) dL_isCheapest_144 (fun r W_262 hp => ?_)
                                                                                                                obtain ⟨rfl, hS_263⟩ := hp
                                                                                                                refine zk_ws (ws2 := W_262) (by simp only [List.append_nil, List.nil_append]) ?_
                                                                                                                refine zk_top (y := nI (S.1 6 + z_2.1)) ((tol_n _ (by omega)).trans (congrArg nI hq6_2)) ?_
                                                                                                                refine zk_iload hc dL_isCheapest_147 2 rfl ?_
                                                                                                                refine zk_iload hc dL_isCheapest_149 0 rfl ?_
                                                                                                                refine zk_iaddN hc dL_isCheapest_151 ?_
                                                                                                                refine zk_icmp_neN hc 166 dL_isCheapest_152 (by decide) (by omega) (by omega) (fun h_265 => ?_) (fun h_265 => ?_)
                                                                                                                · exact absurd h_265 (by omega)
                                                                                                                · refine zk_aload_n hc dL_isCheapest_155 7 rfl ?_
                                                                                                                  obtain ⟨hat_268_f, hat_268⟩ := cs_at hS_263
                                                                                                                  refine zk_callVi hc (rest := []) (kx_undo g l b (chg S_1 (rowU S_1.1 z_2.2)) W_262 (cN + 1) (by omega) hIm_2 hS_263) gg_L_58 cd_X6_undo ⟨Nat.le_of_ble_eq_true rfl, Nat.le_of_ble_eq_true rfl⟩ ⟨Nat.le_of_ble_eq_true rfl, Nat.le_of_ble_eq_true rfl⟩ ([]) ([]) (by simp only [List.append_nil, List.nil_append]) 0 hat_268 rfl rfl (Nat.le_of_ble_eq_true rfl) dL_isCheapest_156 (fun r W_266 hp => ?_)
                                                                                                                  obtain ⟨rfl, hS_267⟩ := hp
                                                                                                                  refine zk_ws (ws2 := W_266) (by simp only [List.append_nil, List.nil_append]) ?_
                                                                                                                  refine zk_top (y := nI (remN S_1.2.2.1 - 1)) huc_2 ?_
                                                                                                                  obtain ⟨S_2, hE_2, hI_2, hSn_2⟩ : ∃ S2, EqS S S2 ∧ INV cN S2 ∧ CSt g b S2 W_266 := ⟨_, hE_1.tr hua_2, hub_2, hS_267⟩
                                                                                                                  refine zk_if_lt hc 166 dL_isCheapest_159 (by decide) (fun h159 => ?_) (fun h159 => ?_)
                                                                                                                  · exact absurd h159 (nI_pos (by omega))
                                                                                                                  · refine zk_iconst hc (nI 1) dL_isCheapest_162 rfl ?_
                                                                                                                    refine zk_goto hc 167 dL_isCheapest_163 (by decide) ?_
                                                                                                                    refine zk_istore hc (lv2 := [(7, .int (nI 1)), (6, .int (nI z_2.1)), (1, .int (nI z_2.1)), (5, .int (nI (S.1 6))), (4, .int (nI z_2.2.length)), (3, .int (nI z_2.1)), (2, .int (nI 2)), (0, .ref b)]) dL_isCheapest_167 (by decide) rfl ?_
                                                                                                                    refine zk_iload hc dL_isCheapest_169 0 rfl ?_
                                                                                                                    refine zk_if_eqN hc 184 dL_isCheapest_171 (by decide) (by omega) (fun h_269 => ?_) (fun h_269 => ?_)
                                                                                                                    · exact absurd h_269 (by decide)
                                                                                                                    · refine zk_aload_n hc dL_isCheapest_174 7 rfl ?_
                                                                                                                      refine zk_iconst hc (nI 2) dL_isCheapest_175 rfl ?_
                                                                                                                      obtain ⟨hat_272_f, hat_272⟩ := cs_at hSn_2
                                                                                                                      refine zk_callVi hc (rest := []) (kx_told g l b S_2 W_266 cN (by omega) hI_2 hSn_2 (nI 2)) gg_L_25 cd_X6_told ⟨Nat.le_of_ble_eq_true rfl, Nat.le_of_ble_eq_true rfl⟩ ⟨Nat.le_of_ble_eq_true rfl, Nat.le_of_ble_eq_true rfl⟩ ([]) ([]) (by simp only [List.append_nil, List.nil_append]) 0 hat_272 rfl rfl (Nat.le_of_ble_eq_true rfl) dL_isCheapest_176 (fun r W_270 hp => ?_)
                                                                                                                      obtain ⟨rfl, hS_271⟩ := hp
                                                                                                                      refine zk_ws (ws2 := W_270) (by simp only [List.append_nil, List.nil_append]) ?_
                                                                                                                      refine zk_top (y := nI (S.1 6)) ((tol_n _ (by omega)).trans (congrArg (fun u : Nat → Nat => nI (u 6)) hE_2.1.symm)) ?_
                                                                                                                      refine zk_iload hc dL_isCheapest_179 3 rfl ?_
                                                                                                                      refine zk_icmp_eqN hc 186 dL_isCheapest_181 (by decide) (by omega) (by omega) (fun h_273 => ?_) (fun h_273 => ?_)
                                                                                                                      · refine zk_iinc hc (v := nI 3) (lv2 := [(2, .int (nI 3)), (7, .int (nI 1)), (6, .int (nI z_2.1)), (1, .int (nI z_2.1)), (5, .int (nI (S.1 6))), (4, .int (nI z_2.2.length)), (3, .int (nI z_2.1)), (0, .ref b)]) dL_isCheapest_186 6 rfl (by decide) (by decide) rfl ?_
                                                                                                                        refine zk_goto hc 5 dL_isCheapest_189 (by decide) ?_
                                                                                                                        refine zk_iload_n hc dL_isCheapest_5 0 rfl ?_
                                                                                                                        refine zk_iconst hc (nI 3) dL_isCheapest_6 rfl ?_
                                                                                                                        refine zk_icmp_geN hc 192 dL_isCheapest_7 (by decide) (by omega) (by omega) (fun h_274 => ?_) (fun h_274 => ?_)
                                                                                                                        · refine zk_aload_n hc dL_isCheapest_192 7 rfl ?_
                                                                                                                          refine zk_iconst hc (nI 4) dL_isCheapest_193 rfl ?_
                                                                                                                          refine zk_iconst hc (nI 0) dL_isCheapest_194 rfl ?_
                                                                                                                          obtain ⟨hat_277_f, hat_277⟩ := cs_at hS_271
                                                                                                                          refine zk_callVi hc (rest := []) (kx_cheapest g l b S_2 W_270 cN (by omega) hI_2 hS_271 (nI 4) (nI 0)) gg_L_89 cd_X6_cheapest ⟨Nat.le_of_ble_eq_true rfl, Nat.le_of_ble_eq_true rfl⟩ ⟨Nat.le_of_ble_eq_true rfl, Nat.le_of_ble_eq_true rfl⟩ ([]) ([]) (by simp only [List.append_nil, List.nil_append]) 0 hat_277 rfl rfl (Nat.le_of_ble_eq_true rfl) dL_isCheapest_195 (fun r W_275 hp => ?_)
                                                                                                                          obtain ⟨rfl, hS_276⟩ := hp
                                                                                                                          refine zk_ws (ws2 := W_275) (by simp only [List.append_nil, List.nil_append]) ?_
                                                                                                                          refine zk_top (y := (-1)) (che_40 _) ?_
                                                                                                                          refine zk_iconst hc ((-1)) dL_isCheapest_198 rfl ?_
                                                                                                                          refine zk_icmp_ne hc 216 dL_isCheapest_199 (by decide) (fun h199 => ?_) (fun h199 => ?_)
                                                                                                                          · exact absurd rfl h199
                                                                                                                          · refine zk_aload_n hc dL_isCheapest_202 7 rfl ?_
                                                                                                                            refine zk_iconst hc (nI 0) dL_isCheapest_203 rfl ?_
                                                                                                                            refine zk_iconst hc (nI 5) dL_isCheapest_204 rfl ?_
                                                                                                                            obtain ⟨hat_280_f, hat_280⟩ := cs_at hS_276
                                                                                                                            refine zk_callVi hc (rest := []) (kx_cheapest g l b S_2 W_275 cN (by omega) hI_2 hS_276 (nI 0) (nI 5)) gg_L_89 cd_X6_cheapest ⟨Nat.le_of_ble_eq_true rfl, Nat.le_of_ble_eq_true rfl⟩ ⟨Nat.le_of_ble_eq_true rfl, Nat.le_of_ble_eq_true rfl⟩ ([]) ([]) (by simp only [List.append_nil, List.nil_append]) 0 hat_280 rfl rfl (Nat.le_of_ble_eq_true rfl) dL_isCheapest_205 (fun r W_278 hp => ?_)
                                                                                                                            obtain ⟨rfl, hS_279⟩ := hp
                                                                                                                            refine zk_ws (ws2 := W_278) (by simp only [List.append_nil, List.nil_append]) ?_
                                                                                                                            refine zk_top (y := (-1)) (che_05 _) ?_
                                                                                                                            refine zk_iconst hc ((-1)) dL_isCheapest_208 rfl ?_
                                                                                                                            refine zk_icmp_ne hc 216 dL_isCheapest_209 (by decide) (fun h209 => ?_) (fun h209 => ?_)
                                                                                                                            · exact absurd rfl h209
                                                                                                                            · refine zk_iconst hc (nI 1) dL_isCheapest_212 rfl ?_
                                                                                                                              refine zk_goto hc 217 dL_isCheapest_213 (by decide) ?_
                                                                                                                              refine fin 21 216 _ _ _ _ (by decide) (by decide) dL_isCheapest_217 rfl (?_)
                                                                                                                              exact ⟨rfl, _, hE_2, hI_2, hS_279⟩
                                                                                                                        · exact absurd h_274 (by decide)
                                                                                                                      · exact absurd h_273 (by omega)
                                                                                                          · exact absurd rfl h123
                                                                                                        · exact absurd (nI_pos' (by omega)) h114
                                                                                                      · exact absurd h_255 (by decide)
                                                                                                    · exact absurd (by decide) h89
                                                                                                  · exact absurd h75 hzl_2
                                                                                      · exact absurd (nI_pos' (by omega)) h43
                                                                                    · exact absurd (nI_pos' (by omega)) h33
                                                                              · exact absurd h_239 (by omega)
                                                                  · exact absurd rfl h123
                                                                · exact absurd (nI_pos' (by omega)) h114
                                                              · exact absurd h_221 (by decide)
                                                            · exact absurd (by decide) h89
                                                          · exact absurd h75 hzl_1
                                              · exact absurd (nI_pos' (by omega)) h43
                                            · exact absurd (nI_pos' (by omega)) h33
                                      · exact absurd h_205 (by omega)
                          · exact absurd rfl h123
                        · exact absurd (nI_pos' (by omega)) h114
                      · exact absurd h_187 (by decide)
                    · exact absurd (by decide) h89
                  · exact absurd h75 hzl_0
                · exact absurd (by decide) h61
          · exact absurd (nI_pos' (by omega)) h43
        · exact absurd (nI_pos' (by omega)) h33
  · obtain ⟨tm, htm, hmq⟩ := muf_n hmu
    refine zk_bipush hc ((-9)) dL_isCheapest_0 rfl ?_
    refine zk_istore_n hc (lv2 := [(1, .int (-9)), (0, .ref b)]) dL_isCheapest_2 (by decide) rfl ?_
    refine zk_iconst hc (nI 0) dL_isCheapest_3 rfl ?_
    refine zk_istore_n hc (lv2 := [(2, .int (nI 0)), (1, .int (-9)), (0, .ref b)]) dL_isCheapest_4 (by decide) rfl ?_
    refine zk_iload_n hc dL_isCheapest_5 0 rfl ?_
    refine zk_iconst hc (nI 3) dL_isCheapest_6 rfl ?_
    refine zk_icmp_geN hc 192 dL_isCheapest_7 (by decide) (by omega) (by omega) (fun h_281 => ?_) (fun h_281 => ?_)
    · exact absurd h_281 (by decide)
    · obtain ⟨z_0, hB_0⟩ : ∃ z, vis 0 S.1 [] 0 none = some z := ⟨_, vis_mk hmu⟩
      · obtain ⟨hok_0, htot_0, hlen_0⟩ := vis_ok hB_0
        have htl_0 := tot_le hG hok_0
        have hmk_0 := vis_makes hB_0
        have hzl_0 : z_0.2.length = 0 := (vis_len hB_0).mpr hmu
        refine zk_aload_n hc dL_isCheapest_10 2 rfl ?_
        refine zk_iload_n hc dL_isCheapest_11 0 rfl ?_
        refine zk_iconst hc (nI 0) dL_isCheapest_12 rfl ?_
        obtain ⟨hat_284_f, hat_284⟩ := cs_at hS0
        refine zk_callVi hc (rest := []) (kx_cheapest g l b S0 W cN (by omega) hI0 hS0 (nI 0) (nI 0)) gg_L_89 cd_X6_cheapest ⟨Nat.le_of_ble_eq_true rfl, Nat.le_of_ble_eq_true rfl⟩ ⟨Nat.le_of_ble_eq_true rfl, Nat.le_of_ble_eq_true rfl⟩ ([]) ([]) (by simp only [List.append_nil, List.nil_append]) 0 hat_284 rfl rfl (Nat.le_of_ble_eq_true rfl) dL_isCheapest_13 (fun r W_282 hp => ?_)
        obtain ⟨rfl, hS_283⟩ := hp
        refine zk_ws (ws2 := W_282) (by simp only [List.append_nil, List.nil_append]) ?_
        refine zk_top (y := nI z_0.1) (by rw [← hE.1, che_n _ (by omega) (by omega), hB_0]; rfl) ?_
        refine zk_istore_n hc (lv2 := [(3, .int (nI z_0.1)), (2, .int (nI 0)), (1, .int (-9)), (0, .ref b)]) dL_isCheapest_16 (by decide) rfl ?_
        refine zk_aload_n hc dL_isCheapest_17 3 rfl ?_
        refine zk_iload_n hc dL_isCheapest_18 1 rfl ?_
        refine zk_iconst hc (nI 1) dL_isCheapest_19 rfl ?_
        obtain ⟨hat_287_f, hat_287⟩ := cs_at hS_283
        refine zk_callVi hc (rest := []) (kx_cheapest g l b S0 W_282 cN (by omega) hI0 hS_283 (nI 0) (nI 1)) gg_L_89 cd_X6_cheapest ⟨Nat.le_of_ble_eq_true rfl, Nat.le_of_ble_eq_true rfl⟩ ⟨Nat.le_of_ble_eq_true rfl, Nat.le_of_ble_eq_true rfl⟩ ([]) ([]) (by simp only [List.append_nil, List.nil_append]) 0 hat_287 rfl rfl (Nat.le_of_ble_eq_true rfl) dL_isCheapest_20 (fun r W_285 hp => ?_)
        obtain ⟨rfl, hS_286⟩ := hp
        refine zk_ws (ws2 := W_285) (by simp only [List.append_nil, List.nil_append]) ?_
        refine zk_top (y := nI z_0.2.length) (by rw [← hE.1, che_n _ (by omega) (by omega), hB_0]; rfl) ?_
        refine zk_istore hc (lv2 := [(4, .int (nI z_0.2.length)), (3, .int (nI z_0.1)), (2, .int (nI 0)), (1, .int (-9)), (0, .ref b)]) dL_isCheapest_23 (by decide) rfl ?_
        refine zk_aload_n hc dL_isCheapest_25 4 rfl ?_
        refine zk_iconst hc (nI 2) dL_isCheapest_26 rfl ?_
        obtain ⟨hat_290_f, hat_290⟩ := cs_at hS_286
        refine zk_callVi hc (rest := []) (kx_told g l b S0 W_285 cN (by omega) hI0 hS_286 (nI 2)) gg_L_25 cd_X6_told ⟨Nat.le_of_ble_eq_true rfl, Nat.le_of_ble_eq_true rfl⟩ ⟨Nat.le_of_ble_eq_true rfl, Nat.le_of_ble_eq_true rfl⟩ ([]) ([]) (by simp only [List.append_nil, List.nil_append]) 0 hat_290 rfl rfl (Nat.le_of_ble_eq_true rfl) dL_isCheapest_27 (fun r W_288 hp => ?_)
        obtain ⟨rfl, hS_289⟩ := hp
        refine zk_ws (ws2 := W_288) (by simp only [List.append_nil, List.nil_append]) ?_
        refine zk_top (y := nI (S.1 6)) ((tol_n _ (by omega)).trans (congrArg (fun u : Nat → Nat => nI (u 6)) hE.1.symm)) ?_
        refine zk_istore hc (lv2 := [(5, .int (nI (S.1 6))), (4, .int (nI z_0.2.length)), (3, .int (nI z_0.1)), (2, .int (nI 0)), (1, .int (-9)), (0, .ref b)]) dL_isCheapest_30 (by decide) rfl ?_
        refine zk_iload_n hc dL_isCheapest_32 2 rfl ?_
        refine zk_if_ge hc 40 dL_isCheapest_33 (by decide) (fun h33 => ?_) (fun h33 => ?_)
        · refine zk_iconst hc (nI 0) dL_isCheapest_40 rfl ?_
          refine zk_iload hc dL_isCheapest_41 1 rfl ?_
          refine zk_if_ge hc 50 dL_isCheapest_43 (by decide) (fun h43 => ?_) (fun h43 => ?_)
          · refine zk_iconst hc (nI 0) dL_isCheapest_50 rfl ?_
            refine zk_icmp_neN hc 100 dL_isCheapest_51 (by decide) (by omega) (by omega) (fun h_291 => ?_) (fun h_291 => ?_)
            · exact absurd h_291 (by decide)
            · refine zk_iload hc dL_isCheapest_54 1 rfl ?_
              refine zk_iload_n hc dL_isCheapest_56 3 rfl ?_
              refine zk_icmp_gtN hc 100 dL_isCheapest_57 (by decide) (by omega) (by omega) (fun h57 => ?_) (fun h57 => ?_)
              · exact absurd h57 (by omega)
              · refine zk_iload_n hc dL_isCheapest_60 4 rfl ?_
                refine zk_if_lt hc 73 dL_isCheapest_61 (by decide) (fun h61 => ?_) (fun h61 => ?_)
                · refine zk_iload hc dL_isCheapest_73 1 rfl ?_
                  refine zk_if_neN hc 82 dL_isCheapest_75 (by decide) (by omega) (fun h75 => ?_) (fun h75 => ?_)
                  · exact absurd hzl_0 h75
                  · refine zk_iconst hc (nI 1) dL_isCheapest_78 rfl ?_
                    refine zk_goto hc 83 dL_isCheapest_79 (by decide) ?_
                    refine zk_aload_n hc dL_isCheapest_83 5 rfl ?_
                    refine zk_bipush hc (nI 12) dL_isCheapest_84 rfl ?_
                    obtain ⟨hat_294_f, hat_294⟩ := cs_at hS_289
                    refine zk_callVi hc (rest := [.int (nI 1)]) (kx_told g l b S0 W_288 cN (by omega) hI0 hS_289 (nI 12)) gg_L_25 cd_X6_told ⟨Nat.le_of_ble_eq_true rfl, Nat.le_of_ble_eq_true rfl⟩ ⟨Nat.le_of_ble_eq_true rfl, Nat.le_of_ble_eq_true rfl⟩ ([]) ([]) (by simp only [List.append_nil, List.nil_append]) 0 hat_294 rfl rfl (Nat.le_of_ble_eq_true rfl) dL_isCheapest_86 (fun r W_292 hp => ?_)
                    obtain ⟨rfl, hS_293⟩ := hp
                    refine zk_ws (ws2 := W_292) (by simp only [List.append_nil, List.nil_append]) ?_
                    refine zk_top (y := nI tm) ((tol_n _ (by omega)).trans ((congrArg muf hE.1.symm).trans hmq)) ?_
                    refine zk_if_lt hc 96 dL_isCheapest_89 (by decide) (fun h89 => ?_) (fun h89 => ?_)
                    · exact absurd h89 (nI_pos (by omega))
                    · refine zk_iconst hc (nI 1) dL_isCheapest_92 rfl ?_
                      refine zk_goto hc 97 dL_isCheapest_93 (by decide) ?_
                      refine zk_icmp_eqN hc 102 dL_isCheapest_97 (by decide) (by omega) (by omega) (fun h_295 => ?_) (fun h_295 => ?_)
                      · refine zk_iload_n hc dL_isCheapest_102 2 rfl ?_
                        refine zk_istore_n hc (lv2 := [(1, .int (nI z_0.1)), (5, .int (nI (S.1 6))), (4, .int (nI z_0.2.length)), (3, .int (nI z_0.1)), (2, .int (nI 0)), (0, .ref b)]) dL_isCheapest_103 (by decide) rfl ?_
                        refine zk_aload_n hc dL_isCheapest_104 5 rfl ?_
                        refine zk_iload_n hc dL_isCheapest_105 4 rfl ?_
                        obtain ⟨hat_298_f, hat_298⟩ := cs_at hS_293
                        refine zk_callVi hc (rest := []) (kx_makeUp g l b S0 W_292 cN (by omega) hI0 hS_293 (nI 0)) gg_L_55 cd_X6_makeUp ⟨Nat.le_of_ble_eq_true rfl, Nat.le_of_ble_eq_true rfl⟩ ⟨Nat.le_of_ble_eq_true rfl, Nat.le_of_ble_eq_true rfl⟩ ([]) ([]) (by simp only [List.append_nil, List.nil_append]) 0 hat_298 rfl rfl (Nat.le_of_ble_eq_true rfl) dL_isCheapest_106 (fun r W_296 hp => ?_)
                        obtain ⟨rfl, hS_297⟩ := hp
                        refine zk_ws (ws2 := W_296) (by simp only [List.append_nil, List.nil_append]) ?_
                        refine zk_top (y := nI z_0.1) (by rw [← hE.1, mak_n _ (by omega), hB_0]; rfl) ?_
                        rw [nmak_n _ (by omega), ← hE.1, hB_0] at hS_297
                        replace hS_297 : CSt g b (chg S0 (rowU S0.1 z_0.2)) W_296 := hS_297
                        have hIm_0 : INV (cN + 1) (chg S0 (rowU S0.1 z_0.2)) := by have := INV_mak hI0 (nI 0); rw [nmak_n _ (by omega), ← hE.1, hB_0] at this; exact this
                        have hG_0 : GU S0.1 := by rw [← hE.1]; exact hG
                        have ho2_0 : okRow S0.1 z_0.2 := by rw [← hE.1]; exact hok_0
                        have hm2_0 : ¬ muf (rowU S0.1 z_0.2) = -9 := by rw [← hE.1]; exact hmk_0
                        obtain ⟨tn_0, htn_0, htq_0⟩ := muf_n hm2_0
                        have hq6_0 : (rowU S0.1 z_0.2) 6 = S.1 6 + z_0.1 := by rw [row_6, ← hE.1, htot_0]
                        obtain ⟨hua_0, hub_0, huc_0, hud_0, -⟩ := und_back hI0 (u2 := (rowU S0.1 z_0.2)) (fun j hj => row_big hG_0 ho2_0 hj)
                        refine zk_istore hc (lv2 := [(6, .int (nI z_0.1)), (1, .int (nI z_0.1)), (5, .int (nI (S.1 6))), (4, .int (nI z_0.2.length)), (3, .int (nI z_0.1)), (2, .int (nI 0)), (0, .ref b)]) dL_isCheapest_109 (by decide) rfl ?_
                        refine zk_iload hc dL_isCheapest_111 0 rfl ?_
                        refine zk_iload_n hc dL_isCheapest_113 4 rfl ?_
                        refine zk_if_ge hc 122 dL_isCheapest_114 (by decide) (fun h114 => ?_) (fun h114 => ?_)
                        · refine zk_iload_n hc dL_isCheapest_122 4 rfl ?_
                          refine zk_icmp_eqN hc 128 dL_isCheapest_123 (by decide) (by omega) (by omega) (fun h123 => ?_) (fun h123 => ?_)
                          · refine zk_iload hc dL_isCheapest_128 0 rfl ?_
                            refine zk_if_lt hc 186 dL_isCheapest_130 (by decide) (fun h130 => ?_) (fun h130 => ?_)
                            · exact absurd h130 (nI_pos (by omega))
                            · refine zk_aload_n hc dL_isCheapest_133 6 rfl ?_
                              refine zk_bipush hc (nI 12) dL_isCheapest_134 rfl ?_
                              obtain ⟨hat_301_f, hat_301⟩ := cs_at hS_297
                              refine zk_callVi hc (rest := []) (kx_told g l b (chg S0 (rowU S0.1 z_0.2)) W_296 (cN + 1) (by omega) hIm_0 hS_297 (nI 12)) gg_L_25 cd_X6_told ⟨Nat.le_of_ble_eq_true rfl, Nat.le_of_ble_eq_true rfl⟩ ⟨Nat.le_of_ble_eq_true rfl, Nat.le_of_ble_eq_true rfl⟩ ([]) ([]) (by simp only [List.append_nil, List.nil_append]) 0 hat_301 rfl rfl (Nat.le_of_ble_eq_true rfl) dL_isCheapest_136 (fun r W_299 hp => ?_)
                              obtain ⟨rfl, hS_300⟩ := hp
                              refine zk_ws (ws2 := W_299) (by simp only [List.append_nil, List.nil_append]) ?_
                              refine zk_top (y := nI tn_0) ((tol_n _ (by omega)).trans htq_0) ?_
                              refine zk_if_lt hc 166 dL_isCheapest_139 (by decide) (fun h139 => ?_) (fun h139 => ?_)
                              · exact absurd h139 (nI_pos (by omega))
                              · refine zk_aload_n hc dL_isCheapest_142 6 rfl ?_
                                refine zk_iconst hc (nI 2) dL_isCheapest_143 rfl ?_
                                obtain ⟨hat_304_f, hat_304⟩ := cs_at hS_300
                                refine zk_callVi hc (rest := []) (kx_told g l b (chg S0 (rowU S0.1 z_0.2)) W_299 (cN + 1) (by omega) hIm_0 hS_300 (nI 2)) gg_L_25 cd_X6_told ⟨Nat.le_of_ble_eq_true rfl, Nat.le_of_ble_eq_true rfl⟩ ⟨Nat.le_of_ble_eq_true rfl, Nat.le_of_ble_eq_true rfl⟩ ([]) ([]) (by simp only [List.append_nil, List.nil_append]) 0 hat_304 rfl rfl (Nat.le_of_ble_eq_true rfl) dL_isCheapest_144 (fun r W_302 hp => ?_)
                                obtain ⟨rfl, hS_303⟩ := hp
                                refine zk_ws (ws2 := W_302) (by simp only [List.append_nil, List.nil_append]) ?_
                                refine zk_top (y := nI (S.1 6 + z_0.1)) ((tol_n _ (by omega)).trans (congrArg nI hq6_0)) ?_
                                refine zk_iload hc dL_isCheapest_147 2 rfl ?_
                                refine zk_iload hc dL_isCheapest_149 0 rfl ?_
                                refine zk_iaddN hc dL_isCheapest_151 ?_
                                refine zk_icmp_neN hc 166 dL_isCheapest_152 (by decide) (by omega) (by omega) (fun h_305 => ?_) (fun h_305 => ?_)
                                · exact absurd h_305 (by omega)
                                · refine zk_aload_n hc dL_isCheapest_155 6 rfl ?_
                                  obtain ⟨hat_308_f, hat_308⟩ := cs_at hS_303
                                  refine zk_callVi hc (rest := []) (kx_undo g l b (chg S0 (rowU S0.1 z_0.2)) W_302 (cN + 1) (by omega) hIm_0 hS_303) gg_L_58 cd_X6_undo ⟨Nat.le_of_ble_eq_true rfl, Nat.le_of_ble_eq_true rfl⟩ ⟨Nat.le_of_ble_eq_true rfl, Nat.le_of_ble_eq_true rfl⟩ ([]) ([]) (by simp only [List.append_nil, List.nil_append]) 0 hat_308 rfl rfl (Nat.le_of_ble_eq_true rfl) dL_isCheapest_156 (fun r W_306 hp => ?_)
                                  obtain ⟨rfl, hS_307⟩ := hp
                                  refine zk_ws (ws2 := W_306) (by simp only [List.append_nil, List.nil_append]) ?_
                                  refine zk_top (y := nI (remN S0.2.2.1 - 1)) huc_0 ?_
                                  obtain ⟨S_0, hE_0, hI_0, hSn_0⟩ : ∃ S2, EqS S S2 ∧ INV cN S2 ∧ CSt g b S2 W_306 := ⟨_, hE.tr hua_0, hub_0, hS_307⟩
                                  refine zk_if_lt hc 166 dL_isCheapest_159 (by decide) (fun h159 => ?_) (fun h159 => ?_)
                                  · exact absurd h159 (nI_pos (by omega))
                                  · refine zk_iconst hc (nI 1) dL_isCheapest_162 rfl ?_
                                    refine zk_goto hc 167 dL_isCheapest_163 (by decide) ?_
                                    refine zk_istore hc (lv2 := [(7, .int (nI 1)), (6, .int (nI z_0.1)), (1, .int (nI z_0.1)), (5, .int (nI (S.1 6))), (4, .int (nI z_0.2.length)), (3, .int (nI z_0.1)), (2, .int (nI 0)), (0, .ref b)]) dL_isCheapest_167 (by decide) rfl ?_
                                    refine zk_iload hc dL_isCheapest_169 0 rfl ?_
                                    refine zk_if_eqN hc 184 dL_isCheapest_171 (by decide) (by omega) (fun h_309 => ?_) (fun h_309 => ?_)
                                    · exact absurd h_309 (by decide)
                                    · refine zk_aload_n hc dL_isCheapest_174 7 rfl ?_
                                      refine zk_iconst hc (nI 2) dL_isCheapest_175 rfl ?_
                                      obtain ⟨hat_312_f, hat_312⟩ := cs_at hSn_0
                                      refine zk_callVi hc (rest := []) (kx_told g l b S_0 W_306 cN (by omega) hI_0 hSn_0 (nI 2)) gg_L_25 cd_X6_told ⟨Nat.le_of_ble_eq_true rfl, Nat.le_of_ble_eq_true rfl⟩ ⟨Nat.le_of_ble_eq_true rfl, Nat.le_of_ble_eq_true rfl⟩ ([]) ([]) (by simp only [List.append_nil, List.nil_append]) 0 hat_312 rfl rfl (Nat.le_of_ble_eq_true rfl) dL_isCheapest_176 (fun r W_310 hp => ?_)
                                      obtain ⟨rfl, hS_311⟩ := hp
                                      refine zk_ws (ws2 := W_310) (by simp only [List.append_nil, List.nil_append]) ?_
                                      refine zk_top (y := nI (S.1 6)) ((tol_n _ (by omega)).trans (congrArg (fun u : Nat → Nat => nI (u 6)) hE_0.1.symm)) ?_
                                      refine zk_iload hc dL_isCheapest_179 3 rfl ?_
                                      refine zk_icmp_eqN hc 186 dL_isCheapest_181 (by decide) (by omega) (by omega) (fun h_313 => ?_) (fun h_313 => ?_)
                                      · refine zk_iinc hc (v := nI 1) (lv2 := [(2, .int (nI 1)), (7, .int (nI 1)), (6, .int (nI z_0.1)), (1, .int (nI z_0.1)), (5, .int (nI (S.1 6))), (4, .int (nI z_0.2.length)), (3, .int (nI z_0.1)), (0, .ref b)]) dL_isCheapest_186 6 rfl (by decide) (by decide) rfl ?_
                                        refine zk_goto hc 5 dL_isCheapest_189 (by decide) ?_
                                        refine zk_iload_n hc dL_isCheapest_5 0 rfl ?_
                                        refine zk_iconst hc (nI 3) dL_isCheapest_6 rfl ?_
                                        refine zk_icmp_geN hc 192 dL_isCheapest_7 (by decide) (by omega) (by omega) (fun h_314 => ?_) (fun h_314 => ?_)
                                        · exact absurd h_314 (by decide)
                                        · obtain ⟨z_1, hB_1, hle_1⟩ := vis_more 0 S.1 [] 0 none none (bLe.rf _) z_0 hB_0
                                          · obtain ⟨hok_1, htot_1, hlen_1⟩ := vis_ok hB_1
                                            have htl_1 := tot_le hG hok_1
                                            have hmk_1 := vis_makes hB_1
                                            have hzl_1 : z_1.2.length = 0 := (vis_len hB_1).mpr hmu
                                            refine zk_aload_n hc dL_isCheapest_10 7 rfl ?_
                                            refine zk_iload_n hc dL_isCheapest_11 0 rfl ?_
                                            refine zk_iconst hc (nI 0) dL_isCheapest_12 rfl ?_
                                            obtain ⟨hat_317_f, hat_317⟩ := cs_at hS_311
                                            refine zk_callVi hc (rest := []) (kx_cheapest g l b S_0 W_310 cN (by omega) hI_0 hS_311 (nI 1) (nI 0)) gg_L_89 cd_X6_cheapest ⟨Nat.le_of_ble_eq_true rfl, Nat.le_of_ble_eq_true rfl⟩ ⟨Nat.le_of_ble_eq_true rfl, Nat.le_of_ble_eq_true rfl⟩ ([]) ([]) (by simp only [List.append_nil, List.nil_append]) 0 hat_317 rfl rfl (Nat.le_of_ble_eq_true rfl) dL_isCheapest_13 (fun r W_315 hp => ?_)
                                            obtain ⟨rfl, hS_316⟩ := hp
                                            refine zk_ws (ws2 := W_315) (by simp only [List.append_nil, List.nil_append]) ?_
                                            refine zk_top (y := nI z_1.1) (by rw [← hE_0.1, che_n _ (by omega) (by omega), hB_1]; rfl) ?_
                                            refine zk_istore_n hc (lv2 := [(3, .int (nI z_1.1)), (2, .int (nI 1)), (7, .int (nI 1)), (6, .int (nI z_0.1)), (1, .int (nI z_0.1)), (5, .int (nI (S.1 6))), (4, .int (nI z_0.2.length)), (0, .ref b)]) dL_isCheapest_16 (by decide) rfl ?_
                                            refine zk_aload_n hc dL_isCheapest_17 7 rfl ?_
                                            refine zk_iload_n hc dL_isCheapest_18 1 rfl ?_
                                            refine zk_iconst hc (nI 1) dL_isCheapest_19 rfl ?_
                                            obtain ⟨hat_320_f, hat_320⟩ := cs_at hS_316
                                            refine zk_callVi hc (rest := []) (kx_cheapest g l b S_0 W_315 cN (by omega) hI_0 hS_316 (nI 1) (nI 1)) gg_L_89 cd_X6_cheapest ⟨Nat.le_of_ble_eq_true rfl, Nat.le_of_ble_eq_true rfl⟩ ⟨Nat.le_of_ble_eq_true rfl, Nat.le_of_ble_eq_true rfl⟩ ([]) ([]) (by simp only [List.append_nil, List.nil_append]) 0 hat_320 rfl rfl (Nat.le_of_ble_eq_true rfl) dL_isCheapest_20 (fun r W_318 hp => ?_)
                                            obtain ⟨rfl, hS_319⟩ := hp
                                            refine zk_ws (ws2 := W_318) (by simp only [List.append_nil, List.nil_append]) ?_
                                            refine zk_top (y := nI z_1.2.length) (by rw [← hE_0.1, che_n _ (by omega) (by omega), hB_1]; rfl) ?_
                                            refine zk_istore hc (lv2 := [(4, .int (nI z_1.2.length)), (3, .int (nI z_1.1)), (2, .int (nI 1)), (7, .int (nI 1)), (6, .int (nI z_0.1)), (1, .int (nI z_0.1)), (5, .int (nI (S.1 6))), (0, .ref b)]) dL_isCheapest_23 (by decide) rfl ?_
                                            refine zk_aload_n hc dL_isCheapest_25 7 rfl ?_
                                            refine zk_iconst hc (nI 2) dL_isCheapest_26 rfl ?_
                                            obtain ⟨hat_323_f, hat_323⟩ := cs_at hS_319
                                            refine zk_callVi hc (rest := []) (kx_told g l b S_0 W_318 cN (by omega) hI_0 hS_319 (nI 2)) gg_L_25 cd_X6_told ⟨Nat.le_of_ble_eq_true rfl, Nat.le_of_ble_eq_true rfl⟩ ⟨Nat.le_of_ble_eq_true rfl, Nat.le_of_ble_eq_true rfl⟩ ([]) ([]) (by simp only [List.append_nil, List.nil_append]) 0 hat_323 rfl rfl (Nat.le_of_ble_eq_true rfl) dL_isCheapest_27 (fun r W_321 hp => ?_)
                                            obtain ⟨rfl, hS_322⟩ := hp
                                            refine zk_ws (ws2 := W_321) (by simp only [List.append_nil, List.nil_append]) ?_
                                            refine zk_top (y := nI (S.1 6)) ((tol_n _ (by omega)).trans (congrArg (fun u : Nat → Nat => nI (u 6)) hE_0.1.symm)) ?_
                                            refine zk_istore hc (lv2 := [(5, .int (nI (S.1 6))), (4, .int (nI z_1.2.length)), (3, .int (nI z_1.1)), (2, .int (nI 1)), (7, .int (nI 1)), (6, .int (nI z_0.1)), (1, .int (nI z_0.1)), (0, .ref b)]) dL_isCheapest_30 (by decide) rfl ?_
                                            refine zk_iload_n hc dL_isCheapest_32 2 rfl ?_
                                            refine zk_if_ge hc 40 dL_isCheapest_33 (by decide) (fun h33 => ?_) (fun h33 => ?_)
                                            · refine zk_iconst hc (nI 0) dL_isCheapest_40 rfl ?_
                                              refine zk_iload hc dL_isCheapest_41 1 rfl ?_
                                              refine zk_if_ge hc 50 dL_isCheapest_43 (by decide) (fun h43 => ?_) (fun h43 => ?_)
                                              · refine zk_iconst hc (nI 0) dL_isCheapest_50 rfl ?_
                                                refine zk_icmp_neN hc 100 dL_isCheapest_51 (by decide) (by omega) (by omega) (fun h_324 => ?_) (fun h_324 => ?_)
                                                · exact absurd h_324 (by decide)
                                                · refine zk_iload hc dL_isCheapest_54 1 rfl ?_
                                                  refine zk_iload_n hc dL_isCheapest_56 3 rfl ?_
                                                  refine zk_icmp_gtN hc 100 dL_isCheapest_57 (by decide) (by omega) (by omega) (fun h57 => ?_) (fun h57 => ?_)
                                                  · exact absurd h57 (by omega)
                                                  · refine zk_iload_n hc dL_isCheapest_60 6 rfl ?_
                                                    refine zk_if_lt hc 73 dL_isCheapest_61 (by decide) (fun h61 => ?_) (fun h61 => ?_)
                                                    · exact absurd h61 (nI_pos (by omega))
                                                    · refine zk_iload_n hc dL_isCheapest_64 2 rfl ?_
                                                      refine zk_if_lt hc 100 dL_isCheapest_65 (by decide) (fun h65 => ?_) (fun h65 => ?_)
                                                      · exact absurd h65 (nI_pos (by omega))
                                                      · refine zk_iload_n hc dL_isCheapest_68 2 rfl ?_
                                                        refine zk_iload_n hc dL_isCheapest_69 6 rfl ?_
                                                        refine zk_icmp_gtN hc 100 dL_isCheapest_70 (by decide) (by omega) (by omega) (fun h_325 => ?_) (fun h_325 => ?_)
                                                        · exact absurd h_325 (by omega)
                                                        · refine zk_iload hc dL_isCheapest_73 1 rfl ?_
                                                          refine zk_if_neN hc 82 dL_isCheapest_75 (by decide) (by omega) (fun h75 => ?_) (fun h75 => ?_)
                                                          · exact absurd hzl_1 h75
                                                          · refine zk_iconst hc (nI 1) dL_isCheapest_78 rfl ?_
                                                            refine zk_goto hc 83 dL_isCheapest_79 (by decide) ?_
                                                            refine zk_aload_n hc dL_isCheapest_83 7 rfl ?_
                                                            refine zk_bipush hc (nI 12) dL_isCheapest_84 rfl ?_
                                                            obtain ⟨hat_328_f, hat_328⟩ := cs_at hS_322
                                                            refine zk_callVi hc (rest := [.int (nI 1)]) (kx_told g l b S_0 W_321 cN (by omega) hI_0 hS_322 (nI 12)) gg_L_25 cd_X6_told ⟨Nat.le_of_ble_eq_true rfl, Nat.le_of_ble_eq_true rfl⟩ ⟨Nat.le_of_ble_eq_true rfl, Nat.le_of_ble_eq_true rfl⟩ ([]) ([]) (by simp only [List.append_nil, List.nil_append]) 0 hat_328 rfl rfl (Nat.le_of_ble_eq_true rfl) dL_isCheapest_86 (fun r W_326 hp => ?_)
                                                            obtain ⟨rfl, hS_327⟩ := hp
                                                            refine zk_ws (ws2 := W_326) (by simp only [List.append_nil, List.nil_append]) ?_
                                                            refine zk_top (y := nI tm) ((tol_n _ (by omega)).trans ((congrArg muf hE_0.1.symm).trans hmq)) ?_
                                                            refine zk_if_lt hc 96 dL_isCheapest_89 (by decide) (fun h89 => ?_) (fun h89 => ?_)
                                                            · exact absurd h89 (nI_pos (by omega))
                                                            · refine zk_iconst hc (nI 1) dL_isCheapest_92 rfl ?_
                                                              refine zk_goto hc 97 dL_isCheapest_93 (by decide) ?_
                                                              refine zk_icmp_eqN hc 102 dL_isCheapest_97 (by decide) (by omega) (by omega) (fun h_329 => ?_) (fun h_329 => ?_)
                                                              · refine zk_iload_n hc dL_isCheapest_102 2 rfl ?_
                                                                refine zk_istore_n hc (lv2 := [(1, .int (nI z_1.1)), (5, .int (nI (S.1 6))), (4, .int (nI z_1.2.length)), (3, .int (nI z_1.1)), (2, .int (nI 1)), (7, .int (nI 1)), (6, .int (nI z_0.1)), (0, .ref b)]) dL_isCheapest_103 (by decide) rfl ?_
                                                                refine zk_aload_n hc dL_isCheapest_104 7 rfl ?_
                                                                refine zk_iload_n hc dL_isCheapest_105 4 rfl ?_
                                                                obtain ⟨hat_332_f, hat_332⟩ := cs_at hS_327
                                                                refine zk_callVi hc (rest := []) (kx_makeUp g l b S_0 W_326 cN (by omega) hI_0 hS_327 (nI 1)) gg_L_55 cd_X6_makeUp ⟨Nat.le_of_ble_eq_true rfl, Nat.le_of_ble_eq_true rfl⟩ ⟨Nat.le_of_ble_eq_true rfl, Nat.le_of_ble_eq_true rfl⟩ ([]) ([]) (by simp only [List.append_nil, List.nil_append]) 0 hat_332 rfl rfl (Nat.le_of_ble_eq_true rfl) dL_isCheapest_106 (fun r W_330 hp => ?_)
                                                                obtain ⟨rfl, hS_331⟩ := hp
                                                                refine zk_ws (ws2 := W_330) (by simp only [List.append_nil, List.nil_append]) ?_
                                                                refine zk_top (y := nI z_1.1) (by rw [← hE_0.1, mak_n _ (by omega), hB_1]; rfl) ?_
                                                                rw [nmak_n _ (by omega), ← hE_0.1, hB_1] at hS_331
                                                                replace hS_331 : CSt g b (chg S_0 (rowU S_0.1 z_1.2)) W_330 := hS_331
                                                                have hIm_1 : INV (cN + 1) (chg S_0 (rowU S_0.1 z_1.2)) := by have := INV_mak hI_0 (nI 1); rw [nmak_n _ (by omega), ← hE_0.1, hB_1] at this; exact this
                                                                have hG_1 : GU S_0.1 := by rw [← hE_0.1]; exact hG
                                                                have ho2_1 : okRow S_0.1 z_1.2 := by rw [← hE_0.1]; exact hok_1
                                                                have hm2_1 : ¬ muf (rowU S_0.1 z_1.2) = -9 := by rw [← hE_0.1]; exact hmk_1
                                                                obtain ⟨tn_1, htn_1, htq_1⟩ := muf_n hm2_1
                                                                have hq6_1 : (rowU S_0.1 z_1.2) 6 = S.1 6 + z_1.1 := by rw [row_6, ← hE_0.1, htot_1]
                                                                obtain ⟨hua_1, hub_1, huc_1, hud_1, -⟩ := und_back hI_0 (u2 := (rowU S_0.1 z_1.2)) (fun j hj => row_big hG_1 ho2_1 hj)
                                                                refine zk_istore hc (lv2 := [(6, .int (nI z_1.1)), (1, .int (nI z_1.1)), (5, .int (nI (S.1 6))), (4, .int (nI z_1.2.length)), (3, .int (nI z_1.1)), (2, .int (nI 1)), (7, .int (nI 1)), (0, .ref b)]) dL_isCheapest_109 (by decide) rfl ?_
                                                                refine zk_iload hc dL_isCheapest_111 0 rfl ?_
                                                                refine zk_iload_n hc dL_isCheapest_113 4 rfl ?_
                                                                refine zk_if_ge hc 122 dL_isCheapest_114 (by decide) (fun h114 => ?_) (fun h114 => ?_)
                                                                · refine zk_iload_n hc dL_isCheapest_122 4 rfl ?_
                                                                  refine zk_icmp_eqN hc 128 dL_isCheapest_123 (by decide) (by omega) (by omega) (fun h123 => ?_) (fun h123 => ?_)
                                                                  · refine zk_iload hc dL_isCheapest_128 0 rfl ?_
                                                                    refine zk_if_lt hc 186 dL_isCheapest_130 (by decide) (fun h130 => ?_) (fun h130 => ?_)
                                                                    · exact absurd h130 (nI_pos (by omega))
                                                                    · refine zk_aload_n hc dL_isCheapest_133 7 rfl ?_
                                                                      refine zk_bipush hc (nI 12) dL_isCheapest_134 rfl ?_
                                                                      obtain ⟨hat_335_f, hat_335⟩ := cs_at hS_331
                                                                      refine zk_callVi hc (rest := []) (kx_told g l b (chg S_0 (rowU S_0.1 z_1.2)) W_330 (cN + 1) (by omega) hIm_1 hS_331 (nI 12)) gg_L_25 cd_X6_told ⟨Nat.le_of_ble_eq_true rfl, Nat.le_of_ble_eq_true rfl⟩ ⟨Nat.le_of_ble_eq_true rfl, Nat.le_of_ble_eq_true rfl⟩ ([]) ([]) (by simp only [List.append_nil, List.nil_append]) 0 hat_335 rfl rfl (Nat.le_of_ble_eq_true rfl) dL_isCheapest_136 (fun r W_333 hp => ?_)
                                                                      obtain ⟨rfl, hS_334⟩ := hp
                                                                      refine zk_ws (ws2 := W_333) (by simp only [List.append_nil, List.nil_append]) ?_
                                                                      refine zk_top (y := nI tn_1) ((tol_n _ (by omega)).trans htq_1) ?_
                                                                      refine zk_if_lt hc 166 dL_isCheapest_139 (by decide) (fun h139 => ?_) (fun h139 => ?_)
                                                                      · exact absurd h139 (nI_pos (by omega))
                                                                      · refine zk_aload_n hc dL_isCheapest_142 7 rfl ?_
                                                                        refine zk_iconst hc (nI 2) dL_isCheapest_143 rfl ?_
                                                                        obtain ⟨hat_338_f, hat_338⟩ := cs_at hS_334
                                                                        refine zk_callVi hc (rest := []) (kx_told g l b (chg S_0 (rowU S_0.1 z_1.2)) W_333 (cN + 1) (by omega) hIm_1 hS_334 (nI 2)) gg_L_25 cd_X6_told ⟨Nat.le_of_ble_eq_true rfl, Nat.le_of_ble_eq_true rfl⟩ ⟨Nat.le_of_ble_eq_true rfl, Nat.le_of_ble_eq_true rfl⟩ ([]) ([]) (by simp only [List.append_nil, List.nil_append]) 0 hat_338 rfl rfl (Nat.le_of_ble_eq_true rfl) dL_isCheapest_144 (fun r W_336 hp => ?_)
                                                                        obtain ⟨rfl, hS_337⟩ := hp
                                                                        refine zk_ws (ws2 := W_336) (by simp only [List.append_nil, List.nil_append]) ?_
                                                                        refine zk_top (y := nI (S.1 6 + z_1.1)) ((tol_n _ (by omega)).trans (congrArg nI hq6_1)) ?_
                                                                        refine zk_iload hc dL_isCheapest_147 2 rfl ?_
                                                                        refine zk_iload hc dL_isCheapest_149 0 rfl ?_
                                                                        refine zk_iaddN hc dL_isCheapest_151 ?_
                                                                        refine zk_icmp_neN hc 166 dL_isCheapest_152 (by decide) (by omega) (by omega) (fun h_339 => ?_) (fun h_339 => ?_)
                                                                        · exact absurd h_339 (by omega)
                                                                        · refine zk_aload_n hc dL_isCheapest_155 7 rfl ?_
                                                                          obtain ⟨hat_342_f, hat_342⟩ := cs_at hS_337
                                                                          refine zk_callVi hc (rest := []) (kx_undo g l b (chg S_0 (rowU S_0.1 z_1.2)) W_336 (cN + 1) (by omega) hIm_1 hS_337) gg_L_58 cd_X6_undo ⟨Nat.le_of_ble_eq_true rfl, Nat.le_of_ble_eq_true rfl⟩ ⟨Nat.le_of_ble_eq_true rfl, Nat.le_of_ble_eq_true rfl⟩ ([]) ([]) (by simp only [List.append_nil, List.nil_append]) 0 hat_342 rfl rfl (Nat.le_of_ble_eq_true rfl) dL_isCheapest_156 (fun r W_340 hp => ?_)
                                                                          obtain ⟨rfl, hS_341⟩ := hp
                                                                          refine zk_ws (ws2 := W_340) (by simp only [List.append_nil, List.nil_append]) ?_
                                                                          refine zk_top (y := nI (remN S_0.2.2.1 - 1)) huc_1 ?_
                                                                          obtain ⟨S_1, hE_1, hI_1, hSn_1⟩ : ∃ S2, EqS S S2 ∧ INV cN S2 ∧ CSt g b S2 W_340 := ⟨_, hE_0.tr hua_1, hub_1, hS_341⟩
                                                                          refine zk_if_lt hc 166 dL_isCheapest_159 (by decide) (fun h159 => ?_) (fun h159 => ?_)
                                                                          · exact absurd h159 (nI_pos (by omega))
                                                                          · refine zk_iconst hc (nI 1) dL_isCheapest_162 rfl ?_
                                                                            refine zk_goto hc 167 dL_isCheapest_163 (by decide) ?_
                                                                            refine zk_istore hc (lv2 := [(7, .int (nI 1)), (6, .int (nI z_1.1)), (1, .int (nI z_1.1)), (5, .int (nI (S.1 6))), (4, .int (nI z_1.2.length)), (3, .int (nI z_1.1)), (2, .int (nI 1)), (0, .ref b)]) dL_isCheapest_167 (by decide) rfl ?_
                                                                            refine zk_iload hc dL_isCheapest_169 0 rfl ?_
                                                                            refine zk_if_eqN hc 184 dL_isCheapest_171 (by decide) (by omega) (fun h_343 => ?_) (fun h_343 => ?_)
                                                                            · exact absurd h_343 (by decide)
                                                                            · refine zk_aload_n hc dL_isCheapest_174 7 rfl ?_
                                                                              refine zk_iconst hc (nI 2) dL_isCheapest_175 rfl ?_
                                                                              obtain ⟨hat_346_f, hat_346⟩ := cs_at hSn_1
                                                                              refine zk_callVi hc (rest := []) (kx_told g l b S_1 W_340 cN (by omega) hI_1 hSn_1 (nI 2)) gg_L_25 cd_X6_told ⟨Nat.le_of_ble_eq_true rfl, Nat.le_of_ble_eq_true rfl⟩ ⟨Nat.le_of_ble_eq_true rfl, Nat.le_of_ble_eq_true rfl⟩ ([]) ([]) (by simp only [List.append_nil, List.nil_append]) 0 hat_346 rfl rfl (Nat.le_of_ble_eq_true rfl) dL_isCheapest_176 (fun r W_344 hp => ?_)
                                                                              obtain ⟨rfl, hS_345⟩ := hp
                                                                              refine zk_ws (ws2 := W_344) (by simp only [List.append_nil, List.nil_append]) ?_
                                                                              refine zk_top (y := nI (S.1 6)) ((tol_n _ (by omega)).trans (congrArg (fun u : Nat → Nat => nI (u 6)) hE_1.1.symm)) ?_
                                                                              refine zk_iload hc dL_isCheapest_179 3 rfl ?_
                                                                              refine zk_icmp_eqN hc 186 dL_isCheapest_181 (by decide) (by omega) (by omega) (fun h_347 => ?_) (fun h_347 => ?_)
                                                                              · refine zk_iinc hc (v := nI 2) (lv2 := [(2, .int (nI 2)), (7, .int (nI 1)), (6, .int (nI z_1.1)), (1, .int (nI z_1.1)), (5, .int (nI (S.1 6))), (4, .int (nI z_1.2.length)), (3, .int (nI z_1.1)), (0, .ref b)]) dL_isCheapest_186 6 rfl (by decide) (by decide) rfl ?_
                                                                                refine zk_goto hc 5 dL_isCheapest_189 (by decide) ?_
                                                                                refine zk_iload_n hc dL_isCheapest_5 0 rfl ?_
                                                                                refine zk_iconst hc (nI 3) dL_isCheapest_6 rfl ?_
                                                                                refine zk_icmp_geN hc 192 dL_isCheapest_7 (by decide) (by omega) (by omega) (fun h_348 => ?_) (fun h_348 => ?_)
                                                                                · exact absurd h_348 (by decide)
                                                                                · obtain ⟨z_2, hB_2, hle_2⟩ := vis_more 1 S.1 [] 0 none none (bLe.rf _) z_1 hB_1
                                                                                  · obtain ⟨hok_2, htot_2, hlen_2⟩ := vis_ok hB_2
                                                                                    have htl_2 := tot_le hG hok_2
                                                                                    have hmk_2 := vis_makes hB_2
                                                                                    have hzl_2 : z_2.2.length = 0 := (vis_len hB_2).mpr hmu
                                                                                    refine zk_aload_n hc dL_isCheapest_10 7 rfl ?_
                                                                                    refine zk_iload_n hc dL_isCheapest_11 0 rfl ?_
                                                                                    refine zk_iconst hc (nI 0) dL_isCheapest_12 rfl ?_
                                                                                    obtain ⟨hat_351_f, hat_351⟩ := cs_at hS_345
                                                                                    refine zk_callVi hc (rest := []) (kx_cheapest g l b S_1 W_344 cN (by omega) hI_1 hS_345 (nI 2) (nI 0)) gg_L_89 cd_X6_cheapest ⟨Nat.le_of_ble_eq_true rfl, Nat.le_of_ble_eq_true rfl⟩ ⟨Nat.le_of_ble_eq_true rfl, Nat.le_of_ble_eq_true rfl⟩ ([]) ([]) (by simp only [List.append_nil, List.nil_append]) 0 hat_351 rfl rfl (Nat.le_of_ble_eq_true rfl) dL_isCheapest_13 (fun r W_349 hp => ?_)
                                                                                    obtain ⟨rfl, hS_350⟩ := hp
                                                                                    refine zk_ws (ws2 := W_349) (by simp only [List.append_nil, List.nil_append]) ?_
                                                                                    refine zk_top (y := nI z_2.1) (by rw [← hE_1.1, che_n _ (by omega) (by omega), hB_2]; rfl) ?_
                                                                                    refine zk_istore_n hc (lv2 := [(3, .int (nI z_2.1)), (2, .int (nI 2)), (7, .int (nI 1)), (6, .int (nI z_1.1)), (1, .int (nI z_1.1)), (5, .int (nI (S.1 6))), (4, .int (nI z_1.2.length)), (0, .ref b)]) dL_isCheapest_16 (by decide) rfl ?_
                                                                                    refine zk_aload_n hc dL_isCheapest_17 7 rfl ?_
                                                                                    refine zk_iload_n hc dL_isCheapest_18 1 rfl ?_
                                                                                    refine zk_iconst hc (nI 1) dL_isCheapest_19 rfl ?_
                                                                                    obtain ⟨hat_354_f, hat_354⟩ := cs_at hS_350
                                                                                    refine zk_callVi hc (rest := []) (kx_cheapest g l b S_1 W_349 cN (by omega) hI_1 hS_350 (nI 2) (nI 1)) gg_L_89 cd_X6_cheapest ⟨Nat.le_of_ble_eq_true rfl, Nat.le_of_ble_eq_true rfl⟩ ⟨Nat.le_of_ble_eq_true rfl, Nat.le_of_ble_eq_true rfl⟩ ([]) ([]) (by simp only [List.append_nil, List.nil_append]) 0 hat_354 rfl rfl (Nat.le_of_ble_eq_true rfl) dL_isCheapest_20 (fun r W_352 hp => ?_)
                                                                                    obtain ⟨rfl, hS_353⟩ := hp
                                                                                    refine zk_ws (ws2 := W_352) (by simp only [List.append_nil, List.nil_append]) ?_
                                                                                    refine zk_top (y := nI z_2.2.length) (by rw [← hE_1.1, che_n _ (by omega) (by omega), hB_2]; rfl) ?_
                                                                                    refine zk_istore hc (lv2 := [(4, .int (nI z_2.2.length)), (3, .int (nI z_2.1)), (2, .int (nI 2)), (7, .int (nI 1)), (6, .int (nI z_1.1)), (1, .int (nI z_1.1)), (5, .int (nI (S.1 6))), (0, .ref b)]) dL_isCheapest_23 (by decide) rfl ?_
                                                                                    refine zk_aload_n hc dL_isCheapest_25 7 rfl ?_
                                                                                    refine zk_iconst hc (nI 2) dL_isCheapest_26 rfl ?_
                                                                                    obtain ⟨hat_357_f, hat_357⟩ := cs_at hS_353
                                                                                    refine zk_callVi hc (rest := []) (kx_told g l b S_1 W_352 cN (by omega) hI_1 hS_353 (nI 2)) gg_L_25 cd_X6_told ⟨Nat.le_of_ble_eq_true rfl, Nat.le_of_ble_eq_true rfl⟩ ⟨Nat.le_of_ble_eq_true rfl, Nat.le_of_ble_eq_true rfl⟩ ([]) ([]) (by simp only [List.append_nil, List.nil_append]) 0 hat_357 rfl rfl (Nat.le_of_ble_eq_true rfl) dL_isCheapest_27 (fun r W_355 hp => ?_)
                                                                                    obtain ⟨rfl, hS_356⟩ := hp
                                                                                    refine zk_ws (ws2 := W_355) (by simp only [List.append_nil, List.nil_append]) ?_
                                                                                    refine zk_top (y := nI (S.1 6)) ((tol_n _ (by omega)).trans (congrArg (fun u : Nat → Nat => nI (u 6)) hE_1.1.symm)) ?_
                                                                                    refine zk_istore hc (lv2 := [(5, .int (nI (S.1 6))), (4, .int (nI z_2.2.length)), (3, .int (nI z_2.1)), (2, .int (nI 2)), (7, .int (nI 1)), (6, .int (nI z_1.1)), (1, .int (nI z_1.1)), (0, .ref b)]) dL_isCheapest_30 (by decide) rfl ?_
                                                                                    refine zk_iload_n hc dL_isCheapest_32 2 rfl ?_
                                                                                    refine zk_if_ge hc 40 dL_isCheapest_33 (by decide) (fun h33 => ?_) (fun h33 => ?_)
                                                                                    · refine zk_iconst hc (nI 0) dL_isCheapest_40 rfl ?_
                                                                                      refine zk_iload hc dL_isCheapest_41 1 rfl ?_
                                                                                      refine zk_if_ge hc 50 dL_isCheapest_43 (by decide) (fun h43 => ?_) (fun h43 => ?_)
                                                                                      · refine zk_iconst hc (nI 0) dL_isCheapest_50 rfl ?_
                                                                                        refine zk_icmp_neN hc 100 dL_isCheapest_51 (by decide) (by omega) (by omega) (fun h_358 => ?_) (fun h_358 => ?_)
                                                                                        · exact absurd h_358 (by decide)
                                                                                        · refine zk_iload hc dL_isCheapest_54 1 rfl ?_
                                                                                          refine zk_iload_n hc dL_isCheapest_56 3 rfl ?_
                                                                                          refine zk_icmp_gtN hc 100 dL_isCheapest_57 (by decide) (by omega) (by omega) (fun h57 => ?_) (fun h57 => ?_)
                                                                                          · exact absurd h57 (by omega)
                                                                                          · refine zk_iload_n hc dL_isCheapest_60 6 rfl ?_
                                                                                            refine zk_if_lt hc 73 dL_isCheapest_61 (by decide) (fun h61 => ?_) (fun h61 => ?_)
                                                                                            · exact absurd h61 (nI_pos (by omega))
                                                                                            · refine zk_iload_n hc dL_isCheapest_64 2 rfl ?_
                                                                                              refine zk_if_lt hc 100 dL_isCheapest_65 (by decide) (fun h65 => ?_) (fun h65 => ?_)
                                                                                              · exact absurd h65 (nI_pos (by omega))
                                                                                              · refine zk_iload_n hc dL_isCheapest_68 2 rfl ?_
                                                                                                refine zk_iload_n hc dL_isCheapest_69 6 rfl ?_
                                                                                                refine zk_icmp_gtN hc 100 dL_isCheapest_70 (by decide) (by omega) (by omega) (fun h_359 => ?_) (fun h_359 => ?_)
                                                                                                · exact absurd h_359 (by omega)
                                                                                                · refine zk_iload hc dL_isCheapest_73 1 rfl ?_
                                                                                                  refine zk_if_neN hc 82 dL_isCheapest_75 (by decide) (by omega) (fun h75 => ?_) (fun h75 => ?_)
                                                                                                  · exact absurd hzl_2 h75
                                                                                                  · refine zk_iconst hc (nI 1) dL_isCheapest_78 rfl ?_
                                                                                                    refine zk_goto hc 83 dL_isCheapest_79 (by decide) ?_
                                                                                                    refine zk_aload_n hc dL_isCheapest_83 7 rfl ?_
                                                                                                    refine zk_bipush hc (nI 12) dL_isCheapest_84 rfl ?_
                                                                                                    obtain ⟨hat_362_f, hat_362⟩ := cs_at hS_356
                                                                                                    refine zk_callVi hc (rest := [.int (nI 1)]) (kx_told g l b S_1 W_355 cN (by omega) hI_1 hS_356 (nI 12)) gg_L_25 cd_X6_told ⟨Nat.le_of_ble_eq_true rfl, Nat.le_of_ble_eq_true rfl⟩ ⟨Nat.le_of_ble_eq_true rfl, Nat.le_of_ble_eq_true rfl⟩ ([]) ([]) (by simp only [List.append_nil, List.nil_append]) 0 hat_362 rfl rfl (Nat.le_of_ble_eq_true rfl) dL_isCheapest_86 (fun r W_360 hp => ?_)
                                                                                                    obtain ⟨rfl, hS_361⟩ := hp
                                                                                                    refine zk_ws (ws2 := W_360) (by simp only [List.append_nil, List.nil_append]) ?_
                                                                                                    refine zk_top (y := nI tm) ((tol_n _ (by omega)).trans ((congrArg muf hE_1.1.symm).trans hmq)) ?_
                                                                                                    refine zk_if_lt hc 96 dL_isCheapest_89 (by decide) (fun h89 => ?_) (fun h89 => ?_)
                                                                                                    · exact absurd h89 (nI_pos (by omega))
                                                                                                    · refine zk_iconst hc (nI 1) dL_isCheapest_92 rfl ?_
                                                                                                      refine zk_goto hc 97 dL_isCheapest_93 (by decide) ?_
                                                                                                      refine zk_icmp_eqN hc 102 dL_isCheapest_97 (by decide) (by omega) (by omega) (fun h_363 => ?_) (fun h_363 => ?_)
                                                                                                      · refine zk_iload_n hc dL_isCheapest_102 2 rfl ?_
                                                                                                        refine zk_istore_n hc (lv2 := [(1, .int (nI z_2.1)), (5, .int (nI (S.1 6))), (4, .int (nI z_2.2.length)), (3, .int (nI z_2.1)), (2, .int (nI 2)), (7, .int (nI 1)), (6, .int (nI z_1.1)), (0, .ref b)]) dL_isCheapest_103 (by decide) rfl ?_
                                                                                                        refine zk_aload_n hc dL_isCheapest_104 7 rfl ?_
                                                                                                        refine zk_iload_n hc dL_isCheapest_105 4 rfl ?_
                                                                                                        obtain ⟨hat_366_f, hat_366⟩ := cs_at hS_361
                                                                                                        refine zk_callVi hc (rest := []) (kx_makeUp g l b S_1 W_360 cN (by omega) hI_1 hS_361 (nI 2)) gg_L_55 cd_X6_makeUp ⟨Nat.le_of_ble_eq_true rfl, Nat.le_of_ble_eq_true rfl⟩ ⟨Nat.le_of_ble_eq_true rfl, Nat.le_of_ble_eq_true rfl⟩ ([]) ([]) (by simp only [List.append_nil, List.nil_append]) 0 hat_366 rfl rfl (Nat.le_of_ble_eq_true rfl) dL_isCheapest_106 (fun r W_364 hp => ?_)
                                                                                                        obtain ⟨rfl, hS_365⟩ := hp
                                                                                                        refine zk_ws (ws2 := W_364) (by simp only [List.append_nil, List.nil_append]) ?_
                                                                                                        refine zk_top (y := nI z_2.1) (by rw [← hE_1.1, mak_n _ (by omega), hB_2]; rfl) ?_
                                                                                                        rw [nmak_n _ (by omega), ← hE_1.1, hB_2] at hS_365
                                                                                                        replace hS_365 : CSt g b (chg S_1 (rowU S_1.1 z_2.2)) W_364 := hS_365
                                                                                                        have hIm_2 : INV (cN + 1) (chg S_1 (rowU S_1.1 z_2.2)) := by have := INV_mak hI_1 (nI 2); rw [nmak_n _ (by omega), ← hE_1.1, hB_2] at this; exact this
                                                                                                        have hG_2 : GU S_1.1 := by rw [← hE_1.1]; exact hG
                                                                                                        have ho2_2 : okRow S_1.1 z_2.2 := by rw [← hE_1.1]; exact hok_2
                                                                                                        have hm2_2 : ¬ muf (rowU S_1.1 z_2.2) = -9 := by rw [← hE_1.1]; exact hmk_2
                                                                                                        obtain ⟨tn_2, htn_2, htq_2⟩ := muf_n hm2_2
                                                                                                        have hq6_2 : (rowU S_1.1 z_2.2) 6 = S.1 6 + z_2.1 := by rw [row_6, ← hE_1.1, htot_2]
                                                                                                        obtain ⟨hua_2, hub_2, huc_2, hud_2, -⟩ := und_back hI_1 (u2 := (rowU S_1.1 z_2.2)) (fun j hj => row_big hG_2 ho2_2 hj)
                                                                                                        refine zk_istore hc (lv2 := [(6, .int (nI z_2.1)), (1, .int (nI z_2.1)), (5, .int (nI (S.1 6))), (4, .int (nI z_2.2.length)), (3, .int (nI z_2.1)), (2, .int (nI 2)), (7, .int (nI 1)), (0, .ref b)]) dL_isCheapest_109 (by decide) rfl ?_
                                                                                                        refine zk_iload hc dL_isCheapest_111 0 rfl ?_
                                                                                                        refine zk_iload_n hc dL_isCheapest_113 4 rfl ?_
                                                                                                        refine zk_if_ge hc 122 dL_isCheapest_114 (by decide) (fun h114 => ?_) (fun h114 => ?_)
                                                                                                        · refine zk_iload_n hc dL_isCheapest_122 4 rfl ?_
                                                                                                          refine zk_icmp_eqN hc 128 dL_isCheapest_123 (by decide) (by omega) (by omega) (fun h123 => ?_) (fun h123 => ?_)
                                                                                                          · refine zk_iload hc dL_isCheapest_128 0 rfl ?_
                                                                                                            refine zk_if_lt hc 186 dL_isCheapest_130 (by decide) (fun h130 => ?_) (fun h130 => ?_)
                                                                                                            · exact absurd h130 (nI_pos (by omega))
                                                                                                            · refine zk_aload_n hc dL_isCheapest_133 7 rfl ?_
                                                                                                              refine zk_bipush hc (nI 12) dL_isCheapest_134 rfl ?_
                                                                                                              obtain ⟨hat_369_f, hat_369⟩ := cs_at hS_365
                                                                                                              refine zk_callVi hc (rest := []) (kx_told g l b (chg S_1 (rowU S_1.1 z_2.2)) W_364 (cN + 1) (by omega) hIm_2 hS_365 (nI 12)) gg_L_25 cd_X6_told ⟨Nat.le_of_ble_eq_true rfl, Nat.le_of_ble_eq_true rfl⟩ ⟨Nat.le_of_ble_eq_true rfl, Nat.le_of_ble_eq_true rfl⟩ ([]) ([]) (by simp only [List.append_nil, List.nil_append]) 0 hat_369 rfl rfl (Nat.le_of_ble_eq_true rfl) dL_isCheapest_136 (fun r W_367 hp => ?_)
                                                                                                              obtain ⟨rfl, hS_368⟩ := hp
                                                                                                              refine zk_ws (ws2 := W_367) (by simp only [List.append_nil, List.nil_append]) ?_
                                                                                                              refine zk_top (y := nI tn_2) ((tol_n _ (by omega)).trans htq_2) ?_
                                                                                                              refine zk_if_lt hc 166 dL_isCheapest_139 (by decide) (fun h139 => ?_) (fun h139 => ?_)
                                                                                                              · exact absurd h139 (nI_pos (by omega))
                                                                                                              · refine zk_aload_n hc dL_isCheapest_142 7 rfl ?_
                                                                                                                refine zk_iconst hc (nI 2) dL_isCheapest_143 rfl ?_
                                                                                                                obtain ⟨hat_372_f, hat_372⟩ := cs_at hS_368
                                                                                                                refine zk_callVi hc (rest := []) (kx_told g l b (chg S_1 (rowU S_1.1 z_2.2)) W_367 (cN + 1) (by omega) hIm_2 hS_368 (nI 2)) gg_L_25 cd_X6_told ⟨Nat.le_of_ble_eq_true rfl, Nat.le_of_ble_eq_true rfl⟩ ⟨Nat.le_of_ble_eq_true rfl, Nat.le_of_ble_eq_true rfl⟩ ([]) ([]) (by simp only [List.append_nil, List.nil_append]) 0 hat_372 rfl rfl (Nat.le_of_ble_eq_true rfl) dL_isCheapest_144 (fun r W_370 hp => ?_)
                                                                                                                obtain ⟨rfl, hS_371⟩ := hp
                                                                                                                refine zk_ws (ws2 := W_370) (by simp only [List.append_nil, List.nil_append]) ?_
                                                                                                                refine zk_top (y := nI (S.1 6 + z_2.1)) ((tol_n _ (by omega)).trans (congrArg nI hq6_2)) ?_
                                                                                                                refine zk_iload hc dL_isCheapest_147 2 rfl ?_
                                                                                                                refine zk_iload hc dL_isCheapest_149 0 rfl ?_
                                                                                                                refine zk_iaddN hc dL_isCheapest_151 ?_
                                                                                                                refine zk_icmp_neN hc 166 dL_isCheapest_152 (by decide) (by omega) (by omega) (fun h_373 => ?_) (fun h_373 => ?_)
                                                                                                                · exact absurd h_373 (by omega)
                                                                                                                · refine zk_aload_n hc dL_isCheapest_155 7 rfl ?_
                                                                                                                  obtain ⟨hat_376_f, hat_376⟩ := cs_at hS_371
                                                                                                                  refine zk_callVi hc (rest := []) (kx_undo g l b (chg S_1 (rowU S_1.1 z_2.2)) W_370 (cN + 1) (by omega) hIm_2 hS_371) gg_L_58 cd_X6_undo ⟨Nat.le_of_ble_eq_true rfl, Nat.le_of_ble_eq_true rfl⟩ ⟨Nat.le_of_ble_eq_true rfl, Nat.le_of_ble_eq_true rfl⟩ ([]) ([]) (by simp only [List.append_nil, List.nil_append]) 0 hat_376 rfl rfl (Nat.le_of_ble_eq_true rfl) dL_isCheapest_156 (fun r W_374 hp => ?_)
                                                                                                                  obtain ⟨rfl, hS_375⟩ := hp
                                                                                                                  refine zk_ws (ws2 := W_374) (by simp only [List.append_nil, List.nil_append]) ?_
                                                                                                                  refine zk_top (y := nI (remN S_1.2.2.1 - 1)) huc_2 ?_
                                                                                                                  obtain ⟨S_2, hE_2, hI_2, hSn_2⟩ : ∃ S2, EqS S S2 ∧ INV cN S2 ∧ CSt g b S2 W_374 := ⟨_, hE_1.tr hua_2, hub_2, hS_375⟩
                                                                                                                  refine zk_if_lt hc 166 dL_isCheapest_159 (by decide) (fun h159 => ?_) (fun h159 => ?_)
                                                                                                                  · exact absurd h159 (nI_pos (by omega))
                                                                                                                  · refine zk_iconst hc (nI 1) dL_isCheapest_162 rfl ?_
                                                                                                                    refine zk_goto hc 167 dL_isCheapest_163 (by decide) ?_
                                                                                                                    refine zk_istore hc (lv2 := [(7, .int (nI 1)), (6, .int (nI z_2.1)), (1, .int (nI z_2.1)), (5, .int (nI (S.1 6))), (4, .int (nI z_2.2.length)), (3, .int (nI z_2.1)), (2, .int (nI 2)), (0, .ref b)]) dL_isCheapest_167 (by decide) rfl ?_
                                                                                                                    refine zk_iload hc dL_isCheapest_169 0 rfl ?_
                                                                                                                    refine zk_if_eqN hc 184 dL_isCheapest_171 (by decide) (by omega) (fun h_377 => ?_) (fun h_377 => ?_)
                                                                                                                    · exact absurd h_377 (by decide)
                                                                                                                    · refine zk_aload_n hc dL_isCheapest_174 7 rfl ?_
                                                                                                                      refine zk_iconst hc (nI 2) dL_isCheapest_175 rfl ?_
                                                                                                                      obtain ⟨hat_380_f, hat_380⟩ := cs_at hSn_2
                                                                                                                      refine zk_callVi hc (rest := []) (kx_told g l b S_2 W_374 cN (by omega) hI_2 hSn_2 (nI 2)) gg_L_25 cd_X6_told ⟨Nat.le_of_ble_eq_true rfl, Nat.le_of_ble_eq_true rfl⟩ ⟨Nat.le_of_ble_eq_true rfl, Nat.le_of_ble_eq_true rfl⟩ ([]) ([]) (by simp only [List.append_nil, List.nil_append]) 0 hat_380 rfl rfl (Nat.le_of_ble_eq_true rfl) dL_isCheapest_176 (fun r W_378 hp => ?_)
                                                                                                                      obtain ⟨rfl, hS_379⟩ := hp
                                                                                                                      refine zk_ws (ws2 := W_378) (by simp only [List.append_nil, List.nil_append]) ?_
                                                                                                                      refine zk_top (y := nI (S.1 6)) ((tol_n _ (by omega)).trans (congrArg (fun u : Nat → Nat => nI (u 6)) hE_2.1.symm)) ?_
                                                                                                                      refine zk_iload hc dL_isCheapest_179 3 rfl ?_
                                                                                                                      refine zk_icmp_eqN hc 186 dL_isCheapest_181 (by decide) (by omega) (by omega) (fun h_381 => ?_) (fun h_381 => ?_)
                                                                                                                      · refine zk_iinc hc (v := nI 3) (lv2 := [(2, .int (nI 3)), (7, .int (nI 1)), (6, .int (nI z_2.1)), (1, .int (nI z_2.1)), (5, .int (nI (S.1 6))), (4, .int (nI z_2.2.length)), (3, .int (nI z_2.1)), (0, .ref b)]) dL_isCheapest_186 6 rfl (by decide) (by decide) rfl ?_
                                                                                                                        refine zk_goto hc 5 dL_isCheapest_189 (by decide) ?_
                                                                                                                        refine zk_iload_n hc dL_isCheapest_5 0 rfl ?_
                                                                                                                        refine zk_iconst hc (nI 3) dL_isCheapest_6 rfl ?_
                                                                                                                        refine zk_icmp_geN hc 192 dL_isCheapest_7 (by decide) (by omega) (by omega) (fun h_382 => ?_) (fun h_382 => ?_)
                                                                                                                        · refine zk_aload_n hc dL_isCheapest_192 7 rfl ?_
                                                                                                                          refine zk_iconst hc (nI 4) dL_isCheapest_193 rfl ?_
                                                                                                                          refine zk_iconst hc (nI 0) dL_isCheapest_194 rfl ?_
                                                                                                                          obtain ⟨hat_385_f, hat_385⟩ := cs_at hS_379
                                                                                                                          refine zk_callVi hc (rest := []) (kx_cheapest g l b S_2 W_378 cN (by omega) hI_2 hS_379 (nI 4) (nI 0)) gg_L_89 cd_X6_cheapest ⟨Nat.le_of_ble_eq_true rfl, Nat.le_of_ble_eq_true rfl⟩ ⟨Nat.le_of_ble_eq_true rfl, Nat.le_of_ble_eq_true rfl⟩ ([]) ([]) (by simp only [List.append_nil, List.nil_append]) 0 hat_385 rfl rfl (Nat.le_of_ble_eq_true rfl) dL_isCheapest_195 (fun r W_383 hp => ?_)
                                                                                                                          obtain ⟨rfl, hS_384⟩ := hp
                                                                                                                          refine zk_ws (ws2 := W_383) (by simp only [List.append_nil, List.nil_append]) ?_
                                                                                                                          refine zk_top (y := (-1)) (che_40 _) ?_
                                                                                                                          refine zk_iconst hc ((-1)) dL_isCheapest_198 rfl ?_
                                                                                                                          refine zk_icmp_ne hc 216 dL_isCheapest_199 (by decide) (fun h199 => ?_) (fun h199 => ?_)
                                                                                                                          · exact absurd rfl h199
                                                                                                                          · refine zk_aload_n hc dL_isCheapest_202 7 rfl ?_
                                                                                                                            refine zk_iconst hc (nI 0) dL_isCheapest_203 rfl ?_
                                                                                                                            refine zk_iconst hc (nI 5) dL_isCheapest_204 rfl ?_
                                                                                                                            obtain ⟨hat_388_f, hat_388⟩ := cs_at hS_384
                                                                                                                            refine zk_callVi hc (rest := []) (kx_cheapest g l b S_2 W_383 cN (by omega) hI_2 hS_384 (nI 0) (nI 5)) gg_L_89 cd_X6_cheapest ⟨Nat.le_of_ble_eq_true rfl, Nat.le_of_ble_eq_true rfl⟩ ⟨Nat.le_of_ble_eq_true rfl, Nat.le_of_ble_eq_true rfl⟩ ([]) ([]) (by simp only [List.append_nil, List.nil_append]) 0 hat_388 rfl rfl (Nat.le_of_ble_eq_true rfl) dL_isCheapest_205 (fun r W_386 hp => ?_)
                                                                                                                            obtain ⟨rfl, hS_387⟩ := hp
                                                                                                                            refine zk_ws (ws2 := W_386) (by simp only [List.append_nil, List.nil_append]) ?_
                                                                                                                            refine zk_top (y := (-1)) (che_05 _) ?_
                                                                                                                            refine zk_iconst hc ((-1)) dL_isCheapest_208 rfl ?_
                                                                                                                            refine zk_icmp_ne hc 216 dL_isCheapest_209 (by decide) (fun h209 => ?_) (fun h209 => ?_)
                                                                                                                            · exact absurd rfl h209
                                                                                                                            · refine zk_iconst hc (nI 1) dL_isCheapest_212 rfl ?_
                                                                                                                              refine zk_goto hc 217 dL_isCheapest_213 (by decide) ?_
                                                                                                                              refine fin 21 216 _ _ _ _ (by decide) (by decide) dL_isCheapest_217 rfl (?_)
                                                                                                                              exact ⟨rfl, _, hE_2, hI_2, hS_387⟩
                                                                                                                        · exact absurd h_382 (by decide)
                                                                                                                      · exact absurd h_381 (by omega)
                                                                                                          · exact absurd rfl h123
                                                                                                        · exact absurd (nI_pos' (by omega)) h114
                                                                                                      · exact absurd h_363 (by decide)
                                                                                      · exact absurd (nI_pos' (by omega)) h43
                                                                                    · exact absurd (nI_pos' (by omega)) h33
                                                                              · exact absurd h_347 (by omega)
                                                                  · exact absurd rfl h123
                                                                · exact absurd (nI_pos' (by omega)) h114
                                                              · exact absurd h_329 (by decide)
                                              · exact absurd (nI_pos' (by omega)) h43
                                            · exact absurd (nI_pos' (by omega)) h33
                                      · exact absurd h_313 (by omega)
                          · exact absurd rfl h123
                        · exact absurd (nI_pos' (by omega)) h114
                      · exact absurd h_295 (by decide)
                · exact absurd (by decide) h61
          · exact absurd (nI_pos' (by omega)) h43
        · exact absurd (nI_pos' (by omega)) h33
