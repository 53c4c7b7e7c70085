set_option maxHeartbeats 4000000 in
set_option maxRecDepth 100000 in
theorem ct_L_change (g : GG) (l : Launch) (b cN : Nat) (S : AS) (W : va_W) (hN : cN ≤ 500) (hI : INV cN S) (hS : CSt g b S W) (v w : Int32) (h16 : lowN v 22 ≠ 16) : CtI g l yL_change cL_change 5 (some .int) (rmK 16 7 72) (W) [.ref b, .int v, .int w] (fun r W1 => r = opA S (chO (S.1 4) v w) ∧ CSt g b (opN S (chO (S.1 4) v w)) W1) := by
  refine CtI.go RL rfl (by decide +kernel) (Nat.le_of_ble_eq_true rfl) ?_
  intro p e s m args below meth c A H0 Q hc hnm fin
  have h4 := hI.1.1
  have hG := wf_GU hI.1
  have hm8 := wf_m8 hI.1
  have h12 := hI.1.2.2.2.2.2.2.1
  have hB := hI.1.2.2.2.2.2.2.2.2.2.2.2
  show KW g p l e (rmK 16 7 72) s m args below meth c 5 A H0 0 0 Q (W) [(0, .ref b), (1, .int v), (2, .int w)] 0 []
  refine zk_aload_n hc dL_change_0 0 rfl ?_
  refine zk_iconst hc (nI 0) dL_change_1 rfl ?_
  obtain ⟨hat_3_f, hat_3⟩ := cs_at hS
  refine zk_callVi hc (rest := []) (kx_told g l b S W cN (by omega) hI hS (nI 0)) gg_L_25 cd_X6_told ⟨Nat.le_of_ble_eq_true rfl, Nat.le_of_ble_eq_true rfl⟩ ⟨Nat.le_of_ble_eq_true rfl, Nat.le_of_ble_eq_true rfl⟩ ([]) ([]) (by simp only [List.append_nil, List.nil_append]) 0 hat_3 rfl rfl (Nat.le_of_ble_eq_true rfl) dL_change_2 (fun r W_1 hp => ?_)
  obtain ⟨rfl, hS_2⟩ := hp
  refine zk_ws (ws2 := W_1) (by simp only [List.append_nil, List.nil_append]) ?_
  refine zk_top (y := nI (S.1 4)) (tol_n _ (by omega)) ?_
  refine zk_istore_n hc (lv2 := [(3, .int (nI (S.1 4))), (0, .ref b), (1, .int v), (2, .int w)]) dL_change_5 (by decide) rfl ?_
  refine zk_iload_n hc dL_change_6 2 rfl ?_
  refine zk_iconst hc (nI 5) dL_change_7 rfl ?_
  refine zk_ishr hc dL_change_8 ?_
  refine zk_iload_n hc dL_change_9 0 rfl ?_
  refine zk_callSi hc (rest := []) (ct_L_low g l (v >>> ((nI 5) &&& 31)) (S.1 4) (by omega) (by omega)) gg_L_15 cd_L_low ⟨Nat.le_of_ble_eq_true rfl, Nat.le_of_ble_eq_true rfl⟩ ⟨Nat.le_of_ble_eq_true rfl, Nat.le_of_ble_eq_true rfl⟩ ([]) W_1 (by simp only [List.append_nil, List.nil_append]) rfl (Nat.le_of_ble_eq_true rfl) dL_change_10 (fun r WL_4 hp => ?_)
  obtain ⟨rfl, rfl⟩ := hp
  refine zk_ws (ws2 := W_1) (by simp only [List.append_nil, List.nil_append]) ?_
  have hlow_5 := lowN_lt (v >>> ((nI 5) &&& 31)) (n := (S.1 4)) (by omega)
  refine zk_istore hc (lv2 := [(4, .int (nI (lowN (v >>> ((nI 5) &&& 31)) (S.1 4)))), (3, .int (nI (S.1 4))), (0, .ref b), (1, .int v), (2, .int w)]) dL_change_13 (by decide) rfl ?_
  refine zk_iload_n hc dL_change_15 3 rfl ?_
  refine zk_bipush hc (nI 22) dL_change_16 rfl ?_
  refine zk_callSi hc (rest := []) (ct_L_low g l v 22 (by omega) (by omega)) gg_L_15 cd_L_low ⟨Nat.le_of_ble_eq_true rfl, Nat.le_of_ble_eq_true rfl⟩ ⟨Nat.le_of_ble_eq_true rfl, Nat.le_of_ble_eq_true rfl⟩ ([]) W_1 (by simp only [List.append_nil, List.nil_append]) rfl (Nat.le_of_ble_eq_true rfl) dL_change_18 (fun r WL_6 hp => ?_)
  obtain ⟨rfl, rfl⟩ := hp
  refine zk_ws (ws2 := W_1) (by simp only [List.append_nil, List.nil_append]) ?_
  have hlow_7 := lowN_lt v (n := 22) (by omega)
  obtain ⟨kk, hkk⟩ : ∃ kk, lowN v 22 = kk := ⟨_, rfl⟩
  refine zk_top (y := nI kk) (congrArg nI hkk) ?_
  rcases (show kk = 0 ∨ kk = 1 ∨ kk = 2 ∨ kk = 3 ∨ kk = 4 ∨ kk = 5 ∨ kk = 6 ∨ kk = 7 ∨ kk = 8 ∨ kk = 9 ∨ kk = 10 ∨ kk = 11 ∨ kk = 12 ∨ kk = 13 ∨ kk = 14 ∨ kk = 15 ∨ kk = 17 ∨ kk = 18 ∨ kk = 19 ∨ kk = 20 ∨ kk = 21 by omega) with rfl | rfl | rfl | rfl | rfl | rfl | rfl | rfl | rfl | rfl | rfl | rfl | rfl | rfl | rfl | rfl | rfl | rfl | rfl | rfl | rfl
  · refine zk_tableIn hc 108 dL_change_21 (by decide) (by decide) rfl (by decide) ?_
    refine zk_iload_n hc dL_change_108 4 rfl ?_
    refine zk_bipush hc (nI 6) dL_change_109 rfl ?_
    refine zk_callSi hc (rest := []) (ct_L_low g l w 6 (by omega) (by omega)) gg_L_15 cd_L_low ⟨Nat.le_of_ble_eq_true rfl, Nat.le_of_ble_eq_true rfl⟩ ⟨Nat.le_of_ble_eq_true rfl, Nat.le_of_ble_eq_true rfl⟩ ([]) W_1 (by simp only [List.append_nil, List.nil_append]) rfl (Nat.le_of_ble_eq_true rfl) dL_change_111 (fun r WL_8 hp => ?_)
    obtain ⟨rfl, rfl⟩ := hp
    refine zk_ws (ws2 := W_1) (by simp only [List.append_nil, List.nil_append]) ?_
    have hlow_9 := lowN_lt w (n := 6) (by omega)
    refine zk_if_neN hc 143 dL_change_114 (by decide) (by omega) (fun h114 => ?_) (fun h114 => ?_)
    · refine zk_aload_n hc dL_change_143 2 rfl ?_
      refine zk_iconst hc (nI 0) dL_change_144 rfl ?_
      refine zk_iload_n hc dL_change_145 4 rfl ?_
      refine zk_iconst hc (nI 4) dL_change_146 rfl ?_
      refine zk_callSi hc (rest := [.int (nI 0), .ref b]) (ct_L_low g l w 4 (by omega) (by omega)) gg_L_15 cd_L_low ⟨Nat.le_of_ble_eq_true rfl, Nat.le_of_ble_eq_true rfl⟩ ⟨Nat.le_of_ble_eq_true rfl, Nat.le_of_ble_eq_true rfl⟩ ([]) W_1 (by simp only [List.append_nil, List.nil_append]) rfl (Nat.le_of_ble_eq_true rfl) dL_change_147 (fun r WL_10 hp => ?_)
      obtain ⟨rfl, rfl⟩ := hp
      refine zk_ws (ws2 := W_1) (by simp only [List.append_nil, List.nil_append]) ?_
      have hlow_11 := lowN_lt w (n := 4) (by omega)
      obtain ⟨hat_14_f, hat_14⟩ := cs_at hS_2
      refine zk_callVi hc (rest := []) (kx_set g l b S W_1 cN (by omega) hI hS_2 (nI 0) (nI (lowN w 4))) gg_L_37 cd_X6_set ⟨Nat.le_of_ble_eq_true rfl, Nat.le_of_ble_eq_true rfl⟩ ⟨Nat.le_of_ble_eq_true rfl, Nat.le_of_ble_eq_true rfl⟩ ([]) ([]) (by simp only [List.append_nil, List.nil_append]) 0 hat_14 rfl rfl (Nat.le_of_ble_eq_true rfl) dL_change_150 (fun r W_12 hp => ?_)
      obtain ⟨rfl, hS_13⟩ := hp
      refine zk_ws (ws2 := W_12) (by simp only [List.append_nil, List.nil_append]) ?_
      refine fin 7 72 _ _ _ _ (by decide) (by decide) dL_change_153 (?_)
      have hch : chO (S.1 4) v w = (1, nI 0, nI (lowN w 4), nI 0, []) := by unfold chO; rw [hkk]; exact if_neg h114
      rw [hch]
      exact ⟨rfl, hS_13⟩
    · refine zk_aload_n hc dL_change_117 2 rfl ?_
      refine zk_iconst hc (nI 2) dL_change_118 rfl ?_
      refine zk_iload_n hc dL_change_119 4 rfl ?_
      refine zk_iconst hc (nI 3) dL_change_120 rfl ?_
      refine zk_ishr hc dL_change_121 ?_
      refine zk_iconst hc (nI 3) dL_change_122 rfl ?_
      refine zk_callSi hc (rest := [.int (nI 2), .ref b]) (ct_L_low g l (w >>> ((nI 3) &&& 31)) 3 (by omega) (by omega)) gg_L_15 cd_L_low ⟨Nat.le_of_ble_eq_true rfl, Nat.le_of_ble_eq_true rfl⟩ ⟨Nat.le_of_ble_eq_true rfl, Nat.le_of_ble_eq_true rfl⟩ ([]) W_1 (by simp only [List.append_nil, List.nil_append]) rfl (Nat.le_of_ble_eq_true rfl) dL_change_123 (fun r WL_15 hp => ?_)
      obtain ⟨rfl, rfl⟩ := hp
      refine zk_ws (ws2 := W_1) (by simp only [List.append_nil, List.nil_append]) ?_
      have hlow_16 := lowN_lt (w >>> ((nI 3) &&& 31)) (n := 3) (by omega)
      refine zk_iaddN hc dL_change_126 ?_
      refine zk_iconst hc (nI 1) dL_change_127 rfl ?_
      refine zk_iload_n hc dL_change_128 4 rfl ?_
      refine zk_iconst hc (nI 5) dL_change_129 rfl ?_
      refine zk_ishr hc dL_change_130 ?_
      refine zk_bipush hc (nI 8) dL_change_131 rfl ?_
      refine zk_callSi hc (rest := [.int (nI 1), .int (nI (2 + (lowN (w >>> ((nI 3) &&& 31)) 3))), .ref b]) (ct_L_low g l (w >>> ((nI 5) &&& 31)) 8 (by omega) (by omega)) gg_L_15 cd_L_low ⟨Nat.le_of_ble_eq_true rfl, Nat.le_of_ble_eq_true rfl⟩ ⟨Nat.le_of_ble_eq_true rfl, Nat.le_of_ble_eq_true rfl⟩ ([]) W_1 (by simp only [List.append_nil, List.nil_append]) rfl (Nat.le_of_ble_eq_true rfl) dL_change_133 (fun r WL_17 hp => ?_)
      obtain ⟨rfl, rfl⟩ := hp
      refine zk_ws (ws2 := W_1) (by simp only [List.append_nil, List.nil_append]) ?_
      have hlow_18 := lowN_lt (w >>> ((nI 5) &&& 31)) (n := 8) (by omega)
      refine zk_iaddN hc dL_change_136 ?_
      obtain ⟨hat_21_f, hat_21⟩ := cs_at hS_2
      refine zk_callVi hc (rest := []) (kx_begin g l b S W_1 cN (by omega) hI hS_2 (nI (2 + (lowN (w >>> ((nI 3) &&& 31)) 3))) (nI (1 + (lowN (w >>> ((nI 5) &&& 31)) 8)))) gg_L_34 cd_X6_begin ⟨Nat.le_of_ble_eq_true rfl, Nat.le_of_ble_eq_true rfl⟩ ⟨Nat.le_of_ble_eq_true rfl, Nat.le_of_ble_eq_true rfl⟩ ([]) ([]) (by simp only [List.append_nil, List.nil_append]) 0 hat_21 rfl rfl (Nat.le_of_ble_eq_true rfl) dL_change_137 (fun r W_19 hp => ?_)
      obtain ⟨rfl, hS_20⟩ := hp
      refine zk_ws (ws2 := W_19) (by simp only [List.append_nil, List.nil_append]) ?_
      refine zk_goto hc 153 dL_change_140 (by decide) ?_
      refine fin 7 72 _ _ _ _ (by decide) (by decide) dL_change_153 (?_)
      have hch : chO (S.1 4) v w = (0, nI (2 + lowN (w >>> (nI 3 &&& 31)) 3), nI (1 + lowN (w >>> (nI 5 &&& 31)) 8), nI 0, []) := by unfold chO; rw [hkk]; exact if_pos h114
      rw [hch]
      exact ⟨rfl, hS_20⟩
  · refine zk_tableIn hc 154 dL_change_21 (by decide) (by decide) rfl (by decide) ?_
    refine zk_iload_n hc dL_change_154 4 rfl ?_
    refine zk_iconst hc (nI 2) dL_change_155 rfl ?_
    refine zk_callSi hc (rest := []) (ct_L_low g l w 2 (by omega) (by omega)) gg_L_15 cd_L_low ⟨Nat.le_of_ble_eq_true rfl, Nat.le_of_ble_eq_true rfl⟩ ⟨Nat.le_of_ble_eq_true rfl, Nat.le_of_ble_eq_true rfl⟩ ([]) W_1 (by simp only [List.append_nil, List.nil_append]) rfl (Nat.le_of_ble_eq_true rfl) dL_change_156 (fun r WL_22 hp => ?_)
    obtain ⟨rfl, rfl⟩ := hp
    refine zk_ws (ws2 := W_1) (by simp only [List.append_nil, List.nil_append]) ?_
    have hlow_23 := lowN_lt w (n := 2) (by omega)
    refine zk_if_neN hc 182 dL_change_159 (by decide) (by omega) (fun h159 => ?_) (fun h159 => ?_)
    · refine zk_aload_n hc dL_change_182 2 rfl ?_
      refine zk_iconst hc (nI 2) dL_change_183 rfl ?_
      refine zk_iconst hc (nI 1) dL_change_184 rfl ?_
      refine zk_iload_n hc dL_change_185 4 rfl ?_
      refine zk_iconst hc (nI 1) dL_change_186 rfl ?_
      refine zk_ishr hc dL_change_187 ?_
      refine zk_bipush hc (nI 20) dL_change_188 rfl ?_
      refine zk_callSi hc (rest := [.int (nI 1), .int (nI 2), .ref b]) (ct_L_low g l (w >>> ((nI 1) &&& 31)) 20 (by omega) (by omega)) gg_L_15 cd_L_low ⟨Nat.le_of_ble_eq_true rfl, Nat.le_of_ble_eq_true rfl⟩ ⟨Nat.le_of_ble_eq_true rfl, Nat.le_of_ble_eq_true rfl⟩ ([]) W_1 (by simp only [List.append_nil, List.nil_append]) rfl (Nat.le_of_ble_eq_true rfl) dL_change_190 (fun r WL_24 hp => ?_)
      obtain ⟨rfl, rfl⟩ := hp
      refine zk_ws (ws2 := W_1) (by simp only [List.append_nil, List.nil_append]) ?_
      have hlow_25 := lowN_lt (w >>> ((nI 1) &&& 31)) (n := 20) (by omega)
      refine zk_iaddN hc dL_change_193 ?_
      obtain ⟨hat_28_f, hat_28⟩ := cs_at hS_2
      refine zk_callVi hc (rest := []) (kx_set g l b S W_1 cN (by omega) hI hS_2 (nI 2) (nI (1 + (lowN (w >>> ((nI 1) &&& 31)) 20)))) gg_L_37 cd_X6_set ⟨Nat.le_of_ble_eq_true rfl, Nat.le_of_ble_eq_true rfl⟩ ⟨Nat.le_of_ble_eq_true rfl, Nat.le_of_ble_eq_true rfl⟩ ([]) ([]) (by simp only [List.append_nil, List.nil_append]) 0 hat_28 rfl rfl (Nat.le_of_ble_eq_true rfl) dL_change_194 (fun r W_26 hp => ?_)
      obtain ⟨rfl, hS_27⟩ := hp
      refine zk_ws (ws2 := W_26) (by simp only [List.append_nil, List.nil_append]) ?_
      refine fin 7 72 _ _ _ _ (by decide) (by decide) dL_change_197 (?_)
      have hch : chO (S.1 4) v w = (1, nI 2, nI (1 + lowN (w >>> (nI 1 &&& 31)) 20), nI 0, []) := by unfold chO; rw [hkk]; exact if_neg h159
      rw [hch]
      exact ⟨rfl, hS_27⟩
    · refine zk_aload_n hc dL_change_162 2 rfl ?_
      refine zk_iconst hc (nI 1) dL_change_163 rfl ?_
      refine zk_bipush hc (nI 10) dL_change_164 rfl ?_
      refine zk_iload_n hc dL_change_166 4 rfl ?_
      refine zk_iconst hc (nI 1) dL_change_167 rfl ?_
      refine zk_ishr hc dL_change_168 ?_
      refine zk_sipush hc (nI 591) dL_change_169 rfl ?_
      refine zk_callSi hc (rest := [.int (nI 10), .int (nI 1), .ref b]) (ct_L_low g l (w >>> ((nI 1) &&& 31)) 591 (by omega) (by omega)) gg_L_15 cd_L_low ⟨Nat.le_of_ble_eq_true rfl, Nat.le_of_ble_eq_true rfl⟩ ⟨Nat.le_of_ble_eq_true rfl, Nat.le_of_ble_eq_true rfl⟩ ([]) W_1 (by simp only [List.append_nil, List.nil_append]) rfl (Nat.le_of_ble_eq_true rfl) dL_change_172 (fun r WL_29 hp => ?_)
      obtain ⟨rfl, rfl⟩ := hp
      refine zk_ws (ws2 := W_1) (by simp only [List.append_nil, List.nil_append]) ?_
      have hlow_30 := lowN_lt (w >>> ((nI 1) &&& 31)) (n := 591) (by omega)
      refine zk_iaddN hc dL_change_175 ?_
      obtain ⟨hat_33_f, hat_33⟩ := cs_at hS_2
      refine zk_callVi hc (rest := []) (kx_set g l b S W_1 cN (by omega) hI hS_2 (nI 1) (nI (10 + (lowN (w >>> ((nI 1) &&& 31)) 591)))) gg_L_37 cd_X6_set ⟨Nat.le_of_ble_eq_true rfl, Nat.le_of_ble_eq_true rfl⟩ ⟨Nat.le_of_ble_eq_true rfl, Nat.le_of_ble_eq_true rfl⟩ ([]) ([]) (by simp only [List.append_nil, List.nil_append]) 0 hat_33 rfl rfl (Nat.le_of_ble_eq_true rfl) dL_change_176 (fun r W_31 hp => ?_)
      obtain ⟨rfl, hS_32⟩ := hp
      refine zk_ws (ws2 := W_31) (by simp only [List.append_nil, List.nil_append]) ?_
      refine zk_goto hc 197 dL_change_179 (by decide) ?_
      refine fin 7 72 _ _ _ _ (by decide) (by decide) dL_change_197 (?_)
      have hch : chO (S.1 4) v w = (1, nI 1, nI (10 + lowN (w >>> (nI 1 &&& 31)) 591), nI 0, []) := by unfold chO; rw [hkk]; exact if_pos h159
      rw [hch]
      exact ⟨rfl, hS_32⟩
  · refine zk_tableIn hc 198 dL_change_21 (by decide) (by decide) rfl (by decide) ?_
    refine zk_aload_n hc dL_change_198 2 rfl ?_
    refine zk_iconst hc (nI 3) dL_change_199 rfl ?_
    refine zk_iload_n hc dL_change_200 4 rfl ?_
    refine zk_bipush hc (nI 31) dL_change_201 rfl ?_
    refine zk_callSi hc (rest := [.int (nI 3), .ref b]) (ct_L_low g l w 31 (by omega) (by omega)) gg_L_15 cd_L_low ⟨Nat.le_of_ble_eq_true rfl, Nat.le_of_ble_eq_true rfl⟩ ⟨Nat.le_of_ble_eq_true rfl, Nat.le_of_ble_eq_true rfl⟩ ([]) W_1 (by simp only [List.append_nil, List.nil_append]) rfl (Nat.le_of_ble_eq_true rfl) dL_change_203 (fun r WL_34 hp => ?_)
    obtain ⟨rfl, rfl⟩ := hp
    refine zk_ws (ws2 := W_1) (by simp only [List.append_nil, List.nil_append]) ?_
    have hlow_35 := lowN_lt w (n := 31) (by omega)
    obtain ⟨hat_38_f, hat_38⟩ := cs_at hS_2
    refine zk_callVi hc (rest := []) (kx_set g l b S W_1 cN (by omega) hI hS_2 (nI 3) (nI (lowN w 31))) gg_L_37 cd_X6_set ⟨Nat.le_of_ble_eq_true rfl, Nat.le_of_ble_eq_true rfl⟩ ⟨Nat.le_of_ble_eq_true rfl, Nat.le_of_ble_eq_true rfl⟩ ([]) ([]) (by simp only [List.append_nil, List.nil_append]) 0 hat_38 rfl rfl (Nat.le_of_ble_eq_true rfl) dL_change_206 (fun r W_36 hp => ?_)
    obtain ⟨rfl, hS_37⟩ := hp
    refine zk_ws (ws2 := W_36) (by simp only [List.append_nil, List.nil_append]) ?_
    refine fin 7 72 _ _ _ _ (by decide) (by decide) dL_change_209 (?_)
    have hch : chO (S.1 4) v w = (1, nI 3, nI (lowN w 31), nI 0, []) := by unfold chO; rw [hkk]; rfl
    rw [hch]
    exact ⟨rfl, hS_37⟩
  · refine zk_tableIn hc 210 dL_change_21 (by decide) (by decide) rfl (by decide) ?_
    refine zk_aload_n hc dL_change_210 2 rfl ?_
    refine zk_iload_n hc dL_change_211 4 rfl ?_
    refine zk_callSi hc (rest := []) (ct_L_list g l b cN S W_1 (by omega) hI hS_2 w) gg_L_40 cd_L_list ⟨Nat.le_of_ble_eq_true rfl, Nat.le_of_ble_eq_true rfl⟩ ⟨Nat.le_of_ble_eq_true rfl, Nat.le_of_ble_eq_true rfl⟩ ([]) ([]) (by simp only [List.append_nil, List.nil_append]) rfl (Nat.le_of_ble_eq_true rfl) dL_change_212 (fun r W_39 hp => ?_)
    obtain ⟨rfl, hS_40⟩ := hp
    refine zk_ws (ws2 := W_39) (by simp only [List.append_nil, List.nil_append]) ?_
    refine fin 7 72 _ _ _ _ (by decide) (by decide) dL_change_215 (?_)
    have hch : chO (S.1 4) v w = lisO w := by unfold chO; rw [hkk]; rfl
    rw [hch]
    exact ⟨rfl, hS_40⟩
  · refine zk_tableIn hc 210 dL_change_21 (by decide) (by decide) rfl (by decide) ?_
    refine zk_aload_n hc dL_change_210 2 rfl ?_
    refine zk_iload_n hc dL_change_211 4 rfl ?_
    refine zk_callSi hc (rest := []) (ct_L_list g l b cN S W_1 (by omega) hI hS_2 w) gg_L_40 cd_L_list ⟨Nat.le_of_ble_eq_true rfl, Nat.le_of_ble_eq_true rfl⟩ ⟨Nat.le_of_ble_eq_true rfl, Nat.le_of_ble_eq_true rfl⟩ ([]) ([]) (by simp only [List.append_nil, List.nil_append]) rfl (Nat.le_of_ble_eq_true rfl) dL_change_212 (fun r W_41 hp => ?_)
    obtain ⟨rfl, hS_42⟩ := hp
    refine zk_ws (ws2 := W_41) (by simp only [List.append_nil, List.nil_append]) ?_
    refine fin 7 72 _ _ _ _ (by decide) (by decide) dL_change_215 (?_)
    have hch : chO (S.1 4) v w = lisO w := by unfold chO; rw [hkk]; rfl
    rw [hch]
    exact ⟨rfl, hS_42⟩
  · refine zk_tableIn hc 216 dL_change_21 (by decide) (by decide) rfl (by decide) ?_
    refine zk_aload_n hc dL_change_216 2 rfl ?_
    refine zk_iload_n hc dL_change_217 4 rfl ?_
    refine zk_iload_n hc dL_change_218 3 rfl ?_
    refine zk_callSi hc (rest := []) (ct_L_arrive g l b cN S W_1 (by omega) hI hS_2 w v) gg_L_43 cd_L_arrive ⟨Nat.le_of_ble_eq_true rfl, Nat.le_of_ble_eq_true rfl⟩ ⟨Nat.le_of_ble_eq_true rfl, Nat.le_of_ble_eq_true rfl⟩ ([]) ([]) (by simp only [List.append_nil, List.nil_append]) rfl (Nat.le_of_ble_eq_true rfl) dL_change_219 (fun r W_43 hp => ?_)
    obtain ⟨rfl, hS_44⟩ := hp
    refine zk_ws (ws2 := W_43) (by simp only [List.append_nil, List.nil_append]) ?_
    refine fin 7 72 _ _ _ _ (by decide) (by decide) dL_change_222 (?_)
    have hch : chO (S.1 4) v w = arrO (S.1 4) w v := by unfold chO; rw [hkk]; rfl
    rw [hch]
    exact ⟨rfl, hS_44⟩
  · refine zk_tableIn hc 216 dL_change_21 (by decide) (by decide) rfl (by decide) ?_
    refine zk_aload_n hc dL_change_216 2 rfl ?_
    refine zk_iload_n hc dL_change_217 4 rfl ?_
    refine zk_iload_n hc dL_change_218 3 rfl ?_
    refine zk_callSi hc (rest := []) (ct_L_arrive g l b cN S W_1 (by omega) hI hS_2 w v) gg_L_43 cd_L_arrive ⟨Nat.le_of_ble_eq_true rfl, Nat.le_of_ble_eq_true rfl⟩ ⟨Nat.le_of_ble_eq_true rfl, Nat.le_of_ble_eq_true rfl⟩ ([]) ([]) (by simp only [List.append_nil, List.nil_append]) rfl (Nat.le_of_ble_eq_true rfl) dL_change_219 (fun r W_45 hp => ?_)
    obtain ⟨rfl, hS_46⟩ := hp
    refine zk_ws (ws2 := W_45) (by simp only [List.append_nil, List.nil_append]) ?_
    refine fin 7 72 _ _ _ _ (by decide) (by decide) dL_change_222 (?_)
    have hch : chO (S.1 4) v w = arrO (S.1 4) w v := by unfold chO; rw [hkk]; rfl
    rw [hch]
    exact ⟨rfl, hS_46⟩
  · refine zk_tableIn hc 216 dL_change_21 (by decide) (by decide) rfl (by decide) ?_
    refine zk_aload_n hc dL_change_216 2 rfl ?_
    refine zk_iload_n hc dL_change_217 4 rfl ?_
    refine zk_iload_n hc dL_change_218 3 rfl ?_
    refine zk_callSi hc (rest := []) (ct_L_arrive g l b cN S W_1 (by omega) hI hS_2 w v) gg_L_43 cd_L_arrive ⟨Nat.le_of_ble_eq_true rfl, Nat.le_of_ble_eq_true rfl⟩ ⟨Nat.le_of_ble_eq_true rfl, Nat.le_of_ble_eq_true rfl⟩ ([]) ([]) (by simp only [List.append_nil, List.nil_append]) rfl (Nat.le_of_ble_eq_true rfl) dL_change_219 (fun r W_47 hp => ?_)
    obtain ⟨rfl, hS_48⟩ := hp
    refine zk_ws (ws2 := W_47) (by simp only [List.append_nil, List.nil_append]) ?_
    refine fin 7 72 _ _ _ _ (by decide) (by decide) dL_change_222 (?_)
    have hch : chO (S.1 4) v w = arrO (S.1 4) w v := by unfold chO; rw [hkk]; rfl
    rw [hch]
    exact ⟨rfl, hS_48⟩
  · refine zk_tableIn hc 216 dL_change_21 (by decide) (by decide) rfl (by decide) ?_
    refine zk_aload_n hc dL_change_216 2 rfl ?_
    refine zk_iload_n hc dL_change_217 4 rfl ?_
    refine zk_iload_n hc dL_change_218 3 rfl ?_
    refine zk_callSi hc (rest := []) (ct_L_arrive g l b cN S W_1 (by omega) hI hS_2 w v) gg_L_43 cd_L_arrive ⟨Nat.le_of_ble_eq_true rfl, Nat.le_of_ble_eq_true rfl⟩ ⟨Nat.le_of_ble_eq_true rfl, Nat.le_of_ble_eq_true rfl⟩ ([]) ([]) (by simp only [List.append_nil, List.nil_append]) rfl (Nat.le_of_ble_eq_true rfl) dL_change_219 (fun r W_49 hp => ?_)
    obtain ⟨rfl, hS_50⟩ := hp
    refine zk_ws (ws2 := W_49) (by simp only [List.append_nil, List.nil_append]) ?_
    refine fin 7 72 _ _ _ _ (by decide) (by decide) dL_change_222 (?_)
    have hch : chO (S.1 4) v w = arrO (S.1 4) w v := by unfold chO; rw [hkk]; rfl
    rw [hch]
    exact ⟨rfl, hS_50⟩
  · refine zk_tableIn hc 223 dL_change_21 (by decide) (by decide) rfl (by decide) ?_
    refine zk_aload_n hc dL_change_223 2 rfl ?_
    refine zk_iload hc dL_change_224 0 rfl ?_
    obtain ⟨hat_53_f, hat_53⟩ := cs_at hS_2
    refine zk_callVi hc (rest := []) (kx_test g l b S W_1 cN (by omega) hI hS_2 (nI (lowN (v >>> ((nI 5) &&& 31)) (S.1 4)))) gg_L_46 cd_X6_test ⟨Nat.le_of_ble_eq_true rfl, Nat.le_of_ble_eq_true rfl⟩ ⟨Nat.le_of_ble_eq_true rfl, Nat.le_of_ble_eq_true rfl⟩ ([]) ([]) (by simp only [List.append_nil, List.nil_append]) 0 hat_53 rfl rfl (Nat.le_of_ble_eq_true rfl) dL_change_226 (fun r W_51 hp => ?_)
    obtain ⟨rfl, hS_52⟩ := hp
    refine zk_ws (ws2 := W_51) (by simp only [List.append_nil, List.nil_append]) ?_
    refine fin 7 72 _ _ _ _ (by decide) (by decide) dL_change_229 (?_)
    have hch : chO (S.1 4) v w = (4, nI (lowN (v >>> (nI 5 &&& 31)) (S.1 4)), nI 0, nI 0, []) := by unfold chO; rw [hkk]; rfl
    rw [hch]
    exact ⟨rfl, hS_52⟩
  · refine zk_tableIn hc 223 dL_change_21 (by decide) (by decide) rfl (by decide) ?_
    refine zk_aload_n hc dL_change_223 2 rfl ?_
    refine zk_iload hc dL_change_224 0 rfl ?_
    obtain ⟨hat_56_f, hat_56⟩ := cs_at hS_2
    refine zk_callVi hc (rest := []) (kx_test g l b S W_1 cN (by omega) hI hS_2 (nI (lowN (v >>> ((nI 5) &&& 31)) (S.1 4)))) gg_L_46 cd_X6_test ⟨Nat.le_of_ble_eq_true rfl, Nat.le_of_ble_eq_true rfl⟩ ⟨Nat.le_of_ble_eq_true rfl, Nat.le_of_ble_eq_true rfl⟩ ([]) ([]) (by simp only [List.append_nil, List.nil_append]) 0 hat_56 rfl rfl (Nat.le_of_ble_eq_true rfl) dL_change_226 (fun r W_54 hp => ?_)
    obtain ⟨rfl, hS_55⟩ := hp
    refine zk_ws (ws2 := W_54) (by simp only [List.append_nil, List.nil_append]) ?_
    refine fin 7 72 _ _ _ _ (by decide) (by decide) dL_change_229 (?_)
    have hch : chO (S.1 4) v w = (4, nI (lowN (v >>> (nI 5 &&& 31)) (S.1 4)), nI 0, nI 0, []) := by unfold chO; rw [hkk]; rfl
    rw [hch]
    exact ⟨rfl, hS_55⟩
  · refine zk_tableIn hc 230 dL_change_21 (by decide) (by decide) rfl (by decide) ?_
    refine zk_aload_n hc dL_change_230 2 rfl ?_
    refine zk_iconst hc (nI 1) dL_change_231 rfl ?_
    refine zk_iload_n hc dL_change_232 4 rfl ?_
    refine zk_sipush hc (nI 200) dL_change_233 rfl ?_
    refine zk_callSi hc (rest := [.int (nI 1), .ref b]) (ct_L_low g l w 200 (by omega) (by omega)) gg_L_15 cd_L_low ⟨Nat.le_of_ble_eq_true rfl, Nat.le_of_ble_eq_true rfl⟩ ⟨Nat.le_of_ble_eq_true rfl, Nat.le_of_ble_eq_true rfl⟩ ([]) W_1 (by simp only [List.append_nil, List.nil_append]) rfl (Nat.le_of_ble_eq_true rfl) dL_change_236 (fun r WL_57 hp => ?_)
    obtain ⟨rfl, rfl⟩ := hp
    refine zk_ws (ws2 := W_1) (by simp only [List.append_nil, List.nil_append]) ?_
    have hlow_58 := lowN_lt w (n := 200) (by omega)
    refine zk_iaddN hc dL_change_239 ?_
    obtain ⟨hat_61_f, hat_61⟩ := cs_at hS_2
    refine zk_callVi hc (rest := []) (kx_pause g l b S W_1 cN (by omega) hI hS_2 (nI (1 + (lowN w 200)))) gg_L_49 cd_X6_pause ⟨Nat.le_of_ble_eq_true rfl, Nat.le_of_ble_eq_true rfl⟩ ⟨Nat.le_of_ble_eq_true rfl, Nat.le_of_ble_eq_true rfl⟩ ([]) ([]) (by simp only [List.append_nil, List.nil_append]) 0 hat_61 rfl rfl (Nat.le_of_ble_eq_true rfl) dL_change_240 (fun r W_59 hp => ?_)
    obtain ⟨rfl, hS_60⟩ := hp
    refine zk_ws (ws2 := W_59) (by simp only [List.append_nil, List.nil_append]) ?_
    refine fin 7 72 _ _ _ _ (by decide) (by decide) dL_change_243 (?_)
    have hch : chO (S.1 4) v w = (5, nI (1 + lowN w 200), nI 0, nI 0, []) := by unfold chO; rw [hkk]; rfl
    rw [hch]
    exact ⟨rfl, hS_60⟩
  · refine zk_tableIn hc 244 dL_change_21 (by decide) (by decide) rfl (by decide) ?_
    refine zk_aload_n hc dL_change_244 2 rfl ?_
    refine zk_iload hc dL_change_245 0 rfl ?_
    obtain ⟨hat_64_f, hat_64⟩ := cs_at hS_2
    refine zk_callVi hc (rest := []) (kx_depart g l b S W_1 cN (by omega) hI hS_2 (nI (lowN (v >>> ((nI 5) &&& 31)) (S.1 4)))) gg_L_52 cd_X6_depart ⟨Nat.le_of_ble_eq_true rfl, Nat.le_of_ble_eq_true rfl⟩ ⟨Nat.le_of_ble_eq_true rfl, Nat.le_of_ble_eq_true rfl⟩ ([]) ([]) (by simp only [List.append_nil, List.nil_append]) 0 hat_64 rfl rfl (Nat.le_of_ble_eq_true rfl) dL_change_247 (fun r W_62 hp => ?_)
    obtain ⟨rfl, hS_63⟩ := hp
    refine zk_ws (ws2 := W_62) (by simp only [List.append_nil, List.nil_append]) ?_
    refine fin 7 72 _ _ _ _ (by decide) (by decide) dL_change_250 (?_)
    have hch : chO (S.1 4) v w = (6, nI (lowN (v >>> (nI 5 &&& 31)) (S.1 4)), nI 0, nI 0, []) := by unfold chO; rw [hkk]; rfl
    rw [hch]
    exact ⟨rfl, hS_63⟩
  · refine zk_tableIn hc 244 dL_change_21 (by decide) (by decide) rfl (by decide) ?_
    refine zk_aload_n hc dL_change_244 2 rfl ?_
    refine zk_iload hc dL_change_245 0 rfl ?_
    obtain ⟨hat_67_f, hat_67⟩ := cs_at hS_2
    refine zk_callVi hc (rest := []) (kx_depart g l b S W_1 cN (by omega) hI hS_2 (nI (lowN (v >>> ((nI 5) &&& 31)) (S.1 4)))) gg_L_52 cd_X6_depart ⟨Nat.le_of_ble_eq_true rfl, Nat.le_of_ble_eq_true rfl⟩ ⟨Nat.le_of_ble_eq_true rfl, Nat.le_of_ble_eq_true rfl⟩ ([]) ([]) (by simp only [List.append_nil, List.nil_append]) 0 hat_67 rfl rfl (Nat.le_of_ble_eq_true rfl) dL_change_247 (fun r W_65 hp => ?_)
    obtain ⟨rfl, hS_66⟩ := hp
    refine zk_ws (ws2 := W_65) (by simp only [List.append_nil, List.nil_append]) ?_
    refine fin 7 72 _ _ _ _ (by decide) (by decide) dL_change_250 (?_)
    have hch : chO (S.1 4) v w = (6, nI (lowN (v >>> (nI 5 &&& 31)) (S.1 4)), nI 0, nI 0, []) := by unfold chO; rw [hkk]; rfl
    rw [hch]
    exact ⟨rfl, hS_66⟩
  · refine zk_tableIn hc 251 dL_change_21 (by decide) (by decide) rfl (by decide) ?_
    refine zk_aload_n hc dL_change_251 2 rfl ?_
    refine zk_iload_n hc dL_change_252 4 rfl ?_
    refine zk_iconst hc (nI 3) dL_change_253 rfl ?_
    refine zk_callSi hc (rest := [.ref b]) (ct_L_low g l w 3 (by omega) (by omega)) gg_L_15 cd_L_low ⟨Nat.le_of_ble_eq_true rfl, Nat.le_of_ble_eq_true rfl⟩ ⟨Nat.le_of_ble_eq_true rfl, Nat.le_of_ble_eq_true rfl⟩ ([]) W_1 (by simp only [List.append_nil, List.nil_append]) rfl (Nat.le_of_ble_eq_true rfl) dL_change_254 (fun r WL_68 hp => ?_)
    obtain ⟨rfl, rfl⟩ := hp
    refine zk_ws (ws2 := W_1) (by simp only [List.append_nil, List.nil_append]) ?_
    have hlow_69 := lowN_lt w (n := 3) (by omega)
    obtain ⟨hat_72_f, hat_72⟩ := cs_at hS_2
    refine zk_callVi hc (rest := []) (kx_makeUp g l b S W_1 cN (by omega) hI hS_2 (nI (lowN w 3))) gg_L_55 cd_X6_makeUp ⟨Nat.le_of_ble_eq_true rfl, Nat.le_of_ble_eq_true rfl⟩ ⟨Nat.le_of_ble_eq_true rfl, Nat.le_of_ble_eq_true rfl⟩ ([]) ([]) (by simp only [List.append_nil, List.nil_append]) 0 hat_72 rfl rfl (Nat.le_of_ble_eq_true rfl) dL_change_257 (fun r W_70 hp => ?_)
    obtain ⟨rfl, hS_71⟩ := hp
    refine zk_ws (ws2 := W_70) (by simp only [List.append_nil, List.nil_append]) ?_
    refine fin 7 72 _ _ _ _ (by decide) (by decide) dL_change_260 (?_)
    have hch : chO (S.1 4) v w = (7, nI (lowN w 3), nI 0, nI 0, []) := by unfold chO; rw [hkk]; rfl
    rw [hch]
    exact ⟨rfl, hS_71⟩
  · refine zk_tableIn hc 251 dL_change_21 (by decide) (by decide) rfl (by decide) ?_
    refine zk_aload_n hc dL_change_251 2 rfl ?_
    refine zk_iload_n hc dL_change_252 4 rfl ?_
    refine zk_iconst hc (nI 3) dL_change_253 rfl ?_
    refine zk_callSi hc (rest := [.ref b]) (ct_L_low g l w 3 (by omega) (by omega)) gg_L_15 cd_L_low ⟨Nat.le_of_ble_eq_true rfl, Nat.le_of_ble_eq_true rfl⟩ ⟨Nat.le_of_ble_eq_true rfl, Nat.le_of_ble_eq_true rfl⟩ ([]) W_1 (by simp only [List.append_nil, List.nil_append]) rfl (Nat.le_of_ble_eq_true rfl) dL_change_254 (fun r WL_73 hp => ?_)
    obtain ⟨rfl, rfl⟩ := hp
    refine zk_ws (ws2 := W_1) (by simp only [List.append_nil, List.nil_append]) ?_
    have hlow_74 := lowN_lt w (n := 3) (by omega)
    obtain ⟨hat_77_f, hat_77⟩ := cs_at hS_2
    refine zk_callVi hc (rest := []) (kx_makeUp g l b S W_1 cN (by omega) hI hS_2 (nI (lowN w 3))) gg_L_55 cd_X6_makeUp ⟨Nat.le_of_ble_eq_true rfl, Nat.le_of_ble_eq_true rfl⟩ ⟨Nat.le_of_ble_eq_true rfl, Nat.le_of_ble_eq_true rfl⟩ ([]) ([]) (by simp only [List.append_nil, List.nil_append]) 0 hat_77 rfl rfl (Nat.le_of_ble_eq_true rfl) dL_change_257 (fun r W_75 hp => ?_)
    obtain ⟨rfl, hS_76⟩ := hp
    refine zk_ws (ws2 := W_75) (by simp only [List.append_nil, List.nil_append]) ?_
    refine fin 7 72 _ _ _ _ (by decide) (by decide) dL_change_260 (?_)
    have hch : chO (S.1 4) v w = (7, nI (lowN w 3), nI 0, nI 0, []) := by unfold chO; rw [hkk]; rfl
    rw [hch]
    exact ⟨rfl, hS_76⟩
  · refine zk_tableIn hc 266 dL_change_21 (by decide) (by decide) rfl (by decide) ?_
    refine zk_iload_n hc dL_change_266 4 rfl ?_
    refine zk_iconst hc (nI 2) dL_change_267 rfl ?_
    refine zk_callSi hc (rest := []) (ct_L_low g l w 2 (by omega) (by omega)) gg_L_15 cd_L_low ⟨Nat.le_of_ble_eq_true rfl, Nat.le_of_ble_eq_true rfl⟩ ⟨Nat.le_of_ble_eq_true rfl, Nat.le_of_ble_eq_true rfl⟩ ([]) W_1 (by simp only [List.append_nil, List.nil_append]) rfl (Nat.le_of_ble_eq_true rfl) dL_change_268 (fun r WL_78 hp => ?_)
    obtain ⟨rfl, rfl⟩ := hp
    refine zk_ws (ws2 := W_1) (by simp only [List.append_nil, List.nil_append]) ?_
    have hlow_79 := lowN_lt w (n := 2) (by omega)
    refine zk_if_neN hc 288 dL_change_271 (by decide) (by omega) (fun h271 => ?_) (fun h271 => ?_)
    · refine zk_aload_n hc dL_change_288 2 rfl ?_
      refine zk_iload_n hc dL_change_289 4 rfl ?_
      refine zk_iconst hc (nI 1) dL_change_290 rfl ?_
      refine zk_ishr hc dL_change_291 ?_
      refine zk_iconst hc (nI 2) dL_change_292 rfl ?_
      refine zk_callSi hc (rest := [.ref b]) (ct_L_low g l (w >>> ((nI 1) &&& 31)) 2 (by omega) (by omega)) gg_L_15 cd_L_low ⟨Nat.le_of_ble_eq_true rfl, Nat.le_of_ble_eq_true rfl⟩ ⟨Nat.le_of_ble_eq_true rfl, Nat.le_of_ble_eq_true rfl⟩ ([]) W_1 (by simp only [List.append_nil, List.nil_append]) rfl (Nat.le_of_ble_eq_true rfl) dL_change_293 (fun r WL_80 hp => ?_)
      obtain ⟨rfl, rfl⟩ := hp
      refine zk_ws (ws2 := W_1) (by simp only [List.append_nil, List.nil_append]) ?_
      have hlow_81 := lowN_lt (w >>> ((nI 1) &&& 31)) (n := 2) (by omega)
      obtain ⟨hat_84_f, hat_84⟩ := cs_at hS_2
      refine zk_callVi hc (rest := []) (kx_back g l b S W_1 cN (by omega) hI hS_2 (nI (lowN (w >>> ((nI 1) &&& 31)) 2))) gg_L_64 cd_X6_back ⟨Nat.le_of_ble_eq_true rfl, Nat.le_of_ble_eq_true rfl⟩ ⟨Nat.le_of_ble_eq_true rfl, Nat.le_of_ble_eq_true rfl⟩ ([]) ([]) (by simp only [List.append_nil, List.nil_append]) 0 hat_84 rfl rfl (Nat.le_of_ble_eq_true rfl) dL_change_296 (fun r W_82 hp => ?_)
      obtain ⟨rfl, hS_83⟩ := hp
      refine zk_ws (ws2 := W_82) (by simp only [List.append_nil, List.nil_append]) ?_
      refine fin 7 72 _ _ _ _ (by decide) (by decide) dL_change_299 (?_)
      have hch : chO (S.1 4) v w = (9, nI (lowN (w >>> (nI 1 &&& 31)) 2), nI 0, nI 0, []) := by unfold chO; rw [hkk]; exact if_neg h271
      rw [hch]
      exact ⟨rfl, hS_83⟩
    · refine zk_aload_n hc dL_change_274 2 rfl ?_
      refine zk_iload_n hc dL_change_275 4 rfl ?_
      refine zk_iconst hc (nI 1) dL_change_276 rfl ?_
      refine zk_ishr hc dL_change_277 ?_
      refine zk_iconst hc (nI 2) dL_change_278 rfl ?_
      refine zk_callSi hc (rest := [.ref b]) (ct_L_low g l (w >>> ((nI 1) &&& 31)) 2 (by omega) (by omega)) gg_L_15 cd_L_low ⟨Nat.le_of_ble_eq_true rfl, Nat.le_of_ble_eq_true rfl⟩ ⟨Nat.le_of_ble_eq_true rfl, Nat.le_of_ble_eq_true rfl⟩ ([]) W_1 (by simp only [List.append_nil, List.nil_append]) rfl (Nat.le_of_ble_eq_true rfl) dL_change_279 (fun r WL_85 hp => ?_)
      obtain ⟨rfl, rfl⟩ := hp
      refine zk_ws (ws2 := W_1) (by simp only [List.append_nil, List.nil_append]) ?_
      have hlow_86 := lowN_lt (w >>> ((nI 1) &&& 31)) (n := 2) (by omega)
      obtain ⟨hat_89_f, hat_89⟩ := cs_at hS_2
      refine zk_callVi hc (rest := []) (kx_keep g l b S W_1 cN (by omega) hI hS_2 (nI (lowN (w >>> ((nI 1) &&& 31)) 2))) gg_L_61 cd_X6_keep ⟨Nat.le_of_ble_eq_true rfl, Nat.le_of_ble_eq_true rfl⟩ ⟨Nat.le_of_ble_eq_true rfl, Nat.le_of_ble_eq_true rfl⟩ ([]) ([]) (by simp only [List.append_nil, List.nil_append]) 0 hat_89 rfl rfl (Nat.le_of_ble_eq_true rfl) dL_change_282 (fun r W_87 hp => ?_)
      obtain ⟨rfl, hS_88⟩ := hp
      refine zk_ws (ws2 := W_87) (by simp only [List.append_nil, List.nil_append]) ?_
      refine zk_goto hc 299 dL_change_285 (by decide) ?_
      refine fin 7 72 _ _ _ _ (by decide) (by decide) dL_change_299 (?_)
      have hch : chO (S.1 4) v w = (8, nI (lowN (w >>> (nI 1 &&& 31)) 2), nI 0, nI 0, []) := by unfold chO; rw [hkk]; exact if_pos h271
      rw [hch]
      exact ⟨rfl, hS_88⟩
  · refine zk_tableOut hc 300 dL_change_21 (Or.inr (by decide)) (by decide) ?_
    refine zk_aload_n hc dL_change_300 2 rfl ?_
    refine zk_iload hc dL_change_301 0 rfl ?_
    refine zk_iload hc dL_change_303 0 rfl ?_
    refine zk_iconst hc (nI 1) dL_change_305 rfl ?_
    refine zk_iaddN hc dL_change_306 ?_
    refine zk_iload_n hc dL_change_307 4 rfl ?_
    refine zk_iload_n hc dL_change_308 1 rfl ?_
    refine zk_iconst hc (nI 1) dL_change_309 rfl ?_
    refine zk_isubN hc dL_change_310 (by omega) ?_
    refine zk_callSi hc (rest := [.int (nI ((lowN (v >>> ((nI 5) &&& 31)) (S.1 4)) + 1)), .int (nI (lowN (v >>> ((nI 5) &&& 31)) (S.1 4))), .ref b]) (ct_L_low g l w ((S.1 4) - 1) (by omega) (by omega)) gg_L_15 cd_L_low ⟨Nat.le_of_ble_eq_true rfl, Nat.le_of_ble_eq_true rfl⟩ ⟨Nat.le_of_ble_eq_true rfl, Nat.le_of_ble_eq_true rfl⟩ ([]) W_1 (by simp only [List.append_nil, List.nil_append]) rfl (Nat.le_of_ble_eq_true rfl) dL_change_311 (fun r WL_90 hp => ?_)
    obtain ⟨rfl, rfl⟩ := hp
    refine zk_ws (ws2 := W_1) (by simp only [List.append_nil, List.nil_append]) ?_
    have hlow_91 := lowN_lt w (n := ((S.1 4) - 1)) (by omega)
    refine zk_iaddN hc dL_change_314 ?_
    refine zk_iload_n hc dL_change_315 1 rfl ?_
    refine zk_iremN hc dL_change_316 (by omega) (by omega) (by omega) ?_
    refine zk_iconst hc (nI 1) dL_change_317 rfl ?_
    refine zk_iload_n hc dL_change_318 4 rfl ?_
    refine zk_iconst hc (nI 3) dL_change_319 rfl ?_
    refine zk_ishr hc dL_change_320 ?_
    refine zk_iconst hc (nI 3) dL_change_321 rfl ?_
    refine zk_callSi hc (rest := [.int (nI 1), .int (nI ((((lowN (v >>> ((nI 5) &&& 31)) (S.1 4)) + 1) + (lowN w ((S.1 4) - 1))) % (S.1 4))), .int (nI (lowN (v >>> ((nI 5) &&& 31)) (S.1 4))), .ref b]) (ct_L_low g l (w >>> ((nI 3) &&& 31)) 3 (by omega) (by omega)) gg_L_15 cd_L_low ⟨Nat.le_of_ble_eq_true rfl, Nat.le_of_ble_eq_true rfl⟩ ⟨Nat.le_of_ble_eq_true rfl, Nat.le_of_ble_eq_true rfl⟩ ([]) W_1 (by simp only [List.append_nil, List.nil_append]) rfl (Nat.le_of_ble_eq_true rfl) dL_change_322 (fun r WL_92 hp => ?_)
    obtain ⟨rfl, rfl⟩ := hp
    refine zk_ws (ws2 := W_1) (by simp only [List.append_nil, List.nil_append]) ?_
    have hlow_93 := lowN_lt (w >>> ((nI 3) &&& 31)) (n := 3) (by omega)
    refine zk_iaddN hc dL_change_325 ?_
    obtain ⟨hat_96_f, hat_96⟩ := cs_at hS_2
    refine zk_callVi hc (rest := []) (kx_move g l b S W_1 cN (by omega) hI hS_2 (nI (lowN (v >>> ((nI 5) &&& 31)) (S.1 4))) (nI ((((lowN (v >>> ((nI 5) &&& 31)) (S.1 4)) + 1) + (lowN w ((S.1 4) - 1))) % (S.1 4))) (nI (1 + (lowN (w >>> ((nI 3) &&& 31)) 3)))) gg_L_67 cd_X6_move ⟨Nat.le_of_ble_eq_true rfl, Nat.le_of_ble_eq_true rfl⟩ ⟨Nat.le_of_ble_eq_true rfl, Nat.le_of_ble_eq_true rfl⟩ ([]) ([]) (by simp only [List.append_nil, List.nil_append]) 0 hat_96 rfl rfl (Nat.le_of_ble_eq_true rfl) dL_change_326 (fun r W_94 hp => ?_)
    obtain ⟨rfl, hS_95⟩ := hp
    refine zk_ws (ws2 := W_94) (by simp only [List.append_nil, List.nil_append]) ?_
    refine fin 7 72 _ _ _ _ (by decide) (by decide) dL_change_329 (?_)
    have hch : chO (S.1 4) v w = (10, nI (lowN (v >>> (nI 5 &&& 31)) (S.1 4)), nI ((lowN (v >>> (nI 5 &&& 31)) (S.1 4) + 1 + lowN w (S.1 4 - 1)) % S.1 4), nI (1 + lowN (w >>> (nI 3 &&& 31)) 3), []) := by unfold chO; rw [hkk]; rfl
    rw [hch]
    exact ⟨rfl, hS_95⟩
  · refine zk_tableOut hc 300 dL_change_21 (Or.inr (by decide)) (by decide) ?_
    refine zk_aload_n hc dL_change_300 2 rfl ?_
    refine zk_iload hc dL_change_301 0 rfl ?_
    refine zk_iload hc dL_change_303 0 rfl ?_
    refine zk_iconst hc (nI 1) dL_change_305 rfl ?_
    refine zk_iaddN hc dL_change_306 ?_
    refine zk_iload_n hc dL_change_307 4 rfl ?_
    refine zk_iload_n hc dL_change_308 1 rfl ?_
    refine zk_iconst hc (nI 1) dL_change_309 rfl ?_
    refine zk_isubN hc dL_change_310 (by omega) ?_
    refine zk_callSi hc (rest := [.int (nI ((lowN (v >>> ((nI 5) &&& 31)) (S.1 4)) + 1)), .int (nI (lowN (v >>> ((nI 5) &&& 31)) (S.1 4))), .ref b]) (ct_L_low g l w ((S.1 4) - 1) (by omega) (by omega)) gg_L_15 cd_L_low ⟨Nat.le_of_ble_eq_true rfl, Nat.le_of_ble_eq_true rfl⟩ ⟨Nat.le_of_ble_eq_true rfl, Nat.le_of_ble_eq_true rfl⟩ ([]) W_1 (by simp only [List.append_nil, List.nil_append]) rfl (Nat.le_of_ble_eq_true rfl) dL_change_311 (fun r WL_97 hp => ?_)
    obtain ⟨rfl, rfl⟩ := hp
    refine zk_ws (ws2 := W_1) (by simp only [List.append_nil, List.nil_append]) ?_
    have hlow_98 := lowN_lt w (n := ((S.1 4) - 1)) (by omega)
    refine zk_iaddN hc dL_change_314 ?_
    refine zk_iload_n hc dL_change_315 1 rfl ?_
    refine zk_iremN hc dL_change_316 (by omega) (by omega) (by omega) ?_
    refine zk_iconst hc (nI 1) dL_change_317 rfl ?_
    refine zk_iload_n hc dL_change_318 4 rfl ?_
    refine zk_iconst hc (nI 3) dL_change_319 rfl ?_
    refine zk_ishr hc dL_change_320 ?_
    refine zk_iconst hc (nI 3) dL_change_321 rfl ?_
    refine zk_callSi hc (rest := [.int (nI 1), .int (nI ((((lowN (v >>> ((nI 5) &&& 31)) (S.1 4)) + 1) + (lowN w ((S.1 4) - 1))) % (S.1 4))), .int (nI (lowN (v >>> ((nI 5) &&& 31)) (S.1 4))), .ref b]) (ct_L_low g l (w >>> ((nI 3) &&& 31)) 3 (by omega) (by omega)) gg_L_15 cd_L_low ⟨Nat.le_of_ble_eq_true rfl, Nat.le_of_ble_eq_true rfl⟩ ⟨Nat.le_of_ble_eq_true rfl, Nat.le_of_ble_eq_true rfl⟩ ([]) W_1 (by simp only [List.append_nil, List.nil_append]) rfl (Nat.le_of_ble_eq_true rfl) dL_change_322 (fun r WL_99 hp => ?_)
    obtain ⟨rfl, rfl⟩ := hp
    refine zk_ws (ws2 := W_1) (by simp only [List.append_nil, List.nil_append]) ?_
    have hlow_100 := lowN_lt (w >>> ((nI 3) &&& 31)) (n := 3) (by omega)
    refine zk_iaddN hc dL_change_325 ?_
    obtain ⟨hat_103_f, hat_103⟩ := cs_at hS_2
    refine zk_callVi hc (rest := []) (kx_move g l b S W_1 cN (by omega) hI hS_2 (nI (lowN (v >>> ((nI 5) &&& 31)) (S.1 4))) (nI ((((lowN (v >>> ((nI 5) &&& 31)) (S.1 4)) + 1) + (lowN w ((S.1 4) - 1))) % (S.1 4))) (nI (1 + (lowN (w >>> ((nI 3) &&& 31)) 3)))) gg_L_67 cd_X6_move ⟨Nat.le_of_ble_eq_true rfl, Nat.le_of_ble_eq_true rfl⟩ ⟨Nat.le_of_ble_eq_true rfl, Nat.le_of_ble_eq_true rfl⟩ ([]) ([]) (by simp only [List.append_nil, List.nil_append]) 0 hat_103 rfl rfl (Nat.le_of_ble_eq_true rfl) dL_change_326 (fun r W_101 hp => ?_)
    obtain ⟨rfl, hS_102⟩ := hp
    refine zk_ws (ws2 := W_101) (by simp only [List.append_nil, List.nil_append]) ?_
    refine fin 7 72 _ _ _ _ (by decide) (by decide) dL_change_329 (?_)
    have hch : chO (S.1 4) v w = (10, nI (lowN (v >>> (nI 5 &&& 31)) (S.1 4)), nI ((lowN (v >>> (nI 5 &&& 31)) (S.1 4) + 1 + lowN w (S.1 4 - 1)) % S.1 4), nI (1 + lowN (w >>> (nI 3 &&& 31)) 3), []) := by unfold chO; rw [hkk]; rfl
    rw [hch]
    exact ⟨rfl, hS_102⟩
  · refine zk_tableOut hc 300 dL_change_21 (Or.inr (by decide)) (by decide) ?_
    refine zk_aload_n hc dL_change_300 2 rfl ?_
    refine zk_iload hc dL_change_301 0 rfl ?_
    refine zk_iload hc dL_change_303 0 rfl ?_
    refine zk_iconst hc (nI 1) dL_change_305 rfl ?_
    refine zk_iaddN hc dL_change_306 ?_
    refine zk_iload_n hc dL_change_307 4 rfl ?_
    refine zk_iload_n hc dL_change_308 1 rfl ?_
    refine zk_iconst hc (nI 1) dL_change_309 rfl ?_
    refine zk_isubN hc dL_change_310 (by omega) ?_
    refine zk_callSi hc (rest := [.int (nI ((lowN (v >>> ((nI 5) &&& 31)) (S.1 4)) + 1)), .int (nI (lowN (v >>> ((nI 5) &&& 31)) (S.1 4))), .ref b]) (ct_L_low g l w ((S.1 4) - 1) (by omega) (by omega)) gg_L_15 cd_L_low ⟨Nat.le_of_ble_eq_true rfl, Nat.le_of_ble_eq_true rfl⟩ ⟨Nat.le_of_ble_eq_true rfl, Nat.le_of_ble_eq_true rfl⟩ ([]) W_1 (by simp only [List.append_nil, List.nil_append]) rfl (Nat.le_of_ble_eq_true rfl) dL_change_311 (fun r WL_104 hp => ?_)
    obtain ⟨rfl, rfl⟩ := hp
    refine zk_ws (ws2 := W_1) (by simp only [List.append_nil, List.nil_append]) ?_
    have hlow_105 := lowN_lt w (n := ((S.1 4) - 1)) (by omega)
    refine zk_iaddN hc dL_change_314 ?_
    refine zk_iload_n hc dL_change_315 1 rfl ?_
    refine zk_iremN hc dL_change_316 (by omega) (by omega) (by omega) ?_
    refine zk_iconst hc (nI 1) dL_change_317 rfl ?_
    refine zk_iload_n hc dL_change_318 4 rfl ?_
    refine zk_iconst hc (nI 3) dL_change_319 rfl ?_
    refine zk_ishr hc dL_change_320 ?_
    refine zk_iconst hc (nI 3) dL_change_321 rfl ?_
    refine zk_callSi hc (rest := [.int (nI 1), .int (nI ((((lowN (v >>> ((nI 5) &&& 31)) (S.1 4)) + 1) + (lowN w ((S.1 4) - 1))) % (S.1 4))), .int (nI (lowN (v >>> ((nI 5) &&& 31)) (S.1 4))), .ref b]) (ct_L_low g l (w >>> ((nI 3) &&& 31)) 3 (by omega) (by omega)) gg_L_15 cd_L_low ⟨Nat.le_of_ble_eq_true rfl, Nat.le_of_ble_eq_true rfl⟩ ⟨Nat.le_of_ble_eq_true rfl, Nat.le_of_ble_eq_true rfl⟩ ([]) W_1 (by simp only [List.append_nil, List.nil_append]) rfl (Nat.le_of_ble_eq_true rfl) dL_change_322 (fun r WL_106 hp => ?_)
    obtain ⟨rfl, rfl⟩ := hp
    refine zk_ws (ws2 := W_1) (by simp only [List.append_nil, List.nil_append]) ?_
    have hlow_107 := lowN_lt (w >>> ((nI 3) &&& 31)) (n := 3) (by omega)
    refine zk_iaddN hc dL_change_325 ?_
    obtain ⟨hat_110_f, hat_110⟩ := cs_at hS_2
    refine zk_callVi hc (rest := []) (kx_move g l b S W_1 cN (by omega) hI hS_2 (nI (lowN (v >>> ((nI 5) &&& 31)) (S.1 4))) (nI ((((lowN (v >>> ((nI 5) &&& 31)) (S.1 4)) + 1) + (lowN w ((S.1 4) - 1))) % (S.1 4))) (nI (1 + (lowN (w >>> ((nI 3) &&& 31)) 3)))) gg_L_67 cd_X6_move ⟨Nat.le_of_ble_eq_true rfl, Nat.le_of_ble_eq_true rfl⟩ ⟨Nat.le_of_ble_eq_true rfl, Nat.le_of_ble_eq_true rfl⟩ ([]) ([]) (by simp only [List.append_nil, List.nil_append]) 0 hat_110 rfl rfl (Nat.le_of_ble_eq_true rfl) dL_change_326 (fun r W_108 hp => ?_)
    obtain ⟨rfl, hS_109⟩ := hp
    refine zk_ws (ws2 := W_108) (by simp only [List.append_nil, List.nil_append]) ?_
    refine fin 7 72 _ _ _ _ (by decide) (by decide) dL_change_329 (?_)
    have hch : chO (S.1 4) v w = (10, nI (lowN (v >>> (nI 5 &&& 31)) (S.1 4)), nI ((lowN (v >>> (nI 5 &&& 31)) (S.1 4) + 1 + lowN w (S.1 4 - 1)) % S.1 4), nI (1 + lowN (w >>> (nI 3 &&& 31)) 3), []) := by unfold chO; rw [hkk]; rfl
    rw [hch]
    exact ⟨rfl, hS_109⟩
  · refine zk_tableOut hc 300 dL_change_21 (Or.inr (by decide)) (by decide) ?_
    refine zk_aload_n hc dL_change_300 2 rfl ?_
    refine zk_iload hc dL_change_301 0 rfl ?_
    refine zk_iload hc dL_change_303 0 rfl ?_
    refine zk_iconst hc (nI 1) dL_change_305 rfl ?_
    refine zk_iaddN hc dL_change_306 ?_
    refine zk_iload_n hc dL_change_307 4 rfl ?_
    refine zk_iload_n hc dL_change_308 1 rfl ?_
    refine zk_iconst hc (nI 1) dL_change_309 rfl ?_
    refine zk_isubN hc dL_change_310 (by omega) ?_
    refine zk_callSi hc (rest := [.int (nI ((lowN (v >>> ((nI 5) &&& 31)) (S.1 4)) + 1)), .int (nI (lowN (v >>> ((nI 5) &&& 31)) (S.1 4))), .ref b]) (ct_L_low g l w ((S.1 4) - 1) (by omega) (by omega)) gg_L_15 cd_L_low ⟨Nat.le_of_ble_eq_true rfl, Nat.le_of_ble_eq_true rfl⟩ ⟨Nat.le_of_ble_eq_true rfl, Nat.le_of_ble_eq_true rfl⟩ ([]) W_1 (by simp only [List.append_nil, List.nil_append]) rfl (Nat.le_of_ble_eq_true rfl) dL_change_311 (fun r WL_111 hp => ?_)
    obtain ⟨rfl, rfl⟩ := hp
    refine zk_ws (ws2 := W_1) (by simp only [List.append_nil, List.nil_append]) ?_
    have hlow_112 := lowN_lt w (n := ((S.1 4) - 1)) (by omega)
    refine zk_iaddN hc dL_change_314 ?_
    refine zk_iload_n hc dL_change_315 1 rfl ?_
    refine zk_iremN hc dL_change_316 (by omega) (by omega) (by omega) ?_
    refine zk_iconst hc (nI 1) dL_change_317 rfl ?_
    refine zk_iload_n hc dL_change_318 4 rfl ?_
    refine zk_iconst hc (nI 3) dL_change_319 rfl ?_
    refine zk_ishr hc dL_change_320 ?_
    refine zk_iconst hc (nI 3) dL_change_321 rfl ?_
    refine zk_callSi hc (rest := [.int (nI 1), .int (nI ((((lowN (v >>> ((nI 5) &&& 31)) (S.1 4)) + 1) + (lowN w ((S.1 4) - 1))) % (S.1 4))), .int (nI (lowN (v >>> ((nI 5) &&& 31)) (S.1 4))), .ref b]) (ct_L_low g l (w >>> ((nI 3) &&& 31)) 3 (by omega) (by omega)) gg_L_15 cd_L_low ⟨Nat.le_of_ble_eq_true rfl, Nat.le_of_ble_eq_true rfl⟩ ⟨Nat.le_of_ble_eq_true rfl, Nat.le_of_ble_eq_true rfl⟩ ([]) W_1 (by simp only [List.append_nil, List.nil_append]) rfl (Nat.le_of_ble_eq_true rfl) dL_change_322 (fun r WL_113 hp => ?_)
    obtain ⟨rfl, rfl⟩ := hp
    refine zk_ws (ws2 := W_1) (by simp only [List.append_nil, List.nil_append]) ?_
    have hlow_114 := lowN_lt (w >>> ((nI 3) &&& 31)) (n := 3) (by omega)
    refine zk_iaddN hc dL_change_325 ?_
    obtain ⟨hat_117_f, hat_117⟩ := cs_at hS_2
    refine zk_callVi hc (rest := []) (kx_move g l b S W_1 cN (by omega) hI hS_2 (nI (lowN (v >>> ((nI 5) &&& 31)) (S.1 4))) (nI ((((lowN (v >>> ((nI 5) &&& 31)) (S.1 4)) + 1) + (lowN w ((S.1 4) - 1))) % (S.1 4))) (nI (1 + (lowN (w >>> ((nI 3) &&& 31)) 3)))) gg_L_67 cd_X6_move ⟨Nat.le_of_ble_eq_true rfl, Nat.le_of_ble_eq_true rfl⟩ ⟨Nat.le_of_ble_eq_true rfl, Nat.le_of_ble_eq_true rfl⟩ ([]) ([]) (by simp only [List.append_nil, List.nil_append]) 0 hat_117 rfl rfl (Nat.le_of_ble_eq_true rfl) dL_change_326 (fun r W_115 hp => ?_)
    obtain ⟨rfl, hS_116⟩ := hp
    refine zk_ws (ws2 := W_115) (by simp only [List.append_nil, List.nil_append]) ?_
    refine fin 7 72 _ _ _ _ (by decide) (by decide) dL_change_329 (?_)
    have hch : chO (S.1 4) v w = (10, nI (lowN (v >>> (nI 5 &&& 31)) (S.1 4)), nI ((lowN (v >>> (nI 5 &&& 31)) (S.1 4) + 1 + lowN w (S.1 4 - 1)) % S.1 4), nI (1 + lowN (w >>> (nI 3 &&& 31)) 3), []) := by unfold chO; rw [hkk]; rfl
    rw [hch]
    exact ⟨rfl, hS_116⟩
