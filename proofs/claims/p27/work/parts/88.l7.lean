set_option maxHeartbeats 4000000 in
set_option maxRecDepth 100000 in
theorem ct_L_areAlike (g : GG) (l : Launch) (b cN : Nat) (S : AS) (W : va_W) (hN : cN ≤ 500) (hI : INV cN S) (hS : CSt g b S W) (b2 : Nat) (S2 : AS) (W2 : va_W) (hI2 : INV cN S2) (hS2 : CSt g b2 S2 W2) (hE : EqS S S2) : CtI g l yL_areAlike cL_areAlike 5 (some .boolean) (rmK 16 0 0) (W ++ (W2)) [.ref b, .ref b2] (fun r W1 => r = nI 1) := by
  refine CtZ.go RL rfl (by decide +kernel) (Nat.le_of_ble_eq_true rfl) ?_
  intro p e s m args below meth c A H0 Q hc hnm fin
  have h4 := hI.1.1
  have hG := wf_GU hI.1
  have hm8 := wf_m8 hI.1
  have h12 := hI.1.2.2.2.2.2.2.1
  have hB := hI.1.2.2.2.2.2.2.2.2.2.2.2
  have hB8 := hB 8 (by omega)
  show KW g p l e (rmK 16 0 0) s m args below meth c 5 A H0 0 0 Q (W ++ (W2)) [(0, .ref b), (1, .ref b2)] 0 []
  refine zk_aload_n hc dL_areAlike_0 0 rfl ?_
  obtain ⟨hat_3_f, hat_3⟩ := cs_at hS
  refine zk_callVf hc (rest := []) (kx_mean g l b S W cN (by omega) hI hS) gg_L_92 cd_X6_mean ⟨Nat.le_of_ble_eq_true rfl, Nat.le_of_ble_eq_true rfl⟩ ⟨Nat.le_of_ble_eq_true rfl, Nat.le_of_ble_eq_true rfl⟩ ([]) W2 (by simp only [List.append_nil, List.nil_append]) 0 (at_app hat_3) rfl rfl (Nat.le_of_ble_eq_true rfl) dL_areAlike_1 (fun r W_1 hp => ?_)
  obtain ⟨rfl, hS_2⟩ := hp
  refine zk_ws (ws2 := W_1 ++ (W2)) (by simp only [List.append_nil, List.nil_append]) ?_
  refine zk_aload_n hc dL_areAlike_4 1 rfl ?_
  refine zk_perm (ws2 := W2 ++ (W_1)) (pm_en _ _) ?_
  obtain ⟨hat_6_f, hat_6⟩ := cs_at hS2
  refine zk_callVf hc (rest := [.float (menV S.1)]) (kx_mean g l b2 S2 W2 cN (by omega) hI2 hS2) gg_L_92 cd_X6_mean ⟨Nat.le_of_ble_eq_true rfl, Nat.le_of_ble_eq_true rfl⟩ ⟨Nat.le_of_ble_eq_true rfl, Nat.le_of_ble_eq_true rfl⟩ ([]) W_1 (by simp only [List.append_nil, List.nil_append]) 0 (at_app hat_6) rfl rfl (Nat.le_of_ble_eq_true rfl) dL_areAlike_5 (fun r W_4 hp => ?_)
  obtain ⟨rfl, hS_5⟩ := hp
  refine zk_ws (ws2 := W_4 ++ (W_1)) (by simp only [List.append_nil, List.nil_append]) ?_
  refine zk_fcmp hc dL_areAlike_8 ?_
  refine zk_top (y := nI 0) (by rw [← hE.1, fcmp_eq (men_n32 (by omega))]; rfl) ?_
  refine zk_if_neN hc 31 dL_areAlike_9 (by decide) (by omega) (fun h_7 => ?_) (fun h_7 => ?_)
  · exact absurd h_7 (by decide)
  · refine zk_aload_n hc dL_areAlike_12 0 rfl ?_
    refine zk_iconst hc (nI 2) dL_areAlike_13 rfl ?_
    refine zk_iconst hc (nI 0) dL_areAlike_14 rfl ?_
    refine zk_perm (ws2 := W_1 ++ (W_4)) (pm_en _ _) ?_
    obtain ⟨hat_10_f, hat_10⟩ := cs_at hS_2
    refine zk_callVi hc (rest := []) (kx_cheapest g l b S W_1 cN (by omega) hI hS_2 (nI 2) (nI 0)) gg_L_89 cd_X6_cheapest ⟨Nat.le_of_ble_eq_true rfl, Nat.le_of_ble_eq_true rfl⟩ ⟨Nat.le_of_ble_eq_true rfl, Nat.le_of_ble_eq_true rfl⟩ ([]) W_4 (by simp only [List.append_nil, List.nil_append]) 0 (at_app hat_10) rfl rfl (Nat.le_of_ble_eq_true rfl) dL_areAlike_15 (fun r W_8 hp => ?_)
    obtain ⟨rfl, hS_9⟩ := hp
    refine zk_ws (ws2 := W_8 ++ (W_4)) (by simp only [List.append_nil, List.nil_append]) ?_
    refine zk_top (y := (aChe S.1 (nI 2) (nI 0))) rfl ?_
    refine zk_aload_n hc dL_areAlike_18 1 rfl ?_
    refine zk_iconst hc (nI 2) dL_areAlike_19 rfl ?_
    refine zk_iconst hc (nI 0) dL_areAlike_20 rfl ?_
    refine zk_perm (ws2 := W_4 ++ (W_8)) (pm_en _ _) ?_
    obtain ⟨hat_13_f, hat_13⟩ := cs_at hS_5
    refine zk_callVi hc (rest := [.int (aChe S.1 (nI 2) (nI 0))]) (kx_cheapest g l b2 S2 W_4 cN (by omega) hI2 hS_5 (nI 2) (nI 0)) gg_L_89 cd_X6_cheapest ⟨Nat.le_of_ble_eq_true rfl, Nat.le_of_ble_eq_true rfl⟩ ⟨Nat.le_of_ble_eq_true rfl, Nat.le_of_ble_eq_true rfl⟩ ([]) W_8 (by simp only [List.append_nil, List.nil_append]) 0 (at_app hat_13) rfl rfl (Nat.le_of_ble_eq_true rfl) dL_areAlike_21 (fun r W_11 hp => ?_)
    obtain ⟨rfl, hS_12⟩ := hp
    refine zk_ws (ws2 := W_11 ++ (W_8)) (by simp only [List.append_nil, List.nil_append]) ?_
    refine zk_top (y := (aChe S.1 (nI 2) (nI 0))) (congrArg (fun u : Nat → Nat => (aChe u (nI 2) (nI 0))) hE.1.symm) ?_
    refine zk_icmp_ne hc 31 dL_areAlike_24 (by decide) (fun h24 => ?_) (fun h24 => ?_)
    · exact absurd rfl h24
    · refine zk_iconst hc (nI 1) dL_areAlike_27 rfl ?_
      refine zk_goto hc 32 dL_areAlike_28 (by decide) ?_
      refine zk_istore_n hc (lv2 := [(2, .int (nI 1)), (0, .ref b), (1, .ref b2)]) dL_areAlike_32 (by decide) rfl ?_
      refine zk_iconst hc (nI 0) dL_areAlike_33 rfl ?_
      refine zk_istore_n hc (lv2 := [(3, .int (nI 0)), (2, .int (nI 1)), (0, .ref b), (1, .ref b2)]) dL_areAlike_34 (by decide) rfl ?_
      refine zk_perm (ws2 := W_8 ++ (W_11)) (pm_en _ _) ?_
      have loop35 : ∀ (N : Nat) (k : Nat) (Wa_k : va_W) (Wb_k : va_W), 13 - k < N → (k ≤ 13) → (CSt g b S Wa_k) → (CSt g b2 S2 Wb_k) → KW g p l e (rmK 16 0 0) s m args below meth c 5 A H0 0 0 Q (Wa_k ++ (Wb_k)) [(0, .ref b), (1, .ref b2), (2, .int (nI 1)), (3, .int (nI k))] 35 [] := by
        intro N
        induction N with
        | zero => intro k Wa_k Wb_k hm; exact absurd hm (Nat.not_lt_zero _)
        | succ N ih35 =>
          intro k Wa_k Wb_k hm35 hkb hSa_k hSb_k
          refine zk_iload_n hc dL_areAlike_35 3 rfl ?_
          refine zk_bipush hc (nI 13) dL_areAlike_36 rfl ?_
          refine zk_icmp_geN hc 76 dL_areAlike_38 (by decide) (by omega) (by omega) (fun h38 => ?_) (fun h38 => ?_)
          · refine zk_iconst hc (nI 0) dL_areAlike_76 rfl ?_
            refine zk_istore_n hc (lv2 := [(3, .int (nI 0)), (0, .ref b), (1, .ref b2), (2, .int (nI 1))]) dL_areAlike_77 (by decide) rfl ?_
            have loop78 : ∀ (N : Nat) (t : Nat) (Wa_t : va_W) (Wb_t : va_W), S.1 4 - t < N → (t ≤ S.1 4) → (CSt g b S Wa_t) → (CSt g b2 S2 Wb_t) → KW g p l e (rmK 16 0 0) s m args below meth c 5 A H0 0 0 Q (Wa_t ++ (Wb_t)) [(0, .ref b), (1, .ref b2), (2, .int (nI 1)), (3, .int (nI t))] 78 [] := by
              intro N
              induction N with
              | zero => intro t Wa_t Wb_t hm; exact absurd hm (Nat.not_lt_zero _)
              | succ N ih78 =>
                intro t Wa_t Wb_t hm78 htb hSa_t hSb_t
                refine zk_iload_n hc dL_areAlike_78 3 rfl ?_
                refine zk_aload_n hc dL_areAlike_79 0 rfl ?_
                refine zk_iconst hc (nI 0) dL_areAlike_80 rfl ?_
                obtain ⟨hat_16_f, hat_16⟩ := cs_at hSa_t
                refine zk_callVi hc (rest := [.int (nI t)]) (kx_told g l b S Wa_t cN (by omega) hI hSa_t (nI 0)) gg_L_25 cd_X6_told ⟨Nat.le_of_ble_eq_true rfl, Nat.le_of_ble_eq_true rfl⟩ ⟨Nat.le_of_ble_eq_true rfl, Nat.le_of_ble_eq_true rfl⟩ ([]) Wb_t (by simp only [List.append_nil, List.nil_append]) 0 (at_app hat_16) rfl rfl (Nat.le_of_ble_eq_true rfl) dL_areAlike_81 (fun r W_14 hp => ?_)
                obtain ⟨rfl, hS_15⟩ := hp
                refine zk_ws (ws2 := W_14 ++ (Wb_t)) (by simp only [List.append_nil, List.nil_append]) ?_
                refine zk_top (y := nI (S.1 4)) (tol_n _ (by omega)) ?_
                refine zk_icmp_geN hc 199 dL_areAlike_84 (by decide) (by omega) (by omega) (fun h84 => ?_) (fun h84 => ?_)
                · refine zk_iload_n hc dL_areAlike_199 2 rfl ?_
                  refine fin 0 0 _ _ _ _ (by decide) (by decide) dL_areAlike_200 rfl (?_)
                  exact rfl
                · refine zk_iconst hc (nI 0) dL_areAlike_87 rfl ?_
                  refine zk_istore hc (lv2 := [(4, .int (nI 0)), (0, .ref b), (1, .ref b2), (2, .int (nI 1)), (3, .int (nI t))]) dL_areAlike_88 (by decide) rfl ?_
                  have loop90 : ∀ (N : Nat) (d : Nat) (Wa_d : va_W) (Wb_d : va_W), 5 - d < N → (d ≤ 5) → (CSt g b S Wa_d) → (CSt g b2 S2 Wb_d) → KW g p l e (rmK 16 0 0) s m args below meth c 5 A H0 0 0 Q (Wa_d ++ (Wb_d)) [(0, .ref b), (1, .ref b2), (2, .int (nI 1)), (3, .int (nI t)), (4, .int (nI d))] 90 [] := by
                    intro N
                    induction N with
                    | zero => intro d Wa_d Wb_d hm; exact absurd hm (Nat.not_lt_zero _)
                    | succ N ih90 =>
                      intro d Wa_d Wb_d hm90 hdb hSa_d hSb_d
                      refine zk_iload hc dL_areAlike_90 4 rfl ?_
                      refine zk_iconst hc (nI 5) dL_areAlike_92 rfl ?_
                      refine zk_icmp_geN hc 129 dL_areAlike_93 (by decide) (by omega) (by omega) (fun h93 => ?_) (fun h93 => ?_)
                      · refine zk_iconst hc (nI 0) dL_areAlike_129 rfl ?_
                        refine zk_istore hc (lv2 := [(4, .int (nI 0)), (0, .ref b), (1, .ref b2), (2, .int (nI 1)), (3, .int (nI t))]) dL_areAlike_130 (by decide) rfl ?_
                        have loop132 : ∀ (N : Nat) (q : Nat) (Wa_q : va_W) (Wb_q : va_W), 8 - q < N → (q ≤ 8) → (CSt g b S Wa_q) → (CSt g b2 S2 Wb_q) → KW g p l e (rmK 16 0 0) s m args below meth c 5 A H0 0 0 Q (Wa_q ++ (Wb_q)) [(0, .ref b), (1, .ref b2), (2, .int (nI 1)), (3, .int (nI t)), (4, .int (nI q))] 132 [] := by
                          intro N
                          induction N with
                          | zero => intro q Wa_q Wb_q hm; exact absurd hm (Nat.not_lt_zero _)
                          | succ N ih132 =>
                            intro q Wa_q Wb_q hm132 hqb hSa_q hSb_q
                            refine zk_iload hc dL_areAlike_132 4 rfl ?_
                            refine zk_bipush hc (nI 8) dL_areAlike_134 rfl ?_
                            refine zk_icmp_geN hc 193 dL_areAlike_136 (by decide) (by omega) (by omega) (fun h136 => ?_) (fun h136 => ?_)
                            · refine zk_iinc hc (v := nI (t + 1)) (lv2 := [(3, .int (nI (t + 1))), (0, .ref b), (1, .ref b2), (2, .int (nI 1)), (4, .int (nI q))]) dL_areAlike_193 3 rfl (nq_inc rfl) (by decide) rfl ?_
                              refine zk_goto hc 78 dL_areAlike_196 (by decide) ?_
                              refine zk_lv [1, 2, 3, 0] (lv2 := [(0, .ref b), (1, .ref b2), (2, .int (nI 1)), (3, .int (nI (t + 1)))]) rfl ?_
                              exact ih78 (t + 1) Wa_q Wb_q (by omega) (by omega) hSa_q hSb_q
                            · refine zk_iload_n hc dL_areAlike_139 2 rfl ?_
                              refine zk_if_eqN hc 185 dL_areAlike_140 (by decide) (by omega) (fun h_17 => ?_) (fun h_17 => ?_)
                              · exact absurd h_17 (by decide)
                              · refine zk_aload_n hc dL_areAlike_143 0 rfl ?_
                                refine zk_iload_n hc dL_areAlike_144 3 rfl ?_
                                refine zk_iload hc dL_areAlike_145 4 rfl ?_
                                refine zk_iconst hc (nI 0) dL_areAlike_147 rfl ?_
                                obtain ⟨hat_20_f, hat_20⟩ := cs_at hSa_q
                                refine zk_callVi hc (rest := []) (kx_wagon g l b S Wa_q cN (by omega) hI hSa_q (nI t) (nI q) (nI 0)) gg_L_74 cd_X6_wagon ⟨Nat.le_of_ble_eq_true rfl, Nat.le_of_ble_eq_true rfl⟩ ⟨Nat.le_of_ble_eq_true rfl, Nat.le_of_ble_eq_true rfl⟩ ([]) Wb_q (by simp only [List.append_nil, List.nil_append]) 0 (at_app hat_20) rfl rfl (Nat.le_of_ble_eq_true rfl) dL_areAlike_148 (fun r W_18 hp => ?_)
                                obtain ⟨rfl, hS_19⟩ := hp
                                refine zk_ws (ws2 := W_18 ++ (Wb_q)) (by simp only [List.append_nil, List.nil_append]) ?_
                                refine zk_top (y := (aWag S.1 (nI t) (nI q) (nI 0))) rfl ?_
                                refine zk_aload_n hc dL_areAlike_151 1 rfl ?_
                                refine zk_iload_n hc dL_areAlike_152 3 rfl ?_
                                refine zk_iload hc dL_areAlike_153 4 rfl ?_
                                refine zk_iconst hc (nI 0) dL_areAlike_155 rfl ?_
                                refine zk_perm (ws2 := Wb_q ++ (W_18)) (pm_en _ _) ?_
                                obtain ⟨hat_23_f, hat_23⟩ := cs_at hSb_q
                                refine zk_callVi hc (rest := [.int (aWag S.1 (nI t) (nI q) (nI 0))]) (kx_wagon g l b2 S2 Wb_q cN (by omega) hI2 hSb_q (nI t) (nI q) (nI 0)) gg_L_74 cd_X6_wagon ⟨Nat.le_of_ble_eq_true rfl, Nat.le_of_ble_eq_true rfl⟩ ⟨Nat.le_of_ble_eq_true rfl, Nat.le_of_ble_eq_true rfl⟩ ([]) W_18 (by simp only [List.append_nil, List.nil_append]) 0 (at_app hat_23) rfl rfl (Nat.le_of_ble_eq_true rfl) dL_areAlike_156 (fun r W_21 hp => ?_)
                                obtain ⟨rfl, hS_22⟩ := hp
                                refine zk_ws (ws2 := W_21 ++ (W_18)) (by simp only [List.append_nil, List.nil_append]) ?_
                                refine zk_top (y := (aWag S.1 (nI t) (nI q) (nI 0))) (congrArg (fun u : Nat → Nat => (aWag u (nI t) (nI q) (nI 0))) hE.1.symm) ?_
                                refine zk_icmp_ne hc 185 dL_areAlike_159 (by decide) (fun h159 => ?_) (fun h159 => ?_)
                                · exact absurd rfl h159
                                · refine zk_aload_n hc dL_areAlike_162 0 rfl ?_
                                  refine zk_iload_n hc dL_areAlike_163 3 rfl ?_
                                  refine zk_iload hc dL_areAlike_164 4 rfl ?_
                                  refine zk_iconst hc (nI 1) dL_areAlike_166 rfl ?_
                                  refine zk_perm (ws2 := W_18 ++ (W_21)) (pm_en _ _) ?_
                                  obtain ⟨hat_26_f, hat_26⟩ := cs_at hS_19
                                  refine zk_callVi hc (rest := []) (kx_wagon g l b S W_18 cN (by omega) hI hS_19 (nI t) (nI q) (nI 1)) gg_L_74 cd_X6_wagon ⟨Nat.le_of_ble_eq_true rfl, Nat.le_of_ble_eq_true rfl⟩ ⟨Nat.le_of_ble_eq_true rfl, Nat.le_of_ble_eq_true rfl⟩ ([]) W_21 (by simp only [List.append_nil, List.nil_append]) 0 (at_app hat_26) rfl rfl (Nat.le_of_ble_eq_true rfl) dL_areAlike_167 (fun r W_24 hp => ?_)
                                  obtain ⟨rfl, hS_25⟩ := hp
                                  refine zk_ws (ws2 := W_24 ++ (W_21)) (by simp only [List.append_nil, List.nil_append]) ?_
                                  refine zk_top (y := (aWag S.1 (nI t) (nI q) (nI 1))) rfl ?_
                                  refine zk_aload_n hc dL_areAlike_170 1 rfl ?_
                                  refine zk_iload_n hc dL_areAlike_171 3 rfl ?_
                                  refine zk_iload hc dL_areAlike_172 4 rfl ?_
                                  refine zk_iconst hc (nI 1) dL_areAlike_174 rfl ?_
                                  refine zk_perm (ws2 := W_21 ++ (W_24)) (pm_en _ _) ?_
                                  obtain ⟨hat_29_f, hat_29⟩ := cs_at hS_22
                                  refine zk_callVi hc (rest := [.int (aWag S.1 (nI t) (nI q) (nI 1))]) (kx_wagon g l b2 S2 W_21 cN (by omega) hI2 hS_22 (nI t) (nI q) (nI 1)) gg_L_74 cd_X6_wagon ⟨Nat.le_of_ble_eq_true rfl, Nat.le_of_ble_eq_true rfl⟩ ⟨Nat.le_of_ble_eq_true rfl, Nat.le_of_ble_eq_true rfl⟩ ([]) W_24 (by simp only [List.append_nil, List.nil_append]) 0 (at_app hat_29) rfl rfl (Nat.le_of_ble_eq_true rfl) dL_areAlike_175 (fun r W_27 hp => ?_)
                                  obtain ⟨rfl, hS_28⟩ := hp
                                  refine zk_ws (ws2 := W_27 ++ (W_24)) (by simp only [List.append_nil, List.nil_append]) ?_
                                  refine zk_top (y := (aWag S.1 (nI t) (nI q) (nI 1))) (congrArg (fun u : Nat → Nat => (aWag u (nI t) (nI q) (nI 1))) hE.1.symm) ?_
                                  refine zk_icmp_ne hc 185 dL_areAlike_178 (by decide) (fun h178 => ?_) (fun h178 => ?_)
                                  · exact absurd rfl h178
                                  · refine zk_iconst hc (nI 1) dL_areAlike_181 rfl ?_
                                    refine zk_goto hc 186 dL_areAlike_182 (by decide) ?_
                                    refine zk_istore_n hc (lv2 := [(2, .int (nI 1)), (0, .ref b), (1, .ref b2), (3, .int (nI t)), (4, .int (nI q))]) dL_areAlike_186 (by decide) rfl ?_
                                    refine zk_iinc hc (v := nI (q + 1)) (lv2 := [(4, .int (nI (q + 1))), (2, .int (nI 1)), (0, .ref b), (1, .ref b2), (3, .int (nI t))]) dL_areAlike_187 4 rfl (nq_inc rfl) (by decide) rfl ?_
                                    refine zk_goto hc 132 dL_areAlike_190 (by decide) ?_
                                    refine zk_perm (ws2 := W_24 ++ (W_27)) (pm_en _ _) ?_
                                    refine zk_lv [2, 3, 1, 4, 0] (lv2 := [(0, .ref b), (1, .ref b2), (2, .int (nI 1)), (3, .int (nI t)), (4, .int (nI (q + 1)))]) rfl ?_
                                    exact ih132 (q + 1) W_24 W_27 (by omega) (by omega) hS_25 hS_28
                        refine zk_lv [1, 2, 3, 4, 0] (lv2 := [(0, .ref b), (1, .ref b2), (2, .int (nI 1)), (3, .int (nI t)), (4, .int (nI 0))]) rfl ?_
                        exact loop132 ((8 - 0) + 1) 0 Wa_d Wb_d (Nat.lt_succ_self _) (Nat.zero_le _) hSa_d hSb_d
                      · refine zk_iload_n hc dL_areAlike_96 2 rfl ?_
                        refine zk_if_eqN hc 121 dL_areAlike_97 (by decide) (by omega) (fun h_30 => ?_) (fun h_30 => ?_)
                        · exact absurd h_30 (by decide)
                        · refine zk_aload_n hc dL_areAlike_100 0 rfl ?_
                          refine zk_iload_n hc dL_areAlike_101 3 rfl ?_
                          refine zk_iload hc dL_areAlike_102 4 rfl ?_
                          obtain ⟨hat_33_f, hat_33⟩ := cs_at hSa_d
                          refine zk_callVi hc (rest := []) (kx_track g l b S Wa_d cN (by omega) hI hSa_d (nI t) (nI d)) gg_L_71 cd_X6_track ⟨Nat.le_of_ble_eq_true rfl, Nat.le_of_ble_eq_true rfl⟩ ⟨Nat.le_of_ble_eq_true rfl, Nat.le_of_ble_eq_true rfl⟩ ([]) Wb_d (by simp only [List.append_nil, List.nil_append]) 0 (at_app hat_33) rfl rfl (Nat.le_of_ble_eq_true rfl) dL_areAlike_104 (fun r W_31 hp => ?_)
                          obtain ⟨rfl, hS_32⟩ := hp
                          refine zk_ws (ws2 := W_31 ++ (Wb_d)) (by simp only [List.append_nil, List.nil_append]) ?_
                          refine zk_top (y := (aTrk S.1 (nI t) (nI d))) rfl ?_
                          refine zk_aload_n hc dL_areAlike_107 1 rfl ?_
                          refine zk_iload_n hc dL_areAlike_108 3 rfl ?_
                          refine zk_iload hc dL_areAlike_109 4 rfl ?_
                          refine zk_perm (ws2 := Wb_d ++ (W_31)) (pm_en _ _) ?_
                          obtain ⟨hat_36_f, hat_36⟩ := cs_at hSb_d
                          refine zk_callVi hc (rest := [.int (aTrk S.1 (nI t) (nI d))]) (kx_track g l b2 S2 Wb_d cN (by omega) hI2 hSb_d (nI t) (nI d)) gg_L_71 cd_X6_track ⟨Nat.le_of_ble_eq_true rfl, Nat.le_of_ble_eq_true rfl⟩ ⟨Nat.le_of_ble_eq_true rfl, Nat.le_of_ble_eq_true rfl⟩ ([]) W_31 (by simp only [List.append_nil, List.nil_append]) 0 (at_app hat_36) rfl rfl (Nat.le_of_ble_eq_true rfl) dL_areAlike_111 (fun r W_34 hp => ?_)
                          obtain ⟨rfl, hS_35⟩ := hp
                          refine zk_ws (ws2 := W_34 ++ (W_31)) (by simp only [List.append_nil, List.nil_append]) ?_
                          refine zk_top (y := (aTrk S.1 (nI t) (nI d))) (congrArg (fun u : Nat → Nat => (aTrk u (nI t) (nI d))) hE.1.symm) ?_
                          refine zk_icmp_ne hc 121 dL_areAlike_114 (by decide) (fun h114 => ?_) (fun h114 => ?_)
                          · exact absurd rfl h114
                          · refine zk_iconst hc (nI 1) dL_areAlike_117 rfl ?_
                            refine zk_goto hc 122 dL_areAlike_118 (by decide) ?_
                            refine zk_istore_n hc (lv2 := [(2, .int (nI 1)), (0, .ref b), (1, .ref b2), (3, .int (nI t)), (4, .int (nI d))]) dL_areAlike_122 (by decide) rfl ?_
                            refine zk_iinc hc (v := nI (d + 1)) (lv2 := [(4, .int (nI (d + 1))), (2, .int (nI 1)), (0, .ref b), (1, .ref b2), (3, .int (nI t))]) dL_areAlike_123 4 rfl (nq_inc rfl) (by decide) rfl ?_
                            refine zk_goto hc 90 dL_areAlike_126 (by decide) ?_
                            refine zk_perm (ws2 := W_31 ++ (W_34)) (pm_en _ _) ?_
                            refine zk_lv [2, 3, 1, 4, 0] (lv2 := [(0, .ref b), (1, .ref b2), (2, .int (nI 1)), (3, .int (nI t)), (4, .int (nI (d + 1)))]) rfl ?_
                            exact ih90 (d + 1) W_31 W_34 (by omega) (by omega) hS_32 hS_35
                  refine zk_lv [1, 2, 3, 4, 0] (lv2 := [(0, .ref b), (1, .ref b2), (2, .int (nI 1)), (3, .int (nI t)), (4, .int (nI 0))]) rfl ?_
                  exact loop90 ((5 - 0) + 1) 0 W_14 Wb_t (Nat.lt_succ_self _) (Nat.zero_le _) hS_15 hSb_t
            refine zk_lv [1, 2, 3, 0] (lv2 := [(0, .ref b), (1, .ref b2), (2, .int (nI 1)), (3, .int (nI 0))]) rfl ?_
            exact loop78 ((S.1 4 - 0) + 1) 0 Wa_k Wb_k (Nat.lt_succ_self _) (Nat.zero_le _) hSa_k hSb_k
          · refine zk_iload_n hc dL_areAlike_41 2 rfl ?_
            refine zk_if_eqN hc 68 dL_areAlike_42 (by decide) (by omega) (fun h_37 => ?_) (fun h_37 => ?_)
            · exact absurd h_37 (by decide)
            · refine zk_iload_n hc dL_areAlike_45 3 rfl ?_
              refine zk_bipush hc (nI 11) dL_areAlike_46 rfl ?_
              refine zk_icmp_eqN hc 64 dL_areAlike_48 (by decide) (by omega) (by omega) (fun h48 => ?_) (fun h48 => ?_)
              · refine zk_iconst hc (nI 1) dL_areAlike_64 rfl ?_
                refine zk_goto hc 69 dL_areAlike_65 (by decide) ?_
                refine zk_istore_n hc (lv2 := [(2, .int (nI 1)), (0, .ref b), (1, .ref b2), (3, .int (nI k))]) dL_areAlike_69 (by decide) rfl ?_
                refine zk_iinc hc (v := nI (k + 1)) (lv2 := [(3, .int (nI (k + 1))), (2, .int (nI 1)), (0, .ref b), (1, .ref b2)]) dL_areAlike_70 3 rfl (nq_inc rfl) (by decide) rfl ?_
                refine zk_goto hc 35 dL_areAlike_73 (by decide) ?_
                refine zk_lv [2, 3, 1, 0] (lv2 := [(0, .ref b), (1, .ref b2), (2, .int (nI 1)), (3, .int (nI (k + 1)))]) rfl ?_
                exact ih35 (k + 1) Wa_k Wb_k (by omega) (by omega) hSa_k hSb_k
              · refine zk_aload_n hc dL_areAlike_51 0 rfl ?_
                refine zk_iload_n hc dL_areAlike_52 3 rfl ?_
                obtain ⟨hat_40_f, hat_40⟩ := cs_at hSa_k
                refine zk_callVi hc (rest := []) (kx_told g l b S Wa_k cN (by omega) hI hSa_k (nI k)) gg_L_25 cd_X6_told ⟨Nat.le_of_ble_eq_true rfl, Nat.le_of_ble_eq_true rfl⟩ ⟨Nat.le_of_ble_eq_true rfl, Nat.le_of_ble_eq_true rfl⟩ ([]) Wb_k (by simp only [List.append_nil, List.nil_append]) 0 (at_app hat_40) rfl rfl (Nat.le_of_ble_eq_true rfl) dL_areAlike_53 (fun r W_38 hp => ?_)
                obtain ⟨rfl, hS_39⟩ := hp
                refine zk_ws (ws2 := W_38 ++ (Wb_k)) (by simp only [List.append_nil, List.nil_append]) ?_
                refine zk_aload_n hc dL_areAlike_56 1 rfl ?_
                refine zk_iload_n hc dL_areAlike_57 3 rfl ?_
                refine zk_perm (ws2 := Wb_k ++ (W_38)) (pm_en _ _) ?_
                obtain ⟨hat_43_f, hat_43⟩ := cs_at hSb_k
                refine zk_callVi hc (rest := [.int (aTol S (nI k))]) (kx_told g l b2 S2 Wb_k cN (by omega) hI2 hSb_k (nI k)) gg_L_25 cd_X6_told ⟨Nat.le_of_ble_eq_true rfl, Nat.le_of_ble_eq_true rfl⟩ ⟨Nat.le_of_ble_eq_true rfl, Nat.le_of_ble_eq_true rfl⟩ ([]) W_38 (by simp only [List.append_nil, List.nil_append]) 0 (at_app hat_43) rfl rfl (Nat.le_of_ble_eq_true rfl) dL_areAlike_58 (fun r W_41 hp => ?_)
                obtain ⟨rfl, hS_42⟩ := hp
                refine zk_ws (ws2 := W_41 ++ (W_38)) (by simp only [List.append_nil, List.nil_append]) ?_
                refine zk_top (y := (aTol S (nI k))) (tol_eq hE (by omega) h48) ?_
                refine zk_icmp_ne hc 68 dL_areAlike_61 (by decide) (fun h61 => ?_) (fun h61 => ?_)
                · exact absurd rfl h61
                · refine zk_iconst hc (nI 1) dL_areAlike_64 rfl ?_
                  refine zk_goto hc 69 dL_areAlike_65 (by decide) ?_
                  refine zk_istore_n hc (lv2 := [(2, .int (nI 1)), (0, .ref b), (1, .ref b2), (3, .int (nI k))]) dL_areAlike_69 (by decide) rfl ?_
                  refine zk_iinc hc (v := nI (k + 1)) (lv2 := [(3, .int (nI (k + 1))), (2, .int (nI 1)), (0, .ref b), (1, .ref b2)]) dL_areAlike_70 3 rfl (nq_inc rfl) (by decide) rfl ?_
                  refine zk_goto hc 35 dL_areAlike_73 (by decide) ?_
                  refine zk_perm (ws2 := W_38 ++ (W_41)) (pm_en _ _) ?_
                  refine zk_lv [2, 3, 1, 0] (lv2 := [(0, .ref b), (1, .ref b2), (2, .int (nI 1)), (3, .int (nI (k + 1)))]) rfl ?_
                  exact ih35 (k + 1) W_38 W_41 (by omega) (by omega) hS_39 hS_42
      refine zk_lv [2, 3, 1, 0] (lv2 := [(0, .ref b), (1, .ref b2), (2, .int (nI 1)), (3, .int (nI 0))]) rfl ?_
      exact loop35 ((13 - 0) + 1) 0 W_8 W_11 (Nat.lt_succ_self _) (Nat.zero_le _) hS_9 hS_12
