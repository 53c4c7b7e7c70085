set_option maxHeartbeats 4000000 in
set_option maxRecDepth 100000 in
theorem ct_L_isMove (g : GG) (l : Launch) (b cN : Nat) (S : AS) (W : va_W) (hN : cN ≤ 500) (hI : INV cN S) (hS : CSt g b S W) (f t n : Nat) (hf : f < S.1 4) (ht : t < S.1 4) (hn0 : 1 ≤ n) (hn8 : n ≤ 8) : CtI g l yL_isMove cL_isMove 13 (some .boolean) (rmK 9 7 72) (W) [.ref b, .int (nI f), .int (nI t), .int (nI n)] (fun r W1 => r = nI 1 ∧ ∃ S2, EqS S S2 ∧ INV cN S2 ∧ CSt g b S2 W1) := by
  refine CtZ.go RL rfl (by decide +kernel) (Nat.le_of_ble_eq_true rfl) ?_
  intro p e s m args below meth c A H0 Q hc hnm fin
  have h4 := hI.1.1
  have hG := wf_GU hI.1
  have hm8 := wf_m8 hI.1
  have h12 := hI.1.2.2.2.2.2.2.1
  have hB := hI.1.2.2.2.2.2.2.2.2.2.2.2
  have hB6 := hB 6 (by omega)
  have hB8 := hB 8 (by omega)
  have hB9 := hB 9 (by omega)
  have hmf8 := hm8 f (by omega)
  have hmt8 := hm8 t (by omega)
  show KW g p l e (rmK 9 7 72) s m args below meth c 13 A H0 0 0 Q (W) [(0, .ref b), (1, .int (nI f)), (2, .int (nI t)), (3, .int (nI n))] 0 []
  rcases cos_two h4.2 hf ht hn0 hn8 (hm8 f (by omega)) with ⟨hneg, hft⟩ | ⟨ho, hco⟩
  · skip
    refine zk_aload_n hc dL_isMove_0 0 rfl ?_
    refine zk_iload_n hc dL_isMove_1 1 rfl ?_
    refine zk_iload_n hc dL_isMove_2 2 rfl ?_
    refine zk_iload_n hc dL_isMove_3 3 rfl ?_
    obtain ⟨hat_3_f, hat_3⟩ := cs_at hS
    refine zk_callVi hc (rest := []) (kx_cost g l b S W cN (by omega) hI hS (nI f) (nI t) (nI n)) gg_L_86 cd_X6_cost ⟨Nat.le_of_ble_eq_true rfl, Nat.le_of_ble_eq_true rfl⟩ ⟨Nat.le_of_ble_eq_true rfl, Nat.le_of_ble_eq_true rfl⟩ ([]) ([]) (by simp only [List.append_nil, List.nil_append]) 0 hat_3 rfl rfl (Nat.le_of_ble_eq_true rfl) dL_isMove_4 (fun r W_1 hp => ?_)
    obtain ⟨rfl, hS_2⟩ := hp
    refine zk_ws (ws2 := W_1) (by simp only [List.append_nil, List.nil_append]) ?_
    refine zk_top (y := (aCos S.1 (nI f) (nI t) (nI n))) rfl ?_
    refine zk_istore hc (lv2 := [(4, .int (aCos S.1 (nI f) (nI t) (nI n))), (0, .ref b), (1, .int (nI f)), (2, .int (nI t)), (3, .int (nI n))]) dL_isMove_7 (by decide) rfl ?_
    refine zk_aload_n hc dL_isMove_9 1 rfl ?_
    refine zk_iconst hc (nI 2) dL_isMove_10 rfl ?_
    obtain ⟨hat_6_f, hat_6⟩ := cs_at hS_2
    refine zk_callVi hc (rest := []) (kx_told g l b S W_1 cN (by omega) hI hS_2 (nI 2)) gg_L_25 cd_X6_told ⟨Nat.le_of_ble_eq_true rfl, Nat.le_of_ble_eq_true rfl⟩ ⟨Nat.le_of_ble_eq_true rfl, Nat.le_of_ble_eq_true rfl⟩ ([]) ([]) (by simp only [List.append_nil, List.nil_append]) 0 hat_6 rfl rfl (Nat.le_of_ble_eq_true rfl) dL_isMove_11 (fun r W_4 hp => ?_)
    obtain ⟨rfl, hS_5⟩ := hp
    refine zk_ws (ws2 := W_4) (by simp only [List.append_nil, List.nil_append]) ?_
    refine zk_top (y := nI (S.1 6)) (tol_n _ (by omega)) ?_
    refine zk_istore hc (lv2 := [(5, .int (nI (S.1 6))), (4, .int (aCos S.1 (nI f) (nI t) (nI n))), (0, .ref b), (1, .int (nI f)), (2, .int (nI t)), (3, .int (nI n))]) dL_isMove_14 (by decide) rfl ?_
    refine zk_aload_n hc dL_isMove_16 2 rfl ?_
    refine zk_bipush hc (nI 6) dL_isMove_17 rfl ?_
    obtain ⟨hat_9_f, hat_9⟩ := cs_at hS_5
    refine zk_callVi hc (rest := []) (kx_told g l b S W_4 cN (by omega) hI hS_5 (nI 6)) gg_L_25 cd_X6_told ⟨Nat.le_of_ble_eq_true rfl, Nat.le_of_ble_eq_true rfl⟩ ⟨Nat.le_of_ble_eq_true rfl, Nat.le_of_ble_eq_true rfl⟩ ([]) ([]) (by simp only [List.append_nil, List.nil_append]) 0 hat_9 rfl rfl (Nat.le_of_ble_eq_true rfl) dL_isMove_19 (fun r W_7 hp => ?_)
    obtain ⟨rfl, hS_8⟩ := hp
    refine zk_ws (ws2 := W_7) (by simp only [List.append_nil, List.nil_append]) ?_
    refine zk_top (y := nI (S.1 8)) (tol_n _ (by omega)) ?_
    refine zk_istore hc (lv2 := [(6, .int (nI (S.1 8))), (5, .int (nI (S.1 6))), (4, .int (aCos S.1 (nI f) (nI t) (nI n))), (0, .ref b), (1, .int (nI f)), (2, .int (nI t)), (3, .int (nI n))]) dL_isMove_22 (by decide) rfl ?_
    refine zk_aload_n hc dL_isMove_24 3 rfl ?_
    refine zk_bipush hc (nI 7) dL_isMove_25 rfl ?_
    obtain ⟨hat_12_f, hat_12⟩ := cs_at hS_8
    refine zk_callVi hc (rest := []) (kx_told g l b S W_7 cN (by omega) hI hS_8 (nI 7)) gg_L_25 cd_X6_told ⟨Nat.le_of_ble_eq_true rfl, Nat.le_of_ble_eq_true rfl⟩ ⟨Nat.le_of_ble_eq_true rfl, Nat.le_of_ble_eq_true rfl⟩ ([]) ([]) (by simp only [List.append_nil, List.nil_append]) 0 hat_12 rfl rfl (Nat.le_of_ble_eq_true rfl) dL_isMove_27 (fun r W_10 hp => ?_)
    obtain ⟨rfl, hS_11⟩ := hp
    refine zk_ws (ws2 := W_10) (by simp only [List.append_nil, List.nil_append]) ?_
    refine zk_top (y := nI (S.1 9)) (tol_n _ (by omega)) ?_
    refine zk_istore hc (lv2 := [(7, .int (nI (S.1 9))), (6, .int (nI (S.1 8))), (5, .int (nI (S.1 6))), (4, .int (aCos S.1 (nI f) (nI t) (nI n))), (0, .ref b), (1, .int (nI f)), (2, .int (nI t)), (3, .int (nI n))]) dL_isMove_30 (by decide) rfl ?_
    refine zk_aload_n hc dL_isMove_32 4 rfl ?_
    refine zk_iload_n hc dL_isMove_33 5 rfl ?_
    refine zk_iconst hc (nI 0) dL_isMove_34 rfl ?_
    obtain ⟨hat_15_f, hat_15⟩ := cs_at hS_11
    refine zk_callVi hc (rest := []) (kx_track g l b S W_10 cN (by omega) hI hS_11 (nI f) (nI 0)) gg_L_71 cd_X6_track ⟨Nat.le_of_ble_eq_true rfl, Nat.le_of_ble_eq_true rfl⟩ ⟨Nat.le_of_ble_eq_true rfl, Nat.le_of_ble_eq_true rfl⟩ ([]) ([]) (by simp only [List.append_nil, List.nil_append]) 0 hat_15 rfl rfl (Nat.le_of_ble_eq_true rfl) dL_isMove_35 (fun r W_13 hp => ?_)
    obtain ⟨rfl, hS_14⟩ := hp
    refine zk_ws (ws2 := W_13) (by simp only [List.append_nil, List.nil_append]) ?_
    refine zk_top (y := nI (mny S.1 f)) (trk_n h4.2 hf (by omega)) ?_
    refine zk_istore hc (lv2 := [(8, .int (nI (mny S.1 f))), (7, .int (nI (S.1 9))), (6, .int (nI (S.1 8))), (5, .int (nI (S.1 6))), (4, .int (aCos S.1 (nI f) (nI t) (nI n))), (0, .ref b), (1, .int (nI f)), (2, .int (nI t)), (3, .int (nI n))]) dL_isMove_38 (by decide) rfl ?_
    refine zk_aload_n hc dL_isMove_40 5 rfl ?_
    refine zk_iload_n hc dL_isMove_41 7 rfl ?_
    refine zk_iconst hc (nI 0) dL_isMove_42 rfl ?_
    obtain ⟨hat_18_f, hat_18⟩ := cs_at hS_14
    refine zk_callVi hc (rest := []) (kx_track g l b S W_13 cN (by omega) hI hS_14 (nI t) (nI 0)) gg_L_71 cd_X6_track ⟨Nat.le_of_ble_eq_true rfl, Nat.le_of_ble_eq_true rfl⟩ ⟨Nat.le_of_ble_eq_true rfl, Nat.le_of_ble_eq_true rfl⟩ ([]) ([]) (by simp only [List.append_nil, List.nil_append]) 0 hat_18 rfl rfl (Nat.le_of_ble_eq_true rfl) dL_isMove_43 (fun r W_16 hp => ?_)
    obtain ⟨rfl, hS_17⟩ := hp
    refine zk_ws (ws2 := W_16) (by simp only [List.append_nil, List.nil_append]) ?_
    refine zk_top (y := nI (mny S.1 t)) (trk_n h4.2 ht (by omega)) ?_
    refine zk_istore hc (lv2 := [(9, .int (nI (mny S.1 t))), (8, .int (nI (mny S.1 f))), (7, .int (nI (S.1 9))), (6, .int (nI (S.1 8))), (5, .int (nI (S.1 6))), (4, .int (aCos S.1 (nI f) (nI t) (nI n))), (0, .ref b), (1, .int (nI f)), (2, .int (nI t)), (3, .int (nI n))]) dL_isMove_46 (by decide) rfl ?_
    refine zk_iload hc dL_isMove_48 1 rfl ?_
    refine zk_if_leN hc 66 dL_isMove_50 (by decide) (by omega) (fun h50 => ?_) (fun h50 => ?_)
    · refine zk_bipush hc ((-9)) dL_isMove_66 rfl ?_
      refine zk_istore hc (lv2 := [(10, .int (-9)), (9, .int (nI (mny S.1 t))), (8, .int (nI (mny S.1 f))), (7, .int (nI (S.1 9))), (6, .int (nI (S.1 8))), (5, .int (nI (S.1 6))), (4, .int (aCos S.1 (nI f) (nI t) (nI n))), (0, .ref b), (1, .int (nI f)), (2, .int (nI t)), (3, .int (nI n))]) dL_isMove_68 (by decide) rfl ?_
      refine zk_aload_n hc dL_isMove_70 7 rfl ?_
      refine zk_iload_n hc dL_isMove_71 8 rfl ?_
      refine zk_iload_n hc dL_isMove_72 9 rfl ?_
      refine zk_iload_n hc dL_isMove_73 10 rfl ?_
      obtain ⟨hat_21_f, hat_21⟩ := cs_at hS_17
      refine zk_callVi hc (rest := []) (kx_move g l b S W_16 cN (by omega) hI hS_17 (nI f) (nI t) (nI n)) gg_L_67 cd_X6_move ⟨Nat.le_of_ble_eq_true rfl, Nat.le_of_ble_eq_true rfl⟩ ⟨Nat.le_of_ble_eq_true rfl, Nat.le_of_ble_eq_true rfl⟩ ([]) ([]) (by simp only [List.append_nil, List.nil_append]) 0 hat_21 rfl rfl (Nat.le_of_ble_eq_true rfl) dL_isMove_74 (fun r W_19 hp => ?_)
      obtain ⟨rfl, hS_20⟩ := hp
      refine zk_ws (ws2 := W_19) (by simp only [List.append_nil, List.nil_append]) ?_
      refine zk_top (y := (aCos S.1 (nI f) (nI t) (nI n))) rfl ?_
      rw [nmov_no hneg] at hS_20
      refine zk_istore hc (lv2 := [(11, .int (aCos S.1 (nI f) (nI t) (nI n))), (10, .int (-9)), (9, .int (nI (mny S.1 t))), (8, .int (nI (mny S.1 f))), (7, .int (nI (S.1 9))), (6, .int (nI (S.1 8))), (5, .int (nI (S.1 6))), (4, .int (aCos S.1 (nI f) (nI t) (nI n))), (0, .ref b), (1, .int (nI f)), (2, .int (nI t)), (3, .int (nI n))]) dL_isMove_77 (by decide) rfl ?_
      refine zk_iload hc dL_isMove_79 0 rfl ?_
      refine zk_if_ge hc 129 dL_isMove_81 (by decide) (fun h81 => ?_) (fun h81 => ?_)
      · exact absurd hneg (Int32.not_lt.mpr h81)
      · refine zk_iload hc dL_isMove_84 0 rfl ?_
        refine zk_iload hc dL_isMove_86 7 rfl ?_
        refine zk_icmp_ne hc 127 dL_isMove_88 (by decide) (fun h88 => ?_) (fun h88 => ?_)
        · exact absurd rfl h88
        · refine zk_aload_n hc dL_isMove_91 8 rfl ?_
          refine zk_iconst hc (nI 2) dL_isMove_92 rfl ?_
          obtain ⟨hat_24_f, hat_24⟩ := cs_at hS_20
          refine zk_callVi hc (rest := []) (kx_told g l b S W_19 cN (by omega) hI hS_20 (nI 2)) gg_L_25 cd_X6_told ⟨Nat.le_of_ble_eq_true rfl, Nat.le_of_ble_eq_true rfl⟩ ⟨Nat.le_of_ble_eq_true rfl, Nat.le_of_ble_eq_true rfl⟩ ([]) ([]) (by simp only [List.append_nil, List.nil_append]) 0 hat_24 rfl rfl (Nat.le_of_ble_eq_true rfl) dL_isMove_93 (fun r W_22 hp => ?_)
          obtain ⟨rfl, hS_23⟩ := hp
          refine zk_ws (ws2 := W_22) (by simp only [List.append_nil, List.nil_append]) ?_
          refine zk_top (y := nI (S.1 6)) (tol_n _ (by omega)) ?_
          refine zk_iload hc dL_isMove_96 6 rfl ?_
          refine zk_icmp_neN hc 127 dL_isMove_98 (by decide) (by omega) (by omega) (fun h_25 => ?_) (fun h_25 => ?_)
          · exact absurd h_25 (by omega)
          · refine zk_aload_n hc dL_isMove_101 8 rfl ?_
            refine zk_bipush hc (nI 6) dL_isMove_102 rfl ?_
            obtain ⟨hat_28_f, hat_28⟩ := cs_at hS_23
            refine zk_callVi hc (rest := []) (kx_told g l b S W_22 cN (by omega) hI hS_23 (nI 6)) gg_L_25 cd_X6_told ⟨Nat.le_of_ble_eq_true rfl, Nat.le_of_ble_eq_true rfl⟩ ⟨Nat.le_of_ble_eq_true rfl, Nat.le_of_ble_eq_true rfl⟩ ([]) ([]) (by simp only [List.append_nil, List.nil_append]) 0 hat_28 rfl rfl (Nat.le_of_ble_eq_true rfl) dL_isMove_104 (fun r W_26 hp => ?_)
            obtain ⟨rfl, hS_27⟩ := hp
            refine zk_ws (ws2 := W_26) (by simp only [List.append_nil, List.nil_append]) ?_
            refine zk_top (y := nI (S.1 8)) (tol_n _ (by omega)) ?_
            refine zk_iload hc dL_isMove_107 5 rfl ?_
            refine zk_icmp_neN hc 127 dL_isMove_109 (by decide) (by omega) (by omega) (fun h_29 => ?_) (fun h_29 => ?_)
            · exact absurd h_29 (by omega)
            · refine zk_iload_n hc dL_isMove_112 9 rfl ?_
              refine zk_iload_n hc dL_isMove_113 10 rfl ?_
              refine zk_icmp_neN hc 123 dL_isMove_114 (by decide) (by omega) (by omega) (fun h114 => ?_) (fun h114 => ?_)
              · refine zk_iconst hc (nI 1) dL_isMove_123 rfl ?_
                refine zk_goto hc 128 dL_isMove_124 (by decide) ?_
                refine fin 7 72 _ _ _ _ (by decide) (by decide) dL_isMove_128 rfl (?_)
                exact ⟨rfl, S, EqS.rf S, hI, hS_27⟩
              · refine zk_iload hc dL_isMove_117 0 rfl ?_
                refine zk_iconst hc ((-1)) dL_isMove_119 rfl ?_
                refine zk_icmp_ne hc 127 dL_isMove_120 (by decide) (fun h120 => ?_) (fun h120 => ?_)
                · exact absurd (hft (by omega)) h120
                · refine zk_iconst hc (nI 1) dL_isMove_123 rfl ?_
                  refine zk_goto hc 128 dL_isMove_124 (by decide) ?_
                  refine fin 7 72 _ _ _ _ (by decide) (by decide) dL_isMove_128 rfl (?_)
                  exact ⟨rfl, S, EqS.rf S, hI, hS_27⟩
    · refine zk_aload_n hc dL_isMove_53 6 rfl ?_
      refine zk_iload_n hc dL_isMove_54 7 rfl ?_
      refine zk_iload hc dL_isMove_55 1 rfl ?_
      refine zk_iconst hc (nI 1) dL_isMove_57 rfl ?_
      refine zk_isubN hc dL_isMove_58 (by omega) ?_
      refine zk_iconst hc (nI 0) dL_isMove_59 rfl ?_
      obtain ⟨hat_32_f, hat_32⟩ := cs_at hS_17
      refine zk_callVi hc (rest := []) (kx_wagon g l b S W_16 cN (by omega) hI hS_17 (nI f) (nI ((mny S.1 f) - 1)) (nI 0)) gg_L_74 cd_X6_wagon ⟨Nat.le_of_ble_eq_true rfl, Nat.le_of_ble_eq_true rfl⟩ ⟨Nat.le_of_ble_eq_true rfl, Nat.le_of_ble_eq_true rfl⟩ ([]) ([]) (by simp only [List.append_nil, List.nil_append]) 0 hat_32 rfl rfl (Nat.le_of_ble_eq_true rfl) dL_isMove_60 (fun r W_30 hp => ?_)
      obtain ⟨rfl, hS_31⟩ := hp
      refine zk_ws (ws2 := W_30) (by simp only [List.append_nil, List.nil_append]) ?_
      refine zk_top (y := nI (num S.1 f (mny S.1 f - 1))) (wag_n h4.2 hf (by omega) (by omega) (hm8 f (by omega))) ?_
      refine zk_goto hc 68 dL_isMove_63 (by decide) ?_
      refine zk_istore hc (lv2 := [(10, .int (nI (num S.1 f (mny S.1 f - 1)))), (9, .int (nI (mny S.1 t))), (8, .int (nI (mny S.1 f))), (7, .int (nI (S.1 9))), (6, .int (nI (S.1 8))), (5, .int (nI (S.1 6))), (4, .int (aCos S.1 (nI f) (nI t) (nI n))), (0, .ref b), (1, .int (nI f)), (2, .int (nI t)), (3, .int (nI n))]) dL_isMove_68 (by decide) rfl ?_
      refine zk_aload_n hc dL_isMove_70 7 rfl ?_
      refine zk_iload_n hc dL_isMove_71 8 rfl ?_
      refine zk_iload_n hc dL_isMove_72 9 rfl ?_
      refine zk_iload_n hc dL_isMove_73 10 rfl ?_
      obtain ⟨hat_35_f, hat_35⟩ := cs_at hS_31
      refine zk_callVi hc (rest := []) (kx_move g l b S W_30 cN (by omega) hI hS_31 (nI f) (nI t) (nI n)) gg_L_67 cd_X6_move ⟨Nat.le_of_ble_eq_true rfl, Nat.le_of_ble_eq_true rfl⟩ ⟨Nat.le_of_ble_eq_true rfl, Nat.le_of_ble_eq_true rfl⟩ ([]) ([]) (by simp only [List.append_nil, List.nil_append]) 0 hat_35 rfl rfl (Nat.le_of_ble_eq_true rfl) dL_isMove_74 (fun r W_33 hp => ?_)
      obtain ⟨rfl, hS_34⟩ := hp
      refine zk_ws (ws2 := W_33) (by simp only [List.append_nil, List.nil_append]) ?_
      refine zk_top (y := (aCos S.1 (nI f) (nI t) (nI n))) rfl ?_
      rw [nmov_no hneg] at hS_34
      refine zk_istore hc (lv2 := [(11, .int (aCos S.1 (nI f) (nI t) (nI n))), (10, .int (nI (num S.1 f (mny S.1 f - 1)))), (9, .int (nI (mny S.1 t))), (8, .int (nI (mny S.1 f))), (7, .int (nI (S.1 9))), (6, .int (nI (S.1 8))), (5, .int (nI (S.1 6))), (4, .int (aCos S.1 (nI f) (nI t) (nI n))), (0, .ref b), (1, .int (nI f)), (2, .int (nI t)), (3, .int (nI n))]) dL_isMove_77 (by decide) rfl ?_
      refine zk_iload hc dL_isMove_79 0 rfl ?_
      refine zk_if_ge hc 129 dL_isMove_81 (by decide) (fun h81 => ?_) (fun h81 => ?_)
      · exact absurd hneg (Int32.not_lt.mpr h81)
      · refine zk_iload hc dL_isMove_84 0 rfl ?_
        refine zk_iload hc dL_isMove_86 7 rfl ?_
        refine zk_icmp_ne hc 127 dL_isMove_88 (by decide) (fun h88 => ?_) (fun h88 => ?_)
        · exact absurd rfl h88
        · refine zk_aload_n hc dL_isMove_91 8 rfl ?_
          refine zk_iconst hc (nI 2) dL_isMove_92 rfl ?_
          obtain ⟨hat_38_f, hat_38⟩ := cs_at hS_34
          refine zk_callVi hc (rest := []) (kx_told g l b S W_33 cN (by omega) hI hS_34 (nI 2)) gg_L_25 cd_X6_told ⟨Nat.le_of_ble_eq_true rfl, Nat.le_of_ble_eq_true rfl⟩ ⟨Nat.le_of_ble_eq_true rfl, Nat.le_of_ble_eq_true rfl⟩ ([]) ([]) (by simp only [List.append_nil, List.nil_append]) 0 hat_38 rfl rfl (Nat.le_of_ble_eq_true rfl) dL_isMove_93 (fun r W_36 hp => ?_)
          obtain ⟨rfl, hS_37⟩ := hp
          refine zk_ws (ws2 := W_36) (by simp only [List.append_nil, List.nil_append]) ?_
          refine zk_top (y := nI (S.1 6)) (tol_n _ (by omega)) ?_
          refine zk_iload hc dL_isMove_96 6 rfl ?_
          refine zk_icmp_neN hc 127 dL_isMove_98 (by decide) (by omega) (by omega) (fun h_39 => ?_) (fun h_39 => ?_)
          · exact absurd h_39 (by omega)
          · refine zk_aload_n hc dL_isMove_101 8 rfl ?_
            refine zk_bipush hc (nI 6) dL_isMove_102 rfl ?_
            obtain ⟨hat_42_f, hat_42⟩ := cs_at hS_37
            refine zk_callVi hc (rest := []) (kx_told g l b S W_36 cN (by omega) hI hS_37 (nI 6)) gg_L_25 cd_X6_told ⟨Nat.le_of_ble_eq_true rfl, Nat.le_of_ble_eq_true rfl⟩ ⟨Nat.le_of_ble_eq_true rfl, Nat.le_of_ble_eq_true rfl⟩ ([]) ([]) (by simp only [List.append_nil, List.nil_append]) 0 hat_42 rfl rfl (Nat.le_of_ble_eq_true rfl) dL_isMove_104 (fun r W_40 hp => ?_)
            obtain ⟨rfl, hS_41⟩ := hp
            refine zk_ws (ws2 := W_40) (by simp only [List.append_nil, List.nil_append]) ?_
            refine zk_top (y := nI (S.1 8)) (tol_n _ (by omega)) ?_
            refine zk_iload hc dL_isMove_107 5 rfl ?_
            refine zk_icmp_neN hc 127 dL_isMove_109 (by decide) (by omega) (by omega) (fun h_43 => ?_) (fun h_43 => ?_)
            · exact absurd h_43 (by omega)
            · refine zk_iload_n hc dL_isMove_112 9 rfl ?_
              refine zk_iload_n hc dL_isMove_113 10 rfl ?_
              refine zk_icmp_neN hc 123 dL_isMove_114 (by decide) (by omega) (by omega) (fun h114 => ?_) (fun h114 => ?_)
              · refine zk_iconst hc (nI 1) dL_isMove_123 rfl ?_
                refine zk_goto hc 128 dL_isMove_124 (by decide) ?_
                refine fin 7 72 _ _ _ _ (by decide) (by decide) dL_isMove_128 rfl (?_)
                exact ⟨rfl, S, EqS.rf S, hI, hS_41⟩
              · refine zk_iload hc dL_isMove_117 0 rfl ?_
                refine zk_iconst hc ((-1)) dL_isMove_119 rfl ?_
                refine zk_icmp_ne hc 127 dL_isMove_120 (by decide) (fun h120 => ?_) (fun h120 => ?_)
                · exact absurd (hft (by omega)) h120
                · refine zk_iconst hc (nI 1) dL_isMove_123 rfl ?_
                  refine zk_goto hc 128 dL_isMove_124 (by decide) ?_
                  refine fin 7 72 _ _ _ _ (by decide) (by decide) dL_isMove_128 rfl (?_)
                  exact ⟨rfl, S, EqS.rf S, hI, hS_41⟩
  · obtain ⟨hf0, ht0, hne, hn1, hnm, -⟩ := id ho
    have hfit := (okM_fit ho).1
    have h5 := hG.2.1
    have hmi : mins S.1 f t n ≤ 39 := mins_le hG.2.2.1 (by omega) (by omega) (by omega)
    have hmf := hm8 f (by omega)
    have hmt := hm8 t (by omega)
    have hgo : nMov S (nI f) (nI t) (nI n) = chg S (nxU S.1 f t n) := nmov_go h4.2 hf ht hn8 (by rw [hco]; exact nI_pos (by omega))
    have hI2 : INV (cN + 1) (chg S (nxU S.1 f t n)) := by have := INV_mov hI (nI f) (nI t) (nI n); rw [hgo] at this; exact this
    obtain ⟨hE, hI3, hun, hr8, -⟩ := und_back hI (u2 := nxU S.1 f t n) (fun j hj => nx_big hG ho hj)
    have k4 : nxU S.1 f t n 4 = S.1 4 := nx_4
    have qf0 : aTrk (nxU S.1 f t n) (nI f) (nI 0) = nI (mny S.1 f - n) := by rw [trk_n (by omega) (by omega) (by omega)]; show nI (mny _ f) = _; rw [nx_mny hG ho (by omega), if_neg hne, if_pos rfl]
    have qt0 : aTrk (nxU S.1 f t n) (nI t) (nI 0) = nI (mny S.1 t + n) := by rw [trk_n (by omega) (by omega) (by omega)]; show nI (mny _ t) = _; rw [nx_mny hG ho (by omega), if_pos rfl]
    have qf1 : aTrk (nxU S.1 f t n) (nI f) (nI 1) = nI 1 := by rw [trk_n (by omega) (by omega) (by omega), trk_1, if_pos (nx_safe hG ho (Or.inl rfl))]
    have qt1 : aTrk (nxU S.1 f t n) (nI t) (nI 1) = nI 1 := by rw [trk_n (by omega) (by omega) (by omega), trk_1, if_pos (nx_safe hG ho (Or.inr rfl))]
    have qf2 : aTrk (nxU S.1 f t n) (nI f) (nI 2) = nI 0 := by rw [trk_n (by omega) (by omega) (by omega)]; show nI (hold _ f) = _; rw [nx_hold hG ho (Or.inl rfl)]
    have qt2 : aTrk (nxU S.1 f t n) (nI t) (nI 2) = nI 0 := by rw [trk_n (by omega) (by omega) (by omega)]; show nI (hold _ t) = _; rw [nx_hold hG ho (Or.inr rfl)]
    have qm : mny (nxU S.1 f t n) t = mny S.1 t + n := by rw [nx_mny hG ho (by omega), if_pos rfl]
    have qw : aWag (nxU S.1 f t n) (nI t) (nI (mny S.1 t + n - 1)) (nI 0) = nI (num S.1 f (mny S.1 f - 1)) := by rw [wag_n (by omega) (by omega) (by omega) (by omega) (by omega)]; exact congrArg nI (nx_out hG ho)
    refine zk_aload_n hc dL_isMove_0 0 rfl ?_
    refine zk_iload_n hc dL_isMove_1 1 rfl ?_
    refine zk_iload_n hc dL_isMove_2 2 rfl ?_
    refine zk_iload_n hc dL_isMove_3 3 rfl ?_
    obtain ⟨hat_46_f, hat_46⟩ := cs_at hS
    refine zk_callVi hc (rest := []) (kx_cost g l b S W cN (by omega) hI hS (nI f) (nI t) (nI n)) gg_L_86 cd_X6_cost ⟨Nat.le_of_ble_eq_true rfl, Nat.le_of_ble_eq_true rfl⟩ ⟨Nat.le_of_ble_eq_true rfl, Nat.le_of_ble_eq_true rfl⟩ ([]) ([]) (by simp only [List.append_nil, List.nil_append]) 0 hat_46 rfl rfl (Nat.le_of_ble_eq_true rfl) dL_isMove_4 (fun r W_44 hp => ?_)
    obtain ⟨rfl, hS_45⟩ := hp
    refine zk_ws (ws2 := W_44) (by simp only [List.append_nil, List.nil_append]) ?_
    refine zk_top (y := nI (mins S.1 f t n)) hco ?_
    refine zk_istore hc (lv2 := [(4, .int (nI (mins S.1 f t n))), (0, .ref b), (1, .int (nI f)), (2, .int (nI t)), (3, .int (nI n))]) dL_isMove_7 (by decide) rfl ?_
    refine zk_aload_n hc dL_isMove_9 1 rfl ?_
    refine zk_iconst hc (nI 2) dL_isMove_10 rfl ?_
    obtain ⟨hat_49_f, hat_49⟩ := cs_at hS_45
    refine zk_callVi hc (rest := []) (kx_told g l b S W_44 cN (by omega) hI hS_45 (nI 2)) gg_L_25 cd_X6_told ⟨Nat.le_of_ble_eq_true rfl, Nat.le_of_ble_eq_true rfl⟩ ⟨Nat.le_of_ble_eq_true rfl, Nat.le_of_ble_eq_true rfl⟩ ([]) ([]) (by simp only [List.append_nil, List.nil_append]) 0 hat_49 rfl rfl (Nat.le_of_ble_eq_true rfl) dL_isMove_11 (fun r W_47 hp => ?_)
    obtain ⟨rfl, hS_48⟩ := hp
    refine zk_ws (ws2 := W_47) (by simp only [List.append_nil, List.nil_append]) ?_
    refine zk_top (y := nI (S.1 6)) (tol_n _ (by omega)) ?_
    refine zk_istore hc (lv2 := [(5, .int (nI (S.1 6))), (4, .int (nI (mins S.1 f t n))), (0, .ref b), (1, .int (nI f)), (2, .int (nI t)), (3, .int (nI n))]) dL_isMove_14 (by decide) rfl ?_
    refine zk_aload_n hc dL_isMove_16 2 rfl ?_
    refine zk_bipush hc (nI 6) dL_isMove_17 rfl ?_
    obtain ⟨hat_52_f, hat_52⟩ := cs_at hS_48
    refine zk_callVi hc (rest := []) (kx_told g l b S W_47 cN (by omega) hI hS_48 (nI 6)) gg_L_25 cd_X6_told ⟨Nat.le_of_ble_eq_true rfl, Nat.le_of_ble_eq_true rfl⟩ ⟨Nat.le_of_ble_eq_true rfl, Nat.le_of_ble_eq_true rfl⟩ ([]) ([]) (by simp only [List.append_nil, List.nil_append]) 0 hat_52 rfl rfl (Nat.le_of_ble_eq_true rfl) dL_isMove_19 (fun r W_50 hp => ?_)
    obtain ⟨rfl, hS_51⟩ := hp
    refine zk_ws (ws2 := W_50) (by simp only [List.append_nil, List.nil_append]) ?_
    refine zk_top (y := nI (S.1 8)) (tol_n _ (by omega)) ?_
    refine zk_istore hc (lv2 := [(6, .int (nI (S.1 8))), (5, .int (nI (S.1 6))), (4, .int (nI (mins S.1 f t n))), (0, .ref b), (1, .int (nI f)), (2, .int (nI t)), (3, .int (nI n))]) dL_isMove_22 (by decide) rfl ?_
    refine zk_aload_n hc dL_isMove_24 3 rfl ?_
    refine zk_bipush hc (nI 7) dL_isMove_25 rfl ?_
    obtain ⟨hat_55_f, hat_55⟩ := cs_at hS_51
    refine zk_callVi hc (rest := []) (kx_told g l b S W_50 cN (by omega) hI hS_51 (nI 7)) gg_L_25 cd_X6_told ⟨Nat.le_of_ble_eq_true rfl, Nat.le_of_ble_eq_true rfl⟩ ⟨Nat.le_of_ble_eq_true rfl, Nat.le_of_ble_eq_true rfl⟩ ([]) ([]) (by simp only [List.append_nil, List.nil_append]) 0 hat_55 rfl rfl (Nat.le_of_ble_eq_true rfl) dL_isMove_27 (fun r W_53 hp => ?_)
    obtain ⟨rfl, hS_54⟩ := hp
    refine zk_ws (ws2 := W_53) (by simp only [List.append_nil, List.nil_append]) ?_
    refine zk_top (y := nI (S.1 9)) (tol_n _ (by omega)) ?_
    refine zk_istore hc (lv2 := [(7, .int (nI (S.1 9))), (6, .int (nI (S.1 8))), (5, .int (nI (S.1 6))), (4, .int (nI (mins S.1 f t n))), (0, .ref b), (1, .int (nI f)), (2, .int (nI t)), (3, .int (nI n))]) dL_isMove_30 (by decide) rfl ?_
    refine zk_aload_n hc dL_isMove_32 4 rfl ?_
    refine zk_iload_n hc dL_isMove_33 5 rfl ?_
    refine zk_iconst hc (nI 0) dL_isMove_34 rfl ?_
    obtain ⟨hat_58_f, hat_58⟩ := cs_at hS_54
    refine zk_callVi hc (rest := []) (kx_track g l b S W_53 cN (by omega) hI hS_54 (nI f) (nI 0)) gg_L_71 cd_X6_track ⟨Nat.le_of_ble_eq_true rfl, Nat.le_of_ble_eq_true rfl⟩ ⟨Nat.le_of_ble_eq_true rfl, Nat.le_of_ble_eq_true rfl⟩ ([]) ([]) (by simp only [List.append_nil, List.nil_append]) 0 hat_58 rfl rfl (Nat.le_of_ble_eq_true rfl) dL_isMove_35 (fun r W_56 hp => ?_)
    obtain ⟨rfl, hS_57⟩ := hp
    refine zk_ws (ws2 := W_56) (by simp only [List.append_nil, List.nil_append]) ?_
    refine zk_top (y := nI (mny S.1 f)) (trk_n h4.2 hf (by omega)) ?_
    refine zk_istore hc (lv2 := [(8, .int (nI (mny S.1 f))), (7, .int (nI (S.1 9))), (6, .int (nI (S.1 8))), (5, .int (nI (S.1 6))), (4, .int (nI (mins S.1 f t n))), (0, .ref b), (1, .int (nI f)), (2, .int (nI t)), (3, .int (nI n))]) dL_isMove_38 (by decide) rfl ?_
    refine zk_aload_n hc dL_isMove_40 5 rfl ?_
    refine zk_iload_n hc dL_isMove_41 7 rfl ?_
    refine zk_iconst hc (nI 0) dL_isMove_42 rfl ?_
    obtain ⟨hat_61_f, hat_61⟩ := cs_at hS_57
    refine zk_callVi hc (rest := []) (kx_track g l b S W_56 cN (by omega) hI hS_57 (nI t) (nI 0)) gg_L_71 cd_X6_track ⟨Nat.le_of_ble_eq_true rfl, Nat.le_of_ble_eq_true rfl⟩ ⟨Nat.le_of_ble_eq_true rfl, Nat.le_of_ble_eq_true rfl⟩ ([]) ([]) (by simp only [List.append_nil, List.nil_append]) 0 hat_61 rfl rfl (Nat.le_of_ble_eq_true rfl) dL_isMove_43 (fun r W_59 hp => ?_)
    obtain ⟨rfl, hS_60⟩ := hp
    refine zk_ws (ws2 := W_59) (by simp only [List.append_nil, List.nil_append]) ?_
    refine zk_top (y := nI (mny S.1 t)) (trk_n h4.2 ht (by omega)) ?_
    refine zk_istore hc (lv2 := [(9, .int (nI (mny S.1 t))), (8, .int (nI (mny S.1 f))), (7, .int (nI (S.1 9))), (6, .int (nI (S.1 8))), (5, .int (nI (S.1 6))), (4, .int (nI (mins S.1 f t n))), (0, .ref b), (1, .int (nI f)), (2, .int (nI t)), (3, .int (nI n))]) dL_isMove_46 (by decide) rfl ?_
    refine zk_iload hc dL_isMove_48 1 rfl ?_
    refine zk_if_leN hc 66 dL_isMove_50 (by decide) (by omega) (fun h50 => ?_) (fun h50 => ?_)
    · exact absurd h50 (by omega)
    · refine zk_aload_n hc dL_isMove_53 6 rfl ?_
      refine zk_iload_n hc dL_isMove_54 7 rfl ?_
      refine zk_iload hc dL_isMove_55 1 rfl ?_
      refine zk_iconst hc (nI 1) dL_isMove_57 rfl ?_
      refine zk_isubN hc dL_isMove_58 (by omega) ?_
      refine zk_iconst hc (nI 0) dL_isMove_59 rfl ?_
      obtain ⟨hat_64_f, hat_64⟩ := cs_at hS_60
      refine zk_callVi hc (rest := []) (kx_wagon g l b S W_59 cN (by omega) hI hS_60 (nI f) (nI ((mny S.1 f) - 1)) (nI 0)) gg_L_74 cd_X6_wagon ⟨Nat.le_of_ble_eq_true rfl, Nat.le_of_ble_eq_true rfl⟩ ⟨Nat.le_of_ble_eq_true rfl, Nat.le_of_ble_eq_true rfl⟩ ([]) ([]) (by simp only [List.append_nil, List.nil_append]) 0 hat_64 rfl rfl (Nat.le_of_ble_eq_true rfl) dL_isMove_60 (fun r W_62 hp => ?_)
      obtain ⟨rfl, hS_63⟩ := hp
      refine zk_ws (ws2 := W_62) (by simp only [List.append_nil, List.nil_append]) ?_
      refine zk_top (y := nI (num S.1 f (mny S.1 f - 1))) (wag_n h4.2 hf (by omega) (by omega) (hm8 f (by omega))) ?_
      refine zk_goto hc 68 dL_isMove_63 (by decide) ?_
      refine zk_istore hc (lv2 := [(10, .int (nI (num S.1 f (mny S.1 f - 1)))), (9, .int (nI (mny S.1 t))), (8, .int (nI (mny S.1 f))), (7, .int (nI (S.1 9))), (6, .int (nI (S.1 8))), (5, .int (nI (S.1 6))), (4, .int (nI (mins S.1 f t n))), (0, .ref b), (1, .int (nI f)), (2, .int (nI t)), (3, .int (nI n))]) dL_isMove_68 (by decide) rfl ?_
      refine zk_aload_n hc dL_isMove_70 7 rfl ?_
      refine zk_iload_n hc dL_isMove_71 8 rfl ?_
      refine zk_iload_n hc dL_isMove_72 9 rfl ?_
      refine zk_iload_n hc dL_isMove_73 10 rfl ?_
      obtain ⟨hat_67_f, hat_67⟩ := cs_at hS_63
      refine zk_callVi hc (rest := []) (kx_move g l b S W_62 cN (by omega) hI hS_63 (nI f) (nI t) (nI n)) gg_L_67 cd_X6_move ⟨Nat.le_of_ble_eq_true rfl, Nat.le_of_ble_eq_true rfl⟩ ⟨Nat.le_of_ble_eq_true rfl, Nat.le_of_ble_eq_true rfl⟩ ([]) ([]) (by simp only [List.append_nil, List.nil_append]) 0 hat_67 rfl rfl (Nat.le_of_ble_eq_true rfl) dL_isMove_74 (fun r W_65 hp => ?_)
      obtain ⟨rfl, hS_66⟩ := hp
      refine zk_ws (ws2 := W_65) (by simp only [List.append_nil, List.nil_append]) ?_
      refine zk_top (y := nI (mins S.1 f t n)) hco ?_
      rw [hgo] at hS_66
      refine zk_istore hc (lv2 := [(11, .int (nI (mins S.1 f t n))), (10, .int (nI (num S.1 f (mny S.1 f - 1)))), (9, .int (nI (mny S.1 t))), (8, .int (nI (mny S.1 f))), (7, .int (nI (S.1 9))), (6, .int (nI (S.1 8))), (5, .int (nI (S.1 6))), (4, .int (nI (mins S.1 f t n))), (0, .ref b), (1, .int (nI f)), (2, .int (nI t)), (3, .int (nI n))]) dL_isMove_77 (by decide) rfl ?_
      refine zk_iload hc dL_isMove_79 0 rfl ?_
      refine zk_if_ge hc 129 dL_isMove_81 (by decide) (fun h81 => ?_) (fun h81 => ?_)
      · refine zk_iload hc dL_isMove_129 0 rfl ?_
        refine zk_iload hc dL_isMove_131 7 rfl ?_
        refine zk_icmp_neN hc 223 dL_isMove_133 (by decide) (by omega) (by omega) (fun h_68 => ?_) (fun h_68 => ?_)
        · exact absurd h_68 (by omega)
        · refine zk_aload_n hc dL_isMove_136 8 rfl ?_
          refine zk_iconst hc (nI 2) dL_isMove_137 rfl ?_
          obtain ⟨hat_71_f, hat_71⟩ := cs_at hS_66
          refine zk_callVi hc (rest := []) (kx_told g l b (chg S (nxU S.1 f t n)) W_65 (cN + 1) (by omega) hI2 hS_66 (nI 2)) gg_L_25 cd_X6_told ⟨Nat.le_of_ble_eq_true rfl, Nat.le_of_ble_eq_true rfl⟩ ⟨Nat.le_of_ble_eq_true rfl, Nat.le_of_ble_eq_true rfl⟩ ([]) ([]) (by simp only [List.append_nil, List.nil_append]) 0 hat_71 rfl rfl (Nat.le_of_ble_eq_true rfl) dL_isMove_138 (fun r W_69 hp => ?_)
          obtain ⟨rfl, hS_70⟩ := hp
          refine zk_ws (ws2 := W_69) (by simp only [List.append_nil, List.nil_append]) ?_
          refine zk_top (y := nI (S.1 6 + mins S.1 f t n)) ((tol_n _ (by omega)).trans (congrArg nI (nx_6 (u := S.1) (f := f) (t := t) (n := n)))) ?_
          refine zk_iload hc dL_isMove_141 6 rfl ?_
          refine zk_iload hc dL_isMove_143 0 rfl ?_
          refine zk_iaddN hc dL_isMove_145 ?_
          refine zk_icmp_neN hc 223 dL_isMove_146 (by decide) (by omega) (by omega) (fun h_72 => ?_) (fun h_72 => ?_)
          · exact absurd h_72 (by omega)
          · refine zk_aload_n hc dL_isMove_149 8 rfl ?_
            refine zk_bipush hc (nI 6) dL_isMove_150 rfl ?_
            obtain ⟨hat_75_f, hat_75⟩ := cs_at hS_70
            refine zk_callVi hc (rest := []) (kx_told g l b (chg S (nxU S.1 f t n)) W_69 (cN + 1) (by omega) hI2 hS_70 (nI 6)) gg_L_25 cd_X6_told ⟨Nat.le_of_ble_eq_true rfl, Nat.le_of_ble_eq_true rfl⟩ ⟨Nat.le_of_ble_eq_true rfl, Nat.le_of_ble_eq_true rfl⟩ ([]) ([]) (by simp only [List.append_nil, List.nil_append]) 0 hat_75 rfl rfl (Nat.le_of_ble_eq_true rfl) dL_isMove_152 (fun r W_73 hp => ?_)
            obtain ⟨rfl, hS_74⟩ := hp
            refine zk_ws (ws2 := W_73) (by simp only [List.append_nil, List.nil_append]) ?_
            refine zk_top (y := nI (S.1 8 + 1)) ((tol_n _ (by omega)).trans (congrArg nI (nx_8 (u := S.1) (f := f) (t := t) (n := n)))) ?_
            refine zk_iload hc dL_isMove_155 5 rfl ?_
            refine zk_iconst hc (nI 1) dL_isMove_157 rfl ?_
            refine zk_iaddN hc dL_isMove_158 ?_
            refine zk_icmp_neN hc 223 dL_isMove_159 (by decide) (by omega) (by omega) (fun h_76 => ?_) (fun h_76 => ?_)
            · exact absurd h_76 (by omega)
            · refine zk_aload_n hc dL_isMove_162 8 rfl ?_
              refine zk_bipush hc (nI 7) dL_isMove_163 rfl ?_
              obtain ⟨hat_79_f, hat_79⟩ := cs_at hS_74
              refine zk_callVi hc (rest := []) (kx_told g l b (chg S (nxU S.1 f t n)) W_73 (cN + 1) (by omega) hI2 hS_74 (nI 7)) gg_L_25 cd_X6_told ⟨Nat.le_of_ble_eq_true rfl, Nat.le_of_ble_eq_true rfl⟩ ⟨Nat.le_of_ble_eq_true rfl, Nat.le_of_ble_eq_true rfl⟩ ([]) ([]) (by simp only [List.append_nil, List.nil_append]) 0 hat_79 rfl rfl (Nat.le_of_ble_eq_true rfl) dL_isMove_165 (fun r W_77 hp => ?_)
              obtain ⟨rfl, hS_78⟩ := hp
              refine zk_ws (ws2 := W_77) (by simp only [List.append_nil, List.nil_append]) ?_
              refine zk_top (y := nI (S.1 9 + mins S.1 f t n)) ((tol_n _ (by omega)).trans (congrArg nI (nx_9 (u := S.1) (f := f) (t := t) (n := n)))) ?_
              refine zk_iload hc dL_isMove_168 4 rfl ?_
              refine zk_iload hc dL_isMove_170 0 rfl ?_
              refine zk_iaddN hc dL_isMove_172 ?_
              refine zk_icmp_neN hc 223 dL_isMove_173 (by decide) (by omega) (by omega) (fun h_80 => ?_) (fun h_80 => ?_)
              · exact absurd h_80 (by omega)
              · refine zk_aload_n hc dL_isMove_176 8 rfl ?_
                refine zk_iload_n hc dL_isMove_177 9 rfl ?_
                refine zk_iconst hc (nI 0) dL_isMove_178 rfl ?_
                obtain ⟨hat_83_f, hat_83⟩ := cs_at hS_78
                refine zk_callVi hc (rest := []) (kx_track g l b (chg S (nxU S.1 f t n)) W_77 (cN + 1) (by omega) hI2 hS_78 (nI f) (nI 0)) gg_L_71 cd_X6_track ⟨Nat.le_of_ble_eq_true rfl, Nat.le_of_ble_eq_true rfl⟩ ⟨Nat.le_of_ble_eq_true rfl, Nat.le_of_ble_eq_true rfl⟩ ([]) ([]) (by simp only [List.append_nil, List.nil_append]) 0 hat_83 rfl rfl (Nat.le_of_ble_eq_true rfl) dL_isMove_179 (fun r W_81 hp => ?_)
                obtain ⟨rfl, hS_82⟩ := hp
                refine zk_ws (ws2 := W_81) (by simp only [List.append_nil, List.nil_append]) ?_
                refine zk_top (y := nI (mny S.1 f - n)) qf0 ?_
                refine zk_iload hc dL_isMove_182 3 rfl ?_
                refine zk_iload_n hc dL_isMove_184 11 rfl ?_
                refine zk_isubN hc dL_isMove_185 (by omega) ?_
                refine zk_icmp_neN hc 223 dL_isMove_186 (by decide) (by omega) (by omega) (fun h_84 => ?_) (fun h_84 => ?_)
                · exact absurd h_84 (by omega)
                · refine zk_aload_n hc dL_isMove_189 8 rfl ?_
                  refine zk_iload_n hc dL_isMove_190 10 rfl ?_
                  refine zk_iconst hc (nI 0) dL_isMove_191 rfl ?_
                  obtain ⟨hat_87_f, hat_87⟩ := cs_at hS_82
                  refine zk_callVi hc (rest := []) (kx_track g l b (chg S (nxU S.1 f t n)) W_81 (cN + 1) (by omega) hI2 hS_82 (nI t) (nI 0)) gg_L_71 cd_X6_track ⟨Nat.le_of_ble_eq_true rfl, Nat.le_of_ble_eq_true rfl⟩ ⟨Nat.le_of_ble_eq_true rfl, Nat.le_of_ble_eq_true rfl⟩ ([]) ([]) (by simp only [List.append_nil, List.nil_append]) 0 hat_87 rfl rfl (Nat.le_of_ble_eq_true rfl) dL_isMove_192 (fun r W_85 hp => ?_)
                  obtain ⟨rfl, hS_86⟩ := hp
                  refine zk_ws (ws2 := W_85) (by simp only [List.append_nil, List.nil_append]) ?_
                  refine zk_top (y := nI (mny S.1 t + n)) qt0 ?_
                  refine zk_iload hc dL_isMove_195 2 rfl ?_
                  refine zk_iload_n hc dL_isMove_197 11 rfl ?_
                  refine zk_iaddN hc dL_isMove_198 ?_
                  refine zk_icmp_neN hc 223 dL_isMove_199 (by decide) (by omega) (by omega) (fun h_88 => ?_) (fun h_88 => ?_)
                  · exact absurd h_88 (by omega)
                  · refine zk_aload_n hc dL_isMove_202 8 rfl ?_
                    refine zk_iload_n hc dL_isMove_203 10 rfl ?_
                    refine zk_iload hc dL_isMove_204 2 rfl ?_
                    refine zk_iload_n hc dL_isMove_206 11 rfl ?_
                    refine zk_iaddN hc dL_isMove_207 ?_
                    refine zk_iconst hc (nI 1) dL_isMove_208 rfl ?_
                    refine zk_isubN hc dL_isMove_209 (by omega) ?_
                    refine zk_iconst hc (nI 0) dL_isMove_210 rfl ?_
                    obtain ⟨hat_91_f, hat_91⟩ := cs_at hS_86
                    refine zk_callVi hc (rest := []) (kx_wagon g l b (chg S (nxU S.1 f t n)) W_85 (cN + 1) (by omega) hI2 hS_86 (nI t) (nI (((mny S.1 t) + n) - 1)) (nI 0)) gg_L_74 cd_X6_wagon ⟨Nat.le_of_ble_eq_true rfl, Nat.le_of_ble_eq_true rfl⟩ ⟨Nat.le_of_ble_eq_true rfl, Nat.le_of_ble_eq_true rfl⟩ ([]) ([]) (by simp only [List.append_nil, List.nil_append]) 0 hat_91 rfl rfl (Nat.le_of_ble_eq_true rfl) dL_isMove_211 (fun r W_89 hp => ?_)
                    obtain ⟨rfl, hS_90⟩ := hp
                    refine zk_ws (ws2 := W_89) (by simp only [List.append_nil, List.nil_append]) ?_
                    refine zk_top (y := nI (num S.1 f (mny S.1 f - 1))) qw ?_
                    refine zk_iload hc dL_isMove_214 1 rfl ?_
                    refine zk_icmp_ne hc 223 dL_isMove_216 (by decide) (fun h216 => ?_) (fun h216 => ?_)
                    · exact absurd rfl h216
                    · refine zk_iconst hc (nI 1) dL_isMove_219 rfl ?_
                      refine zk_goto hc 224 dL_isMove_220 (by decide) ?_
                      refine zk_istore hc (lv2 := [(12, .int (nI 1)), (11, .int (nI (mins S.1 f t n))), (10, .int (nI (num S.1 f (mny S.1 f - 1)))), (9, .int (nI (mny S.1 t))), (8, .int (nI (mny S.1 f))), (7, .int (nI (S.1 9))), (6, .int (nI (S.1 8))), (5, .int (nI (S.1 6))), (4, .int (nI (mins S.1 f t n))), (0, .ref b), (1, .int (nI f)), (2, .int (nI t)), (3, .int (nI n))]) dL_isMove_224 (by decide) rfl ?_
                      refine zk_iload hc dL_isMove_226 0 rfl ?_
                      refine zk_if_eqN hc 273 dL_isMove_228 (by decide) (by omega) (fun h_92 => ?_) (fun h_92 => ?_)
                      · exact absurd h_92 (by decide)
                      · refine zk_aload_n hc dL_isMove_231 9 rfl ?_
                        refine zk_iload_n hc dL_isMove_232 10 rfl ?_
                        refine zk_iconst hc (nI 1) dL_isMove_233 rfl ?_
                        obtain ⟨hat_95_f, hat_95⟩ := cs_at hS_90
                        refine zk_callVi hc (rest := []) (kx_track g l b (chg S (nxU S.1 f t n)) W_89 (cN + 1) (by omega) hI2 hS_90 (nI f) (nI 1)) gg_L_71 cd_X6_track ⟨Nat.le_of_ble_eq_true rfl, Nat.le_of_ble_eq_true rfl⟩ ⟨Nat.le_of_ble_eq_true rfl, Nat.le_of_ble_eq_true rfl⟩ ([]) ([]) (by simp only [List.append_nil, List.nil_append]) 0 hat_95 rfl rfl (Nat.le_of_ble_eq_true rfl) dL_isMove_234 (fun r W_93 hp => ?_)
                        obtain ⟨rfl, hS_94⟩ := hp
                        refine zk_ws (ws2 := W_93) (by simp only [List.append_nil, List.nil_append]) ?_
                        refine zk_top (y := nI 1) qf1 ?_
                        refine zk_iconst hc (nI 1) dL_isMove_237 rfl ?_
                        refine zk_icmp_neN hc 273 dL_isMove_238 (by decide) (by omega) (by omega) (fun h_96 => ?_) (fun h_96 => ?_)
                        · exact absurd h_96 (by decide)
                        · refine zk_aload_n hc dL_isMove_241 9 rfl ?_
                          refine zk_iload_n hc dL_isMove_242 11 rfl ?_
                          refine zk_iconst hc (nI 1) dL_isMove_243 rfl ?_
                          obtain ⟨hat_99_f, hat_99⟩ := cs_at hS_94
                          refine zk_callVi hc (rest := []) (kx_track g l b (chg S (nxU S.1 f t n)) W_93 (cN + 1) (by omega) hI2 hS_94 (nI t) (nI 1)) gg_L_71 cd_X6_track ⟨Nat.le_of_ble_eq_true rfl, Nat.le_of_ble_eq_true rfl⟩ ⟨Nat.le_of_ble_eq_true rfl, Nat.le_of_ble_eq_true rfl⟩ ([]) ([]) (by simp only [List.append_nil, List.nil_append]) 0 hat_99 rfl rfl (Nat.le_of_ble_eq_true rfl) dL_isMove_244 (fun r W_97 hp => ?_)
                          obtain ⟨rfl, hS_98⟩ := hp
                          refine zk_ws (ws2 := W_97) (by simp only [List.append_nil, List.nil_append]) ?_
                          refine zk_top (y := nI 1) qt1 ?_
                          refine zk_iconst hc (nI 1) dL_isMove_247 rfl ?_
                          refine zk_icmp_neN hc 273 dL_isMove_248 (by decide) (by omega) (by omega) (fun h_100 => ?_) (fun h_100 => ?_)
                          · exact absurd h_100 (by decide)
                          · refine zk_aload_n hc dL_isMove_251 9 rfl ?_
                            refine zk_iload_n hc dL_isMove_252 10 rfl ?_
                            refine zk_iconst hc (nI 2) dL_isMove_253 rfl ?_
                            obtain ⟨hat_103_f, hat_103⟩ := cs_at hS_98
                            refine zk_callVi hc (rest := []) (kx_track g l b (chg S (nxU S.1 f t n)) W_97 (cN + 1) (by omega) hI2 hS_98 (nI f) (nI 2)) gg_L_71 cd_X6_track ⟨Nat.le_of_ble_eq_true rfl, Nat.le_of_ble_eq_true rfl⟩ ⟨Nat.le_of_ble_eq_true rfl, Nat.le_of_ble_eq_true rfl⟩ ([]) ([]) (by simp only [List.append_nil, List.nil_append]) 0 hat_103 rfl rfl (Nat.le_of_ble_eq_true rfl) dL_isMove_254 (fun r W_101 hp => ?_)
                            obtain ⟨rfl, hS_102⟩ := hp
                            refine zk_ws (ws2 := W_101) (by simp only [List.append_nil, List.nil_append]) ?_
                            refine zk_top (y := nI 0) qf2 ?_
                            refine zk_if_neN hc 273 dL_isMove_257 (by decide) (by omega) (fun h_104 => ?_) (fun h_104 => ?_)
                            · exact absurd h_104 (by decide)
                            · refine zk_aload_n hc dL_isMove_260 9 rfl ?_
                              refine zk_iload_n hc dL_isMove_261 11 rfl ?_
                              refine zk_iconst hc (nI 2) dL_isMove_262 rfl ?_
                              obtain ⟨hat_107_f, hat_107⟩ := cs_at hS_102
                              refine zk_callVi hc (rest := []) (kx_track g l b (chg S (nxU S.1 f t n)) W_101 (cN + 1) (by omega) hI2 hS_102 (nI t) (nI 2)) gg_L_71 cd_X6_track ⟨Nat.le_of_ble_eq_true rfl, Nat.le_of_ble_eq_true rfl⟩ ⟨Nat.le_of_ble_eq_true rfl, Nat.le_of_ble_eq_true rfl⟩ ([]) ([]) (by simp only [List.append_nil, List.nil_append]) 0 hat_107 rfl rfl (Nat.le_of_ble_eq_true rfl) dL_isMove_263 (fun r W_105 hp => ?_)
                              obtain ⟨rfl, hS_106⟩ := hp
                              refine zk_ws (ws2 := W_105) (by simp only [List.append_nil, List.nil_append]) ?_
                              refine zk_top (y := nI 0) qt2 ?_
                              refine zk_if_neN hc 273 dL_isMove_266 (by decide) (by omega) (fun h_108 => ?_) (fun h_108 => ?_)
                              · exact absurd h_108 (by decide)
                              · refine zk_iconst hc (nI 1) dL_isMove_269 rfl ?_
                                refine zk_goto hc 274 dL_isMove_270 (by decide) ?_
                                refine zk_istore hc (lv2 := [(12, .int (nI 1)), (11, .int (nI (mins S.1 f t n))), (10, .int (nI (num S.1 f (mny S.1 f - 1)))), (9, .int (nI (mny S.1 t))), (8, .int (nI (mny S.1 f))), (7, .int (nI (S.1 9))), (6, .int (nI (S.1 8))), (5, .int (nI (S.1 6))), (4, .int (nI (mins S.1 f t n))), (0, .ref b), (1, .int (nI f)), (2, .int (nI t)), (3, .int (nI n))]) dL_isMove_274 (by decide) rfl ?_
                                refine zk_aload_n hc dL_isMove_276 9 rfl ?_
                                obtain ⟨hat_111_f, hat_111⟩ := cs_at hS_106
                                refine zk_callVi hc (rest := []) (kx_undo g l b (chg S (nxU S.1 f t n)) W_105 (cN + 1) (by omega) hI2 hS_106) gg_L_58 cd_X6_undo ⟨Nat.le_of_ble_eq_true rfl, Nat.le_of_ble_eq_true rfl⟩ ⟨Nat.le_of_ble_eq_true rfl, Nat.le_of_ble_eq_true rfl⟩ ([]) ([]) (by simp only [List.append_nil, List.nil_append]) 0 hat_111 rfl rfl (Nat.le_of_ble_eq_true rfl) dL_isMove_277 (fun r W_109 hp => ?_)
                                obtain ⟨rfl, hS_110⟩ := hp
                                refine zk_ws (ws2 := W_109) (by simp only [List.append_nil, List.nil_append]) ?_
                                refine zk_top (y := nI (remN S.2.2.1 - 1)) hun ?_
                                refine zk_if_lt hc 314 dL_isMove_280 (by decide) (fun h280 => ?_) (fun h280 => ?_)
                                · exact absurd h280 (nI_pos (by omega))
                                · refine zk_iload hc dL_isMove_283 0 rfl ?_
                                  refine zk_if_eqN hc 314 dL_isMove_285 (by decide) (by omega) (fun h_112 => ?_) (fun h_112 => ?_)
                                  · exact absurd h_112 (by decide)
                                  · refine zk_aload_n hc dL_isMove_288 9 rfl ?_
                                    refine zk_iconst hc (nI 2) dL_isMove_289 rfl ?_
                                    obtain ⟨hat_115_f, hat_115⟩ := cs_at hS_110
                                    refine zk_callVi hc (rest := []) (kx_told g l b (nUnd (chg S (nxU S.1 f t n))) W_109 cN (by omega) hI3 hS_110 (nI 2)) gg_L_25 cd_X6_told ⟨Nat.le_of_ble_eq_true rfl, Nat.le_of_ble_eq_true rfl⟩ ⟨Nat.le_of_ble_eq_true rfl, Nat.le_of_ble_eq_true rfl⟩ ([]) ([]) (by simp only [List.append_nil, List.nil_append]) 0 hat_115 rfl rfl (Nat.le_of_ble_eq_true rfl) dL_isMove_290 (fun r W_113 hp => ?_)
                                    obtain ⟨rfl, hS_114⟩ := hp
                                    refine zk_ws (ws2 := W_113) (by simp only [List.append_nil, List.nil_append]) ?_
                                    refine zk_top (y := nI (S.1 6)) ((tol_n _ (by omega)).trans (congrArg (fun u : Nat → Nat => nI (u 6)) hE.1.symm)) ?_
                                    refine zk_iload hc dL_isMove_293 7 rfl ?_
                                    refine zk_icmp_neN hc 314 dL_isMove_295 (by decide) (by omega) (by omega) (fun h_116 => ?_) (fun h_116 => ?_)
                                    · exact absurd h_116 (by omega)
                                    · refine zk_aload_n hc dL_isMove_298 9 rfl ?_
                                      refine zk_iload_n hc dL_isMove_299 10 rfl ?_
                                      refine zk_iload_n hc dL_isMove_300 11 rfl ?_
                                      refine zk_iload_n hc dL_isMove_301 12 rfl ?_
                                      obtain ⟨hat_119_f, hat_119⟩ := cs_at hS_114
                                      refine zk_callVi hc (rest := []) (kx_cost g l b (nUnd (chg S (nxU S.1 f t n))) W_113 cN (by omega) hI3 hS_114 (nI f) (nI t) (nI n)) gg_L_86 cd_X6_cost ⟨Nat.le_of_ble_eq_true rfl, Nat.le_of_ble_eq_true rfl⟩ ⟨Nat.le_of_ble_eq_true rfl, Nat.le_of_ble_eq_true rfl⟩ ([]) ([]) (by simp only [List.append_nil, List.nil_append]) 0 hat_119 rfl rfl (Nat.le_of_ble_eq_true rfl) dL_isMove_302 (fun r W_117 hp => ?_)
                                      obtain ⟨rfl, hS_118⟩ := hp
                                      refine zk_ws (ws2 := W_117) (by simp only [List.append_nil, List.nil_append]) ?_
                                      refine zk_top (y := nI (mins S.1 f t n)) ((congrArg (fun u : Nat → Nat => aCos u (nI f) (nI t) (nI n)) hE.1.symm).trans hco) ?_
                                      refine zk_iload hc dL_isMove_305 8 rfl ?_
                                      refine zk_icmp_neN hc 314 dL_isMove_307 (by decide) (by omega) (by omega) (fun h_120 => ?_) (fun h_120 => ?_)
                                      · exact absurd h_120 (by omega)
                                      · refine zk_iconst hc (nI 1) dL_isMove_310 rfl ?_
                                        refine zk_goto hc 315 dL_isMove_311 (by decide) ?_
                                        refine fin 7 72 _ _ _ _ (by decide) (by decide) dL_isMove_315 rfl (?_)
                                        exact ⟨rfl, _, hE, hI3, hS_118⟩
      · exact absurd (nI_pos' (by omega)) h81
