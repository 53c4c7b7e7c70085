set_option maxHeartbeats 4000000 in
set_option maxRecDepth 100000 in
theorem ct_L_low (g : GG) (l : Launch) (v : Int32) (n : Nat) (h1 : 1 ≤ n) (h2 : n < 2147483648) : CtI g l yL_low cL_low 2 (some .int) (rmK 1 0 0) (([] : va_W)) [.int v, .int (nI n)] (fun r W1 => r = nI (lowN v n) ∧ W1 = []) := by
  refine CtI.go RL rfl (by decide +kernel) (Nat.le_of_ble_eq_true rfl) ?_
  intro p e s m args below meth c A H0 Q hc hnm fin
  have hlb := lowB_lt v
  show KW g p l e (rmK 1 0 0) s m args below meth c 2 A H0 0 0 Q (([] : va_W)) [(0, .int v), (1, .int (nI n))] 0 []
  refine zk_iload_n hc dL_low_0 0 rfl ?_
  refine zk_ldc hc mw_4_12 dL_low_1 ?_
  refine zk_iand hc dL_low_3 ?_
  refine zk_top (y := nI (lowB v)) (and_max v) ?_
  refine zk_iload_n hc dL_low_4 1 rfl ?_
  refine zk_iremN hc dL_low_5 (by omega) (by omega) (by omega) ?_
  refine fin 0 0 _ _ _ _ (by decide) (by decide) dL_low_6 (?_)
  exact ⟨rfl, rfl⟩

set_option maxHeartbeats 4000000 in
set_option maxRecDepth 100000 in
theorem ct_L_arrive (g : GG) (l : Launch) (b cN : Nat) (S : AS) (W : va_W) (hN : cN ≤ 500) (hI : INV cN S) (hS : CSt g b S W) (v w : Int32) : CtI g l yL_arrive cL_arrive 6 (some .int) (rmK 7 7 72) (W) [.ref b, .int v, .int w] (fun r W1 => r = opA S (arrO (S.1 4) v w) ∧ CSt g b (opN S (arrO (S.1 4) v w)) W1) := by
  refine CtI.go RL rfl (by decide +kernel) (Nat.le_of_ble_eq_true rfl) ?_
  intro p e s m args below meth c A H0 Q hc hnm fin
  have h4 := hI.1.1
  have hG := wf_GU hI.1
  have hm8 := wf_m8 hI.1
  have h12 := hI.1.2.2.2.2.2.2.1
  have hB := hI.1.2.2.2.2.2.2.2.2.2.2.2
  show KW g p l e (rmK 7 7 72) s m args below meth c 6 A H0 0 0 Q (W) [(0, .ref b), (1, .int v), (2, .int w)] 0 []
  refine zk_aload_n hc dL_arrive_0 0 rfl ?_
  obtain ⟨hat_3_f, hat_3⟩ := cs_at hS
  refine zk_callVi hc (rest := []) (kx_wipe g l b S W cN (by omega) hI hS) gg_L_9 cd_X6_wipe ⟨Nat.le_of_ble_eq_true rfl, Nat.le_of_ble_eq_true rfl⟩ ⟨Nat.le_of_ble_eq_true rfl, Nat.le_of_ble_eq_true rfl⟩ ([]) ([]) (by simp only [List.append_nil, List.nil_append]) 0 hat_3 rfl rfl (Nat.le_of_ble_eq_true rfl) dL_arrive_1 (fun r W_1 hp => ?_)
  obtain ⟨rfl, hS_2⟩ := hp
  refine zk_ws (ws2 := W_1) (by simp only [List.append_nil, List.nil_append]) ?_
  refine zk_istore_n hc (lv2 := [(3, .int (nI S.2.2.2.2.2.2.1)), (0, .ref b), (1, .int v), (2, .int w)]) dL_arrive_4 (by decide) rfl ?_
  refine zk_iconst hc (nI 1) dL_arrive_5 rfl ?_
  refine zk_iload_n hc dL_arrive_6 2 rfl ?_
  refine zk_iconst hc (nI 3) dL_arrive_7 rfl ?_
  refine zk_callSi hc (rest := [.int (nI 1)]) (ct_L_low g l v 3 (by omega) (by omega)) gg_L_15 cd_L_low ⟨Nat.le_of_ble_eq_true rfl, Nat.le_of_ble_eq_true rfl⟩ ⟨Nat.le_of_ble_eq_true rfl, Nat.le_of_ble_eq_true rfl⟩ ([]) W_1 (by simp only [List.append_nil, List.nil_append]) rfl (Nat.le_of_ble_eq_true rfl) dL_arrive_8 (fun r WL_4 hp => ?_)
  obtain ⟨rfl, rfl⟩ := hp
  refine zk_ws (ws2 := W_1) (by simp only [List.append_nil, List.nil_append]) ?_
  have hlow_5 := lowN_lt v (n := 3) (by omega)
  refine zk_iaddN hc dL_arrive_11 ?_
  refine zk_istore hc (lv2 := [(4, .int (nI (1 + (lowN v 3)))), (3, .int (nI S.2.2.2.2.2.2.1)), (0, .ref b), (1, .int v), (2, .int w)]) dL_arrive_12 (by decide) rfl ?_
  refine zk_iconst hc (nI 0) dL_arrive_14 rfl ?_
  refine zk_istore hc (lv2 := [(5, .int (nI 0)), (4, .int (nI (1 + (lowN v 3)))), (3, .int (nI S.2.2.2.2.2.2.1)), (0, .ref b), (1, .int v), (2, .int w)]) dL_arrive_15 (by decide) rfl ?_
  have loop17 : ∀ (N : Nat) (k : Nat) (Wk : va_W) (ln : Int32), 1 + lowN v 3 - k < N → (k ≤ 1 + lowN v 3) → (CSt g b (wrs (nWip S) (arrT v w k)) Wk) → KW g p l e (rmK 7 7 72) s m args below meth c 6 A H0 0 0 Q (Wk) [(0, .ref b), (1, .int v), (2, .int w), (3, .int ln), (4, .int (nI (1 + (lowN v 3)))), (5, .int (nI k))] 17 [] := by
    intro N
    induction N with
    | zero => intro k Wk ln hm; exact absurd hm (Nat.not_lt_zero _)
    | succ N ih17 =>
      intro k Wk ln hm17 hk hSk
      refine zk_iload hc dL_arrive_17 5 rfl ?_
      refine zk_iload hc dL_arrive_19 4 rfl ?_
      refine zk_icmp_geN hc 133 dL_arrive_21 (by decide) (by omega) (by omega) (fun h_6 => ?_) (fun h_6 => ?_)
      · refine zk_aload_n hc dL_arrive_133 0 rfl ?_
        refine zk_iload_n hc dL_arrive_134 1 rfl ?_
        refine zk_bipush hc (nI 14) dL_arrive_135 rfl ?_
        refine zk_ishr hc dL_arrive_137 ?_
        refine zk_aload_n hc dL_arrive_138 0 rfl ?_
        refine zk_iconst hc (nI 0) dL_arrive_139 rfl ?_
        obtain ⟨hat_9_f, hat_9⟩ := cs_at hSk
        refine zk_callVi hc (rest := [.int (v >>> ((nI 14) &&& 31)), .ref b]) (kx_told g l b (wrs (nWip S) (arrT v w k)) Wk cN (by omega) (INV_wrs (arrT v w k) (INV_wip0 hI)) hSk (nI 0)) gg_L_25 cd_X6_told ⟨Nat.le_of_ble_eq_true rfl, Nat.le_of_ble_eq_true rfl⟩ ⟨Nat.le_of_ble_eq_true rfl, Nat.le_of_ble_eq_true rfl⟩ ([]) ([]) (by simp only [List.append_nil, List.nil_append]) 0 hat_9 rfl rfl (Nat.le_of_ble_eq_true rfl) dL_arrive_140 (fun r W_7 hp => ?_)
        obtain ⟨rfl, hS_8⟩ := hp
        refine zk_ws (ws2 := W_7) (by simp only [List.append_nil, List.nil_append]) ?_
        refine zk_top (y := nI (S.1 4)) ((tol_n _ (by omega)).trans (congrArg (fun u : Nat → Nat => nI (u 4)) (wrs_1 _ _).1)) ?_
        refine zk_callSi hc (rest := [.ref b]) (ct_L_low g l (v >>> ((nI 14) &&& 31)) (S.1 4) (by omega) (by omega)) gg_L_15 cd_L_low ⟨Nat.le_of_ble_eq_true rfl, Nat.le_of_ble_eq_true rfl⟩ ⟨Nat.le_of_ble_eq_true rfl, Nat.le_of_ble_eq_true rfl⟩ ([]) W_7 (by simp only [List.append_nil, List.nil_append]) rfl (Nat.le_of_ble_eq_true rfl) dL_arrive_143 (fun r WL_10 hp => ?_)
        obtain ⟨rfl, rfl⟩ := hp
        refine zk_ws (ws2 := W_7) (by simp only [List.append_nil, List.nil_append]) ?_
        have hlow_11 := lowN_lt (v >>> ((nI 14) &&& 31)) (n := (S.1 4)) (by omega)
        obtain ⟨hat_14_f, hat_14⟩ := cs_at hS_8
        refine zk_callVi hc (rest := []) (kx_arrive g l b (wrs (nWip S) (arrT v w k)) W_7 cN (by omega) (INV_wrs (arrT v w k) (INV_wip0 hI)) hS_8 (nI (lowN (v >>> ((nI 14) &&& 31)) (S.1 4)))) gg_L_28 cd_X6_arrive ⟨Nat.le_of_ble_eq_true rfl, Nat.le_of_ble_eq_true rfl⟩ ⟨Nat.le_of_ble_eq_true rfl, Nat.le_of_ble_eq_true rfl⟩ ([]) ([]) (by simp only [List.append_nil, List.nil_append]) 0 hat_14 rfl rfl (Nat.le_of_ble_eq_true rfl) dL_arrive_146 (fun r W_12 hp => ?_)
        obtain ⟨rfl, hS_13⟩ := hp
        refine zk_ws (ws2 := W_12) (by simp only [List.append_nil, List.nil_append]) ?_
        refine fin 7 72 _ _ _ _ (by decide) (by decide) dL_arrive_149 (?_)
        have hq : k = 1 + lowN v 3 := by omega
        subst hq
        exact ⟨rfl, hS_13⟩
      · refine zk_iload_n hc dL_arrive_24 2 rfl ?_
        refine zk_iconst hc (nI 2) dL_arrive_25 rfl ?_
        refine zk_iload hc dL_arrive_26 5 rfl ?_
        refine zk_imulN hc dL_arrive_28 ?_
        refine zk_ishr hc dL_arrive_29 ?_
        refine zk_iconst hc (nI 3) dL_arrive_30 rfl ?_
        refine zk_callSi hc (rest := []) (ct_L_low g l (w >>> ((nI (2 * k)) &&& 31)) 3 (by omega) (by omega)) gg_L_15 cd_L_low ⟨Nat.le_of_ble_eq_true rfl, Nat.le_of_ble_eq_true rfl⟩ ⟨Nat.le_of_ble_eq_true rfl, Nat.le_of_ble_eq_true rfl⟩ ([]) Wk (by simp only [List.append_nil, List.nil_append]) rfl (Nat.le_of_ble_eq_true rfl) dL_arrive_31 (fun r WL_15 hp => ?_)
        obtain ⟨rfl, rfl⟩ := hp
        refine zk_ws (ws2 := Wk) (by simp only [List.append_nil, List.nil_append]) ?_
        have hlow_16 := lowN_lt (w >>> ((nI (2 * k)) &&& 31)) (n := 3) (by omega)
        refine zk_if_neN hc 55 dL_arrive_34 (by decide) (by omega) (fun h34 => ?_) (fun h34 => ?_)
        · refine zk_iload_n hc dL_arrive_55 3 rfl ?_
          refine zk_istore_n hc (lv2 := [(3, .int ln), (0, .ref b), (1, .int v), (2, .int w), (4, .int (nI (1 + (lowN v 3)))), (5, .int (nI k))]) dL_arrive_56 (by decide) rfl ?_
          refine zk_aload_n hc dL_arrive_57 1 rfl ?_
          refine zk_bipush hc (nI 65) dL_arrive_58 rfl ?_
          refine zk_iload_n hc dL_arrive_60 2 rfl ?_
          refine zk_iconst hc (nI 2) dL_arrive_61 rfl ?_
          refine zk_iconst hc (nI 2) dL_arrive_62 rfl ?_
          refine zk_iload hc dL_arrive_63 5 rfl ?_
          refine zk_imulN hc dL_arrive_65 ?_
          refine zk_iaddN hc dL_arrive_66 ?_
          refine zk_ishr hc dL_arrive_67 ?_
          refine zk_iconst hc (nI 3) dL_arrive_68 rfl ?_
          refine zk_callSi hc (rest := [.int (nI 65), .ref b]) (ct_L_low g l (v >>> ((nI (2 + (2 * k))) &&& 31)) 3 (by omega) (by omega)) gg_L_15 cd_L_low ⟨Nat.le_of_ble_eq_true rfl, Nat.le_of_ble_eq_true rfl⟩ ⟨Nat.le_of_ble_eq_true rfl, Nat.le_of_ble_eq_true rfl⟩ ([]) Wk (by simp only [List.append_nil, List.nil_append]) rfl (Nat.le_of_ble_eq_true rfl) dL_arrive_69 (fun r WL_17 hp => ?_)
          obtain ⟨rfl, rfl⟩ := hp
          refine zk_ws (ws2 := Wk) (by simp only [List.append_nil, List.nil_append]) ?_
          have hlow_18 := lowN_lt (v >>> ((nI (2 + (2 * k))) &&& 31)) (n := 3) (by omega)
          refine zk_iaddN hc dL_arrive_72 ?_
          obtain ⟨hat_21_f, hat_21⟩ := cs_at hSk
          refine zk_callVi hc (rest := []) (kx_write g l b (wrs (nWip S) (arrT v w k)) Wk cN (by omega) (INV_wrs (arrT v w k) (INV_wip0 hI)) hSk (nI (65 + (lowN (v >>> ((nI (2 + (2 * k))) &&& 31)) 3)))) gg_L_21 cd_X6_write ⟨Nat.le_of_ble_eq_true rfl, Nat.le_of_ble_eq_true rfl⟩ ⟨Nat.le_of_ble_eq_true rfl, Nat.le_of_ble_eq_true rfl⟩ ([]) ([]) (by simp only [List.append_nil, List.nil_append]) 0 hat_21 rfl rfl (Nat.le_of_ble_eq_true rfl) dL_arrive_73 (fun r W_19 hp => ?_)
          obtain ⟨rfl, hS_20⟩ := hp
          refine zk_ws (ws2 := W_19) (by simp only [List.append_nil, List.nil_append]) ?_
          refine zk_istore_n hc (lv2 := [(3, .int (aWri (wrs (nWip S) (arrT v w k)).2.2.2.2.2.2.1 (nI (65 + (lowN (v >>> ((nI (2 + (2 * k))) &&& 31)) 3))))), (0, .ref b), (1, .int v), (2, .int w), (4, .int (nI (1 + (lowN v 3)))), (5, .int (nI k))]) dL_arrive_76 (by decide) rfl ?_
          refine zk_iload_n hc dL_arrive_77 3 rfl ?_
          refine zk_iconst hc (nI 3) dL_arrive_78 rfl ?_
          refine zk_iload hc dL_arrive_79 5 rfl ?_
          refine zk_imulN hc dL_arrive_81 ?_
          refine zk_ishr hc dL_arrive_82 ?_
          refine zk_iconst hc (nI 4) dL_arrive_83 rfl ?_
          refine zk_callSi hc (rest := []) (ct_L_low g l (w >>> ((nI (3 * k)) &&& 31)) 4 (by omega) (by omega)) gg_L_15 cd_L_low ⟨Nat.le_of_ble_eq_true rfl, Nat.le_of_ble_eq_true rfl⟩ ⟨Nat.le_of_ble_eq_true rfl, Nat.le_of_ble_eq_true rfl⟩ ([]) W_19 (by simp only [List.append_nil, List.nil_append]) rfl (Nat.le_of_ble_eq_true rfl) dL_arrive_84 (fun r WL_22 hp => ?_)
          obtain ⟨rfl, rfl⟩ := hp
          refine zk_ws (ws2 := W_19) (by simp only [List.append_nil, List.nil_append]) ?_
          have hlow_23 := lowN_lt (w >>> ((nI (3 * k)) &&& 31)) (n := 4) (by omega)
          refine zk_if_neN hc 118 dL_arrive_87 (by decide) (by omega) (fun h87 => ?_) (fun h87 => ?_)
          · refine zk_iload_n hc dL_arrive_118 0 rfl ?_
            refine zk_istore_n hc (lv2 := [(3, .int (aWri (wrs (nWip S) (arrT v w k)).2.2.2.2.2.2.1 (nI (65 + (lowN (v >>> ((nI (2 + (2 * k))) &&& 31)) 3))))), (0, .ref b), (1, .int v), (2, .int w), (4, .int (nI (1 + (lowN v 3)))), (5, .int (nI k))]) dL_arrive_119 (by decide) rfl ?_
            refine zk_aload_n hc dL_arrive_120 1 rfl ?_
            refine zk_bipush hc (nI 32) dL_arrive_121 rfl ?_
            obtain ⟨hat_26_f, hat_26⟩ := cs_at hS_20
            refine zk_callVi hc (rest := []) (kx_write g l b (nWri (wrs (nWip S) (arrT v w k)) (nI (65 + (lowN (v >>> ((nI (2 + (2 * k))) &&& 31)) 3)))) W_19 cN (by omega) (INV_wri0 (INV_wrs (arrT v w k) (INV_wip0 hI)) (nI (65 + (lowN (v >>> ((nI (2 + (2 * k))) &&& 31)) 3)))) hS_20 (nI 32)) gg_L_21 cd_X6_write ⟨Nat.le_of_ble_eq_true rfl, Nat.le_of_ble_eq_true rfl⟩ ⟨Nat.le_of_ble_eq_true rfl, Nat.le_of_ble_eq_true rfl⟩ ([]) ([]) (by simp only [List.append_nil, List.nil_append]) 0 hat_26 rfl rfl (Nat.le_of_ble_eq_true rfl) dL_arrive_123 (fun r W_24 hp => ?_)
            obtain ⟨rfl, hS_25⟩ := hp
            refine zk_ws (ws2 := W_24) (by simp only [List.append_nil, List.nil_append]) ?_
            refine zk_istore_n hc (lv2 := [(3, .int (aWri (nWri (wrs (nWip S) (arrT v w k)) (nI (65 + (lowN (v >>> ((nI (2 + (2 * k))) &&& 31)) 3)))).2.2.2.2.2.2.1 (nI 32))), (0, .ref b), (1, .int v), (2, .int w), (4, .int (nI (1 + (lowN v 3)))), (5, .int (nI k))]) dL_arrive_126 (by decide) rfl ?_
            refine zk_iinc hc (v := nI (k + 1)) (lv2 := [(5, .int (nI (k + 1))), (3, .int (aWri (nWri (wrs (nWip S) (arrT v w k)) (nI (65 + (lowN (v >>> ((nI (2 + (2 * k))) &&& 31)) 3)))).2.2.2.2.2.2.1 (nI 32))), (0, .ref b), (1, .int v), (2, .int w), (4, .int (nI (1 + (lowN v 3))))]) dL_arrive_127 5 rfl (nq_inc rfl) (by decide) rfl ?_
            refine zk_goto hc 17 dL_arrive_130 (by decide) ?_
            refine zk_lv [2, 3, 4, 1, 5, 0] (lv2 := [(0, .ref b), (1, .int v), (2, .int w), (3, .int (aWri (nWri (wrs (nWip S) (arrT v w k)) (nI (65 + (lowN (v >>> ((nI (2 + (2 * k))) &&& 31)) 3)))).2.2.2.2.2.2.1 (nI 32))), (4, .int (nI (1 + (lowN v 3)))), (5, .int (nI (k + 1)))]) rfl ?_
            exact ih17 (k + 1) W_24 (aWri (nWri (wrs (nWip S) (arrT v w k)) (nI (65 + (lowN (v >>> ((nI (2 + (2 * k))) &&& 31)) 3)))).2.2.2.2.2.2.1 (nI 32)) (by omega) (by omega) (by rw [show arrT v w (k + 1) = arrT v w k ++ arrP v w k from rfl, wrs_app]; unfold arrP; rw [if_neg h34, if_neg h87]; exact hS_25)
          · refine zk_aload_n hc dL_arrive_90 1 rfl ?_
            refine zk_iload_n hc dL_arrive_91 2 rfl ?_
            refine zk_bipush hc (nI 9) dL_arrive_92 rfl ?_
            refine zk_iload hc dL_arrive_94 5 rfl ?_
            refine zk_iaddN hc dL_arrive_96 ?_
            refine zk_ishr hc dL_arrive_97 ?_
            refine zk_iconst hc (nI 2) dL_arrive_98 rfl ?_
            refine zk_callSi hc (rest := [.ref b]) (ct_L_low g l (v >>> ((nI (9 + k)) &&& 31)) 2 (by omega) (by omega)) gg_L_15 cd_L_low ⟨Nat.le_of_ble_eq_true rfl, Nat.le_of_ble_eq_true rfl⟩ ⟨Nat.le_of_ble_eq_true rfl, Nat.le_of_ble_eq_true rfl⟩ ([]) W_19 (by simp only [List.append_nil, List.nil_append]) rfl (Nat.le_of_ble_eq_true rfl) dL_arrive_99 (fun r WL_27 hp => ?_)
            obtain ⟨rfl, rfl⟩ := hp
            refine zk_ws (ws2 := W_19) (by simp only [List.append_nil, List.nil_append]) ?_
            have hlow_28 := lowN_lt (v >>> ((nI (9 + k)) &&& 31)) (n := 2) (by omega)
            refine zk_if_neN hc 110 dL_arrive_102 (by decide) (by omega) (fun h102 => ?_) (fun h102 => ?_)
            · refine zk_bipush hc (nI 120) dL_arrive_110 rfl ?_
              obtain ⟨hat_31_f, hat_31⟩ := cs_at hS_20
              refine zk_callVi hc (rest := []) (kx_write g l b (nWri (wrs (nWip S) (arrT v w k)) (nI (65 + (lowN (v >>> ((nI (2 + (2 * k))) &&& 31)) 3)))) W_19 cN (by omega) (INV_wri0 (INV_wrs (arrT v w k) (INV_wip0 hI)) (nI (65 + (lowN (v >>> ((nI (2 + (2 * k))) &&& 31)) 3)))) hS_20 (nI 120)) gg_L_21 cd_X6_write ⟨Nat.le_of_ble_eq_true rfl, Nat.le_of_ble_eq_true rfl⟩ ⟨Nat.le_of_ble_eq_true rfl, Nat.le_of_ble_eq_true rfl⟩ ([]) ([]) (by simp only [List.append_nil, List.nil_append]) 0 hat_31 rfl rfl (Nat.le_of_ble_eq_true rfl) dL_arrive_112 (fun r W_29 hp => ?_)
              obtain ⟨rfl, hS_30⟩ := hp
              refine zk_ws (ws2 := W_29) (by simp only [List.append_nil, List.nil_append]) ?_
              refine zk_goto hc 119 dL_arrive_115 (by decide) ?_
              refine zk_istore_n hc (lv2 := [(3, .int (aWri (nWri (wrs (nWip S) (arrT v w k)) (nI (65 + (lowN (v >>> ((nI (2 + (2 * k))) &&& 31)) 3)))).2.2.2.2.2.2.1 (nI 120))), (0, .ref b), (1, .int v), (2, .int w), (4, .int (nI (1 + (lowN v 3)))), (5, .int (nI k))]) dL_arrive_119 (by decide) rfl ?_
              refine zk_aload_n hc dL_arrive_120 1 rfl ?_
              refine zk_bipush hc (nI 32) dL_arrive_121 rfl ?_
              obtain ⟨hat_34_f, hat_34⟩ := cs_at hS_30
              refine zk_callVi hc (rest := []) (kx_write g l b (nWri (nWri (wrs (nWip S) (arrT v w k)) (nI (65 + (lowN (v >>> ((nI (2 + (2 * k))) &&& 31)) 3)))) (nI 120)) W_29 cN (by omega) (INV_wri0 (INV_wri0 (INV_wrs (arrT v w k) (INV_wip0 hI)) (nI (65 + (lowN (v >>> ((nI (2 + (2 * k))) &&& 31)) 3)))) (nI 120)) hS_30 (nI 32)) gg_L_21 cd_X6_write ⟨Nat.le_of_ble_eq_true rfl, Nat.le_of_ble_eq_true rfl⟩ ⟨Nat.le_of_ble_eq_true rfl, Nat.le_of_ble_eq_true rfl⟩ ([]) ([]) (by simp only [List.append_nil, List.nil_append]) 0 hat_34 rfl rfl (Nat.le_of_ble_eq_true rfl) dL_arrive_123 (fun r W_32 hp => ?_)
              obtain ⟨rfl, hS_33⟩ := hp
              refine zk_ws (ws2 := W_32) (by simp only [List.append_nil, List.nil_append]) ?_
              refine zk_istore_n hc (lv2 := [(3, .int (aWri (nWri (nWri (wrs (nWip S) (arrT v w k)) (nI (65 + (lowN (v >>> ((nI (2 + (2 * k))) &&& 31)) 3)))) (nI 120)).2.2.2.2.2.2.1 (nI 32))), (0, .ref b), (1, .int v), (2, .int w), (4, .int (nI (1 + (lowN v 3)))), (5, .int (nI k))]) dL_arrive_126 (by decide) rfl ?_
              refine zk_iinc hc (v := nI (k + 1)) (lv2 := [(5, .int (nI (k + 1))), (3, .int (aWri (nWri (nWri (wrs (nWip S) (arrT v w k)) (nI (65 + (lowN (v >>> ((nI (2 + (2 * k))) &&& 31)) 3)))) (nI 120)).2.2.2.2.2.2.1 (nI 32))), (0, .ref b), (1, .int v), (2, .int w), (4, .int (nI (1 + (lowN v 3))))]) dL_arrive_127 5 rfl (nq_inc rfl) (by decide) rfl ?_
              refine zk_goto hc 17 dL_arrive_130 (by decide) ?_
              refine zk_lv [2, 3, 4, 1, 5, 0] (lv2 := [(0, .ref b), (1, .int v), (2, .int w), (3, .int (aWri (nWri (nWri (wrs (nWip S) (arrT v w k)) (nI (65 + (lowN (v >>> ((nI (2 + (2 * k))) &&& 31)) 3)))) (nI 120)).2.2.2.2.2.2.1 (nI 32))), (4, .int (nI (1 + (lowN v 3)))), (5, .int (nI (k + 1)))]) rfl ?_
              exact ih17 (k + 1) W_32 (aWri (nWri (nWri (wrs (nWip S) (arrT v w k)) (nI (65 + (lowN (v >>> ((nI (2 + (2 * k))) &&& 31)) 3)))) (nI 120)).2.2.2.2.2.2.1 (nI 32)) (by omega) (by omega) (by rw [show arrT v w (k + 1) = arrT v w k ++ arrP v w k from rfl, wrs_app]; unfold arrP; rw [if_neg h34, if_pos h87, if_neg h102]; exact hS_33)
            · refine zk_bipush hc (nI 102) dL_arrive_105 rfl ?_
              refine zk_goto hc 112 dL_arrive_107 (by decide) ?_
              obtain ⟨hat_37_f, hat_37⟩ := cs_at hS_20
              refine zk_callVi hc (rest := []) (kx_write g l b (nWri (wrs (nWip S) (arrT v w k)) (nI (65 + (lowN (v >>> ((nI (2 + (2 * k))) &&& 31)) 3)))) W_19 cN (by omega) (INV_wri0 (INV_wrs (arrT v w k) (INV_wip0 hI)) (nI (65 + (lowN (v >>> ((nI (2 + (2 * k))) &&& 31)) 3)))) hS_20 (nI 102)) gg_L_21 cd_X6_write ⟨Nat.le_of_ble_eq_true rfl, Nat.le_of_ble_eq_true rfl⟩ ⟨Nat.le_of_ble_eq_true rfl, Nat.le_of_ble_eq_true rfl⟩ ([]) ([]) (by simp only [List.append_nil, List.nil_append]) 0 hat_37 rfl rfl (Nat.le_of_ble_eq_true rfl) dL_arrive_112 (fun r W_35 hp => ?_)
              obtain ⟨rfl, hS_36⟩ := hp
              refine zk_ws (ws2 := W_35) (by simp only [List.append_nil, List.nil_append]) ?_
              refine zk_goto hc 119 dL_arrive_115 (by decide) ?_
              refine zk_istore_n hc (lv2 := [(3, .int (aWri (nWri (wrs (nWip S) (arrT v w k)) (nI (65 + (lowN (v >>> ((nI (2 + (2 * k))) &&& 31)) 3)))).2.2.2.2.2.2.1 (nI 102))), (0, .ref b), (1, .int v), (2, .int w), (4, .int (nI (1 + (lowN v 3)))), (5, .int (nI k))]) dL_arrive_119 (by decide) rfl ?_
              refine zk_aload_n hc dL_arrive_120 1 rfl ?_
              refine zk_bipush hc (nI 32) dL_arrive_121 rfl ?_
              obtain ⟨hat_40_f, hat_40⟩ := cs_at hS_36
              refine zk_callVi hc (rest := []) (kx_write g l b (nWri (nWri (wrs (nWip S) (arrT v w k)) (nI (65 + (lowN (v >>> ((nI (2 + (2 * k))) &&& 31)) 3)))) (nI 102)) W_35 cN (by omega) (INV_wri0 (INV_wri0 (INV_wrs (arrT v w k) (INV_wip0 hI)) (nI (65 + (lowN (v >>> ((nI (2 + (2 * k))) &&& 31)) 3)))) (nI 102)) hS_36 (nI 32)) gg_L_21 cd_X6_write ⟨Nat.le_of_ble_eq_true rfl, Nat.le_of_ble_eq_true rfl⟩ ⟨Nat.le_of_ble_eq_true rfl, Nat.le_of_ble_eq_true rfl⟩ ([]) ([]) (by simp only [List.append_nil, List.nil_append]) 0 hat_40 rfl rfl (Nat.le_of_ble_eq_true rfl) dL_arrive_123 (fun r W_38 hp => ?_)
              obtain ⟨rfl, hS_39⟩ := hp
              refine zk_ws (ws2 := W_38) (by simp only [List.append_nil, List.nil_append]) ?_
              refine zk_istore_n hc (lv2 := [(3, .int (aWri (nWri (nWri (wrs (nWip S) (arrT v w k)) (nI (65 + (lowN (v >>> ((nI (2 + (2 * k))) &&& 31)) 3)))) (nI 102)).2.2.2.2.2.2.1 (nI 32))), (0, .ref b), (1, .int v), (2, .int w), (4, .int (nI (1 + (lowN v 3)))), (5, .int (nI k))]) dL_arrive_126 (by decide) rfl ?_
              refine zk_iinc hc (v := nI (k + 1)) (lv2 := [(5, .int (nI (k + 1))), (3, .int (aWri (nWri (nWri (wrs (nWip S) (arrT v w k)) (nI (65 + (lowN (v >>> ((nI (2 + (2 * k))) &&& 31)) 3)))) (nI 102)).2.2.2.2.2.2.1 (nI 32))), (0, .ref b), (1, .int v), (2, .int w), (4, .int (nI (1 + (lowN v 3))))]) dL_arrive_127 5 rfl (nq_inc rfl) (by decide) rfl ?_
              refine zk_goto hc 17 dL_arrive_130 (by decide) ?_
              refine zk_lv [2, 3, 4, 1, 5, 0] (lv2 := [(0, .ref b), (1, .int v), (2, .int w), (3, .int (aWri (nWri (nWri (wrs (nWip S) (arrT v w k)) (nI (65 + (lowN (v >>> ((nI (2 + (2 * k))) &&& 31)) 3)))) (nI 102)).2.2.2.2.2.2.1 (nI 32))), (4, .int (nI (1 + (lowN v 3)))), (5, .int (nI (k + 1)))]) rfl ?_
              exact ih17 (k + 1) W_38 (aWri (nWri (nWri (wrs (nWip S) (arrT v w k)) (nI (65 + (lowN (v >>> ((nI (2 + (2 * k))) &&& 31)) 3)))) (nI 102)).2.2.2.2.2.2.1 (nI 32)) (by omega) (by omega) (by rw [show arrT v w (k + 1) = arrT v w k ++ arrP v w k from rfl, wrs_app]; unfold arrP; rw [if_neg h34, if_pos h87, if_pos h102]; exact hS_39)
        · refine zk_aload_n hc dL_arrive_37 0 rfl ?_
          refine zk_bipush hc (nI 49) dL_arrive_38 rfl ?_
          refine zk_iload_n hc dL_arrive_40 2 rfl ?_
          refine zk_iload hc dL_arrive_41 5 rfl ?_
          refine zk_ishr hc dL_arrive_43 ?_
          refine zk_iconst hc (nI 2) dL_arrive_44 rfl ?_
          refine zk_callSi hc (rest := [.int (nI 49), .ref b]) (ct_L_low g l (w >>> ((nI k) &&& 31)) 2 (by omega) (by omega)) gg_L_15 cd_L_low ⟨Nat.le_of_ble_eq_true rfl, Nat.le_of_ble_eq_true rfl⟩ ⟨Nat.le_of_ble_eq_true rfl, Nat.le_of_ble_eq_true rfl⟩ ([]) Wk (by simp only [List.append_nil, List.nil_append]) rfl (Nat.le_of_ble_eq_true rfl) dL_arrive_45 (fun r WL_41 hp => ?_)
          obtain ⟨rfl, rfl⟩ := hp
          refine zk_ws (ws2 := Wk) (by simp only [List.append_nil, List.nil_append]) ?_
          have hlow_42 := lowN_lt (w >>> ((nI k) &&& 31)) (n := 2) (by omega)
          refine zk_iaddN hc dL_arrive_48 ?_
          obtain ⟨hat_45_f, hat_45⟩ := cs_at hSk
          refine zk_callVi hc (rest := []) (kx_write g l b (wrs (nWip S) (arrT v w k)) Wk cN (by omega) (INV_wrs (arrT v w k) (INV_wip0 hI)) hSk (nI (49 + (lowN (w >>> ((nI k) &&& 31)) 2)))) gg_L_21 cd_X6_write ⟨Nat.le_of_ble_eq_true rfl, Nat.le_of_ble_eq_true rfl⟩ ⟨Nat.le_of_ble_eq_true rfl, Nat.le_of_ble_eq_true rfl⟩ ([]) ([]) (by simp only [List.append_nil, List.nil_append]) 0 hat_45 rfl rfl (Nat.le_of_ble_eq_true rfl) dL_arrive_49 (fun r W_43 hp => ?_)
          obtain ⟨rfl, hS_44⟩ := hp
          refine zk_ws (ws2 := W_43) (by simp only [List.append_nil, List.nil_append]) ?_
          refine zk_goto hc 56 dL_arrive_52 (by decide) ?_
          refine zk_istore_n hc (lv2 := [(3, .int (aWri (wrs (nWip S) (arrT v w k)).2.2.2.2.2.2.1 (nI (49 + (lowN (w >>> ((nI k) &&& 31)) 2))))), (0, .ref b), (1, .int v), (2, .int w), (4, .int (nI (1 + (lowN v 3)))), (5, .int (nI k))]) dL_arrive_56 (by decide) rfl ?_
          refine zk_aload_n hc dL_arrive_57 1 rfl ?_
          refine zk_bipush hc (nI 65) dL_arrive_58 rfl ?_
          refine zk_iload_n hc dL_arrive_60 2 rfl ?_
          refine zk_iconst hc (nI 2) dL_arrive_61 rfl ?_
          refine zk_iconst hc (nI 2) dL_arrive_62 rfl ?_
          refine zk_iload hc dL_arrive_63 5 rfl ?_
          refine zk_imulN hc dL_arrive_65 ?_
          refine zk_iaddN hc dL_arrive_66 ?_
          refine zk_ishr hc dL_arrive_67 ?_
          refine zk_iconst hc (nI 3) dL_arrive_68 rfl ?_
          refine zk_callSi hc (rest := [.int (nI 65), .ref b]) (ct_L_low g l (v >>> ((nI (2 + (2 * k))) &&& 31)) 3 (by omega) (by omega)) gg_L_15 cd_L_low ⟨Nat.le_of_ble_eq_true rfl, Nat.le_of_ble_eq_true rfl⟩ ⟨Nat.le_of_ble_eq_true rfl, Nat.le_of_ble_eq_true rfl⟩ ([]) W_43 (by simp only [List.append_nil, List.nil_append]) rfl (Nat.le_of_ble_eq_true rfl) dL_arrive_69 (fun r WL_46 hp => ?_)
          obtain ⟨rfl, rfl⟩ := hp
          refine zk_ws (ws2 := W_43) (by simp only [List.append_nil, List.nil_append]) ?_
          have hlow_47 := lowN_lt (v >>> ((nI (2 + (2 * k))) &&& 31)) (n := 3) (by omega)
          refine zk_iaddN hc dL_arrive_72 ?_
          obtain ⟨hat_50_f, hat_50⟩ := cs_at hS_44
          refine zk_callVi hc (rest := []) (kx_write g l b (nWri (wrs (nWip S) (arrT v w k)) (nI (49 + (lowN (w >>> ((nI k) &&& 31)) 2)))) W_43 cN (by omega) (INV_wri0 (INV_wrs (arrT v w k) (INV_wip0 hI)) (nI (49 + (lowN (w >>> ((nI k) &&& 31)) 2)))) hS_44 (nI (65 + (lowN (v >>> ((nI (2 + (2 * k))) &&& 31)) 3)))) gg_L_21 cd_X6_write ⟨Nat.le_of_ble_eq_true rfl, Nat.le_of_ble_eq_true rfl⟩ ⟨Nat.le_of_ble_eq_true rfl, Nat.le_of_ble_eq_true rfl⟩ ([]) ([]) (by simp only [List.append_nil, List.nil_append]) 0 hat_50 rfl rfl (Nat.le_of_ble_eq_true rfl) dL_arrive_73 (fun r W_48 hp => ?_)
          obtain ⟨rfl, hS_49⟩ := hp
          refine zk_ws (ws2 := W_48) (by simp only [List.append_nil, List.nil_append]) ?_
          refine zk_istore_n hc (lv2 := [(3, .int (aWri (nWri (wrs (nWip S) (arrT v w k)) (nI (49 + (lowN (w >>> ((nI k) &&& 31)) 2)))).2.2.2.2.2.2.1 (nI (65 + (lowN (v >>> ((nI (2 + (2 * k))) &&& 31)) 3))))), (0, .ref b), (1, .int v), (2, .int w), (4, .int (nI (1 + (lowN v 3)))), (5, .int (nI k))]) dL_arrive_76 (by decide) rfl ?_
          refine zk_iload_n hc dL_arrive_77 3 rfl ?_
          refine zk_iconst hc (nI 3) dL_arrive_78 rfl ?_
          refine zk_iload hc dL_arrive_79 5 rfl ?_
          refine zk_imulN hc dL_arrive_81 ?_
          refine zk_ishr hc dL_arrive_82 ?_
          refine zk_iconst hc (nI 4) dL_arrive_83 rfl ?_
          refine zk_callSi hc (rest := []) (ct_L_low g l (w >>> ((nI (3 * k)) &&& 31)) 4 (by omega) (by omega)) gg_L_15 cd_L_low ⟨Nat.le_of_ble_eq_true rfl, Nat.le_of_ble_eq_true rfl⟩ ⟨Nat.le_of_ble_eq_true rfl, Nat.le_of_ble_eq_true rfl⟩ ([]) W_48 (by simp only [List.append_nil, List.nil_append]) rfl (Nat.le_of_ble_eq_true rfl) dL_arrive_84 (fun r WL_51 hp => ?_)
          obtain ⟨rfl, rfl⟩ := hp
          refine zk_ws (ws2 := W_48) (by simp only [List.append_nil, List.nil_append]) ?_
          have hlow_52 := lowN_lt (w >>> ((nI (3 * k)) &&& 31)) (n := 4) (by omega)
          refine zk_if_neN hc 118 dL_arrive_87 (by decide) (by omega) (fun h87 => ?_) (fun h87 => ?_)
          · refine zk_iload_n hc dL_arrive_118 0 rfl ?_
            refine zk_istore_n hc (lv2 := [(3, .int (aWri (nWri (wrs (nWip S) (arrT v w k)) (nI (49 + (lowN (w >>> ((nI k) &&& 31)) 2)))).2.2.2.2.2.2.1 (nI (65 + (lowN (v >>> ((nI (2 + (2 * k))) &&& 31)) 3))))), (0, .ref b), (1, .int v), (2, .int w), (4, .int (nI (1 + (lowN v 3)))), (5, .int (nI k))]) dL_arrive_119 (by decide) rfl ?_
            refine zk_aload_n hc dL_arrive_120 1 rfl ?_
            refine zk_bipush hc (nI 32) dL_arrive_121 rfl ?_
            obtain ⟨hat_55_f, hat_55⟩ := cs_at hS_49
            refine zk_callVi hc (rest := []) (kx_write g l b (nWri (nWri (wrs (nWip S) (arrT v w k)) (nI (49 + (lowN (w >>> ((nI k) &&& 31)) 2)))) (nI (65 + (lowN (v >>> ((nI (2 + (2 * k))) &&& 31)) 3)))) W_48 cN (by omega) (INV_wri0 (INV_wri0 (INV_wrs (arrT v w k) (INV_wip0 hI)) (nI (49 + (lowN (w >>> ((nI k) &&& 31)) 2)))) (nI (65 + (lowN (v >>> ((nI (2 + (2 * k))) &&& 31)) 3)))) hS_49 (nI 32)) gg_L_21 cd_X6_write ⟨Nat.le_of_ble_eq_true rfl, Nat.le_of_ble_eq_true rfl⟩ ⟨Nat.le_of_ble_eq_true rfl, Nat.le_of_ble_eq_true rfl⟩ ([]) ([]) (by simp only [List.append_nil, List.nil_append]) 0 hat_55 rfl rfl (Nat.le_of_ble_eq_true rfl) dL_arrive_123 (fun r W_53 hp => ?_)
            obtain ⟨rfl, hS_54⟩ := hp
            refine zk_ws (ws2 := W_53) (by simp only [List.append_nil, List.nil_append]) ?_
            refine zk_istore_n hc (lv2 := [(3, .int (aWri (nWri (nWri (wrs (nWip S) (arrT v w k)) (nI (49 + (lowN (w >>> ((nI k) &&& 31)) 2)))) (nI (65 + (lowN (v >>> ((nI (2 + (2 * k))) &&& 31)) 3)))).2.2.2.2.2.2.1 (nI 32))), (0, .ref b), (1, .int v), (2, .int w), (4, .int (nI (1 + (lowN v 3)))), (5, .int (nI k))]) dL_arrive_126 (by decide) rfl ?_
            refine zk_iinc hc (v := nI (k + 1)) (lv2 := [(5, .int (nI (k + 1))), (3, .int (aWri (nWri (nWri (wrs (nWip S) (arrT v w k)) (nI (49 + (lowN (w >>> ((nI k) &&& 31)) 2)))) (nI (65 + (lowN (v >>> ((nI (2 + (2 * k))) &&& 31)) 3)))).2.2.2.2.2.2.1 (nI 32))), (0, .ref b), (1, .int v), (2, .int w), (4, .int (nI (1 + (lowN v 3))))]) dL_arrive_127 5 rfl (nq_inc rfl) (by decide) rfl ?_
            refine zk_goto hc 17 dL_arrive_130 (by decide) ?_
            refine zk_lv [2, 3, 4, 1, 5, 0] (lv2 := [(0, .ref b), (1, .int v), (2, .int w), (3, .int (aWri (nWri (nWri (wrs (nWip S) (arrT v w k)) (nI (49 + (lowN (w >>> ((nI k) &&& 31)) 2)))) (nI (65 + (lowN (v >>> ((nI (2 + (2 * k))) &&& 31)) 3)))).2.2.2.2.2.2.1 (nI 32))), (4, .int (nI (1 + (lowN v 3)))), (5, .int (nI (k + 1)))]) rfl ?_
            exact ih17 (k + 1) W_53 (aWri (nWri (nWri (wrs (nWip S) (arrT v w k)) (nI (49 + (lowN (w >>> ((nI k) &&& 31)) 2)))) (nI (65 + (lowN (v >>> ((nI (2 + (2 * k))) &&& 31)) 3)))).2.2.2.2.2.2.1 (nI 32)) (by omega) (by omega) (by rw [show arrT v w (k + 1) = arrT v w k ++ arrP v w k from rfl, wrs_app]; unfold arrP; rw [if_pos h34, if_neg h87]; exact hS_54)
          · refine zk_aload_n hc dL_arrive_90 1 rfl ?_
            refine zk_iload_n hc dL_arrive_91 2 rfl ?_
            refine zk_bipush hc (nI 9) dL_arrive_92 rfl ?_
            refine zk_iload hc dL_arrive_94 5 rfl ?_
            refine zk_iaddN hc dL_arrive_96 ?_
            refine zk_ishr hc dL_arrive_97 ?_
            refine zk_iconst hc (nI 2) dL_arrive_98 rfl ?_
            refine zk_callSi hc (rest := [.ref b]) (ct_L_low g l (v >>> ((nI (9 + k)) &&& 31)) 2 (by omega) (by omega)) gg_L_15 cd_L_low ⟨Nat.le_of_ble_eq_true rfl, Nat.le_of_ble_eq_true rfl⟩ ⟨Nat.le_of_ble_eq_true rfl, Nat.le_of_ble_eq_true rfl⟩ ([]) W_48 (by simp only [List.append_nil, List.nil_append]) rfl (Nat.le_of_ble_eq_true rfl) dL_arrive_99 (fun r WL_56 hp => ?_)
            obtain ⟨rfl, rfl⟩ := hp
            refine zk_ws (ws2 := W_48) (by simp only [List.append_nil, List.nil_append]) ?_
            have hlow_57 := lowN_lt (v >>> ((nI (9 + k)) &&& 31)) (n := 2) (by omega)
            refine zk_if_neN hc 110 dL_arrive_102 (by decide) (by omega) (fun h102 => ?_) (fun h102 => ?_)
            · refine zk_bipush hc (nI 120) dL_arrive_110 rfl ?_
              obtain ⟨hat_60_f, hat_60⟩ := cs_at hS_49
              refine zk_callVi hc (rest := []) (kx_write g l b (nWri (nWri (wrs (nWip S) (arrT v w k)) (nI (49 + (lowN (w >>> ((nI k) &&& 31)) 2)))) (nI (65 + (lowN (v >>> ((nI (2 + (2 * k))) &&& 31)) 3)))) W_48 cN (by omega) (INV_wri0 (INV_wri0 (INV_wrs (arrT v w k) (INV_wip0 hI)) (nI (49 + (lowN (w >>> ((nI k) &&& 31)) 2)))) (nI (65 + (lowN (v >>> ((nI (2 + (2 * k))) &&& 31)) 3)))) hS_49 (nI 120)) gg_L_21 cd_X6_write ⟨Nat.le_of_ble_eq_true rfl, Nat.le_of_ble_eq_true rfl⟩ ⟨Nat.le_of_ble_eq_true rfl, Nat.le_of_ble_eq_true rfl⟩ ([]) ([]) (by simp only [List.append_nil, List.nil_append]) 0 hat_60 rfl rfl (Nat.le_of_ble_eq_true rfl) dL_arrive_112 (fun r W_58 hp => ?_)
              obtain ⟨rfl, hS_59⟩ := hp
              refine zk_ws (ws2 := W_58) (by simp only [List.append_nil, List.nil_append]) ?_
              refine zk_goto hc 119 dL_arrive_115 (by decide) ?_
              refine zk_istore_n hc (lv2 := [(3, .int (aWri (nWri (nWri (wrs (nWip S) (arrT v w k)) (nI (49 + (lowN (w >>> ((nI k) &&& 31)) 2)))) (nI (65 + (lowN (v >>> ((nI (2 + (2 * k))) &&& 31)) 3)))).2.2.2.2.2.2.1 (nI 120))), (0, .ref b), (1, .int v), (2, .int w), (4, .int (nI (1 + (lowN v 3)))), (5, .int (nI k))]) dL_arrive_119 (by decide) rfl ?_
              refine zk_aload_n hc dL_arrive_120 1 rfl ?_
              refine zk_bipush hc (nI 32) dL_arrive_121 rfl ?_
              obtain ⟨hat_63_f, hat_63⟩ := cs_at hS_59
              refine zk_callVi hc (rest := []) (kx_write g l b (nWri (nWri (nWri (wrs (nWip S) (arrT v w k)) (nI (49 + (lowN (w >>> ((nI k) &&& 31)) 2)))) (nI (65 + (lowN (v >>> ((nI (2 + (2 * k))) &&& 31)) 3)))) (nI 120)) W_58 cN (by omega) (INV_wri0 (INV_wri0 (INV_wri0 (INV_wrs (arrT v w k) (INV_wip0 hI)) (nI (49 + (lowN (w >>> ((nI k) &&& 31)) 2)))) (nI (65 + (lowN (v >>> ((nI (2 + (2 * k))) &&& 31)) 3)))) (nI 120)) hS_59 (nI 32)) gg_L_21 cd_X6_write ⟨Nat.le_of_ble_eq_true rfl, Nat.le_of_ble_eq_true rfl⟩ ⟨Nat.le_of_ble_eq_true rfl, Nat.le_of_ble_eq_true rfl⟩ ([]) ([]) (by simp only [List.append_nil, List.nil_append]) 0 hat_63 rfl rfl (Nat.le_of_ble_eq_true rfl) dL_arrive_123 (fun r W_61 hp => ?_)
              obtain ⟨rfl, hS_62⟩ := hp
              refine zk_ws (ws2 := W_61) (by simp only [List.append_nil, List.nil_append]) ?_
              refine zk_istore_n hc (lv2 := [(3, .int (aWri (nWri (nWri (nWri (wrs (nWip S) (arrT v w k)) (nI (49 + (lowN (w >>> ((nI k) &&& 31)) 2)))) (nI (65 + (lowN (v >>> ((nI (2 + (2 * k))) &&& 31)) 3)))) (nI 120)).2.2.2.2.2.2.1 (nI 32))), (0, .ref b), (1, .int v), (2, .int w), (4, .int (nI (1 + (lowN v 3)))), (5, .int (nI k))]) dL_arrive_126 (by decide) rfl ?_
              refine zk_iinc hc (v := nI (k + 1)) (lv2 := [(5, .int (nI (k + 1))), (3, .int (aWri (nWri (nWri (nWri (wrs (nWip S) (arrT v w k)) (nI (49 + (lowN (w >>> ((nI k) &&& 31)) 2)))) (nI (65 + (lowN (v >>> ((nI (2 + (2 * k))) &&& 31)) 3)))) (nI 120)).2.2.2.2.2.2.1 (nI 32))), (0, .ref b), (1, .int v), (2, .int w), (4, .int (nI (1 + (lowN v 3))))]) dL_arrive_127 5 rfl (nq_inc rfl) (by decide) rfl ?_
              refine zk_goto hc 17 dL_arrive_130 (by decide) ?_
              refine zk_lv [2, 3, 4, 1, 5, 0] (lv2 := [(0, .ref b), (1, .int v), (2, .int w), (3, .int (aWri (nWri (nWri (nWri (wrs (nWip S) (arrT v w k)) (nI (49 + (lowN (w >>> ((nI k) &&& 31)) 2)))) (nI (65 + (lowN (v >>> ((nI (2 + (2 * k))) &&& 31)) 3)))) (nI 120)).2.2.2.2.2.2.1 (nI 32))), (4, .int (nI (1 + (lowN v 3)))), (5, .int (nI (k + 1)))]) rfl ?_
              exact ih17 (k + 1) W_61 (aWri (nWri (nWri (nWri (wrs (nWip S) (arrT v w k)) (nI (49 + (lowN (w >>> ((nI k) &&& 31)) 2)))) (nI (65 + (lowN (v >>> ((nI (2 + (2 * k))) &&& 31)) 3)))) (nI 120)).2.2.2.2.2.2.1 (nI 32)) (by omega) (by omega) (by rw [show arrT v w (k + 1) = arrT v w k ++ arrP v w k from rfl, wrs_app]; unfold arrP; rw [if_pos h34, if_pos h87, if_neg h102]; exact hS_62)
            · refine zk_bipush hc (nI 102) dL_arrive_105 rfl ?_
              refine zk_goto hc 112 dL_arrive_107 (by decide) ?_
              obtain ⟨hat_66_f, hat_66⟩ := cs_at hS_49
              refine zk_callVi hc (rest := []) (kx_write g l b (nWri (nWri (wrs (nWip S) (arrT v w k)) (nI (49 + (lowN (w >>> ((nI k) &&& 31)) 2)))) (nI (65 + (lowN (v >>> ((nI (2 + (2 * k))) &&& 31)) 3)))) W_48 cN (by omega) (INV_wri0 (INV_wri0 (INV_wrs (arrT v w k) (INV_wip0 hI)) (nI (49 + (lowN (w >>> ((nI k) &&& 31)) 2)))) (nI (65 + (lowN (v >>> ((nI (2 + (2 * k))) &&& 31)) 3)))) hS_49 (nI 102)) gg_L_21 cd_X6_write ⟨Nat.le_of_ble_eq_true rfl, Nat.le_of_ble_eq_true rfl⟩ ⟨Nat.le_of_ble_eq_true rfl, Nat.le_of_ble_eq_true rfl⟩ ([]) ([]) (by simp only [List.append_nil, List.nil_append]) 0 hat_66 rfl rfl (Nat.le_of_ble_eq_true rfl) dL_arrive_112 (fun r W_64 hp => ?_)
              obtain ⟨rfl, hS_65⟩ := hp
              refine zk_ws (ws2 := W_64) (by simp only [List.append_nil, List.nil_append]) ?_
              refine zk_goto hc 119 dL_arrive_115 (by decide) ?_
              refine zk_istore_n hc (lv2 := [(3, .int (aWri (nWri (nWri (wrs (nWip S) (arrT v w k)) (nI (49 + (lowN (w >>> ((nI k) &&& 31)) 2)))) (nI (65 + (lowN (v >>> ((nI (2 + (2 * k))) &&& 31)) 3)))).2.2.2.2.2.2.1 (nI 102))), (0, .ref b), (1, .int v), (2, .int w), (4, .int (nI (1 + (lowN v 3)))), (5, .int (nI k))]) dL_arrive_119 (by decide) rfl ?_
              refine zk_aload_n hc dL_arrive_120 1 rfl ?_
              refine zk_bipush hc (nI 32) dL_arrive_121 rfl ?_
              obtain ⟨hat_69_f, hat_69⟩ := cs_at hS_65
              refine zk_callVi hc (rest := []) (kx_write g l b (nWri (nWri (nWri (wrs (nWip S) (arrT v w k)) (nI (49 + (lowN (w >>> ((nI k) &&& 31)) 2)))) (nI (65 + (lowN (v >>> ((nI (2 + (2 * k))) &&& 31)) 3)))) (nI 102)) W_64 cN (by omega) (INV_wri0 (INV_wri0 (INV_wri0 (INV_wrs (arrT v w k) (INV_wip0 hI)) (nI (49 + (lowN (w >>> ((nI k) &&& 31)) 2)))) (nI (65 + (lowN (v >>> ((nI (2 + (2 * k))) &&& 31)) 3)))) (nI 102)) hS_65 (nI 32)) gg_L_21 cd_X6_write ⟨Nat.le_of_ble_eq_true rfl, Nat.le_of_ble_eq_true rfl⟩ ⟨Nat.le_of_ble_eq_true rfl, Nat.le_of_ble_eq_true rfl⟩ ([]) ([]) (by simp only [List.append_nil, List.nil_append]) 0 hat_69 rfl rfl (Nat.le_of_ble_eq_true rfl) dL_arrive_123 (fun r W_67 hp => ?_)
              obtain ⟨rfl, hS_68⟩ := hp
              refine zk_ws (ws2 := W_67) (by simp only [List.append_nil, List.nil_append]) ?_
              refine zk_istore_n hc (lv2 := [(3, .int (aWri (nWri (nWri (nWri (wrs (nWip S) (arrT v w k)) (nI (49 + (lowN (w >>> ((nI k) &&& 31)) 2)))) (nI (65 + (lowN (v >>> ((nI (2 + (2 * k))) &&& 31)) 3)))) (nI 102)).2.2.2.2.2.2.1 (nI 32))), (0, .ref b), (1, .int v), (2, .int w), (4, .int (nI (1 + (lowN v 3)))), (5, .int (nI k))]) dL_arrive_126 (by decide) rfl ?_
              refine zk_iinc hc (v := nI (k + 1)) (lv2 := [(5, .int (nI (k + 1))), (3, .int (aWri (nWri (nWri (nWri (wrs (nWip S) (arrT v w k)) (nI (49 + (lowN (w >>> ((nI k) &&& 31)) 2)))) (nI (65 + (lowN (v >>> ((nI (2 + (2 * k))) &&& 31)) 3)))) (nI 102)).2.2.2.2.2.2.1 (nI 32))), (0, .ref b), (1, .int v), (2, .int w), (4, .int (nI (1 + (lowN v 3))))]) dL_arrive_127 5 rfl (nq_inc rfl) (by decide) rfl ?_
              refine zk_goto hc 17 dL_arrive_130 (by decide) ?_
              refine zk_lv [2, 3, 4, 1, 5, 0] (lv2 := [(0, .ref b), (1, .int v), (2, .int w), (3, .int (aWri (nWri (nWri (nWri (wrs (nWip S) (arrT v w k)) (nI (49 + (lowN (w >>> ((nI k) &&& 31)) 2)))) (nI (65 + (lowN (v >>> ((nI (2 + (2 * k))) &&& 31)) 3)))) (nI 102)).2.2.2.2.2.2.1 (nI 32))), (4, .int (nI (1 + (lowN v 3)))), (5, .int (nI (k + 1)))]) rfl ?_
              exact ih17 (k + 1) W_67 (aWri (nWri (nWri (nWri (wrs (nWip S) (arrT v w k)) (nI (49 + (lowN (w >>> ((nI k) &&& 31)) 2)))) (nI (65 + (lowN (v >>> ((nI (2 + (2 * k))) &&& 31)) 3)))) (nI 102)).2.2.2.2.2.2.1 (nI 32)) (by omega) (by omega) (by rw [show arrT v w (k + 1) = arrT v w k ++ arrP v w k from rfl, wrs_app]; unfold arrP; rw [if_pos h34, if_pos h87, if_pos h102]; exact hS_68)
  refine zk_lv [3, 4, 5, 2, 1, 0] (lv2 := [(0, .ref b), (1, .int v), (2, .int w), (3, .int (nI S.2.2.2.2.2.2.1)), (4, .int (nI (1 + (lowN v 3)))), (5, .int (nI 0))]) rfl ?_
  exact loop17 ((1 + lowN v 3 - 0) + 1) 0 W_1 (nI S.2.2.2.2.2.2.1) (Nat.lt_succ_self _) (Nat.zero_le _) hS_2

set_option maxHeartbeats 4000000 in
set_option maxRecDepth 100000 in
theorem ct_L_list (g : GG) (l : Launch) (b cN : Nat) (S : AS) (W : va_W) (hN : cN ≤ 500) (hI : INV cN S) (hS : CSt g b S W) (v : Int32) : CtI g l yL_list cL_list 4 (some .int) (rmK 6 7 72) (W) [.ref b, .int v] (fun r W1 => r = opA S (lisO v) ∧ CSt g b (opN S (lisO v)) W1) := by
  refine CtI.go RL rfl (by decide +kernel) (Nat.le_of_ble_eq_true rfl) ?_
  intro p e s m args below meth c A H0 Q hc hnm fin
  have h4 := hI.1.1
  have hG := wf_GU hI.1
  have hm8 := wf_m8 hI.1
  have h12 := hI.1.2.2.2.2.2.2.1
  have hB := hI.1.2.2.2.2.2.2.2.2.2.2.2
  show KW g p l e (rmK 6 7 72) s m args below meth c 4 A H0 0 0 Q (W) [(0, .ref b), (1, .int v)] 0 []
  refine zk_aload_n hc dL_list_0 0 rfl ?_
  obtain ⟨hat_3_f, hat_3⟩ := cs_at hS
  refine zk_callVi hc (rest := []) (kx_wipe g l b S W cN (by omega) hI hS) gg_L_9 cd_X6_wipe ⟨Nat.le_of_ble_eq_true rfl, Nat.le_of_ble_eq_true rfl⟩ ⟨Nat.le_of_ble_eq_true rfl, Nat.le_of_ble_eq_true rfl⟩ ([]) ([]) (by simp only [List.append_nil, List.nil_append]) 0 hat_3 rfl rfl (Nat.le_of_ble_eq_true rfl) dL_list_1 (fun r W_1 hp => ?_)
  obtain ⟨rfl, hS_2⟩ := hp
  refine zk_ws (ws2 := W_1) (by simp only [List.append_nil, List.nil_append]) ?_
  refine zk_istore_n hc (lv2 := [(2, .int (nI S.2.2.2.2.2.2.1)), (0, .ref b), (1, .int v)]) dL_list_4 (by decide) rfl ?_
  refine zk_iconst hc (nI 0) dL_list_5 rfl ?_
  refine zk_istore_n hc (lv2 := [(3, .int (nI 0)), (2, .int (nI S.2.2.2.2.2.2.1)), (0, .ref b), (1, .int v)]) dL_list_6 (by decide) rfl ?_
  have loop7 : ∀ (N : Nat) (k : Nat) (Wk : va_W) (ln : Int32), lowN v 7 - k < N → (k ≤ lowN v 7) → (CSt g b (wrs (nWip S) (lisT v k)) Wk) → KW g p l e (rmK 6 7 72) s m args below meth c 4 A H0 0 0 Q (Wk) [(0, .ref b), (1, .int v), (2, .int ln), (3, .int (nI k))] 7 [] := by
    intro N
    induction N with
    | zero => intro k Wk ln hm; exact absurd hm (Nat.not_lt_zero _)
    | succ N ih7 =>
      intro k Wk ln hm7 hk hSk
      refine zk_iload_n hc dL_list_7 3 rfl ?_
      refine zk_iload_n hc dL_list_8 1 rfl ?_
      refine zk_bipush hc (nI 7) dL_list_9 rfl ?_
      refine zk_callSi hc (rest := [.int (nI k)]) (ct_L_low g l v 7 (by omega) (by omega)) gg_L_15 cd_L_low ⟨Nat.le_of_ble_eq_true rfl, Nat.le_of_ble_eq_true rfl⟩ ⟨Nat.le_of_ble_eq_true rfl, Nat.le_of_ble_eq_true rfl⟩ ([]) Wk (by simp only [List.append_nil, List.nil_append]) rfl (Nat.le_of_ble_eq_true rfl) dL_list_11 (fun r WL_4 hp => ?_)
      obtain ⟨rfl, rfl⟩ := hp
      refine zk_ws (ws2 := Wk) (by simp only [List.append_nil, List.nil_append]) ?_
      have hlow_5 := lowN_lt v (n := 7) (by omega)
      refine zk_icmp_geN hc 42 dL_list_14 (by decide) (by omega) (by omega) (fun h_6 => ?_) (fun h_6 => ?_)
      · refine zk_aload_n hc dL_list_42 0 rfl ?_
        obtain ⟨hat_9_f, hat_9⟩ := cs_at hSk
        refine zk_callVi hc (rest := []) (kx_list g l b (wrs (nWip S) (lisT v k)) Wk cN (by omega) (INV_wrs (lisT v k) (INV_wip0 hI)) hSk) gg_L_31 cd_X6_list ⟨Nat.le_of_ble_eq_true rfl, Nat.le_of_ble_eq_true rfl⟩ ⟨Nat.le_of_ble_eq_true rfl, Nat.le_of_ble_eq_true rfl⟩ ([]) ([]) (by simp only [List.append_nil, List.nil_append]) 0 hat_9 rfl rfl (Nat.le_of_ble_eq_true rfl) dL_list_43 (fun r W_7 hp => ?_)
        obtain ⟨rfl, hS_8⟩ := hp
        refine zk_ws (ws2 := W_7) (by simp only [List.append_nil, List.nil_append]) ?_
        refine fin 7 72 _ _ _ _ (by decide) (by decide) dL_list_46 (?_)
        have hq : k = lowN v 7 := by omega
        subst hq
        exact ⟨rfl, hS_8⟩
      · refine zk_aload_n hc dL_list_17 0 rfl ?_
        refine zk_bipush hc (nI 65) dL_list_18 rfl ?_
        refine zk_iload_n hc dL_list_20 1 rfl ?_
        refine zk_iconst hc (nI 3) dL_list_21 rfl ?_
        refine zk_iconst hc (nI 2) dL_list_22 rfl ?_
        refine zk_iload_n hc dL_list_23 3 rfl ?_
        refine zk_imulN hc dL_list_24 ?_
        refine zk_iaddN hc dL_list_25 ?_
        refine zk_ishr hc dL_list_26 ?_
        refine zk_iconst hc (nI 3) dL_list_27 rfl ?_
        refine zk_callSi hc (rest := [.int (nI 65), .ref b]) (ct_L_low g l (v >>> ((nI (3 + (2 * k))) &&& 31)) 3 (by omega) (by omega)) gg_L_15 cd_L_low ⟨Nat.le_of_ble_eq_true rfl, Nat.le_of_ble_eq_true rfl⟩ ⟨Nat.le_of_ble_eq_true rfl, Nat.le_of_ble_eq_true rfl⟩ ([]) Wk (by simp only [List.append_nil, List.nil_append]) rfl (Nat.le_of_ble_eq_true rfl) dL_list_28 (fun r WL_10 hp => ?_)
        obtain ⟨rfl, rfl⟩ := hp
        refine zk_ws (ws2 := Wk) (by simp only [List.append_nil, List.nil_append]) ?_
        have hlow_11 := lowN_lt (v >>> ((nI (3 + (2 * k))) &&& 31)) (n := 3) (by omega)
        refine zk_iaddN hc dL_list_31 ?_
        obtain ⟨hat_14_f, hat_14⟩ := cs_at hSk
        refine zk_callVi hc (rest := []) (kx_write g l b (wrs (nWip S) (lisT v k)) Wk cN (by omega) (INV_wrs (lisT v k) (INV_wip0 hI)) hSk (nI (65 + (lowN (v >>> ((nI (3 + (2 * k))) &&& 31)) 3)))) gg_L_21 cd_X6_write ⟨Nat.le_of_ble_eq_true rfl, Nat.le_of_ble_eq_true rfl⟩ ⟨Nat.le_of_ble_eq_true rfl, Nat.le_of_ble_eq_true rfl⟩ ([]) ([]) (by simp only [List.append_nil, List.nil_append]) 0 hat_14 rfl rfl (Nat.le_of_ble_eq_true rfl) dL_list_32 (fun r W_12 hp => ?_)
        obtain ⟨rfl, hS_13⟩ := hp
        refine zk_ws (ws2 := W_12) (by simp only [List.append_nil, List.nil_append]) ?_
        refine zk_istore_n hc (lv2 := [(2, .int (aWri (wrs (nWip S) (lisT v k)).2.2.2.2.2.2.1 (nI (65 + (lowN (v >>> ((nI (3 + (2 * k))) &&& 31)) 3))))), (0, .ref b), (1, .int v), (3, .int (nI k))]) dL_list_35 (by decide) rfl ?_
        refine zk_iinc hc (v := nI (k + 1)) (lv2 := [(3, .int (nI (k + 1))), (2, .int (aWri (wrs (nWip S) (lisT v k)).2.2.2.2.2.2.1 (nI (65 + (lowN (v >>> ((nI (3 + (2 * k))) &&& 31)) 3))))), (0, .ref b), (1, .int v)]) dL_list_36 3 rfl (nq_inc rfl) (by decide) rfl ?_
        refine zk_goto hc 7 dL_list_39 (by decide) ?_
        refine zk_lv [2, 3, 1, 0] (lv2 := [(0, .ref b), (1, .int v), (2, .int (aWri (wrs (nWip S) (lisT v k)).2.2.2.2.2.2.1 (nI (65 + (lowN (v >>> ((nI (3 + (2 * k))) &&& 31)) 3))))), (3, .int (nI (k + 1)))]) rfl ?_
        exact ih7 (k + 1) W_12 (aWri (wrs (nWip S) (lisT v k)).2.2.2.2.2.2.1 (nI (65 + (lowN (v >>> ((nI (3 + (2 * k))) &&& 31)) 3)))) (by omega) (by omega) (by rw [show lisT v (k + 1) = lisT v k ++ [nI (65 + lowN (v >>> (nI (3 + 2 * k) &&& 31)) 3)] from rfl, wrs_app]; exact hS_13)
  refine zk_lv [2, 3, 1, 0] (lv2 := [(0, .ref b), (1, .int v), (2, .int (nI S.2.2.2.2.2.2.1)), (3, .int (nI 0))]) rfl ?_
  exact loop7 ((lowN v 7 - 0) + 1) 0 W_1 (nI S.2.2.2.2.2.2.1) (Nat.lt_succ_self _) (Nat.zero_le _) hS_2
