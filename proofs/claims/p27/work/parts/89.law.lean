/-! the law -/
def LK (g : GG) (p : Program) (s : State) (m : MethodId) (args : Array Value) (c : Code) (A : Nat → Prop) (H0 : Heap) (meth : Method) (sb L : Nat) (xs : Nat → Int32) : Prop := KC g p s m args c cL_law 7 RL A H0 meth ∧ va_X sb L xs s H0 ∧ sb < H0.size ∧ ¬ A sb ∧ L ≤ 260
/-- two yards that have been handled alike, N changes long -/
def TW (g : GG) (b1 b2 N : Nat) (S T : AS) (W V : va_W) : Prop := EqS S T ∧ INV N S ∧ INV N T ∧ GI S ∧ CSt g b1 S W ∧ CSt g b2 T V
set_option maxHeartbeats 4000000 in
set_option maxRecDepth 100000 in
theorem lk_a {g : GG} {p : Program} {l : Launch} {e : Env} {s : State} {m : MethodId} {args : Array Value} {below : List Frame} {meth : Method} {c : Code} {A : Nat → Prop} {H0 : Heap} {Q : State → Prop} {sb L : Nat} {xs : Nat → Int32} (hk : LK g p s m args c A H0 meth sb L xs) {cs sl N i : Nat} {b1 b2 : Nat} {S T : AS} {W V : va_W} (hN : N ≤ 400) (hi : i < 36) (h1 : cs + 14 ≤ 600000) (h2 : sl + 144 ≤ 7302250) (hT : TW g b1 b2 N S T W V) (kk : ∀ (S2 T2 : AS) (W2 V2 : va_W) (v w : Int32), TW g b1 b2 (N + 1) S2 T2 W2 V2 → KW g p l e room_1 s m args below meth c 7 A H0 (cs + 14) (sl + 144) Q (W2 ++ V2) [(0, .ref sb), (1, .ref b1), (2, .ref b2), (3, .int (nI i)), (4, .int v), (5, .int w)] 75 []) : KW g p l e room_1 s m args below meth c 7 A H0 cs sl Q (W ++ V) [(0, .ref sb), (1, .ref b1), (2, .ref b2), (3, .int (nI i))] 24 [] := by
  obtain ⟨hc, hX, hsb, hsA, hL⟩ := hk
  obtain ⟨hE, hI, hI2, hGI, hS, hS2⟩ := hT
  have h4 := hI.1.1
  refine zk_aload_n hc dL_law_24 0 rfl ?_
  refine zk_iconst hc (nI 2) dL_law_25 rfl ?_
  refine zk_iload_n hc dL_law_26 3 rfl ?_
  refine zk_imulN hc dL_law_27 ?_
  refine zk_callX hc hX hsb hsA (rest := []) (ct_L_cell g l sb L xs (by omega) (2 * i) (by omega)) gg_L_97 cd_L_cell ⟨Nat.le_of_ble_eq_true rfl, Nat.le_of_ble_eq_true rfl⟩ ⟨(by show cs + 0 + 0 ≤ 600000; omega), (by show sl + 0 + 0 ≤ 7302250; omega)⟩ (Nat.le_of_ble_eq_true rfl) dL_law_28 (fun r Wc hp => ?_)
  obtain ⟨rfl, rfl⟩ := hp
  refine zk_ws (ws2 := W ++ (V)) rfl ?_
  obtain ⟨v, hv⟩ : ∃ z, cellV xs L (2 * i) = z := ⟨_, rfl⟩
  refine zk_top (y := v) hv ?_
  refine zk_istore hc (lv2 := [(4, .int v), (0, .ref sb), (1, .ref b1), (2, .ref b2), (3, .int (nI i))]) dL_law_31 (by decide) rfl ?_
  refine zk_aload_n hc dL_law_33 1 rfl ?_
  refine zk_iconst hc (nI 2) dL_law_34 rfl ?_
  refine zk_iload_n hc dL_law_35 4 rfl ?_
  refine zk_imulN hc dL_law_36 ?_
  refine zk_iconst hc (nI 1) dL_law_37 rfl ?_
  refine zk_iaddN hc dL_law_38 ?_
  refine zk_callX hc hX hsb hsA (rest := []) (ct_L_cell g l sb L xs (by omega) ((2 * i) + 1) (by omega)) gg_L_97 cd_L_cell ⟨Nat.le_of_ble_eq_true rfl, Nat.le_of_ble_eq_true rfl⟩ ⟨(by show cs + 0 + 0 ≤ 600000; omega), (by show sl + 0 + 0 ≤ 7302250; omega)⟩ (Nat.le_of_ble_eq_true rfl) dL_law_39 (fun r Wc hp => ?_)
  obtain ⟨rfl, rfl⟩ := hp
  refine zk_ws (ws2 := W ++ (V)) rfl ?_
  obtain ⟨w, hw⟩ : ∃ z, cellV xs L ((2 * i) + 1) = z := ⟨_, rfl⟩
  refine zk_top (y := w) hw ?_
  refine zk_istore hc (lv2 := [(5, .int w), (4, .int v), (0, .ref sb), (1, .ref b1), (2, .ref b2), (3, .int (nI i))]) dL_law_42 (by decide) rfl ?_
  refine zk_iload hc dL_law_44 1 rfl ?_
  refine zk_bipush hc (nI 22) dL_law_46 rfl ?_
  refine zk_callSi hc (rest := []) (ct_L_low g l v 22 (by omega) (by omega)) gg_L_15 cd_L_low ⟨Nat.le_of_ble_eq_true rfl, Nat.le_of_ble_eq_true rfl⟩ ⟨(by show cs + 0 + 0 ≤ 600000; omega), (by show sl + 0 + 0 ≤ 7302250; omega)⟩ ([]) (W ++ (V)) (by simp only [List.append_nil, List.nil_append]) rfl (Nat.le_of_ble_eq_true rfl) dL_law_48 (fun r WL_1 hp => ?_)
  obtain ⟨rfl, rfl⟩ := hp
  refine zk_ws (ws2 := W ++ (V)) (by simp only [List.append_nil, List.nil_append]) ?_
  have hlow_2 := lowN_lt v (n := 22) (by omega)
  refine zk_bipush hc (nI 16) dL_law_51 rfl ?_
  refine zk_icmp_eqN hc 75 dL_law_53 (by decide) (by omega) (by omega) (fun h53 => ?_) (fun h53 => ?_)
  · refine zk_lv [2, 3, 4, 5, 1, 0] (lv2 := [(0, .ref sb), (1, .ref b1), (2, .ref b2), (3, .int (nI i)), (4, .int v), (5, .int w)]) rfl ?_
    refine zk_widen (k2 := cs + 14) (n2 := sl + 144) (by show cs + 0 ≤ cs + 14; omega) (by show sl + 0 ≤ sl + 144; omega) ?_
    exact kk S T W V v w ⟨hE, INV_up hI, INV_up hI2, hGI, hS, hS2⟩
  · refine zk_aload_n hc dL_law_56 3 rfl ?_
    refine zk_iload hc dL_law_57 1 rfl ?_
    refine zk_iload hc dL_law_59 0 rfl ?_
    refine zk_callSi hc (rest := []) (ct_L_change g l b1 N S W (by omega) hI hS v w h53) gg_L_101 cd_L_change ⟨Nat.le_of_ble_eq_true rfl, Nat.le_of_ble_eq_true rfl⟩ ⟨(by show cs + 0 + 7 ≤ 600000; omega), (by show sl + 0 + 72 ≤ 7302250; omega)⟩ ([]) V (by simp only [List.append_nil, List.nil_append]) rfl (Nat.le_of_ble_eq_true rfl) dL_law_61 (fun r W_3 hp => ?_)
    obtain ⟨rfl, hS_4⟩ := hp
    refine zk_ws (ws2 := W_3 ++ (V)) (by simp only [List.append_nil, List.nil_append]) ?_
    refine zk_aload_n hc dL_law_64 4 rfl ?_
    refine zk_iload hc dL_law_65 1 rfl ?_
    refine zk_iload hc dL_law_67 0 rfl ?_
    refine zk_perm (ws2 := V ++ (W_3)) (pm_en _ _) ?_
    refine zk_callSi hc (rest := [.int (opA S (chO (S.1 4) v w))]) (ct_L_change g l b2 N T V (by omega) hI2 hS2 v w h53) gg_L_101 cd_L_change ⟨Nat.le_of_ble_eq_true rfl, Nat.le_of_ble_eq_true rfl⟩ ⟨(by show cs + 7 + 7 ≤ 600000; omega), (by show sl + 72 + 72 ≤ 7302250; omega)⟩ ([]) W_3 (by simp only [List.append_nil, List.nil_append]) rfl (Nat.le_of_ble_eq_true rfl) dL_law_69 (fun r W_5 hp => ?_)
    obtain ⟨rfl, hS_6⟩ := hp
    refine zk_ws (ws2 := W_5 ++ (W_3)) (by simp only [List.append_nil, List.nil_append]) ?_
    refine zk_top (y := (opA S (chO (S.1 4) v w))) (by rw [← hE.1]; exact (op_eq hE _).1.symm) ?_
    refine zk_icmp_ne hc 82 dL_law_72 (by decide) (fun h72 => ?_) (fun h72 => ?_)
    · exact absurd rfl h72
    · refine zk_perm (ws2 := W_3 ++ (W_5)) (pm_en _ _) ?_
      refine zk_lv [2, 3, 4, 5, 1, 0] (lv2 := [(0, .ref sb), (1, .ref b1), (2, .ref b2), (3, .int (nI i)), (4, .int v), (5, .int w)]) rfl ?_
      refine zk_widen (k2 := cs + 14) (n2 := sl + 144) (by show cs + 14 ≤ cs + 14; omega) (by show sl + 144 ≤ sl + 144; omega) ?_
      exact kk _ _ _ _ v w ⟨(by rw [← hE.1]; exact (op_eq hE _).2), INV_op hI _, INV_op hI2 _, GI_op hI hGI _, hS_4, hS_6⟩
set_option maxHeartbeats 4000000 in
set_option maxRecDepth 100000 in
theorem lk_b {g : GG} {p : Program} {l : Launch} {e : Env} {s : State} {m : MethodId} {args : Array Value} {below : List Frame} {meth : Method} {c : Code} {A : Nat → Prop} {H0 : Heap} {Q : State → Prop} {sb L : Nat} {xs : Nat → Int32} (hk : LK g p s m args c A H0 meth sb L xs) {cs sl N i : Nat} {b1 b2 : Nat} {S T : AS} {W V : va_W} (hN : N ≤ 400) (hi : i < 36) (h1 : cs + 35 ≤ 600000) (h2 : sl + 360 ≤ 7302250) (v w : Int32) (hT : TW g b1 b2 N S T W V) (kk : ∀ (S2 T2 : AS) (W2 V2 : va_W), TW g b1 b2 N S2 T2 W2 V2 → KW g p l e room_1 s m args below meth c 7 A H0 (cs + 35) (sl + 360) Q (W2 ++ V2) [(0, .ref sb), (1, .ref b1), (2, .ref b2), (3, .int (nI (i + 1)))] 18 []) : KW g p l e room_1 s m args below meth c 7 A H0 cs sl Q (W ++ V) [(0, .ref sb), (1, .ref b1), (2, .ref b2), (3, .int (nI i)), (4, .int v), (5, .int w)] 75 [] := by
  obtain ⟨hc, hX, hsb, hsA, hL⟩ := hk
  obtain ⟨hE, hI, hI2, hGI, hS, hS2⟩ := hT
  have h4 := hI.1.1
  refine zk_aload_n hc dL_law_75 1 rfl ?_
  refine zk_callSi hc (rest := []) (ct_L_areTracks g l b1 N S W (by omega) hI hS hGI.1) gg_L_104 cd_L_areTracks ⟨Nat.le_of_ble_eq_true rfl, Nat.le_of_ble_eq_true rfl⟩ ⟨(by show cs + 0 + 0 ≤ 600000; omega), (by show sl + 0 + 0 ≤ 7302250; omega)⟩ ([]) V (by simp only [List.append_nil, List.nil_append]) rfl (Nat.le_of_ble_eq_true rfl) dL_law_76 (fun r W_1 hp => ?_)
  obtain ⟨rfl, hS_2⟩ := hp
  refine zk_ws (ws2 := W_1 ++ (V)) (by simp only [List.append_nil, List.nil_append]) ?_
  refine zk_if_neN hc 84 dL_law_79 (by decide) (by omega) (fun h_3 => ?_) (fun h_3 => ?_)
  · refine zk_aload_n hc dL_law_84 1 rfl ?_
    refine zk_iconst hc (nI 0) dL_law_85 rfl ?_
    obtain ⟨hat_6_f, hat_6⟩ := cs_at hS_2
    refine zk_callVi hc (rest := []) (kx_told g l b1 S W_1 N (by omega) hI hS_2 (nI 0)) gg_L_25 cd_X6_told ⟨Nat.le_of_ble_eq_true rfl, Nat.le_of_ble_eq_true rfl⟩ ⟨(by show cs + 0 + 0 ≤ 600000; omega), (by show sl + 0 + 0 ≤ 7302250; omega)⟩ ([]) V (by simp only [List.append_nil, List.nil_append]) 0 (at_app hat_6) rfl rfl (Nat.le_of_ble_eq_true rfl) dL_law_86 (fun r W_4 hp => ?_)
    obtain ⟨rfl, hS_5⟩ := hp
    refine zk_ws (ws2 := W_4 ++ (V)) (by simp only [List.append_nil, List.nil_append]) ?_
    refine zk_top (y := nI (S.1 4)) (tol_n _ (by omega)) ?_
    refine zk_istore hc (lv2 := [(6, .int (nI (S.1 4))), (0, .ref sb), (1, .ref b1), (2, .ref b2), (3, .int (nI i)), (4, .int v), (5, .int w)]) dL_law_89 (by decide) rfl ?_
    refine zk_aload_n hc dL_law_91 2 rfl ?_
    refine zk_iload hc dL_law_92 6 rfl ?_
    refine zk_iconst hc (nI 4) dL_law_94 rfl ?_
    refine zk_ishr hc dL_law_95 ?_
    refine zk_iload hc dL_law_96 0 rfl ?_
    refine zk_callSi hc (rest := [.ref b1]) (ct_L_low g l (w >>> ((nI 4) &&& 31)) (S.1 4) (by omega) (by omega)) gg_L_15 cd_L_low ⟨Nat.le_of_ble_eq_true rfl, Nat.le_of_ble_eq_true rfl⟩ ⟨(by show cs + 0 + 0 ≤ 600000; omega), (by show sl + 0 + 0 ≤ 7302250; omega)⟩ ([]) (W_4 ++ (V)) (by simp only [List.append_nil, List.nil_append]) rfl (Nat.le_of_ble_eq_true rfl) dL_law_98 (fun r WL_7 hp => ?_)
    obtain ⟨rfl, rfl⟩ := hp
    refine zk_ws (ws2 := W_4 ++ (V)) (by simp only [List.append_nil, List.nil_append]) ?_
    have hlow_8 := lowN_lt (w >>> ((nI 4) &&& 31)) (n := (S.1 4)) (by omega)
    refine zk_iload hc dL_law_101 6 rfl ?_
    refine zk_bipush hc (nI 7) dL_law_103 rfl ?_
    refine zk_ishr hc dL_law_105 ?_
    refine zk_iload hc dL_law_106 0 rfl ?_
    refine zk_callSi hc (rest := [.int (nI (lowN (w >>> ((nI 4) &&& 31)) (S.1 4))), .ref b1]) (ct_L_low g l (w >>> ((nI 7) &&& 31)) (S.1 4) (by omega) (by omega)) gg_L_15 cd_L_low ⟨Nat.le_of_ble_eq_true rfl, Nat.le_of_ble_eq_true rfl⟩ ⟨(by show cs + 0 + 0 ≤ 600000; omega), (by show sl + 0 + 0 ≤ 7302250; omega)⟩ ([]) (W_4 ++ (V)) (by simp only [List.append_nil, List.nil_append]) rfl (Nat.le_of_ble_eq_true rfl) dL_law_108 (fun r WL_9 hp => ?_)
    obtain ⟨rfl, rfl⟩ := hp
    refine zk_ws (ws2 := W_4 ++ (V)) (by simp only [List.append_nil, List.nil_append]) ?_
    have hlow_10 := lowN_lt (w >>> ((nI 7) &&& 31)) (n := (S.1 4)) (by omega)
    refine zk_iconst hc (nI 1) dL_law_111 rfl ?_
    refine zk_iload hc dL_law_112 6 rfl ?_
    refine zk_bipush hc (nI 10) dL_law_114 rfl ?_
    refine zk_ishr hc dL_law_116 ?_
    refine zk_bipush hc (nI 8) dL_law_117 rfl ?_
    refine zk_callSi hc (rest := [.int (nI 1), .int (nI (lowN (w >>> ((nI 7) &&& 31)) (S.1 4))), .int (nI (lowN (w >>> ((nI 4) &&& 31)) (S.1 4))), .ref b1]) (ct_L_low g l (w >>> ((nI 10) &&& 31)) 8 (by omega) (by omega)) gg_L_15 cd_L_low ⟨Nat.le_of_ble_eq_true rfl, Nat.le_of_ble_eq_true rfl⟩ ⟨(by show cs + 0 + 0 ≤ 600000; omega), (by show sl + 0 + 0 ≤ 7302250; omega)⟩ ([]) (W_4 ++ (V)) (by simp only [List.append_nil, List.nil_append]) rfl (Nat.le_of_ble_eq_true rfl) dL_law_119 (fun r WL_11 hp => ?_)
    obtain ⟨rfl, rfl⟩ := hp
    refine zk_ws (ws2 := W_4 ++ (V)) (by simp only [List.append_nil, List.nil_append]) ?_
    have hlow_12 := lowN_lt (w >>> ((nI 10) &&& 31)) (n := 8) (by omega)
    refine zk_iaddN hc dL_law_122 ?_
    refine zk_callSi hc (rest := []) (ct_L_isMove g l b1 N S W_4 (by omega) hI hS_5 (lowN (w >>> ((nI 4) &&& 31)) (S.1 4)) (lowN (w >>> ((nI 7) &&& 31)) (S.1 4)) (1 + (lowN (w >>> ((nI 10) &&& 31)) 8)) (by rw [← (EqS.rf S).1]; omega) (by rw [← (EqS.rf S).1]; omega) (by omega) (by omega)) gg_L_108 cd_L_isMove ⟨Nat.le_of_ble_eq_true rfl, Nat.le_of_ble_eq_true rfl⟩ ⟨(by show cs + 0 + 7 ≤ 600000; omega), (by show sl + 0 + 72 ≤ 7302250; omega)⟩ ([]) V (by simp only [List.append_nil, List.nil_append]) rfl (Nat.le_of_ble_eq_true rfl) dL_law_123 (fun r W_13 hp => ?_)
    obtain ⟨rfl, Se_15, hEe_15_, hIe_15, hS_14⟩ := hp
    have hEe_15 : EqS S Se_15 := EqS.tr (EqS.rf S) hEe_15_
    refine zk_ws (ws2 := W_13 ++ (V)) (by simp only [List.append_nil, List.nil_append]) ?_
    refine zk_if_eqN hc 162 dL_law_126 (by decide) (by omega) (fun h_16 => ?_) (fun h_16 => ?_)
    · exact absurd h_16 (by decide)
    · refine zk_aload_n hc dL_law_129 2 rfl ?_
      refine zk_iload hc dL_law_130 6 rfl ?_
      refine zk_bipush hc (nI 13) dL_law_132 rfl ?_
      refine zk_ishr hc dL_law_134 ?_
      refine zk_iload hc dL_law_135 0 rfl ?_
      refine zk_callSi hc (rest := [.ref b1]) (ct_L_low g l (w >>> ((nI 13) &&& 31)) (S.1 4) (by omega) (by omega)) gg_L_15 cd_L_low ⟨Nat.le_of_ble_eq_true rfl, Nat.le_of_ble_eq_true rfl⟩ ⟨(by show cs + 7 + 0 ≤ 600000; omega), (by show sl + 72 + 0 ≤ 7302250; omega)⟩ ([]) (W_13 ++ (V)) (by simp only [List.append_nil, List.nil_append]) rfl (Nat.le_of_ble_eq_true rfl) dL_law_137 (fun r WL_17 hp => ?_)
      obtain ⟨rfl, rfl⟩ := hp
      refine zk_ws (ws2 := W_13 ++ (V)) (by simp only [List.append_nil, List.nil_append]) ?_
      have hlow_18 := lowN_lt (w >>> ((nI 13) &&& 31)) (n := (S.1 4)) (by omega)
      refine zk_callSi hc (rest := []) (ct_L_isDeparture g l b1 N Se_15 W_13 (by omega) hIe_15 hS_14 (lowN (w >>> ((nI 13) &&& 31)) (S.1 4)) (by rw [← hEe_15.1]; omega)) gg_L_112 cd_L_isDeparture ⟨Nat.le_of_ble_eq_true rfl, Nat.le_of_ble_eq_true rfl⟩ ⟨(by show cs + 7 + 7 ≤ 600000; omega), (by show sl + 72 + 72 ≤ 7302250; omega)⟩ ([]) V (by simp only [List.append_nil, List.nil_append]) rfl (Nat.le_of_ble_eq_true rfl) dL_law_140 (fun r W_19 hp => ?_)
      obtain ⟨rfl, Se_21, hEe_21_, hIe_21, hS_20⟩ := hp
      have hEe_21 : EqS S Se_21 := EqS.tr hEe_15 hEe_21_
      refine zk_ws (ws2 := W_19 ++ (V)) (by simp only [List.append_nil, List.nil_append]) ?_
      refine zk_if_eqN hc 162 dL_law_143 (by decide) (by omega) (fun h_22 => ?_) (fun h_22 => ?_)
      · exact absurd h_22 (by decide)
      · refine zk_iload_n hc dL_law_146 4 rfl ?_
        refine zk_bipush hc (nI 9) dL_law_147 rfl ?_
        refine zk_iremN hc dL_law_149 (by omega) (by omega) (by omega) ?_
        refine zk_bipush hc (nI 8) dL_law_150 rfl ?_
        refine zk_icmp_neN hc 164 dL_law_152 (by decide) (by omega) (by omega) (fun h152 => ?_) (fun h152 => ?_)
        · refine zk_iinc hc (v := nI (i + 1)) (lv2 := [(3, .int (nI (i + 1))), (6, .int (nI (S.1 4))), (0, .ref sb), (1, .ref b1), (2, .ref b2), (4, .int v), (5, .int w)]) dL_law_164 4 rfl (nq_inc rfl) (by decide) rfl ?_
          refine zk_goto hc 18 dL_law_167 (by decide) ?_
          refine zk_lv [2, 3, 4, 0] (lv2 := [(0, .ref sb), (1, .ref b1), (2, .ref b2), (3, .int (nI (i + 1)))]) rfl ?_
          refine zk_widen (k2 := cs + 35) (n2 := sl + 360) (by show cs + 14 ≤ cs + 35; omega) (by show sl + 144 ≤ sl + 360; omega) ?_
          exact kk Se_21 T W_19 V ⟨hEe_21.sy.tr hE, hIe_21, hI2, GI_eq hEe_21 hGI, hS_20, hS2⟩
        · refine zk_aload_n hc dL_law_155 2 rfl ?_
          refine zk_callSi hc (rest := []) (ct_L_isCheapest g l b1 N Se_21 W_19 (by omega) hIe_21 hS_20) gg_L_116 cd_L_isCheapest ⟨Nat.le_of_ble_eq_true rfl, Nat.le_of_ble_eq_true rfl⟩ ⟨(by show cs + 14 + 21 ≤ 600000; omega), (by show sl + 144 + 216 ≤ 7302250; omega)⟩ ([]) V (by simp only [List.append_nil, List.nil_append]) rfl (Nat.le_of_ble_eq_true rfl) dL_law_156 (fun r W_23 hp => ?_)
          obtain ⟨rfl, Se_25, hEe_25_, hIe_25, hS_24⟩ := hp
          have hEe_25 : EqS S Se_25 := EqS.tr hEe_21 hEe_25_
          refine zk_ws (ws2 := W_23 ++ (V)) (by simp only [List.append_nil, List.nil_append]) ?_
          refine zk_if_neN hc 164 dL_law_159 (by decide) (by omega) (fun h_26 => ?_) (fun h_26 => ?_)
          · refine zk_iinc hc (v := nI (i + 1)) (lv2 := [(3, .int (nI (i + 1))), (6, .int (nI (S.1 4))), (0, .ref sb), (1, .ref b1), (2, .ref b2), (4, .int v), (5, .int w)]) dL_law_164 4 rfl (nq_inc rfl) (by decide) rfl ?_
            refine zk_goto hc 18 dL_law_167 (by decide) ?_
            refine zk_lv [2, 3, 4, 0] (lv2 := [(0, .ref sb), (1, .ref b1), (2, .ref b2), (3, .int (nI (i + 1)))]) rfl ?_
            refine zk_widen (k2 := cs + 35) (n2 := sl + 360) (by show cs + 35 ≤ cs + 35; omega) (by show sl + 360 ≤ sl + 360; omega) ?_
            exact kk Se_25 T W_23 V ⟨hEe_25.sy.tr hE, hIe_25, hI2, GI_eq hEe_25 hGI, hS_24, hS2⟩
          · exact absurd h_26 (by decide)
  · exact absurd h_3 (by decide)
theorem lk_loop {g : GG} {p : Program} {l : Launch} {e : Env} {s : State} {m : MethodId} {args : Array Value} {below : List Frame} {meth : Method} {c : Code} {A : Nat → Prop} {H0 : Heap} {Q : State → Prop} {sb L : Nat} {xs : Nat → Int32} (hk : LK g p s m args c A H0 meth sb L xs) {b1 b2 : Nat} (hend : ∀ (cells slots : Nat) (ws : va_W) (lv : List (Nat × Value)), cells ≤ 600000 → slots ≤ 7302250 → KW g p l e room_1 s m args below meth c 7 A H0 cells slots Q ws lv 175 [.int (nI 1)]) : ∀ (n i : Nat) (S T : AS) (W V : va_W), 36 - i < n → i ≤ 36 → TW g b1 b2 i S T W V → KW g p l e room_1 s m args below meth c 7 A H0 (66 + 49 * i) (572 + 504 * i) Q (W ++ V) [(0, .ref sb), (1, .ref b1), (2, .ref b2), (3, .int (nI i))] 18 [] := by
  have hc := hk.1
  intro n
  induction n with
  | zero => intro i S T W V h; exact absurd h (Nat.not_lt_zero _)
  | succ n ih =>
    intro i S T W V hn hi hT
    refine zk_iload_n hc dL_law_18 3 rfl ?_
    refine zk_bipush hc (nI 36) dL_law_19 rfl ?_
    refine zk_icmp_geN hc 170 dL_law_21 (by decide) (by omega) (by omega) (fun hge => ?_) (fun hlt => ?_)
    · obtain ⟨hE, hI, hI2, hGI, hS, hS2⟩ := hT
      refine zk_aload_n hc dL_law_170 1 rfl ?_
      refine zk_aload_n hc dL_law_171 2 rfl ?_
      refine zk_callSi hc (rest := []) (ct_L_areAlike g l b1 i S W (by omega) hI hS b2 T V hI2 hS2 hE) gg_L_119 cd_L_areAlike ⟨Nat.le_of_ble_eq_true rfl, Nat.le_of_ble_eq_true rfl⟩ ⟨(by show 66 + 49 * i + 0 ≤ 600000; omega), (by show 572 + 504 * i + 0 ≤ 7302250; omega)⟩ [] [] (by rw [List.append_nil]; rfl) rfl (Nat.le_of_ble_eq_true rfl) dL_law_172 (fun r W1 hp => ?_)
      obtain rfl := hp
      exact hend _ _ _ _ (by show 66 + 49 * i + 0 ≤ 600000; omega) (by show 572 + 504 * i + 0 ≤ 7302250; omega)
    · refine lk_a hk (by omega) hlt (by omega) (by omega) hT (fun S2 T2 W2 V2 v w hT2 => ?_)
      refine lk_b hk (by omega) hlt (by omega) (by omega) v w hT2 (fun S3 T3 W3 V3 hT3 => ?_)
      have := ih (i + 1) S3 T3 W3 V3 (by omega) (by omega) hT3
      rw [show 66 + 49 * (i + 1) = 66 + 49 * i + 14 + 35 by omega, show 572 + 504 * (i + 1) = 572 + 504 * i + 144 + 360 by omega] at this
      exact this
