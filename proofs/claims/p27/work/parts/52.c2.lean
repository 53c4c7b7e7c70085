set_option maxHeartbeats 4000000 in
set_option maxRecDepth 100000 in
theorem ct_X2_clear (g : GG) (l : Launch) (a : Nat → Nat) (fr to nn : Nat → Nat) (mv mi : Nat) : CtV g l yX2_clear cX2_clear 1 (rmK 1 0 0) (RWW g.2.1 a fr to nn mv mi) [.ref (a 0)] (fun W1 => W1 = RWW g.2.1 a fr to nn 0 0) := by
  refine CtV.go RX2 rfl (by decide +kernel) (Nat.le_of_ble_eq_true rfl) ?_
  intro p e s m args below meth c A H0 Q hc hnm fin
  show KW g p l e (rmK 1 0 0) s m args below meth c 1 A H0 0 0 Q (RWW g.2.1 a fr to nn mv mi) [(0, .ref (a 0))] 0 []
  refine zk_aload_n hc dX2_clear_0 0 rfl ?_
  refine zk_iconst hc (nI 0) dX2_clear_1 rfl ?_
  refine zk_put hc inlX2 (ci := 2) rfl tyX2 tyX2_ok nmX2 0 0 (by decide) mw_14_16 rfl rfl rfl rfl rfl (Nat.le_of_ble_eq_true rfl) (ws2 := RWW g.2.1 a fr to nn 0 mi) rfl dX2_clear_2 ?_
  refine zk_aload_n hc dX2_clear_5 0 rfl ?_
  refine zk_iconst hc (nI 0) dX2_clear_6 rfl ?_
  refine zk_put hc inlX2 (ci := 2) rfl tyX2 tyX2_ok nmX2 0 1 (by decide) mw_14_17 rfl rfl rfl rfl rfl (Nat.le_of_ble_eq_true rfl) (ws2 := RWW g.2.1 a fr to nn 0 0) rfl dX2_clear_7 ?_
  exact fin 0 0 _ _ _ (by decide) (by decide) dX2_clear_10 (rfl)

set_option maxHeartbeats 4000000 in
set_option maxRecDepth 100000 in
theorem ct_X2_addLast (g : GG) (l : Launch) (a : Nat → Nat) (fr to nn : Nat → Nat) (mv mi : Nat) (x y z co : Nat) (hm : mv < 3) : CtV g l yX2_addLast cX2_addLast 5 (rmK 1 0 0) (RWW g.2.1 a fr to nn mv mi) [.ref (a 0), .int (nI x), .int (nI y), .int (nI z), .int (nI co)] (fun W1 => W1 = RWW g.2.1 a (va_up fr mv x) (va_up to mv y) (va_up nn mv z) (mv + 1) (mi + co)) := by
  refine CtV.go RX2 rfl (by decide +kernel) (Nat.le_of_ble_eq_true rfl) ?_
  intro p e s m args below meth c A H0 Q hc hnm fin
  show KW g p l e (rmK 1 0 0) s m args below meth c 5 A H0 0 0 Q (RWW g.2.1 a fr to nn mv mi) [(0, .ref (a 0)), (1, .int (nI x)), (2, .int (nI y)), (3, .int (nI z)), (4, .int (nI co))] 0 []
  refine zk_aload_n hc dX2_addLast_0 0 rfl ?_
  refine zk_get hc inlX2 (ci := 2) rfl 0 2 (by decide) mw_4_1 rfl rfl rfl dX2_addLast_1 ?_
  refine zk_aload_n hc dX2_addLast_4 0 rfl ?_
  refine zk_get hc inlX2 (ci := 2) rfl 0 0 (by decide) mw_14_16 rfl rfl rfl dX2_addLast_5 ?_
  refine zk_iload_n hc dX2_addLast_8 1 rfl ?_
  refine zk_iastN hc 1 rfl (by omega) (by decide) (ws2 := RWW g.2.1 a (va_up fr mv x) to nn mv mi) rfl dX2_addLast_9 ?_
  refine zk_aload_n hc dX2_addLast_10 0 rfl ?_
  refine zk_get hc inlX2 (ci := 2) rfl 0 3 (by decide) mw_4_2 rfl rfl rfl dX2_addLast_11 ?_
  refine zk_aload_n hc dX2_addLast_14 0 rfl ?_
  refine zk_get hc inlX2 (ci := 2) rfl 0 0 (by decide) mw_14_16 rfl rfl rfl dX2_addLast_15 ?_
  refine zk_iload_n hc dX2_addLast_18 2 rfl ?_
  refine zk_iastN hc 2 rfl (by omega) (by decide) (ws2 := RWW g.2.1 a (va_up fr mv x) (va_up to mv y) nn mv mi) rfl dX2_addLast_19 ?_
  refine zk_aload_n hc dX2_addLast_20 0 rfl ?_
  refine zk_get hc inlX2 (ci := 2) rfl 0 4 (by decide) mw_4_3 rfl rfl rfl dX2_addLast_21 ?_
  refine zk_aload_n hc dX2_addLast_24 0 rfl ?_
  refine zk_get hc inlX2 (ci := 2) rfl 0 0 (by decide) mw_14_16 rfl rfl rfl dX2_addLast_25 ?_
  refine zk_iload_n hc dX2_addLast_28 3 rfl ?_
  refine zk_iastN hc 3 rfl (by omega) (by decide) (ws2 := RWW g.2.1 a (va_up fr mv x) (va_up to mv y) (va_up nn mv z) mv mi) rfl dX2_addLast_29 ?_
  refine zk_aload_n hc dX2_addLast_30 0 rfl ?_
  refine zk_dup hc dX2_addLast_31 rfl ?_
  refine zk_get hc inlX2 (ci := 2) rfl 0 0 (by decide) mw_14_16 rfl rfl rfl dX2_addLast_32 ?_
  refine zk_iconst hc (nI 1) dX2_addLast_35 rfl ?_
  refine zk_iaddN hc dX2_addLast_36 ?_
  refine zk_put hc inlX2 (ci := 2) rfl tyX2 tyX2_ok nmX2 0 0 (by decide) mw_14_16 rfl rfl rfl rfl rfl (Nat.le_of_ble_eq_true rfl) (ws2 := RWW g.2.1 a (va_up fr mv x) (va_up to mv y) (va_up nn mv z) (mv + 1) mi) rfl dX2_addLast_37 ?_
  refine zk_aload_n hc dX2_addLast_40 0 rfl ?_
  refine zk_dup hc dX2_addLast_41 rfl ?_
  refine zk_get hc inlX2 (ci := 2) rfl 0 1 (by decide) mw_14_17 rfl rfl rfl dX2_addLast_42 ?_
  refine zk_iload hc dX2_addLast_45 4 rfl ?_
  refine zk_iaddN hc dX2_addLast_47 ?_
  refine zk_put hc inlX2 (ci := 2) rfl tyX2 tyX2_ok nmX2 0 1 (by decide) mw_14_17 rfl rfl rfl rfl rfl (Nat.le_of_ble_eq_true rfl) (ws2 := RWW g.2.1 a (va_up fr mv x) (va_up to mv y) (va_up nn mv z) (mv + 1) (mi + co)) rfl dX2_addLast_48 ?_
  exact fin 0 0 _ _ _ (by decide) (by decide) dX2_addLast_51 (rfl)

set_option maxHeartbeats 4000000 in
set_option maxRecDepth 100000 in
theorem ct_X2_dropLast (g : GG) (l : Launch) (a : Nat → Nat) (fr to nn : Nat → Nat) (mv mi : Nat) (co : Nat) (hm : 1 ≤ mv) (hco : co ≤ mi) : CtV g l yX2_dropLast cX2_dropLast 2 (rmK 1 0 0) (RWW g.2.1 a fr to nn mv mi) [.ref (a 0), .int (nI co)] (fun W1 => W1 = RWW g.2.1 a fr to nn (mv - 1) (mi - co)) := by
  refine CtV.go RX2 rfl (by decide +kernel) (Nat.le_of_ble_eq_true rfl) ?_
  intro p e s m args below meth c A H0 Q hc hnm fin
  show KW g p l e (rmK 1 0 0) s m args below meth c 2 A H0 0 0 Q (RWW g.2.1 a fr to nn mv mi) [(0, .ref (a 0)), (1, .int (nI co))] 0 []
  refine zk_aload_n hc dX2_dropLast_0 0 rfl ?_
  refine zk_dup hc dX2_dropLast_1 rfl ?_
  refine zk_get hc inlX2 (ci := 2) rfl 0 0 (by decide) mw_14_16 rfl rfl rfl dX2_dropLast_2 ?_
  refine zk_iconst hc (nI 1) dX2_dropLast_5 rfl ?_
  refine zk_isubN hc dX2_dropLast_6 (by omega) ?_
  refine zk_put hc inlX2 (ci := 2) rfl tyX2 tyX2_ok nmX2 0 0 (by decide) mw_14_16 rfl rfl rfl rfl rfl (Nat.le_of_ble_eq_true rfl) (ws2 := RWW g.2.1 a fr to nn (mv - 1) mi) rfl dX2_dropLast_7 ?_
  refine zk_aload_n hc dX2_dropLast_10 0 rfl ?_
  refine zk_dup hc dX2_dropLast_11 rfl ?_
  refine zk_get hc inlX2 (ci := 2) rfl 0 1 (by decide) mw_14_17 rfl rfl rfl dX2_dropLast_12 ?_
  refine zk_iload_n hc dX2_dropLast_15 1 rfl ?_
  refine zk_isubN hc dX2_dropLast_16 (by omega) ?_
  refine zk_put hc inlX2 (ci := 2) rfl tyX2 tyX2_ok nmX2 0 1 (by decide) mw_14_17 rfl rfl rfl rfl rfl (Nat.le_of_ble_eq_true rfl) (ws2 := RWW g.2.1 a fr to nn (mv - 1) (mi - co)) rfl dX2_dropLast_17 ?_
  exact fin 0 0 _ _ _ (by decide) (by decide) dX2_dropLast_20 (rfl)

set_option maxHeartbeats 4000000 in
set_option maxRecDepth 100000 in
theorem ct_X2_isCheaperThan (g : GG) (l : Launch) (a : Nat → Nat) (fr to nn : Nat → Nat) (mv mi : Nat) (a2 : Nat → Nat) (fr2 to2 nn2 : Nat → Nat) (mv2 mi2 : Nat) (h1 : mv < 100) (h2 : mv2 < 100) (h3 : mi < 100000) (h4 : mi2 < 100000) : CtI g l yX2_isCheaperThan cX2_isCheaperThan 2 (some .boolean) (rmK 1 0 0) (RWW g.2.1 a fr to nn mv mi ++ (RWW g.2.1 a2 fr2 to2 nn2 mv2 mi2)) [.ref (a 0), .ref (a2 0)] (fun r W1 => r = (if mi < mi2 ∨ mi = mi2 ∧ mv < mv2 then nI 1 else nI 0) ∧ W1 = RWW g.2.1 a fr to nn mv mi ++ (RWW g.2.1 a2 fr2 to2 nn2 mv2 mi2)) := by
  refine CtZ.go RX2 rfl (by decide +kernel) (Nat.le_of_ble_eq_true rfl) ?_
  intro p e s m args below meth c A H0 Q hc hnm fin
  show KW g p l e (rmK 1 0 0) s m args below meth c 2 A H0 0 0 Q (RWW g.2.1 a fr to nn mv mi ++ (RWW g.2.1 a2 fr2 to2 nn2 mv2 mi2)) [(0, .ref (a 0)), (1, .ref (a2 0))] 0 []
  refine zk_aload_n hc dX2_isCheaperThan_0 0 rfl ?_
  refine zk_get hc inlX2 (ci := 2) rfl 0 1 (by decide) mw_14_17 rfl rfl rfl dX2_isCheaperThan_1 ?_
  refine zk_aload_n hc dX2_isCheaperThan_4 1 rfl ?_
  refine zk_get hc inlX2 (ci := 2) rfl 4 1 (by decide) mw_14_17 rfl rfl rfl dX2_isCheaperThan_5 ?_
  refine zk_icmp_ltN hc 33 dX2_isCheaperThan_8 (by decide) (by omega) (by omega) (fun h_1 => ?_) (fun h_1 => ?_)
  · refine zk_iconst hc (nI 1) dX2_isCheaperThan_33 rfl ?_
    refine zk_goto hc 38 dX2_isCheaperThan_34 (by decide) ?_
    exact fin 0 0 _ _ _ _ (by decide) (by decide) dX2_isCheaperThan_38 rfl (⟨by rw [if_pos (by omega)], rfl⟩)
  · refine zk_aload_n hc dX2_isCheaperThan_11 0 rfl ?_
    refine zk_get hc inlX2 (ci := 2) rfl 0 1 (by decide) mw_14_17 rfl rfl rfl dX2_isCheaperThan_12 ?_
    refine zk_aload_n hc dX2_isCheaperThan_15 1 rfl ?_
    refine zk_get hc inlX2 (ci := 2) rfl 4 1 (by decide) mw_14_17 rfl rfl rfl dX2_isCheaperThan_16 ?_
    refine zk_icmp_neN hc 37 dX2_isCheaperThan_19 (by decide) (by omega) (by omega) (fun h_2 => ?_) (fun h_2 => ?_)
    · refine zk_iconst hc (nI 0) dX2_isCheaperThan_37 rfl ?_
      exact fin 0 0 _ _ _ _ (by decide) (by decide) dX2_isCheaperThan_38 rfl (⟨by rw [if_neg (by omega)], rfl⟩)
    · refine zk_aload_n hc dX2_isCheaperThan_22 0 rfl ?_
      refine zk_get hc inlX2 (ci := 2) rfl 0 0 (by decide) mw_14_16 rfl rfl rfl dX2_isCheaperThan_23 ?_
      refine zk_aload_n hc dX2_isCheaperThan_26 1 rfl ?_
      refine zk_get hc inlX2 (ci := 2) rfl 4 0 (by decide) mw_14_16 rfl rfl rfl dX2_isCheaperThan_27 ?_
      refine zk_icmp_geN hc 37 dX2_isCheaperThan_30 (by decide) (by omega) (by omega) (fun h_3 => ?_) (fun h_3 => ?_)
      · refine zk_iconst hc (nI 0) dX2_isCheaperThan_37 rfl ?_
        exact fin 0 0 _ _ _ _ (by decide) (by decide) dX2_isCheaperThan_38 rfl (⟨by rw [if_neg (by omega)], rfl⟩)
      · refine zk_iconst hc (nI 1) dX2_isCheaperThan_33 rfl ?_
        refine zk_goto hc 38 dX2_isCheaperThan_34 (by decide) ?_
        exact fin 0 0 _ _ _ _ (by decide) (by decide) dX2_isCheaperThan_38 rfl (⟨by rw [if_pos (by omega)], rfl⟩)

set_option maxHeartbeats 4000000 in
set_option maxRecDepth 100000 in
theorem ct_X2_copyFrom (g : GG) (l : Launch) (a : Nat → Nat) (fr to nn : Nat → Nat) (mv mi : Nat) (a2 : Nat → Nat) (fr2 to2 nn2 : Nat → Nat) (mv2 mi2 : Nat) : CtV g l yX2_copyFrom cX2_copyFrom 2 (rmK 1 0 0) (RWW g.2.1 a2 fr2 to2 nn2 mv2 mi2 ++ (RWW g.2.1 a fr to nn mv mi)) [.ref (a 0), .ref (a2 0)] (fun W1 => W1 = RWW g.2.1 a2 fr2 to2 nn2 mv2 mi2 ++ (RWW g.2.1 a (va_cpy fr2 fr 0 0 3) (va_cpy to2 to 0 0 3) (va_cpy nn2 nn 0 0 3) mv2 mi2)) := by
  refine CtV.go RX2 rfl (by decide +kernel) (Nat.le_of_ble_eq_true rfl) ?_
  intro p e s m args below meth c A H0 Q hc hnm fin
  show KW g p l e (rmK 1 0 0) s m args below meth c 2 A H0 0 0 Q (RWW g.2.1 a2 fr2 to2 nn2 mv2 mi2 ++ (RWW g.2.1 a fr to nn mv mi)) [(0, .ref (a 0)), (1, .ref (a2 0))] 0 []
  refine zk_aload_n hc dX2_copyFrom_0 0 rfl ?_
  refine zk_aload_n hc dX2_copyFrom_1 1 rfl ?_
  refine zk_get hc inlX2 (ci := 2) rfl 0 0 (by decide) mw_14_16 rfl rfl rfl dX2_copyFrom_2 ?_
  refine zk_put hc inlX2 (ci := 2) rfl tyX2 tyX2_ok nmX2 4 0 (by decide) mw_14_16 rfl rfl rfl rfl rfl (Nat.le_of_ble_eq_true rfl) (ws2 := RWW g.2.1 a2 fr2 to2 nn2 mv2 mi2 ++ (RWW g.2.1 a fr to nn mv2 mi)) rfl dX2_copyFrom_5 ?_
  refine zk_aload_n hc dX2_copyFrom_8 0 rfl ?_
  refine zk_aload_n hc dX2_copyFrom_9 1 rfl ?_
  refine zk_get hc inlX2 (ci := 2) rfl 0 1 (by decide) mw_14_17 rfl rfl rfl dX2_copyFrom_10 ?_
  refine zk_put hc inlX2 (ci := 2) rfl tyX2 tyX2_ok nmX2 4 1 (by decide) mw_14_17 rfl rfl rfl rfl rfl (Nat.le_of_ble_eq_true rfl) (ws2 := RWW g.2.1 a2 fr2 to2 nn2 mv2 mi2 ++ (RWW g.2.1 a fr to nn mv2 mi2)) rfl dX2_copyFrom_13 ?_
  refine zk_aload_n hc dX2_copyFrom_16 1 rfl ?_
  refine zk_get hc inlX2 (ci := 2) rfl 0 2 (by decide) mw_4_1 rfl rfl rfl dX2_copyFrom_17 ?_
  refine zk_iconst hc (nI 0) dX2_copyFrom_20 rfl ?_
  refine zk_aload_n hc dX2_copyFrom_21 0 rfl ?_
  refine zk_get hc inlX2 (ci := 2) rfl 4 2 (by decide) mw_4_1 rfl rfl rfl dX2_copyFrom_22 ?_
  refine zk_iconst hc (nI 0) dX2_copyFrom_25 rfl ?_
  refine zk_iconst hc (nI 3) dX2_copyFrom_26 rfl ?_
  refine zk_copyN hc mw_15_15 mw_8_17 mw_8_18 mw_8_19 1 5 rfl rfl (by decide) (by decide) (by omega) (by omega) ⟨by decide, by decide⟩ (Nat.le_of_ble_eq_true rfl) (ws2 := RWW g.2.1 a2 fr2 to2 nn2 mv2 mi2 ++ (RWW g.2.1 a (va_cpy fr2 fr 0 0 3) to nn mv2 mi2)) rfl dX2_copyFrom_27 ?_
  refine zk_aload_n hc dX2_copyFrom_30 1 rfl ?_
  refine zk_get hc inlX2 (ci := 2) rfl 0 3 (by decide) mw_4_2 rfl rfl rfl dX2_copyFrom_31 ?_
  refine zk_iconst hc (nI 0) dX2_copyFrom_34 rfl ?_
  refine zk_aload_n hc dX2_copyFrom_35 0 rfl ?_
  refine zk_get hc inlX2 (ci := 2) rfl 4 3 (by decide) mw_4_2 rfl rfl rfl dX2_copyFrom_36 ?_
  refine zk_iconst hc (nI 0) dX2_copyFrom_39 rfl ?_
  refine zk_iconst hc (nI 3) dX2_copyFrom_40 rfl ?_
  refine zk_copyN hc mw_15_15 mw_8_17 mw_8_18 mw_8_19 2 6 rfl rfl (by decide) (by decide) (by omega) (by omega) ⟨by decide, by decide⟩ (Nat.le_of_ble_eq_true rfl) (ws2 := RWW g.2.1 a2 fr2 to2 nn2 mv2 mi2 ++ (RWW g.2.1 a (va_cpy fr2 fr 0 0 3) (va_cpy to2 to 0 0 3) nn mv2 mi2)) rfl dX2_copyFrom_41 ?_
  refine zk_aload_n hc dX2_copyFrom_44 1 rfl ?_
  refine zk_get hc inlX2 (ci := 2) rfl 0 4 (by decide) mw_4_3 rfl rfl rfl dX2_copyFrom_45 ?_
  refine zk_iconst hc (nI 0) dX2_copyFrom_48 rfl ?_
  refine zk_aload_n hc dX2_copyFrom_49 0 rfl ?_
  refine zk_get hc inlX2 (ci := 2) rfl 4 4 (by decide) mw_4_3 rfl rfl rfl dX2_copyFrom_50 ?_
  refine zk_iconst hc (nI 0) dX2_copyFrom_53 rfl ?_
  refine zk_iconst hc (nI 3) dX2_copyFrom_54 rfl ?_
  refine zk_copyN hc mw_15_15 mw_8_17 mw_8_18 mw_8_19 3 7 rfl rfl (by decide) (by decide) (by omega) (by omega) ⟨by decide, by decide⟩ (Nat.le_of_ble_eq_true rfl) (ws2 := RWW g.2.1 a2 fr2 to2 nn2 mv2 mi2 ++ (RWW g.2.1 a (va_cpy fr2 fr 0 0 3) (va_cpy to2 to 0 0 3) (va_cpy nn2 nn 0 0 3) mv2 mi2)) rfl dX2_copyFrom_55 ?_
  exact fin 0 0 _ _ _ (by decide) (by decide) dX2_copyFrom_58 (rfl)
