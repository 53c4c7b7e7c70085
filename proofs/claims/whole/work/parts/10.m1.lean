set_option maxHeartbeats 4000000 in
set_option maxRecDepth 100000 in
theorem ct_X7_isIn (g : GG) (l : Launch) (v lo hi : Int32) : CtI g l yX7_isIn cX7_isIn 3 (some .boolean) (rmK 1 0 0) (([] : va_W)) [.int v, .int lo, .int hi] (fun r W1 => r = (if lo ≤ v ∧ v ≤ hi then nI 1 else nI 0) ∧ W1 = []) := by
  refine CtZ.go RX7 rfl (by decide +kernel) (Nat.le_of_ble_eq_true rfl) ?_
  intro p e s m args below meth c A H0 Q hc hnm fin
  show KW g p l e (rmK 1 0 0) s m args below meth c 3 A H0 0 0 Q (([] : va_W)) [(0, .int v), (1, .int lo), (2, .int hi)] 0 []
  refine zk_iload_n hc dX7_isIn_0 0 rfl ?_
  refine zk_iload_n hc dX7_isIn_1 1 rfl ?_
  refine zk_icmp_lt hc 14 dX7_isIn_2 (by decide) (fun ha => ?_) (fun ha => ?_)
  · refine zk_iconst hc (nI 0) dX7_isIn_14 rfl ?_
    exact fin 0 0 _ _ _ _ (by decide) (by decide) dX7_isIn_15 rfl (⟨nq_in2 ha, rfl⟩)
  · refine zk_iload_n hc dX7_isIn_5 0 rfl ?_
    refine zk_iload_n hc dX7_isIn_6 2 rfl ?_
    refine zk_icmp_gt hc 14 dX7_isIn_7 (by decide) (fun hb => ?_) (fun hb => ?_)
    · refine zk_iconst hc (nI 0) dX7_isIn_14 rfl ?_
      exact fin 0 0 _ _ _ _ (by decide) (by decide) dX7_isIn_15 rfl (⟨nq_in3 hb, rfl⟩)
    · refine zk_iconst hc (nI 1) dX7_isIn_10 rfl ?_
      refine zk_goto hc 15 dX7_isIn_11 (by decide) ?_
      exact fin 0 0 _ _ _ _ (by decide) (by decide) dX7_isIn_15 rfl (⟨nq_in1 ha hb, rfl⟩)

set_option maxHeartbeats 4000000 in
set_option maxRecDepth 100000 in
theorem ct_X7_of (g : GG) (l : Launch) (a : Nat → Nat) (u pa im tx rw rb rk rt he tr be sp : Nat → Nat) (pm fl ln rm rd bn : Nat) (fk fp rs wk wp bm : Int32) (t q : Nat) (hq : 23 + 27 * t + q < 131) : CtI g l yX7_of cX7_of 3 (some .int) (rmK 1 0 0) (MW g.2.1 a u pa im tx rw rb rk rt he tr be sp pm fl ln rm rd bn fk fp rs wk wp bm) [.ref (a 0), .int (nI t), .int (nI q)] (fun r W1 => r = nI (u (23 + 27 * t + q)) ∧ W1 = MW g.2.1 a u pa im tx rw rb rk rt he tr be sp pm fl ln rm rd bn fk fp rs wk wp bm) := by
  refine CtI.go RX7 rfl (by decide +kernel) (Nat.le_of_ble_eq_true rfl) ?_
  intro p e s m args below meth c A H0 Q hc hnm fin
  show KW g p l e (rmK 1 0 0) s m args below meth c 3 A H0 0 0 Q (MW g.2.1 a u pa im tx rw rb rk rt he tr be sp pm fl ln rm rd bn fk fp rs wk wp bm) [(0, .ref (a 0)), (1, .int (nI t)), (2, .int (nI q))] 0 []
  refine zk_aload_n hc dX7_of_0 0 rfl ?_
  refine zk_get hc inlX7 (ci := 7) rfl 0 0 (by decide) mw_4_11 rfl rfl rfl dX7_of_1 ?_
  refine zk_bipush hc (nI 23) dX7_of_4 rfl ?_
  refine zk_bipush hc (nI 27) dX7_of_6 rfl ?_
  refine zk_iload_n hc dX7_of_8 1 rfl ?_
  refine zk_imulN hc dX7_of_9 ?_
  refine zk_iaddN hc dX7_of_10 ?_
  refine zk_iload_n hc dX7_of_11 2 rfl ?_
  refine zk_iaddN hc dX7_of_12 ?_
  refine zk_ialdN hc 1 rfl (by omega) (by decide) dX7_of_13 ?_
  exact fin 0 0 _ _ _ _ (by decide) (by decide) dX7_of_14 (⟨rfl, rfl⟩)

set_option maxHeartbeats 4000000 in
set_option maxRecDepth 100000 in
theorem ct_X7_put (g : GG) (l : Launch) (a : Nat → Nat) (u pa im tx rw rb rk rt he tr be sp : Nat → Nat) (pm fl ln rm rd bn : Nat) (fk fp rs wk wp bm : Int32) (t q v : Nat) (hq : 23 + 27 * t + q < 131) : CtV g l yX7_put cX7_put 4 (rmK 1 0 0) (MW g.2.1 a u pa im tx rw rb rk rt he tr be sp pm fl ln rm rd bn fk fp rs wk wp bm) [.ref (a 0), .int (nI t), .int (nI q), .int (nI v)] (fun W1 => W1 = MW g.2.1 a (va_up u (23 + 27 * t + q) v) pa im tx rw rb rk rt he tr be sp pm fl ln rm rd bn fk fp rs wk wp bm) := by
  refine CtV.go RX7 rfl (by decide +kernel) (Nat.le_of_ble_eq_true rfl) ?_
  intro p e s m args below meth c A H0 Q hc hnm fin
  show KW g p l e (rmK 1 0 0) s m args below meth c 4 A H0 0 0 Q (MW g.2.1 a u pa im tx rw rb rk rt he tr be sp pm fl ln rm rd bn fk fp rs wk wp bm) [(0, .ref (a 0)), (1, .int (nI t)), (2, .int (nI q)), (3, .int (nI v))] 0 []
  refine zk_aload_n hc dX7_put_0 0 rfl ?_
  refine zk_get hc inlX7 (ci := 7) rfl 0 0 (by decide) mw_4_11 rfl rfl rfl dX7_put_1 ?_
  refine zk_bipush hc (nI 23) dX7_put_4 rfl ?_
  refine zk_bipush hc (nI 27) dX7_put_6 rfl ?_
  refine zk_iload_n hc dX7_put_8 1 rfl ?_
  refine zk_imulN hc dX7_put_9 ?_
  refine zk_iaddN hc dX7_put_10 ?_
  refine zk_iload_n hc dX7_put_11 2 rfl ?_
  refine zk_iaddN hc dX7_put_12 ?_
  refine zk_iload_n hc dX7_put_13 3 rfl ?_
  refine zk_iastN hc 1 rfl (by omega) (by decide) (ws2 := MW g.2.1 a (va_up u ((23 + (27 * t)) + q) v) pa im tx rw rb rk rt he tr be sp pm fl ln rm rd bn fk fp rs wk wp bm) rfl dX7_put_14 ?_
  exact fin 0 0 _ _ _ (by decide) (by decide) dX7_put_15 (rfl)

set_option maxHeartbeats 4000000 in
set_option maxRecDepth 100000 in
theorem ct_X7_destination (g : GG) (l : Launch) (a : Nat → Nat) (u pa im tx rw rb rk rt he tr be sp : Nat → Nat) (pm fl ln rm rd bn : Nat) (fk fp rs wk wp bm : Int32) (t k : Nat) (hq : 23 + 27 * t + (3 + 3 * k + 1) < 131) : CtI g l yX7_destination cX7_destination 3 (some .int) (rmK 2 0 0) (MW g.2.1 a u pa im tx rw rb rk rt he tr be sp pm fl ln rm rd bn fk fp rs wk wp bm) [.ref (a 0), .int (nI t), .int (nI k)] (fun r W1 => r = nI (dst u t k) ∧ W1 = MW g.2.1 a u pa im tx rw rb rk rt he tr be sp pm fl ln rm rd bn fk fp rs wk wp bm) := by
  refine CtI.go RX7 rfl (by decide +kernel) (Nat.le_of_ble_eq_true rfl) ?_
  intro p e s m args below meth c A H0 Q hc hnm fin
  show KW g p l e (rmK 2 0 0) s m args below meth c 3 A H0 0 0 Q (MW g.2.1 a u pa im tx rw rb rk rt he tr be sp pm fl ln rm rd bn fk fp rs wk wp bm) [(0, .ref (a 0)), (1, .int (nI t)), (2, .int (nI k))] 0 []
  refine zk_aload_n hc dX7_destination_0 0 rfl ?_
  refine zk_iload_n hc dX7_destination_1 1 rfl ?_
  refine zk_iconst hc (nI 3) dX7_destination_2 rfl ?_
  refine zk_iconst hc (nI 3) dX7_destination_3 rfl ?_
  refine zk_iload_n hc dX7_destination_4 2 rfl ?_
  refine zk_imulN hc dX7_destination_5 ?_
  refine zk_iaddN hc dX7_destination_6 ?_
  refine zk_iconst hc (nI 1) dX7_destination_7 rfl ?_
  refine zk_iaddN hc dX7_destination_8 ?_
  refine zk_callVi hc (rest := []) (ct_X7_of g l a u pa im tx rw rb rk rt he tr be sp pm fl ln rm rd bn fk fp rs wk wp bm t ((3 + (3 * k)) + 1) (by omega)) gg_X7_63 cd_X7_of ⟨Nat.le_of_ble_eq_true rfl, Nat.le_of_ble_eq_true rfl⟩ ⟨Nat.le_of_ble_eq_true rfl, Nat.le_of_ble_eq_true rfl⟩ ([]) ([]) rfl 0 rfl rfl rfl (Nat.le_of_ble_eq_true rfl) dX7_destination_9 (fun r W1 hp => ?_)
  obtain ⟨rfl, rfl⟩ := hp
  refine zk_ws (ws2 := MW g.2.1 a u pa im tx rw rb rk rt he tr be sp pm fl ln rm rd bn fk fp rs wk wp bm) rfl ?_
  exact fin 0 0 _ _ _ _ (by decide) (by decide) dX7_destination_12 (⟨rfl, rfl⟩)

set_option maxHeartbeats 4000000 in
set_option maxRecDepth 100000 in
theorem ct_X7_kindAt (g : GG) (l : Launch) (a : Nat → Nat) (u pa im tx rw rb rk rt he tr be sp : Nat → Nat) (pm fl ln rm rd bn : Nat) (fk fp rs wk wp bm : Int32) (t k : Nat) (hq : 23 + 27 * t + (3 + 3 * k + 2) < 131) : CtI g l yX7_kindAt cX7_kindAt 3 (some .int) (rmK 2 0 0) (MW g.2.1 a u pa im tx rw rb rk rt he tr be sp pm fl ln rm rd bn fk fp rs wk wp bm) [.ref (a 0), .int (nI t), .int (nI k)] (fun r W1 => r = nI (knd u t k) ∧ W1 = MW g.2.1 a u pa im tx rw rb rk rt he tr be sp pm fl ln rm rd bn fk fp rs wk wp bm) := by
  refine CtI.go RX7 rfl (by decide +kernel) (Nat.le_of_ble_eq_true rfl) ?_
  intro p e s m args below meth c A H0 Q hc hnm fin
  show KW g p l e (rmK 2 0 0) s m args below meth c 3 A H0 0 0 Q (MW g.2.1 a u pa im tx rw rb rk rt he tr be sp pm fl ln rm rd bn fk fp rs wk wp bm) [(0, .ref (a 0)), (1, .int (nI t)), (2, .int (nI k))] 0 []
  refine zk_aload_n hc dX7_kindAt_0 0 rfl ?_
  refine zk_iload_n hc dX7_kindAt_1 1 rfl ?_
  refine zk_iconst hc (nI 3) dX7_kindAt_2 rfl ?_
  refine zk_iconst hc (nI 3) dX7_kindAt_3 rfl ?_
  refine zk_iload_n hc dX7_kindAt_4 2 rfl ?_
  refine zk_imulN hc dX7_kindAt_5 ?_
  refine zk_iaddN hc dX7_kindAt_6 ?_
  refine zk_iconst hc (nI 2) dX7_kindAt_7 rfl ?_
  refine zk_iaddN hc dX7_kindAt_8 ?_
  refine zk_callVi hc (rest := []) (ct_X7_of g l a u pa im tx rw rb rk rt he tr be sp pm fl ln rm rd bn fk fp rs wk wp bm t ((3 + (3 * k)) + 2) (by omega)) gg_X7_63 cd_X7_of ⟨Nat.le_of_ble_eq_true rfl, Nat.le_of_ble_eq_true rfl⟩ ⟨Nat.le_of_ble_eq_true rfl, Nat.le_of_ble_eq_true rfl⟩ ([]) ([]) rfl 0 rfl rfl rfl (Nat.le_of_ble_eq_true rfl) dX7_kindAt_9 (fun r W1 hp => ?_)
  obtain ⟨rfl, rfl⟩ := hp
  refine zk_ws (ws2 := MW g.2.1 a u pa im tx rw rb rk rt he tr be sp pm fl ln rm rd bn fk fp rs wk wp bm) rfl ?_
  exact fin 0 0 _ _ _ _ (by decide) (by decide) dX7_kindAt_12 (⟨rfl, rfl⟩)

set_option maxHeartbeats 4000000 in
set_option maxRecDepth 100000 in
theorem ct_X7_wagons (g : GG) (l : Launch) (a : Nat → Nat) (u pa im tx rw rb rk rt he tr be sp : Nat → Nat) (pm fl ln rm rd bn : Nat) (fk fp rs wk wp bm : Int32) (hK : u 4 ≤ 4) (hm : ∀ t, t < u 4 → mny u t ≤ 8) : CtI g l yX7_wagons cX7_wagons 3 (some .int) (rmK 2 0 0) (MW g.2.1 a u pa im tx rw rb rk rt he tr be sp pm fl ln rm rd bn fk fp rs wk wp bm) [.ref (a 0)] (fun r W1 => r = nI (wgs u (u 4)) ∧ W1 = MW g.2.1 a u pa im tx rw rb rk rt he tr be sp pm fl ln rm rd bn fk fp rs wk wp bm) := by
  refine CtI.go RX7 rfl (by decide +kernel) (Nat.le_of_ble_eq_true rfl) ?_
  intro p e s m args below meth c A H0 Q hc hnm fin
  show KW g p l e (rmK 2 0 0) s m args below meth c 3 A H0 0 0 Q (MW g.2.1 a u pa im tx rw rb rk rt he tr be sp pm fl ln rm rd bn fk fp rs wk wp bm) [(0, .ref (a 0))] 0 []
  refine zk_iconst hc (nI 0) dX7_wagons_0 rfl ?_
  refine zk_istore_n hc (lv2 := [(1, .int (nI 0)), (0, .ref (a 0))]) dX7_wagons_1 (by decide) rfl ?_
  refine zk_iconst hc (nI 0) dX7_wagons_2 rfl ?_
  refine zk_istore_n hc (lv2 := [(2, .int (nI 0)), (1, .int (nI 0)), (0, .ref (a 0))]) dX7_wagons_3 (by decide) rfl ?_
  have loop4 : ∀ (N : Nat) (q : Nat), u 4 - q < N → (q ≤ u 4) → KW g p l e (rmK 2 0 0) s m args below meth c 3 A H0 0 0 Q (MW g.2.1 a u pa im tx rw rb rk rt he tr be sp pm fl ln rm rd bn fk fp rs wk wp bm) [(0, .ref (a 0)), (1, .int (nI (wgs u q))), (2, .int (nI q))] 4 [] := by
    intro N
    induction N with
    | zero => intro q hm; exact absurd hm (Nat.not_lt_zero _)
    | succ N ih4 =>
      intro q hm4 hq
      refine zk_iload_n hc dX7_wagons_4 2 rfl ?_
      refine zk_aload_n hc dX7_wagons_5 0 rfl ?_
      refine zk_get hc inlX7 (ci := 7) rfl 0 0 (by decide) mw_4_11 rfl rfl rfl dX7_wagons_6 ?_
      refine zk_iconst hc (nI 4) dX7_wagons_9 rfl ?_
      refine zk_ialdN hc 1 rfl (by omega) (by decide) dX7_wagons_10 ?_
      refine zk_icmp_geN hc 29 dX7_wagons_11 (by decide) (by omega) (by omega) (fun h_1 => ?_) (fun h_1 => ?_)
      · refine zk_iload_n hc dX7_wagons_29 1 rfl ?_
        exact fin 0 0 _ _ _ _ (by decide) (by decide) dX7_wagons_30 (⟨by rw [show q = u 4 by omega], rfl⟩)
      · refine zk_iload_n hc dX7_wagons_14 1 rfl ?_
        refine zk_aload_n hc dX7_wagons_15 0 rfl ?_
        refine zk_iload_n hc dX7_wagons_16 2 rfl ?_
        refine zk_iconst hc (nI 0) dX7_wagons_17 rfl ?_
        refine zk_callVi hc (rest := [.int (nI (wgs u q))]) (ct_X7_of g l a u pa im tx rw rb rk rt he tr be sp pm fl ln rm rd bn fk fp rs wk wp bm q 0 (by omega)) gg_X7_63 cd_X7_of ⟨Nat.le_of_ble_eq_true rfl, Nat.le_of_ble_eq_true rfl⟩ ⟨Nat.le_of_ble_eq_true rfl, Nat.le_of_ble_eq_true rfl⟩ ([]) ([]) rfl 0 rfl rfl rfl (Nat.le_of_ble_eq_true rfl) dX7_wagons_18 (fun r W1 hp => ?_)
        obtain ⟨rfl, rfl⟩ := hp
        refine zk_ws (ws2 := MW g.2.1 a u pa im tx rw rb rk rt he tr be sp pm fl ln rm rd bn fk fp rs wk wp bm) rfl ?_
        refine zk_top (y := nI (mny u q)) rfl ?_
        refine zk_iaddN hc dX7_wagons_21 ?_
        refine zk_istore_n hc (lv2 := [(1, .int (nI ((wgs u q) + (mny u q)))), (0, .ref (a 0)), (2, .int (nI q))]) dX7_wagons_22 (by decide) rfl ?_
        refine zk_iinc hc (v := nI (q + 1)) (lv2 := [(2, .int (nI (q + 1))), (1, .int (nI ((wgs u q) + (mny u q)))), (0, .ref (a 0))]) dX7_wagons_23 2 rfl (nq_inc rfl) (by decide) rfl ?_
        refine zk_goto hc 4 dX7_wagons_26 (by decide) ?_
        refine zk_lv [2, 1, 0] (lv2 := [(0, .ref (a 0)), (1, .int (nI ((wgs u q) + (mny u q)))), (2, .int (nI (q + 1)))]) rfl ?_
        exact ih4 (q + 1) (by omega) (by omega)
  refine zk_lv [2, 1, 0] (lv2 := [(0, .ref (a 0)), (1, .int (nI 0)), (2, .int (nI 0))]) rfl ?_
  exact loop4 ((u 4 - 0) + 1) 0 (Nat.lt_succ_self _) (Nat.zero_le _)

set_option maxHeartbeats 4000000 in
set_option maxRecDepth 100000 in
theorem ct_X7_appendKind (g : GG) (l : Launch) (a : Nat → Nat) (u pa im tx rw rb rk rt he tr be sp : Nat → Nat) (pm fl ln rm rd bn : Nat) (fk fp rs wk wp bm : Int32) (k : Nat) (hr : rm < 24) : CtV g l yX7_appendKind cX7_appendKind 2 (rmK 1 0 0) (MW g.2.1 a u pa im tx rw rb rk rt he tr be sp pm fl ln rm rd bn fk fp rs wk wp bm) [.ref (a 0), .int (nI k)] (fun W1 => W1 = MW g.2.1 a u pa im tx (va_up rw rm k) rb rk rt he tr be sp pm fl ln (rm + 1) rd bn fk fp rs wk wp bm) := by
  refine CtV.go RX7 rfl (by decide +kernel) (Nat.le_of_ble_eq_true rfl) ?_
  intro p e s m args below meth c A H0 Q hc hnm fin
  show KW g p l e (rmK 1 0 0) s m args below meth c 2 A H0 0 0 Q (MW g.2.1 a u pa im tx rw rb rk rt he tr be sp pm fl ln rm rd bn fk fp rs wk wp bm) [(0, .ref (a 0)), (1, .int (nI k))] 0 []
  refine zk_aload_n hc dX7_appendKind_0 0 rfl ?_
  refine zk_get hc inlX7 (ci := 7) rfl 0 10 (by decide) mw_4_18 rfl rfl rfl dX7_appendKind_1 ?_
  refine zk_aload_n hc dX7_appendKind_4 0 rfl ?_
  refine zk_get hc inlX7 (ci := 7) rfl 0 11 (by decide) mw_12_12 rfl rfl rfl dX7_appendKind_5 ?_
  refine zk_iload_n hc dX7_appendKind_8 1 rfl ?_
  refine zk_iastN hc 5 rfl (by omega) (by decide) (ws2 := MW g.2.1 a u pa im tx (va_up rw rm k) rb rk rt he tr be sp pm fl ln rm rd bn fk fp rs wk wp bm) rfl dX7_appendKind_9 ?_
  refine zk_aload_n hc dX7_appendKind_10 0 rfl ?_
  refine zk_dup hc dX7_appendKind_11 rfl ?_
  refine zk_get hc inlX7 (ci := 7) rfl 0 11 (by decide) mw_12_12 rfl rfl rfl dX7_appendKind_12 ?_
  refine zk_iconst hc (nI 1) dX7_appendKind_15 rfl ?_
  refine zk_iaddN hc dX7_appendKind_16 ?_
  refine zk_put hc inlX7 (ci := 7) rfl tyX7 tyX7_ok nmX7 0 11 (by decide) mw_12_12 rfl rfl rfl rfl rfl (Nat.le_of_ble_eq_true rfl) (ws2 := MW g.2.1 a u pa im tx (va_up rw rm k) rb rk rt he tr be sp pm fl ln (rm + 1) rd bn fk fp rs wk wp bm) rfl dX7_appendKind_17 ?_
  exact fin 0 0 _ _ _ (by decide) (by decide) dX7_appendKind_20 (rfl)

set_option maxHeartbeats 4000000 in
set_option maxRecDepth 100000 in
theorem ct_X0_start (g : GG) (l : Launch) (a g1 g2 g3 : Nat) : CtV g l yX0_start cX0_start 1 (rmK 1 0 0) (GW a g1 g2 g3) [.ref a] (fun W1 => W1 = GW a 99 0 0) := by
  refine CtV.go RX0 rfl (by decide +kernel) (Nat.le_of_ble_eq_true rfl) ?_
  intro p e s m args below meth c A H0 Q hc hnm fin
  show KW g p l e (rmK 1 0 0) s m args below meth c 1 A H0 0 0 Q (GW a g1 g2 g3) [(0, .ref a)] 0 []
  refine zk_aload_n hc dX0_start_0 0 rfl ?_
  refine zk_bipush hc (nI 99) dX0_start_1 rfl ?_
  refine zk_put hc inlX0 (ci := 0) rfl tyX0 tyX0_ok nmX0 0 0 (by decide) mw_10_5 rfl rfl rfl rfl rfl (Nat.le_of_ble_eq_true rfl) (ws2 := GW a 99 g2 g3) rfl dX0_start_3 ?_
  refine zk_aload_n hc dX0_start_6 0 rfl ?_
  refine zk_iconst hc (nI 0) dX0_start_7 rfl ?_
  refine zk_put hc inlX0 (ci := 0) rfl tyX0 tyX0_ok nmX0 0 1 (by decide) mw_10_6 rfl rfl rfl rfl rfl (Nat.le_of_ble_eq_true rfl) (ws2 := GW a 99 0 g3) rfl dX0_start_8 ?_
  refine zk_aload_n hc dX0_start_11 0 rfl ?_
  refine zk_iconst hc (nI 0) dX0_start_12 rfl ?_
  refine zk_put hc inlX0 (ci := 0) rfl tyX0 tyX0_ok nmX0 0 2 (by decide) mw_10_7 rfl rfl rfl rfl rfl (Nat.le_of_ble_eq_true rfl) (ws2 := GW a 99 0 0) rfl dX0_start_13 ?_
  exact fin 0 0 _ _ _ (by decide) (by decide) dX0_start_16 (rfl)

set_option maxHeartbeats 4000000 in
set_option maxRecDepth 100000 in
theorem ct_X0_pass (g : GG) (l : Launch) (a g1 g2 g3 : Nat) (k : Nat) (hk : k < 3) (h2 : g2 < 3) (h1 : g1 < 2147483648) (h3 : g3 < 2147483648) : CtV g l yX0_pass cX0_pass 2 (rmK 1 0 0) (GW a g1 g2 g3) [.ref a, .int (nI k)] (fun W1 => W1 = GW a (gstep (g1, g2, g3) k).1 (gstep (g1, g2, g3) k).2.1 (gstep (g1, g2, g3) k).2.2) := by
  refine CtV.go RX0 rfl (by decide +kernel) (Nat.le_of_ble_eq_true rfl) ?_
  intro p e s m args below meth c A H0 Q hc hnm fin
  show KW g p l e (rmK 1 0 0) s m args below meth c 2 A H0 0 0 Q (GW a g1 g2 g3) [(0, .ref a), (1, .int (nI k))] 0 []
  refine zk_iload_n hc dX0_pass_0 1 rfl ?_
  refine zk_if_neN hc 15 dX0_pass_1 (by decide) (by omega) (fun h_1 => ?_) (fun h_1 => ?_)
  · refine zk_aload_n hc dX0_pass_15 0 rfl ?_
    refine zk_get hc inlX0 (ci := 0) rfl 0 1 (by decide) mw_10_6 rfl rfl rfl dX0_pass_16 ?_
    refine zk_if_eqN hc 45 dX0_pass_19 (by decide) (by omega) (fun h_2 => ?_) (fun h_2 => ?_)
    · refine zk_aload_n hc dX0_pass_45 0 rfl ?_
      refine zk_iload_n hc dX0_pass_46 1 rfl ?_
      refine zk_put hc inlX0 (ci := 0) rfl tyX0 tyX0_ok nmX0 0 1 (by decide) mw_10_6 rfl rfl rfl rfl rfl (Nat.le_of_ble_eq_true rfl) (ws2 := GW a g1 k g3) rfl dX0_pass_47 ?_
      refine zk_aload_n hc dX0_pass_50 0 rfl ?_
      refine zk_iconst hc (nI 0) dX0_pass_51 rfl ?_
      refine zk_put hc inlX0 (ci := 0) rfl tyX0 tyX0_ok nmX0 0 2 (by decide) mw_10_7 rfl rfl rfl rfl rfl (Nat.le_of_ble_eq_true rfl) (ws2 := GW a g1 k 0) rfl dX0_pass_52 ?_
      exact fin 0 0 _ _ _ (by decide) (by decide) dX0_pass_55 (by simp only [gstep]; simp [*])
    · refine zk_aload_n hc dX0_pass_22 0 rfl ?_
      refine zk_get hc inlX0 (ci := 0) rfl 0 1 (by decide) mw_10_6 rfl rfl rfl dX0_pass_23 ?_
      refine zk_iload_n hc dX0_pass_26 1 rfl ?_
      refine zk_icmp_eqN hc 45 dX0_pass_27 (by decide) (by omega) (by omega) (fun h_3 => ?_) (fun h_3 => ?_)
      · refine zk_aload_n hc dX0_pass_45 0 rfl ?_
        refine zk_iload_n hc dX0_pass_46 1 rfl ?_
        refine zk_put hc inlX0 (ci := 0) rfl tyX0 tyX0_ok nmX0 0 1 (by decide) mw_10_6 rfl rfl rfl rfl rfl (Nat.le_of_ble_eq_true rfl) (ws2 := GW a g1 k g3) rfl dX0_pass_47 ?_
        refine zk_aload_n hc dX0_pass_50 0 rfl ?_
        refine zk_iconst hc (nI 0) dX0_pass_51 rfl ?_
        refine zk_put hc inlX0 (ci := 0) rfl tyX0 tyX0_ok nmX0 0 2 (by decide) mw_10_7 rfl rfl rfl rfl rfl (Nat.le_of_ble_eq_true rfl) (ws2 := GW a g1 k 0) rfl dX0_pass_52 ?_
        exact fin 0 0 _ _ _ (by decide) (by decide) dX0_pass_55 (by simp only [gstep]; simp [*])
      · refine zk_aload_n hc dX0_pass_30 0 rfl ?_
        refine zk_aload_n hc dX0_pass_31 0 rfl ?_
        refine zk_get hc inlX0 (ci := 0) rfl 0 0 (by decide) mw_10_5 rfl rfl rfl dX0_pass_32 ?_
        refine zk_aload_n hc dX0_pass_35 0 rfl ?_
        refine zk_get hc inlX0 (ci := 0) rfl 0 2 (by decide) mw_10_7 rfl rfl rfl dX0_pass_36 ?_
        refine zk_min hc mw_10_22 mw_5_20 mw_5_21 mw_5_22 ⟨by decide, by decide, by decide, by decide⟩ (Nat.le_of_ble_eq_true rfl) dX0_pass_39 ?_
        refine zk_top (y := nI (Nat.min g1 g3)) (nq_min (by omega) (by omega)) ?_
        refine zk_put hc inlX0 (ci := 0) rfl tyX0 tyX0_ok nmX0 0 0 (by decide) mw_10_5 rfl rfl rfl rfl rfl (Nat.le_of_ble_eq_true rfl) (ws2 := GW a (Nat.min g1 g3) g2 g3) rfl dX0_pass_42 ?_
        refine zk_aload_n hc dX0_pass_45 0 rfl ?_
        refine zk_iload_n hc dX0_pass_46 1 rfl ?_
        refine zk_put hc inlX0 (ci := 0) rfl tyX0 tyX0_ok nmX0 0 1 (by decide) mw_10_6 rfl rfl rfl rfl rfl (Nat.le_of_ble_eq_true rfl) (ws2 := GW a (Nat.min g1 g3) k g3) rfl dX0_pass_47 ?_
        refine zk_aload_n hc dX0_pass_50 0 rfl ?_
        refine zk_iconst hc (nI 0) dX0_pass_51 rfl ?_
        refine zk_put hc inlX0 (ci := 0) rfl tyX0 tyX0_ok nmX0 0 2 (by decide) mw_10_7 rfl rfl rfl rfl rfl (Nat.le_of_ble_eq_true rfl) (ws2 := GW a (Nat.min g1 g3) k 0) rfl dX0_pass_52 ?_
        exact fin 0 0 _ _ _ (by decide) (by decide) dX0_pass_55 (by simp only [gstep]; simp [*])
  · refine zk_aload_n hc dX0_pass_4 0 rfl ?_
    refine zk_dup hc dX0_pass_5 rfl ?_
    refine zk_get hc inlX0 (ci := 0) rfl 0 2 (by decide) mw_10_7 rfl rfl rfl dX0_pass_6 ?_
    refine zk_iconst hc (nI 1) dX0_pass_9 rfl ?_
    refine zk_iaddN hc dX0_pass_10 ?_
    refine zk_put hc inlX0 (ci := 0) rfl tyX0 tyX0_ok nmX0 0 2 (by decide) mw_10_7 rfl rfl rfl rfl rfl (Nat.le_of_ble_eq_true rfl) (ws2 := GW a g1 g2 (g3 + 1)) rfl dX0_pass_11 ?_
    exact fin 0 0 _ _ _ (by decide) (by decide) dX0_pass_14 (by simp only [gstep]; simp [*])
