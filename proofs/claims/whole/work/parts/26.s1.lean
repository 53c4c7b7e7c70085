set_option maxHeartbeats 4000000 in
set_option maxRecDepth 100000 in
theorem ct_X7_hold (g : GG) (l : Launch) (a : Nat → Nat) (u pa im tx rw rb rk rt he tr be sp : Nat → Nat) (pm fl ln rm rd bn : Nat) (fk fp rs wk wp bm : Int32) (lv : Nat) (hlv : lv < 4) : CtV g l yX7_hold cX7_hold 3 (rmK 1 0 0) (MW g.2.1 a u pa im tx rw rb rk rt he tr be sp pm fl ln rm rd bn fk fp rs wk wp bm) [.ref (a 0), .int (nI lv)] (fun W1 => W1 = MW g.2.1 a u pa im tx rw rb rk rt (va_cpy u he 0 (131 * lv) 131) tr be sp pm fl ln rm rd bn fk fp rs wk wp bm) := by
  refine CtV.go RX7 rfl (by decide +kernel) (Nat.le_of_ble_eq_true rfl) ?_
  intro p e s m args below meth c A H0 Q hc hnm fin
  show KW g p l e (rmK 1 0 0) s m args below meth c 3 A H0 0 0 Q (MW g.2.1 a u pa im tx rw rb rk rt he tr be sp pm fl ln rm rd bn fk fp rs wk wp bm) [(0, .ref (a 0)), (1, .int (nI lv))] 0 []
  refine zk_iconst hc (nI 0) dX7_hold_0 rfl ?_
  refine zk_istore_n hc (lv2 := [(2, .int (nI 0)), (0, .ref (a 0)), (1, .int (nI lv))]) dX7_hold_1 (by decide) rfl ?_
  refine zk_ws (ws2 := MW g.2.1 a u pa im tx rw rb rk rt (va_cpy u he 0 (131 * lv) 0) tr be sp pm fl ln rm rd bn fk fp rs wk wp bm) (congrArg (fun zz => MW g.2.1 a u pa im tx rw rb rk rt zz tr be sp pm fl ln rm rd bn fk fp rs wk wp bm) (show he = va_cpy u he 0 (131 * lv) 0 from cpy_zero _ _ _ _)) ?_
  have loop2 : ∀ (N : Nat) (q : Nat), 131 - q < N → (q ≤ 131) → KW g p l e (rmK 1 0 0) s m args below meth c 3 A H0 0 0 Q (MW g.2.1 a u pa im tx rw rb rk rt (va_cpy u he 0 (131 * lv) q) tr be sp pm fl ln rm rd bn fk fp rs wk wp bm) [(0, .ref (a 0)), (1, .int (nI lv)), (2, .int (nI q))] 2 [] := by
    intro N
    induction N with
    | zero => intro q hm; exact absurd hm (Nat.not_lt_zero _)
    | succ N ih2 =>
      intro q hm2 hq
      refine zk_iload_n hc dX7_hold_2 2 rfl ?_
      refine zk_sipush hc (nI 131) dX7_hold_3 rfl ?_
      refine zk_icmp_geN hc 33 dX7_hold_6 (by decide) (by omega) (by omega) (fun h_1 => ?_) (fun h_1 => ?_)
      · refine zk_ws (ws2 := MW g.2.1 a u pa im tx rw rb rk rt (va_cpy u he 0 (131 * lv) 131) tr be sp pm fl ln rm rd bn fk fp rs wk wp bm) (congrArg (fun zz => MW g.2.1 a u pa im tx rw rb rk rt zz tr be sp pm fl ln rm rd bn fk fp rs wk wp bm) (show va_cpy u he 0 (131 * lv) q = va_cpy u he 0 (131 * lv) 131 from congrArg (va_cpy u he 0 (131 * lv)) (by omega))) ?_
        exact fin 0 0 _ _ _ (by decide) (by decide) dX7_hold_33 (rfl)
      · refine zk_aload_n hc dX7_hold_9 0 rfl ?_
        refine zk_get hc inlX7 (ci := 7) rfl 0 18 (by decide) mw_4_22 rfl rfl rfl dX7_hold_10 ?_
        refine zk_sipush hc (nI 131) dX7_hold_13 rfl ?_
        refine zk_iload_n hc dX7_hold_16 1 rfl ?_
        refine zk_imulN hc dX7_hold_17 ?_
        refine zk_iload_n hc dX7_hold_18 2 rfl ?_
        refine zk_iaddN hc dX7_hold_19 ?_
        refine zk_aload_n hc dX7_hold_20 0 rfl ?_
        refine zk_get hc inlX7 (ci := 7) rfl 0 0 (by decide) mw_4_11 rfl rfl rfl dX7_hold_21 ?_
        refine zk_iload_n hc dX7_hold_24 2 rfl ?_
        refine zk_ialdN hc 1 rfl (by omega) (by decide) dX7_hold_25 ?_
        refine zk_iastN hc 9 rfl (by omega) (by decide) (ws2 := MW g.2.1 a u pa im tx rw rb rk rt (va_up (va_cpy u he 0 (131 * lv) q) ((131 * lv) + q) (u q)) tr be sp pm fl ln rm rd bn fk fp rs wk wp bm) rfl dX7_hold_26 ?_
        refine zk_ws (ws2 := MW g.2.1 a u pa im tx rw rb rk rt (va_cpy u he 0 (131 * lv) (q + 1)) tr be sp pm fl ln rm rd bn fk fp rs wk wp bm) (congrArg (fun zz => MW g.2.1 a u pa im tx rw rb rk rt zz tr be sp pm fl ln rm rd bn fk fp rs wk wp bm) (show va_up (va_cpy u he 0 (131 * lv) q) ((131 * lv) + q) (u q) = va_cpy u he 0 (131 * lv) (q + 1) from cpy_step (by omega) (by rw [Nat.zero_add]))) ?_
        refine zk_iinc hc (v := nI (q + 1)) (lv2 := [(2, .int (nI (q + 1))), (0, .ref (a 0)), (1, .int (nI lv))]) dX7_hold_27 2 rfl (nq_inc rfl) (by decide) rfl ?_
        refine zk_goto hc 2 dX7_hold_30 (by decide) ?_
        refine zk_lv [1, 2, 0] (lv2 := [(0, .ref (a 0)), (1, .int (nI lv)), (2, .int (nI (q + 1)))]) rfl ?_
        exact ih2 (q + 1) (by omega) (by omega)
  refine zk_lv [1, 2, 0] (lv2 := [(0, .ref (a 0)), (1, .int (nI lv)), (2, .int (nI 0))]) rfl ?_
  exact loop2 ((131 - 0) + 1) 0 (Nat.lt_succ_self _) (Nat.zero_le _)

set_option maxHeartbeats 4000000 in
set_option maxRecDepth 100000 in
theorem ct_X7_release (g : GG) (l : Launch) (a : Nat → Nat) (u pa im tx rw rb rk rt he tr be sp : Nat → Nat) (pm fl ln rm rd bn : Nat) (fk fp rs wk wp bm : Int32) (lv : Nat) (hlv : lv < 4) : CtV g l yX7_release cX7_release 3 (rmK 1 0 0) (MW g.2.1 a u pa im tx rw rb rk rt he tr be sp pm fl ln rm rd bn fk fp rs wk wp bm) [.ref (a 0), .int (nI lv)] (fun W1 => W1 = MW g.2.1 a (va_cpy he u (131 * lv) 0 131) pa im tx rw rb rk rt he tr be sp pm fl ln rm rd bn fk fp rs wk wp bm) := by
  refine CtV.go RX7 rfl (by decide +kernel) (Nat.le_of_ble_eq_true rfl) ?_
  intro p e s m args below meth c A H0 Q hc hnm fin
  show KW g p l e (rmK 1 0 0) s m args below meth c 3 A H0 0 0 Q (MW g.2.1 a u pa im tx rw rb rk rt he tr be sp pm fl ln rm rd bn fk fp rs wk wp bm) [(0, .ref (a 0)), (1, .int (nI lv))] 0 []
  refine zk_iconst hc (nI 0) dX7_release_0 rfl ?_
  refine zk_istore_n hc (lv2 := [(2, .int (nI 0)), (0, .ref (a 0)), (1, .int (nI lv))]) dX7_release_1 (by decide) rfl ?_
  refine zk_ws (ws2 := MW g.2.1 a (va_cpy he u (131 * lv) 0 0) pa im tx rw rb rk rt he tr be sp pm fl ln rm rd bn fk fp rs wk wp bm) (congrArg (fun zz => MW g.2.1 a zz pa im tx rw rb rk rt he tr be sp pm fl ln rm rd bn fk fp rs wk wp bm) (show u = va_cpy he u (131 * lv) 0 0 from cpy_zero _ _ _ _)) ?_
  have loop2 : ∀ (N : Nat) (q : Nat), 131 - q < N → (q ≤ 131) → KW g p l e (rmK 1 0 0) s m args below meth c 3 A H0 0 0 Q (MW g.2.1 a (va_cpy he u (131 * lv) 0 q) pa im tx rw rb rk rt he tr be sp pm fl ln rm rd bn fk fp rs wk wp bm) [(0, .ref (a 0)), (1, .int (nI lv)), (2, .int (nI q))] 2 [] := by
    intro N
    induction N with
    | zero => intro q hm; exact absurd hm (Nat.not_lt_zero _)
    | succ N ih2 =>
      intro q hm2 hq
      refine zk_iload_n hc dX7_release_2 2 rfl ?_
      refine zk_sipush hc (nI 131) dX7_release_3 rfl ?_
      refine zk_icmp_geN hc 33 dX7_release_6 (by decide) (by omega) (by omega) (fun h_1 => ?_) (fun h_1 => ?_)
      · refine zk_ws (ws2 := MW g.2.1 a (va_cpy he u (131 * lv) 0 131) pa im tx rw rb rk rt he tr be sp pm fl ln rm rd bn fk fp rs wk wp bm) (congrArg (fun zz => MW g.2.1 a zz pa im tx rw rb rk rt he tr be sp pm fl ln rm rd bn fk fp rs wk wp bm) (show va_cpy he u (131 * lv) 0 q = va_cpy he u (131 * lv) 0 131 from congrArg (va_cpy he u (131 * lv) 0) (by omega))) ?_
        exact fin 0 0 _ _ _ (by decide) (by decide) dX7_release_33 (rfl)
      · refine zk_aload_n hc dX7_release_9 0 rfl ?_
        refine zk_get hc inlX7 (ci := 7) rfl 0 0 (by decide) mw_4_11 rfl rfl rfl dX7_release_10 ?_
        refine zk_iload_n hc dX7_release_13 2 rfl ?_
        refine zk_aload_n hc dX7_release_14 0 rfl ?_
        refine zk_get hc inlX7 (ci := 7) rfl 0 18 (by decide) mw_4_22 rfl rfl rfl dX7_release_15 ?_
        refine zk_sipush hc (nI 131) dX7_release_18 rfl ?_
        refine zk_iload_n hc dX7_release_21 1 rfl ?_
        refine zk_imulN hc dX7_release_22 ?_
        refine zk_iload_n hc dX7_release_23 2 rfl ?_
        refine zk_iaddN hc dX7_release_24 ?_
        refine zk_ialdN hc 9 rfl (by omega) (by decide) dX7_release_25 ?_
        refine zk_iastN hc 1 rfl (by omega) (by decide) (ws2 := MW g.2.1 a (va_up (va_cpy he u (131 * lv) 0 q) q (he ((131 * lv) + q))) pa im tx rw rb rk rt he tr be sp pm fl ln rm rd bn fk fp rs wk wp bm) rfl dX7_release_26 ?_
        refine zk_ws (ws2 := MW g.2.1 a (va_cpy he u (131 * lv) 0 (q + 1)) pa im tx rw rb rk rt he tr be sp pm fl ln rm rd bn fk fp rs wk wp bm) (congrArg (fun zz => MW g.2.1 a zz pa im tx rw rb rk rt he tr be sp pm fl ln rm rd bn fk fp rs wk wp bm) (show va_up (va_cpy he u (131 * lv) 0 q) q (he ((131 * lv) + q)) = va_cpy he u (131 * lv) 0 (q + 1) from cpy_step (by omega) rfl)) ?_
        refine zk_iinc hc (v := nI (q + 1)) (lv2 := [(2, .int (nI (q + 1))), (0, .ref (a 0)), (1, .int (nI lv))]) dX7_release_27 2 rfl (nq_inc rfl) (by decide) rfl ?_
        refine zk_goto hc 2 dX7_release_30 (by decide) ?_
        refine zk_lv [1, 2, 0] (lv2 := [(0, .ref (a 0)), (1, .int (nI lv)), (2, .int (nI (q + 1)))]) rfl ?_
        exact ih2 (q + 1) (by omega) (by omega)
  refine zk_lv [1, 2, 0] (lv2 := [(0, .ref (a 0)), (1, .int (nI lv)), (2, .int (nI 0))]) rfl ?_
  exact loop2 ((131 - 0) + 1) 0 (Nat.lt_succ_self _) (Nat.zero_le _)

set_option maxHeartbeats 4000000 in
set_option maxRecDepth 100000 in
theorem ct_X7_note (g : GG) (l : Launch) (a : Nat → Nat) (u pa im tx rw rb rk rt he tr be sp : Nat → Nat) (pm fl ln rm rd bn : Nat) (fk fp rs wk wp bm : Int32) (k mi : Nat) (hk3 : k ≤ 3) (hmi : mi < 1000) (hbn : bn < 1000) (hK4 : u 4 ≤ 4) (hm : ∀ t, t < 4 → mny u t ≤ 8) (hd : ∀ t j, t < 4 → j < 8 → dst u t j < 6) (h13 : u 13 < 6) (h12b : u 12 ≤ 10) : CtV g l yX7_note cX7_note 5 (rmK 5 0 0) (MW g.2.1 a u pa im tx rw rb rk rt he tr be sp pm fl ln rm rd bn fk fp rs wk wp bm) [.ref (a 0), .int (nI k), .int (nI mi)] (fun W1 => ((noteC bm bn k mi ∧ ¬ muf u = -9) → W1 = MW g.2.1 a u pa im tx rw rb rk rt he tr (va_cpy tr be 0 0 9) sp pm fl ln rm rd mi fk fp rs wk wp (nI k)) ∧ (¬ (noteC bm bn k mi ∧ ¬ muf u = -9) → W1 = MW g.2.1 a u pa im tx rw rb rk rt he tr be sp pm fl ln rm rd bn fk fp rs wk wp bm)) := by
  refine CtV.go RX7 rfl (by decide +kernel) (Nat.le_of_ble_eq_true rfl) ?_
  intro p e s m args below meth c A H0 Q hc hnm fin
  show KW g p l e (rmK 5 0 0) s m args below meth c 5 A H0 0 0 Q (MW g.2.1 a u pa im tx rw rb rk rt he tr be sp pm fl ln rm rd bn fk fp rs wk wp bm) [(0, .ref (a 0)), (1, .int (nI k)), (2, .int (nI mi))] 0 []
  refine zk_aload_n hc dX7_note_0 0 rfl ?_
  refine zk_get hc inlX7 (ci := 7) rfl 0 21 (by decide) mw_23_3 rfl rfl rfl dX7_note_1 ?_
  refine zk_bipush hc ((-9)) dX7_note_4 rfl ?_
  refine zk_icmp_eq hc 33 dX7_note_6 (by decide) (fun hb9 => ?_) (fun hb9 => ?_)
  · refine zk_iconst hc (nI 1) dX7_note_33 rfl ?_
    refine zk_goto hc 38 dX7_note_34 (by decide) ?_
    refine zk_istore_n hc (lv2 := [(3, .int (nI 1)), (0, .ref (a 0)), (1, .int (nI k)), (2, .int (nI mi))]) dX7_note_38 (by decide) rfl ?_
    refine zk_iload_n hc dX7_note_39 0 rfl ?_
    refine zk_if_eqN hc 92 dX7_note_40 (by decide) (by omega) (fun h_1 => ?_) (fun h_1 => ?_)
    · exact absurd h_1 (by decide)
    · refine zk_aload_n hc dX7_note_43 1 rfl ?_
      refine zk_callVi hc (rest := []) (ct_X7_madeUp g l a u pa im tx rw rb rk rt he tr be sp pm fl ln rm rd bn fk fp rs wk wp bm hK4 hm hd h13 h12b) gg_X7_163 cd_X7_madeUp ⟨Nat.le_of_ble_eq_true rfl, Nat.le_of_ble_eq_true rfl⟩ ⟨Nat.le_of_ble_eq_true rfl, Nat.le_of_ble_eq_true rfl⟩ ([]) ([]) rfl 0 rfl rfl rfl (Nat.le_of_ble_eq_true rfl) dX7_note_44 (fun r W1 hp => ?_)
      obtain ⟨rfl, rfl⟩ := hp
      refine zk_ws (ws2 := MW g.2.1 a u pa im tx rw rb rk rt he tr be sp pm fl ln rm rd bn fk fp rs wk wp bm) rfl ?_
      refine zk_bipush hc ((-9)) dX7_note_47 rfl ?_
      refine zk_icmp_eq hc 92 dX7_note_49 (by decide) (fun hmd => ?_) (fun hmd => ?_)
      · refine fin 0 0 _ _ _ (by decide) (by decide) dX7_note_92 (?_)
        exact ⟨fun z => absurd hmd z.2, fun _ => rfl⟩
      · refine zk_aload_n hc dX7_note_52 1 rfl ?_
        refine zk_iload_n hc dX7_note_53 2 rfl ?_
        refine zk_put hc inlX7 (ci := 7) rfl tyX7 tyX7_ok nmX7 0 21 (by decide) mw_23_3 rfl rfl rfl rfl rfl (Nat.le_of_ble_eq_true rfl) (ws2 := MW g.2.1 a u pa im tx rw rb rk rt he tr be sp pm fl ln rm rd bn fk fp rs wk wp (nI k)) rfl dX7_note_54 ?_
        refine zk_aload_n hc dX7_note_57 1 rfl ?_
        refine zk_iload_n hc dX7_note_58 3 rfl ?_
        refine zk_put hc inlX7 (ci := 7) rfl tyX7 tyX7_ok nmX7 0 22 (by decide) mw_23_4 rfl rfl rfl rfl rfl (Nat.le_of_ble_eq_true rfl) (ws2 := MW g.2.1 a u pa im tx rw rb rk rt he tr be sp pm fl ln rm rd mi fk fp rs wk wp (nI k)) rfl dX7_note_59 ?_
        refine zk_iconst hc (nI 0) dX7_note_62 rfl ?_
        refine zk_istore hc (lv2 := [(4, .int (nI 0)), (3, .int (nI 1)), (0, .ref (a 0)), (1, .int (nI k)), (2, .int (nI mi))]) dX7_note_63 (by decide) rfl ?_
        refine zk_ws (ws2 := MW g.2.1 a u pa im tx rw rb rk rt he tr (va_cpy tr be 0 0 0) sp pm fl ln rm rd mi fk fp rs wk wp (nI k)) (congrArg (fun zz => MW g.2.1 a u pa im tx rw rb rk rt he tr zz sp pm fl ln rm rd mi fk fp rs wk wp (nI k)) (show be = va_cpy tr be 0 0 0 from cpy_zero _ _ _ _)) ?_
        have loop65 : ∀ (N : Nat) (q : Nat), 9 - q < N → (q ≤ 9) → KW g p l e (rmK 5 0 0) s m args below meth c 5 A H0 0 0 Q (MW g.2.1 a u pa im tx rw rb rk rt he tr (va_cpy tr be 0 0 q) sp pm fl ln rm rd mi fk fp rs wk wp (nI k)) [(0, .ref (a 0)), (1, .int (nI k)), (2, .int (nI mi)), (3, .int (nI 1)), (4, .int (nI q))] 65 [] := by
          intro N
          induction N with
          | zero => intro q hm; exact absurd hm (Nat.not_lt_zero _)
          | succ N ih65 =>
            intro q hm65 hq
            refine zk_iload hc dX7_note_65 4 rfl ?_
            refine zk_bipush hc (nI 9) dX7_note_67 rfl ?_
            refine zk_icmp_geN hc 92 dX7_note_69 (by decide) (by omega) (by omega) (fun h_2 => ?_) (fun h_2 => ?_)
            · refine zk_ws (ws2 := MW g.2.1 a u pa im tx rw rb rk rt he tr (va_cpy tr be 0 0 9) sp pm fl ln rm rd mi fk fp rs wk wp (nI k)) (congrArg (fun zz => MW g.2.1 a u pa im tx rw rb rk rt he tr zz sp pm fl ln rm rd mi fk fp rs wk wp (nI k)) (show va_cpy tr be 0 0 q = va_cpy tr be 0 0 9 from congrArg (va_cpy tr be 0 0) (by omega))) ?_
              refine fin 0 0 _ _ _ (by decide) (by decide) dX7_note_92 (?_)
              exact ⟨fun _ => rfl, fun z => absurd ⟨Or.inl hb9, hmd⟩ z⟩
            · refine zk_aload_n hc dX7_note_72 0 rfl ?_
              refine zk_get hc inlX7 (ci := 7) rfl 0 20 (by decide) mw_5_0 rfl rfl rfl dX7_note_73 ?_
              refine zk_iload hc dX7_note_76 4 rfl ?_
              refine zk_aload_n hc dX7_note_78 0 rfl ?_
              refine zk_get hc inlX7 (ci := 7) rfl 0 19 (by decide) mw_4_23 rfl rfl rfl dX7_note_79 ?_
              refine zk_iload hc dX7_note_82 4 rfl ?_
              refine zk_ialdN hc 10 rfl (by omega) (by decide) dX7_note_84 ?_
              refine zk_iastN hc 11 rfl (by omega) (by decide) (ws2 := MW g.2.1 a u pa im tx rw rb rk rt he tr (va_up (va_cpy tr be 0 0 q) q (tr q)) sp pm fl ln rm rd mi fk fp rs wk wp (nI k)) rfl dX7_note_85 ?_
              refine zk_ws (ws2 := MW g.2.1 a u pa im tx rw rb rk rt he tr (va_cpy tr be 0 0 (q + 1)) sp pm fl ln rm rd mi fk fp rs wk wp (nI k)) (congrArg (fun zz => MW g.2.1 a u pa im tx rw rb rk rt he tr zz sp pm fl ln rm rd mi fk fp rs wk wp (nI k)) (show va_up (va_cpy tr be 0 0 q) q (tr q) = va_cpy tr be 0 0 (q + 1) from cpy_step (by omega) (by rw [Nat.zero_add]))) ?_
              refine zk_iinc hc (v := nI (q + 1)) (lv2 := [(4, .int (nI (q + 1))), (0, .ref (a 0)), (1, .int (nI k)), (2, .int (nI mi)), (3, .int (nI 1))]) dX7_note_86 4 rfl (nq_inc rfl) (by decide) rfl ?_
              refine zk_goto hc 65 dX7_note_89 (by decide) ?_
              refine zk_lv [1, 2, 3, 4, 0] (lv2 := [(0, .ref (a 0)), (1, .int (nI k)), (2, .int (nI mi)), (3, .int (nI 1)), (4, .int (nI (q + 1)))]) rfl ?_
              exact ih65 (q + 1) (by omega) (by omega)
        refine zk_lv [2, 3, 4, 1, 0] (lv2 := [(0, .ref (a 0)), (1, .int (nI k)), (2, .int (nI mi)), (3, .int (nI 1)), (4, .int (nI 0))]) rfl ?_
        exact loop65 ((9 - 0) + 1) 0 (Nat.lt_succ_self _) (Nat.zero_le _)
  · refine zk_iload_n hc dX7_note_9 2 rfl ?_
    refine zk_aload_n hc dX7_note_10 0 rfl ?_
    refine zk_get hc inlX7 (ci := 7) rfl 0 22 (by decide) mw_23_4 rfl rfl rfl dX7_note_11 ?_
    refine zk_icmp_ltN hc 33 dX7_note_14 (by decide) (by omega) (by omega) (fun hl => ?_) (fun hl => ?_)
    · refine zk_iconst hc (nI 1) dX7_note_33 rfl ?_
      refine zk_goto hc 38 dX7_note_34 (by decide) ?_
      refine zk_istore_n hc (lv2 := [(3, .int (nI 1)), (0, .ref (a 0)), (1, .int (nI k)), (2, .int (nI mi))]) dX7_note_38 (by decide) rfl ?_
      refine zk_iload_n hc dX7_note_39 0 rfl ?_
      refine zk_if_eqN hc 92 dX7_note_40 (by decide) (by omega) (fun h_3 => ?_) (fun h_3 => ?_)
      · exact absurd h_3 (by decide)
      · refine zk_aload_n hc dX7_note_43 1 rfl ?_
        refine zk_callVi hc (rest := []) (ct_X7_madeUp g l a u pa im tx rw rb rk rt he tr be sp pm fl ln rm rd bn fk fp rs wk wp bm hK4 hm hd h13 h12b) gg_X7_163 cd_X7_madeUp ⟨Nat.le_of_ble_eq_true rfl, Nat.le_of_ble_eq_true rfl⟩ ⟨Nat.le_of_ble_eq_true rfl, Nat.le_of_ble_eq_true rfl⟩ ([]) ([]) rfl 0 rfl rfl rfl (Nat.le_of_ble_eq_true rfl) dX7_note_44 (fun r W1 hp => ?_)
        obtain ⟨rfl, rfl⟩ := hp
        refine zk_ws (ws2 := MW g.2.1 a u pa im tx rw rb rk rt he tr be sp pm fl ln rm rd bn fk fp rs wk wp bm) rfl ?_
        refine zk_bipush hc ((-9)) dX7_note_47 rfl ?_
        refine zk_icmp_eq hc 92 dX7_note_49 (by decide) (fun hmd => ?_) (fun hmd => ?_)
        · refine fin 0 0 _ _ _ (by decide) (by decide) dX7_note_92 (?_)
          exact ⟨fun z => absurd hmd z.2, fun _ => rfl⟩
        · refine zk_aload_n hc dX7_note_52 1 rfl ?_
          refine zk_iload_n hc dX7_note_53 2 rfl ?_
          refine zk_put hc inlX7 (ci := 7) rfl tyX7 tyX7_ok nmX7 0 21 (by decide) mw_23_3 rfl rfl rfl rfl rfl (Nat.le_of_ble_eq_true rfl) (ws2 := MW g.2.1 a u pa im tx rw rb rk rt he tr be sp pm fl ln rm rd bn fk fp rs wk wp (nI k)) rfl dX7_note_54 ?_
          refine zk_aload_n hc dX7_note_57 1 rfl ?_
          refine zk_iload_n hc dX7_note_58 3 rfl ?_
          refine zk_put hc inlX7 (ci := 7) rfl tyX7 tyX7_ok nmX7 0 22 (by decide) mw_23_4 rfl rfl rfl rfl rfl (Nat.le_of_ble_eq_true rfl) (ws2 := MW g.2.1 a u pa im tx rw rb rk rt he tr be sp pm fl ln rm rd mi fk fp rs wk wp (nI k)) rfl dX7_note_59 ?_
          refine zk_iconst hc (nI 0) dX7_note_62 rfl ?_
          refine zk_istore hc (lv2 := [(4, .int (nI 0)), (3, .int (nI 1)), (0, .ref (a 0)), (1, .int (nI k)), (2, .int (nI mi))]) dX7_note_63 (by decide) rfl ?_
          refine zk_ws (ws2 := MW g.2.1 a u pa im tx rw rb rk rt he tr (va_cpy tr be 0 0 0) sp pm fl ln rm rd mi fk fp rs wk wp (nI k)) (congrArg (fun zz => MW g.2.1 a u pa im tx rw rb rk rt he tr zz sp pm fl ln rm rd mi fk fp rs wk wp (nI k)) (show be = va_cpy tr be 0 0 0 from cpy_zero _ _ _ _)) ?_
          have loop65 : ∀ (N : Nat) (q : Nat), 9 - q < N → (q ≤ 9) → KW g p l e (rmK 5 0 0) s m args below meth c 5 A H0 0 0 Q (MW g.2.1 a u pa im tx rw rb rk rt he tr (va_cpy tr be 0 0 q) sp pm fl ln rm rd mi fk fp rs wk wp (nI k)) [(0, .ref (a 0)), (1, .int (nI k)), (2, .int (nI mi)), (3, .int (nI 1)), (4, .int (nI q))] 65 [] := by
            intro N
            induction N with
            | zero => intro q hm; exact absurd hm (Nat.not_lt_zero _)
            | succ N ih65 =>
              intro q hm65 hq
              refine zk_iload hc dX7_note_65 4 rfl ?_
              refine zk_bipush hc (nI 9) dX7_note_67 rfl ?_
              refine zk_icmp_geN hc 92 dX7_note_69 (by decide) (by omega) (by omega) (fun h_4 => ?_) (fun h_4 => ?_)
              · refine zk_ws (ws2 := MW g.2.1 a u pa im tx rw rb rk rt he tr (va_cpy tr be 0 0 9) sp pm fl ln rm rd mi fk fp rs wk wp (nI k)) (congrArg (fun zz => MW g.2.1 a u pa im tx rw rb rk rt he tr zz sp pm fl ln rm rd mi fk fp rs wk wp (nI k)) (show va_cpy tr be 0 0 q = va_cpy tr be 0 0 9 from congrArg (va_cpy tr be 0 0) (by omega))) ?_
                refine fin 0 0 _ _ _ (by decide) (by decide) dX7_note_92 (?_)
                exact ⟨fun _ => rfl, fun z => absurd ⟨Or.inr (Or.inl hl), hmd⟩ z⟩
              · refine zk_aload_n hc dX7_note_72 0 rfl ?_
                refine zk_get hc inlX7 (ci := 7) rfl 0 20 (by decide) mw_5_0 rfl rfl rfl dX7_note_73 ?_
                refine zk_iload hc dX7_note_76 4 rfl ?_
                refine zk_aload_n hc dX7_note_78 0 rfl ?_
                refine zk_get hc inlX7 (ci := 7) rfl 0 19 (by decide) mw_4_23 rfl rfl rfl dX7_note_79 ?_
                refine zk_iload hc dX7_note_82 4 rfl ?_
                refine zk_ialdN hc 10 rfl (by omega) (by decide) dX7_note_84 ?_
                refine zk_iastN hc 11 rfl (by omega) (by decide) (ws2 := MW g.2.1 a u pa im tx rw rb rk rt he tr (va_up (va_cpy tr be 0 0 q) q (tr q)) sp pm fl ln rm rd mi fk fp rs wk wp (nI k)) rfl dX7_note_85 ?_
                refine zk_ws (ws2 := MW g.2.1 a u pa im tx rw rb rk rt he tr (va_cpy tr be 0 0 (q + 1)) sp pm fl ln rm rd mi fk fp rs wk wp (nI k)) (congrArg (fun zz => MW g.2.1 a u pa im tx rw rb rk rt he tr zz sp pm fl ln rm rd mi fk fp rs wk wp (nI k)) (show va_up (va_cpy tr be 0 0 q) q (tr q) = va_cpy tr be 0 0 (q + 1) from cpy_step (by omega) (by rw [Nat.zero_add]))) ?_
                refine zk_iinc hc (v := nI (q + 1)) (lv2 := [(4, .int (nI (q + 1))), (0, .ref (a 0)), (1, .int (nI k)), (2, .int (nI mi)), (3, .int (nI 1))]) dX7_note_86 4 rfl (nq_inc rfl) (by decide) rfl ?_
                refine zk_goto hc 65 dX7_note_89 (by decide) ?_
                refine zk_lv [1, 2, 3, 4, 0] (lv2 := [(0, .ref (a 0)), (1, .int (nI k)), (2, .int (nI mi)), (3, .int (nI 1)), (4, .int (nI (q + 1)))]) rfl ?_
                exact ih65 (q + 1) (by omega) (by omega)
          refine zk_lv [2, 3, 4, 1, 0] (lv2 := [(0, .ref (a 0)), (1, .int (nI k)), (2, .int (nI mi)), (3, .int (nI 1)), (4, .int (nI 0))]) rfl ?_
          exact loop65 ((9 - 0) + 1) 0 (Nat.lt_succ_self _) (Nat.zero_le _)
    · refine zk_iload_n hc dX7_note_17 2 rfl ?_
      refine zk_aload_n hc dX7_note_18 0 rfl ?_
      refine zk_get hc inlX7 (ci := 7) rfl 0 22 (by decide) mw_23_4 rfl rfl rfl dX7_note_19 ?_
      refine zk_icmp_neN hc 37 dX7_note_22 (by decide) (by omega) (by omega) (fun he2 => ?_) (fun he2 => ?_)
      · refine zk_iconst hc (nI 0) dX7_note_37 rfl ?_
        refine zk_istore_n hc (lv2 := [(3, .int (nI 0)), (0, .ref (a 0)), (1, .int (nI k)), (2, .int (nI mi))]) dX7_note_38 (by decide) rfl ?_
        refine zk_iload_n hc dX7_note_39 0 rfl ?_
        refine zk_if_eqN hc 92 dX7_note_40 (by decide) (by omega) (fun h_5 => ?_) (fun h_5 => ?_)
        · refine fin 0 0 _ _ _ (by decide) (by decide) dX7_note_92 (?_)
          exact ⟨fun z => absurd z.1 (noteC_no hb9 hl (Or.inl he2)), fun _ => rfl⟩
        · exact absurd h_5 (by decide)
      · refine zk_iload_n hc dX7_note_25 1 rfl ?_
        refine zk_aload_n hc dX7_note_26 0 rfl ?_
        refine zk_get hc inlX7 (ci := 7) rfl 0 21 (by decide) mw_23_3 rfl rfl rfl dX7_note_27 ?_
        refine zk_icmp_ge hc 37 dX7_note_30 (by decide) (fun hk2 => ?_) (fun hk2 => ?_)
        · refine zk_iconst hc (nI 0) dX7_note_37 rfl ?_
          refine zk_istore_n hc (lv2 := [(3, .int (nI 0)), (0, .ref (a 0)), (1, .int (nI k)), (2, .int (nI mi))]) dX7_note_38 (by decide) rfl ?_
          refine zk_iload_n hc dX7_note_39 0 rfl ?_
          refine zk_if_eqN hc 92 dX7_note_40 (by decide) (by omega) (fun h_6 => ?_) (fun h_6 => ?_)
          · refine fin 0 0 _ _ _ (by decide) (by decide) dX7_note_92 (?_)
            exact ⟨fun z => absurd z.1 (noteC_no hb9 hl (Or.inr hk2)), fun _ => rfl⟩
          · exact absurd h_6 (by decide)
        · refine zk_iconst hc (nI 1) dX7_note_33 rfl ?_
          refine zk_goto hc 38 dX7_note_34 (by decide) ?_
          refine zk_istore_n hc (lv2 := [(3, .int (nI 1)), (0, .ref (a 0)), (1, .int (nI k)), (2, .int (nI mi))]) dX7_note_38 (by decide) rfl ?_
          refine zk_iload_n hc dX7_note_39 0 rfl ?_
          refine zk_if_eqN hc 92 dX7_note_40 (by decide) (by omega) (fun h_7 => ?_) (fun h_7 => ?_)
          · exact absurd h_7 (by decide)
          · refine zk_aload_n hc dX7_note_43 1 rfl ?_
            refine zk_callVi hc (rest := []) (ct_X7_madeUp g l a u pa im tx rw rb rk rt he tr be sp pm fl ln rm rd bn fk fp rs wk wp bm hK4 hm hd h13 h12b) gg_X7_163 cd_X7_madeUp ⟨Nat.le_of_ble_eq_true rfl, Nat.le_of_ble_eq_true rfl⟩ ⟨Nat.le_of_ble_eq_true rfl, Nat.le_of_ble_eq_true rfl⟩ ([]) ([]) rfl 0 rfl rfl rfl (Nat.le_of_ble_eq_true rfl) dX7_note_44 (fun r W1 hp => ?_)
            obtain ⟨rfl, rfl⟩ := hp
            refine zk_ws (ws2 := MW g.2.1 a u pa im tx rw rb rk rt he tr be sp pm fl ln rm rd bn fk fp rs wk wp bm) rfl ?_
            refine zk_bipush hc ((-9)) dX7_note_47 rfl ?_
            refine zk_icmp_eq hc 92 dX7_note_49 (by decide) (fun hmd => ?_) (fun hmd => ?_)
            · refine fin 0 0 _ _ _ (by decide) (by decide) dX7_note_92 (?_)
              exact ⟨fun z => absurd hmd z.2, fun _ => rfl⟩
            · refine zk_aload_n hc dX7_note_52 1 rfl ?_
              refine zk_iload_n hc dX7_note_53 2 rfl ?_
              refine zk_put hc inlX7 (ci := 7) rfl tyX7 tyX7_ok nmX7 0 21 (by decide) mw_23_3 rfl rfl rfl rfl rfl (Nat.le_of_ble_eq_true rfl) (ws2 := MW g.2.1 a u pa im tx rw rb rk rt he tr be sp pm fl ln rm rd bn fk fp rs wk wp (nI k)) rfl dX7_note_54 ?_
              refine zk_aload_n hc dX7_note_57 1 rfl ?_
              refine zk_iload_n hc dX7_note_58 3 rfl ?_
              refine zk_put hc inlX7 (ci := 7) rfl tyX7 tyX7_ok nmX7 0 22 (by decide) mw_23_4 rfl rfl rfl rfl rfl (Nat.le_of_ble_eq_true rfl) (ws2 := MW g.2.1 a u pa im tx rw rb rk rt he tr be sp pm fl ln rm rd mi fk fp rs wk wp (nI k)) rfl dX7_note_59 ?_
              refine zk_iconst hc (nI 0) dX7_note_62 rfl ?_
              refine zk_istore hc (lv2 := [(4, .int (nI 0)), (3, .int (nI 1)), (0, .ref (a 0)), (1, .int (nI k)), (2, .int (nI mi))]) dX7_note_63 (by decide) rfl ?_
              refine zk_ws (ws2 := MW g.2.1 a u pa im tx rw rb rk rt he tr (va_cpy tr be 0 0 0) sp pm fl ln rm rd mi fk fp rs wk wp (nI k)) (congrArg (fun zz => MW g.2.1 a u pa im tx rw rb rk rt he tr zz sp pm fl ln rm rd mi fk fp rs wk wp (nI k)) (show be = va_cpy tr be 0 0 0 from cpy_zero _ _ _ _)) ?_
              have loop65 : ∀ (N : Nat) (q : Nat), 9 - q < N → (q ≤ 9) → KW g p l e (rmK 5 0 0) s m args below meth c 5 A H0 0 0 Q (MW g.2.1 a u pa im tx rw rb rk rt he tr (va_cpy tr be 0 0 q) sp pm fl ln rm rd mi fk fp rs wk wp (nI k)) [(0, .ref (a 0)), (1, .int (nI k)), (2, .int (nI mi)), (3, .int (nI 1)), (4, .int (nI q))] 65 [] := by
                intro N
                induction N with
                | zero => intro q hm; exact absurd hm (Nat.not_lt_zero _)
                | succ N ih65 =>
                  intro q hm65 hq
                  refine zk_iload hc dX7_note_65 4 rfl ?_
                  refine zk_bipush hc (nI 9) dX7_note_67 rfl ?_
                  refine zk_icmp_geN hc 92 dX7_note_69 (by decide) (by omega) (by omega) (fun h_8 => ?_) (fun h_8 => ?_)
                  · refine zk_ws (ws2 := MW g.2.1 a u pa im tx rw rb rk rt he tr (va_cpy tr be 0 0 9) sp pm fl ln rm rd mi fk fp rs wk wp (nI k)) (congrArg (fun zz => MW g.2.1 a u pa im tx rw rb rk rt he tr zz sp pm fl ln rm rd mi fk fp rs wk wp (nI k)) (show va_cpy tr be 0 0 q = va_cpy tr be 0 0 9 from congrArg (va_cpy tr be 0 0) (by omega))) ?_
                    refine fin 0 0 _ _ _ (by decide) (by decide) dX7_note_92 (?_)
                    exact ⟨fun _ => rfl, fun z => absurd ⟨Or.inr (Or.inr ⟨he2, hk2⟩), hmd⟩ z⟩
                  · refine zk_aload_n hc dX7_note_72 0 rfl ?_
                    refine zk_get hc inlX7 (ci := 7) rfl 0 20 (by decide) mw_5_0 rfl rfl rfl dX7_note_73 ?_
                    refine zk_iload hc dX7_note_76 4 rfl ?_
                    refine zk_aload_n hc dX7_note_78 0 rfl ?_
                    refine zk_get hc inlX7 (ci := 7) rfl 0 19 (by decide) mw_4_23 rfl rfl rfl dX7_note_79 ?_
                    refine zk_iload hc dX7_note_82 4 rfl ?_
                    refine zk_ialdN hc 10 rfl (by omega) (by decide) dX7_note_84 ?_
                    refine zk_iastN hc 11 rfl (by omega) (by decide) (ws2 := MW g.2.1 a u pa im tx rw rb rk rt he tr (va_up (va_cpy tr be 0 0 q) q (tr q)) sp pm fl ln rm rd mi fk fp rs wk wp (nI k)) rfl dX7_note_85 ?_
                    refine zk_ws (ws2 := MW g.2.1 a u pa im tx rw rb rk rt he tr (va_cpy tr be 0 0 (q + 1)) sp pm fl ln rm rd mi fk fp rs wk wp (nI k)) (congrArg (fun zz => MW g.2.1 a u pa im tx rw rb rk rt he tr zz sp pm fl ln rm rd mi fk fp rs wk wp (nI k)) (show va_up (va_cpy tr be 0 0 q) q (tr q) = va_cpy tr be 0 0 (q + 1) from cpy_step (by omega) (by rw [Nat.zero_add]))) ?_
                    refine zk_iinc hc (v := nI (q + 1)) (lv2 := [(4, .int (nI (q + 1))), (0, .ref (a 0)), (1, .int (nI k)), (2, .int (nI mi)), (3, .int (nI 1))]) dX7_note_86 4 rfl (nq_inc rfl) (by decide) rfl ?_
                    refine zk_goto hc 65 dX7_note_89 (by decide) ?_
                    refine zk_lv [1, 2, 3, 4, 0] (lv2 := [(0, .ref (a 0)), (1, .int (nI k)), (2, .int (nI mi)), (3, .int (nI 1)), (4, .int (nI (q + 1)))]) rfl ?_
                    exact ih65 (q + 1) (by omega) (by omega)
              refine zk_lv [2, 3, 4, 1, 0] (lv2 := [(0, .ref (a 0)), (1, .int (nI k)), (2, .int (nI mi)), (3, .int (nI 1)), (4, .int (nI 0))]) rfl ?_
              exact loop65 ((9 - 0) + 1) 0 (Nat.lt_succ_self _) (Nat.zero_le _)

set_option maxHeartbeats 4000000 in
set_option maxRecDepth 100000 in
theorem ct_X7_tryMove (g : GG) (l : Launch) (a : Nat → Nat) (u pa im tx rw rb rk rt he tr be sp : Nat → Nat) (pm fl ln rm rd bn : Nat) (fk fp rs wk wp bm : Int32) (lv mi f t n : Nat) (hlv : lv < 3) (htf : tr (3 * lv) = f) (htt : tr (3 * lv + 1) = t) (htn : tr (3 * lv + 2) = n) (hf : f < 4) (ht : t < 4) (hne : f ≠ t) (hn : n ≤ 8) (hmf : mny u f ≤ 8) (hmt : mny u t ≤ 8) (h5 : u 5 ≤ 8) (hb2 : u 2 ≤ 20) (hk : ∀ t j, t < 4 → j < 8 → knd u t j < 3) (hg : u 0 ≤ 3) (hmi : mi < 1000) (hbn : bn < 1000) : CtI g l yX7_tryMove cX7_tryMove 4 (some .int) (rmK 6 0 0) (MW g.2.1 a u pa im tx rw rb rk rt he tr be sp pm fl ln rm rd bn fk fp rs wk wp bm) [.ref (a 0), .int (nI lv), .int (nI mi)] (fun r W1 => ((costI u f t n < 0 ∨ (¬ bm = -9 ∧ bn < mi + mins u f t n)) → r = -9 ∧ ∃ r2 n2, W1 = MW g.2.1 a u pa im tx r2 rb rk rt he tr be sp pm fl ln n2 rd bn fk fp rs wk wp bm) ∧ (¬ (costI u f t n < 0 ∨ (¬ bm = -9 ∧ bn < mi + mins u f t n)) → r = nI (mins u f t n) ∧ ∃ r2 n2, W1 = MW g.2.1 a (carU u f t n (mins u f t n)) pa im tx r2 rb rk rt he tr be sp pm fl ln n2 rd bn fk fp rs wk wp bm)) := by
  refine CtI.go RX7 rfl (by decide +kernel) (Nat.le_of_ble_eq_true rfl) ?_
  intro p e s m args below meth c A H0 Q hc hnm fin
  show KW g p l e (rmK 6 0 0) s m args below meth c 4 A H0 0 0 Q (MW g.2.1 a u pa im tx rw rb rk rt he tr be sp pm fl ln rm rd bn fk fp rs wk wp bm) [(0, .ref (a 0)), (1, .int (nI lv)), (2, .int (nI mi))] 0 []
  refine zk_aload_n hc dX7_tryMove_0 0 rfl ?_
  refine zk_aload_n hc dX7_tryMove_1 0 rfl ?_
  refine zk_get hc inlX7 (ci := 7) rfl 0 19 (by decide) mw_4_23 rfl rfl rfl dX7_tryMove_2 ?_
  refine zk_iconst hc (nI 3) dX7_tryMove_5 rfl ?_
  refine zk_iload_n hc dX7_tryMove_6 1 rfl ?_
  refine zk_imulN hc dX7_tryMove_7 ?_
  refine zk_ialdN hc 10 rfl (by omega) (by decide) dX7_tryMove_8 ?_
  refine zk_top (y := nI f) (congrArg nI htf) ?_
  refine zk_aload_n hc dX7_tryMove_9 0 rfl ?_
  refine zk_get hc inlX7 (ci := 7) rfl 0 19 (by decide) mw_4_23 rfl rfl rfl dX7_tryMove_10 ?_
  refine zk_iconst hc (nI 3) dX7_tryMove_13 rfl ?_
  refine zk_iload_n hc dX7_tryMove_14 1 rfl ?_
  refine zk_imulN hc dX7_tryMove_15 ?_
  refine zk_iconst hc (nI 1) dX7_tryMove_16 rfl ?_
  refine zk_iaddN hc dX7_tryMove_17 ?_
  refine zk_ialdN hc 10 rfl (by omega) (by decide) dX7_tryMove_18 ?_
  refine zk_top (y := nI t) (congrArg nI htt) ?_
  refine zk_aload_n hc dX7_tryMove_19 0 rfl ?_
  refine zk_get hc inlX7 (ci := 7) rfl 0 19 (by decide) mw_4_23 rfl rfl rfl dX7_tryMove_20 ?_
  refine zk_iconst hc (nI 3) dX7_tryMove_23 rfl ?_
  refine zk_iload_n hc dX7_tryMove_24 1 rfl ?_
  refine zk_imulN hc dX7_tryMove_25 ?_
  refine zk_iconst hc (nI 2) dX7_tryMove_26 rfl ?_
  refine zk_iaddN hc dX7_tryMove_27 ?_
  refine zk_ialdN hc 10 rfl (by omega) (by decide) dX7_tryMove_28 ?_
  refine zk_top (y := nI n) (congrArg nI htn) ?_
  refine zk_callVi hc (rest := []) (ct_X7_costOf g l a u pa im tx rw rb rk rt he tr be sp pm fl ln rm rd bn fk fp rs wk wp bm f t n hf ht hn hmf hmt h5 hb2 hk hg) gg_X7_100 cd_X7_costOf ⟨Nat.le_of_ble_eq_true rfl, Nat.le_of_ble_eq_true rfl⟩ ⟨Nat.le_of_ble_eq_true rfl, Nat.le_of_ble_eq_true rfl⟩ ([]) ([]) rfl 0 rfl rfl rfl (Nat.le_of_ble_eq_true rfl) dX7_tryMove_29 (fun r W1 hp => ?_)
  obtain ⟨rfl, r_1, n_2, rfl⟩ := hp
  refine zk_ws (ws2 := MW g.2.1 a u pa im tx r_1 rb rk rt he tr be sp pm fl ln n_2 rd bn fk fp rs wk wp bm) rfl ?_
  refine zk_istore_n hc (lv2 := [(3, .int (costI u f t n)), (0, .ref (a 0)), (1, .int (nI lv)), (2, .int (nI mi))]) dX7_tryMove_32 (by decide) rfl ?_
  refine zk_iload_n hc dX7_tryMove_33 0 rfl ?_
  refine zk_if_lt hc 56 dX7_tryMove_34 (by decide) (fun hc0 => ?_) (fun hc0 => ?_)
  · refine zk_bipush hc ((-9)) dX7_tryMove_56 rfl ?_
    refine fin 0 0 _ _ _ _ (by decide) (by decide) dX7_tryMove_58 (?_)
    exact ⟨fun _ => ⟨rfl, _, _, rfl⟩, fun z => absurd (Or.inl hc0) z⟩
  · have hco : n ≤ mny u f ∧ mny u t + n ≤ u 5 ∧ costI u f t n = nI (mins u f t n) := by rcases costI_cases u f t n with z | z; exact absurd z hc0; exact z
    have hmm := mins_le (n := n) hb2 hf ht hn
    rw [hco.2.2]
    refine zk_aload_n hc dX7_tryMove_37 1 rfl ?_
    refine zk_get hc inlX7 (ci := 7) rfl 0 21 (by decide) mw_23_3 rfl rfl rfl dX7_tryMove_38 ?_
    refine zk_bipush hc ((-9)) dX7_tryMove_41 rfl ?_
    refine zk_icmp_eq hc 59 dX7_tryMove_43 (by decide) (fun hb9 => ?_) (fun hb9 => ?_)
    · refine zk_aload_n hc dX7_tryMove_59 1 rfl ?_
      refine zk_aload_n hc dX7_tryMove_60 1 rfl ?_
      refine zk_get hc inlX7 (ci := 7) rfl 0 19 (by decide) mw_4_23 rfl rfl rfl dX7_tryMove_61 ?_
      refine zk_iconst hc (nI 3) dX7_tryMove_64 rfl ?_
      refine zk_iload_n hc dX7_tryMove_65 2 rfl ?_
      refine zk_imulN hc dX7_tryMove_66 ?_
      refine zk_ialdN hc 10 rfl (by omega) (by decide) dX7_tryMove_67 ?_
      refine zk_top (y := nI f) (congrArg nI htf) ?_
      refine zk_aload_n hc dX7_tryMove_68 1 rfl ?_
      refine zk_get hc inlX7 (ci := 7) rfl 0 19 (by decide) mw_4_23 rfl rfl rfl dX7_tryMove_69 ?_
      refine zk_iconst hc (nI 3) dX7_tryMove_72 rfl ?_
      refine zk_iload_n hc dX7_tryMove_73 2 rfl ?_
      refine zk_imulN hc dX7_tryMove_74 ?_
      refine zk_iconst hc (nI 1) dX7_tryMove_75 rfl ?_
      refine zk_iaddN hc dX7_tryMove_76 ?_
      refine zk_ialdN hc 10 rfl (by omega) (by decide) dX7_tryMove_77 ?_
      refine zk_top (y := nI t) (congrArg nI htt) ?_
      refine zk_aload_n hc dX7_tryMove_78 1 rfl ?_
      refine zk_get hc inlX7 (ci := 7) rfl 0 19 (by decide) mw_4_23 rfl rfl rfl dX7_tryMove_79 ?_
      refine zk_iconst hc (nI 3) dX7_tryMove_82 rfl ?_
      refine zk_iload_n hc dX7_tryMove_83 2 rfl ?_
      refine zk_imulN hc dX7_tryMove_84 ?_
      refine zk_iconst hc (nI 2) dX7_tryMove_85 rfl ?_
      refine zk_iaddN hc dX7_tryMove_86 ?_
      refine zk_ialdN hc 10 rfl (by omega) (by decide) dX7_tryMove_87 ?_
      refine zk_top (y := nI n) (congrArg nI htn) ?_
      refine zk_iload_n hc dX7_tryMove_88 0 rfl ?_
      refine zk_callVv hc (rest := []) (ct_X7_carry g l a u pa im tx r_1 rb rk rt he tr be sp pm fl ln n_2 rd bn fk fp rs wk wp bm f t n (mins u f t n) hf ht hne hco.1 hmf (by omega)) gg_X7_110 cd_X7_carry ⟨Nat.le_of_ble_eq_true rfl, Nat.le_of_ble_eq_true rfl⟩ ⟨Nat.le_of_ble_eq_true rfl, Nat.le_of_ble_eq_true rfl⟩ ([]) ([]) rfl 0 rfl rfl rfl (Nat.le_of_ble_eq_true rfl) dX7_tryMove_89 (fun W1 hp => ?_)
      obtain rfl := hp
      refine zk_ws (ws2 := MW g.2.1 a (carU u f t n (mins u f t n)) pa im tx r_1 rb rk rt he tr be sp pm fl ln n_2 rd bn fk fp rs wk wp bm) rfl ?_
      refine zk_iload_n hc dX7_tryMove_92 0 rfl ?_
      refine fin 0 0 _ _ _ _ (by decide) (by decide) dX7_tryMove_93 (?_)
      exact ⟨fun z => by rcases z with z | ⟨z1, z2⟩; exact absurd z hc0; exact absurd hb9 z1, fun _ => ⟨rfl, _, _, rfl⟩⟩
    · refine zk_iload_n hc dX7_tryMove_46 3 rfl ?_
      refine zk_iload_n hc dX7_tryMove_47 0 rfl ?_
      refine zk_iaddN hc dX7_tryMove_48 ?_
      refine zk_aload_n hc dX7_tryMove_49 1 rfl ?_
      refine zk_get hc inlX7 (ci := 7) rfl 0 22 (by decide) mw_23_4 rfl rfl rfl dX7_tryMove_50 ?_
      refine zk_icmp_leN hc 59 dX7_tryMove_53 (by decide) (by omega) (by omega) (fun hgt => ?_) (fun hgt => ?_)
      · refine zk_aload_n hc dX7_tryMove_59 1 rfl ?_
        refine zk_aload_n hc dX7_tryMove_60 1 rfl ?_
        refine zk_get hc inlX7 (ci := 7) rfl 0 19 (by decide) mw_4_23 rfl rfl rfl dX7_tryMove_61 ?_
        refine zk_iconst hc (nI 3) dX7_tryMove_64 rfl ?_
        refine zk_iload_n hc dX7_tryMove_65 2 rfl ?_
        refine zk_imulN hc dX7_tryMove_66 ?_
        refine zk_ialdN hc 10 rfl (by omega) (by decide) dX7_tryMove_67 ?_
        refine zk_top (y := nI f) (congrArg nI htf) ?_
        refine zk_aload_n hc dX7_tryMove_68 1 rfl ?_
        refine zk_get hc inlX7 (ci := 7) rfl 0 19 (by decide) mw_4_23 rfl rfl rfl dX7_tryMove_69 ?_
        refine zk_iconst hc (nI 3) dX7_tryMove_72 rfl ?_
        refine zk_iload_n hc dX7_tryMove_73 2 rfl ?_
        refine zk_imulN hc dX7_tryMove_74 ?_
        refine zk_iconst hc (nI 1) dX7_tryMove_75 rfl ?_
        refine zk_iaddN hc dX7_tryMove_76 ?_
        refine zk_ialdN hc 10 rfl (by omega) (by decide) dX7_tryMove_77 ?_
        refine zk_top (y := nI t) (congrArg nI htt) ?_
        refine zk_aload_n hc dX7_tryMove_78 1 rfl ?_
        refine zk_get hc inlX7 (ci := 7) rfl 0 19 (by decide) mw_4_23 rfl rfl rfl dX7_tryMove_79 ?_
        refine zk_iconst hc (nI 3) dX7_tryMove_82 rfl ?_
        refine zk_iload_n hc dX7_tryMove_83 2 rfl ?_
        refine zk_imulN hc dX7_tryMove_84 ?_
        refine zk_iconst hc (nI 2) dX7_tryMove_85 rfl ?_
        refine zk_iaddN hc dX7_tryMove_86 ?_
        refine zk_ialdN hc 10 rfl (by omega) (by decide) dX7_tryMove_87 ?_
        refine zk_top (y := nI n) (congrArg nI htn) ?_
        refine zk_iload_n hc dX7_tryMove_88 0 rfl ?_
        refine zk_callVv hc (rest := []) (ct_X7_carry g l a u pa im tx r_1 rb rk rt he tr be sp pm fl ln n_2 rd bn fk fp rs wk wp bm f t n (mins u f t n) hf ht hne hco.1 hmf (by omega)) gg_X7_110 cd_X7_carry ⟨Nat.le_of_ble_eq_true rfl, Nat.le_of_ble_eq_true rfl⟩ ⟨Nat.le_of_ble_eq_true rfl, Nat.le_of_ble_eq_true rfl⟩ ([]) ([]) rfl 0 rfl rfl rfl (Nat.le_of_ble_eq_true rfl) dX7_tryMove_89 (fun W1 hp => ?_)
        obtain rfl := hp
        refine zk_ws (ws2 := MW g.2.1 a (carU u f t n (mins u f t n)) pa im tx r_1 rb rk rt he tr be sp pm fl ln n_2 rd bn fk fp rs wk wp bm) rfl ?_
        refine zk_iload_n hc dX7_tryMove_92 0 rfl ?_
        refine fin 0 0 _ _ _ _ (by decide) (by decide) dX7_tryMove_93 (?_)
        exact ⟨fun z => by rcases z with z | ⟨z1, z2⟩; exact absurd z hc0; omega, fun _ => ⟨rfl, _, _, rfl⟩⟩
      · refine zk_bipush hc ((-9)) dX7_tryMove_56 rfl ?_
        refine fin 0 0 _ _ _ _ (by decide) (by decide) dX7_tryMove_58 (?_)
        exact ⟨fun _ => ⟨rfl, _, _, rfl⟩, fun z => absurd (Or.inr ⟨hb9, hgt⟩) z⟩

set_option maxHeartbeats 4000000 in
set_option maxRecDepth 100000 in
theorem ct_X7_next (g : GG) (l : Launch) (a : Nat → Nat) (u pa im tx rw rb rk rt he tr be sp : Nat → Nat) (pm fl ln rm rd bn : Nat) (fk fp rs wk wp bm : Int32) (lv mi f t n : Nat) (hlv : lv < 3) (htf : tr (3 * lv) = f) (htt : tr (3 * lv + 1) = t) (htn : tr (3 * lv + 2) = n) (hf : f < u 4) (h4 : u 4 ≤ 4) (ht : t < u 4) (hn : n ≤ 8) (hmf : mny u f ≤ 8) : CtI g l yX7_next cX7_next 3 (some .boolean) (rmK 2 0 0) (MW g.2.1 a u pa im tx rw rb rk rt he tr be sp pm fl ln rm rd bn fk fp rs wk wp bm) [.ref (a 0), .int (nI lv)] (fun r W1 => ∃ tr2, W1 = MW g.2.1 a u pa im tx rw rb rk rt he tr2 be sp pm fl ln rm rd bn fk fp rs wk wp bm ∧ (∀ j, j < 3 * lv → tr2 j = tr j) ∧ tr2 (3 * lv) = nxF (u 4) (mny u f) f t n ∧ tr2 (3 * lv + 1) = nxT (u 4) (mny u f) t n ∧ tr2 (3 * lv + 2) = nxN (mny u f) n ∧ r = (if nxF (u 4) (mny u f) f t n < u 4 then nI 1 else nI 0)) := by
  refine CtZ.go RX7 rfl (by decide +kernel) (Nat.le_of_ble_eq_true rfl) ?_
  intro p e s m args below meth c A H0 Q hc hnm fin
  show KW g p l e (rmK 2 0 0) s m args below meth c 3 A H0 0 0 Q (MW g.2.1 a u pa im tx rw rb rk rt he tr be sp pm fl ln rm rd bn fk fp rs wk wp bm) [(0, .ref (a 0)), (1, .int (nI lv))] 0 []
  refine zk_iconst hc (nI 3) dX7_next_0 rfl ?_
  refine zk_iload_n hc dX7_next_1 1 rfl ?_
  refine zk_imulN hc dX7_next_2 ?_
  refine zk_istore_n hc (lv2 := [(2, .int (nI (3 * lv))), (0, .ref (a 0)), (1, .int (nI lv))]) dX7_next_3 (by decide) rfl ?_
  refine zk_aload_n hc dX7_next_4 1 rfl ?_
  refine zk_get hc inlX7 (ci := 7) rfl 0 19 (by decide) mw_4_23 rfl rfl rfl dX7_next_5 ?_
  refine zk_iload_n hc dX7_next_8 0 rfl ?_
  refine zk_iconst hc (nI 2) dX7_next_9 rfl ?_
  refine zk_iaddN hc dX7_next_10 ?_
  refine zk_dup2 hc dX7_next_11 rfl rfl ?_
  refine zk_ialdN hc 10 rfl (by omega) (by decide) dX7_next_12 ?_
  refine zk_top (y := nI n) (congrArg nI htn) ?_
  refine zk_iconst hc (nI 1) dX7_next_13 rfl ?_
  refine zk_iaddN hc dX7_next_14 ?_
  refine zk_iastN hc 10 rfl (by omega) (by decide) (ws2 := MW g.2.1 a u pa im tx rw rb rk rt he (va_up tr ((3 * lv) + 2) (n + 1)) be sp pm fl ln rm rd bn fk fp rs wk wp bm) rfl dX7_next_15 ?_
  refine zk_aload_n hc dX7_next_16 1 rfl ?_
  refine zk_get hc inlX7 (ci := 7) rfl 0 19 (by decide) mw_4_23 rfl rfl rfl dX7_next_17 ?_
  refine zk_iload_n hc dX7_next_20 0 rfl ?_
  refine zk_iconst hc (nI 2) dX7_next_21 rfl ?_
  refine zk_iaddN hc dX7_next_22 ?_
  refine zk_ialdN hc 10 rfl (by omega) (by decide) dX7_next_23 ?_
  refine zk_top (y := nI (n + 1)) (congrArg nI (by simp [va_up])) ?_
  refine zk_aload_n hc dX7_next_24 1 rfl ?_
  refine zk_aload_n hc dX7_next_25 1 rfl ?_
  refine zk_get hc inlX7 (ci := 7) rfl 0 19 (by decide) mw_4_23 rfl rfl rfl dX7_next_26 ?_
  refine zk_iload_n hc dX7_next_29 0 rfl ?_
  refine zk_ialdN hc 10 rfl (by omega) (by decide) dX7_next_30 ?_
  refine zk_top (y := nI f) (congrArg nI (by simp [va_up, htf])) ?_
  refine zk_iconst hc (nI 0) dX7_next_31 rfl ?_
  refine zk_callVi hc (rest := [.int (nI (n + 1))]) (ct_X7_of g l a u pa im tx rw rb rk rt he (va_up tr ((3 * lv) + 2) (n + 1)) be sp pm fl ln rm rd bn fk fp rs wk wp bm f 0 (by omega)) gg_X7_63 cd_X7_of ⟨Nat.le_of_ble_eq_true rfl, Nat.le_of_ble_eq_true rfl⟩ ⟨Nat.le_of_ble_eq_true rfl, Nat.le_of_ble_eq_true rfl⟩ ([]) ([]) rfl 0 rfl rfl rfl (Nat.le_of_ble_eq_true rfl) dX7_next_32 (fun r W1 hp => ?_)
  obtain ⟨rfl, rfl⟩ := hp
  refine zk_ws (ws2 := MW g.2.1 a u pa im tx rw rb rk rt he (va_up tr ((3 * lv) + 2) (n + 1)) be sp pm fl ln rm rd bn fk fp rs wk wp bm) rfl ?_
  refine zk_top (y := nI (mny u f)) rfl ?_
  refine zk_icmp_leN hc 59 dX7_next_35 (by decide) (by omega) (by omega) (fun hn1 => ?_) (fun hn1 => ?_)
  · refine zk_aload_n hc dX7_next_59 1 rfl ?_
    refine zk_get hc inlX7 (ci := 7) rfl 0 19 (by decide) mw_4_23 rfl rfl rfl dX7_next_60 ?_
    refine zk_iload_n hc dX7_next_63 0 rfl ?_
    refine zk_iconst hc (nI 1) dX7_next_64 rfl ?_
    refine zk_iaddN hc dX7_next_65 ?_
    refine zk_ialdN hc 10 rfl (by omega) (by decide) dX7_next_66 ?_
    refine zk_top (y := nI t) (congrArg nI (by simp [va_up, htt])) ?_
    refine zk_aload_n hc dX7_next_67 1 rfl ?_
    refine zk_get hc inlX7 (ci := 7) rfl 0 0 (by decide) mw_4_11 rfl rfl rfl dX7_next_68 ?_
    refine zk_iconst hc (nI 4) dX7_next_71 rfl ?_
    refine zk_ialdN hc 1 rfl (by omega) (by decide) dX7_next_72 ?_
    refine zk_icmp_neN hc 95 dX7_next_73 (by decide) (by omega) (by omega) (fun hK => ?_) (fun hK => ?_)
    · refine zk_aload_n hc dX7_next_95 1 rfl ?_
      refine zk_get hc inlX7 (ci := 7) rfl 0 19 (by decide) mw_4_23 rfl rfl rfl dX7_next_96 ?_
      refine zk_iload_n hc dX7_next_99 0 rfl ?_
      refine zk_ialdN hc 10 rfl (by omega) (by decide) dX7_next_100 ?_
      refine zk_top (y := nI f) (congrArg nI (by simp [va_up, htf])) ?_
      refine zk_aload_n hc dX7_next_101 1 rfl ?_
      refine zk_get hc inlX7 (ci := 7) rfl 0 0 (by decide) mw_4_11 rfl rfl rfl dX7_next_102 ?_
      refine zk_iconst hc (nI 4) dX7_next_105 rfl ?_
      refine zk_ialdN hc 1 rfl (by omega) (by decide) dX7_next_106 ?_
      refine zk_icmp_geN hc 114 dX7_next_107 (by decide) (by omega) (by omega) (fun hfK => ?_) (fun hfK => ?_)
      · refine zk_iconst hc (nI 0) dX7_next_114 rfl ?_
        refine fin 0 0 _ _ _ _ (by decide) (by decide) dX7_next_115 rfl (?_)
        have e1 : nxT1 (mny u f) t n = t := if_neg (by omega)
        have e2 : nxN (mny u f) n = n + 1 := if_neg (by omega)
        have e3 : nxF (u 4) (mny u f) f t n = f := if_neg (by rw [e1]; exact hK)
        have e4 : nxT (u 4) (mny u f) t n = t := (if_neg (by rw [e1]; exact hK)).trans e1
        refine ⟨_, rfl, ?_, ?_, ?_, ?_, ?_⟩
        · intro j hj; unfold va_up; repeat rw [if_neg (by omega)]
        · rw [e3]; simp [va_up, htf, htt, htn]
        · rw [e4]; simp [va_up, htf, htt, htn]
        · rw [e2]; simp [va_up, htf, htt, htn]
        · rw [e3, if_neg (by omega)]
      · refine zk_iconst hc (nI 1) dX7_next_110 rfl ?_
        refine zk_goto hc 115 dX7_next_111 (by decide) ?_
        refine fin 0 0 _ _ _ _ (by decide) (by decide) dX7_next_115 rfl (?_)
        have e1 : nxT1 (mny u f) t n = t := if_neg (by omega)
        have e2 : nxN (mny u f) n = n + 1 := if_neg (by omega)
        have e3 : nxF (u 4) (mny u f) f t n = f := if_neg (by rw [e1]; exact hK)
        have e4 : nxT (u 4) (mny u f) t n = t := (if_neg (by rw [e1]; exact hK)).trans e1
        refine ⟨_, rfl, ?_, ?_, ?_, ?_, ?_⟩
        · intro j hj; unfold va_up; repeat rw [if_neg (by omega)]
        · rw [e3]; simp [va_up, htf, htt, htn]
        · rw [e4]; simp [va_up, htf, htt, htn]
        · rw [e2]; simp [va_up, htf, htt, htn]
        · rw [e3, if_pos (by omega)]
    · refine zk_aload_n hc dX7_next_76 1 rfl ?_
      refine zk_get hc inlX7 (ci := 7) rfl 0 19 (by decide) mw_4_23 rfl rfl rfl dX7_next_77 ?_
      refine zk_iload_n hc dX7_next_80 0 rfl ?_
      refine zk_iconst hc (nI 1) dX7_next_81 rfl ?_
      refine zk_iaddN hc dX7_next_82 ?_
      refine zk_iconst hc (nI 0) dX7_next_83 rfl ?_
      refine zk_iastN hc 10 rfl (by omega) (by decide) (ws2 := MW g.2.1 a u pa im tx rw rb rk rt he (va_up (va_up tr ((3 * lv) + 2) (n + 1)) ((3 * lv) + 1) 0) be sp pm fl ln rm rd bn fk fp rs wk wp bm) rfl dX7_next_84 ?_
      refine zk_aload_n hc dX7_next_85 1 rfl ?_
      refine zk_get hc inlX7 (ci := 7) rfl 0 19 (by decide) mw_4_23 rfl rfl rfl dX7_next_86 ?_
      refine zk_iload_n hc dX7_next_89 0 rfl ?_
      refine zk_dup2 hc dX7_next_90 rfl rfl ?_
      refine zk_ialdN hc 10 rfl (by omega) (by decide) dX7_next_91 ?_
      refine zk_top (y := nI f) (congrArg nI (by simp [va_up, htf])) ?_
      refine zk_iconst hc (nI 1) dX7_next_92 rfl ?_
      refine zk_iaddN hc dX7_next_93 ?_
      refine zk_iastN hc 10 rfl (by omega) (by decide) (ws2 := MW g.2.1 a u pa im tx rw rb rk rt he (va_up (va_up (va_up tr ((3 * lv) + 2) (n + 1)) ((3 * lv) + 1) 0) (3 * lv) (f + 1)) be sp pm fl ln rm rd bn fk fp rs wk wp bm) rfl dX7_next_94 ?_
      refine zk_aload_n hc dX7_next_95 1 rfl ?_
      refine zk_get hc inlX7 (ci := 7) rfl 0 19 (by decide) mw_4_23 rfl rfl rfl dX7_next_96 ?_
      refine zk_iload_n hc dX7_next_99 0 rfl ?_
      refine zk_ialdN hc 10 rfl (by omega) (by decide) dX7_next_100 ?_
      refine zk_top (y := nI (f + 1)) (congrArg nI (by simp [va_up, htf])) ?_
      refine zk_aload_n hc dX7_next_101 1 rfl ?_
      refine zk_get hc inlX7 (ci := 7) rfl 0 0 (by decide) mw_4_11 rfl rfl rfl dX7_next_102 ?_
      refine zk_iconst hc (nI 4) dX7_next_105 rfl ?_
      refine zk_ialdN hc 1 rfl (by omega) (by decide) dX7_next_106 ?_
      refine zk_icmp_geN hc 114 dX7_next_107 (by decide) (by omega) (by omega) (fun hfK => ?_) (fun hfK => ?_)
      · refine zk_iconst hc (nI 0) dX7_next_114 rfl ?_
        refine fin 0 0 _ _ _ _ (by decide) (by decide) dX7_next_115 rfl (?_)
        have e1 : nxT1 (mny u f) t n = t := if_neg (by omega)
        have e2 : nxN (mny u f) n = n + 1 := if_neg (by omega)
        have e3 : nxF (u 4) (mny u f) f t n = f + 1 := if_pos (e1.trans hK)
        have e4 : nxT (u 4) (mny u f) t n = 0 := if_pos (e1.trans hK)
        refine ⟨_, rfl, ?_, ?_, ?_, ?_, ?_⟩
        · intro j hj; unfold va_up; repeat rw [if_neg (by omega)]
        · rw [e3]; simp [va_up, htf, htt, htn]
        · rw [e4]; simp [va_up, htf, htt, htn]
        · rw [e2]; simp [va_up, htf, htt, htn]
        · rw [e3, if_neg (by omega)]
      · refine zk_iconst hc (nI 1) dX7_next_110 rfl ?_
        refine zk_goto hc 115 dX7_next_111 (by decide) ?_
        refine fin 0 0 _ _ _ _ (by decide) (by decide) dX7_next_115 rfl (?_)
        have e1 : nxT1 (mny u f) t n = t := if_neg (by omega)
        have e2 : nxN (mny u f) n = n + 1 := if_neg (by omega)
        have e3 : nxF (u 4) (mny u f) f t n = f + 1 := if_pos (e1.trans hK)
        have e4 : nxT (u 4) (mny u f) t n = 0 := if_pos (e1.trans hK)
        refine ⟨_, rfl, ?_, ?_, ?_, ?_, ?_⟩
        · intro j hj; unfold va_up; repeat rw [if_neg (by omega)]
        · rw [e3]; simp [va_up, htf, htt, htn]
        · rw [e4]; simp [va_up, htf, htt, htn]
        · rw [e2]; simp [va_up, htf, htt, htn]
        · rw [e3, if_pos (by omega)]
  · refine zk_aload_n hc dX7_next_38 1 rfl ?_
    refine zk_get hc inlX7 (ci := 7) rfl 0 19 (by decide) mw_4_23 rfl rfl rfl dX7_next_39 ?_
    refine zk_iload_n hc dX7_next_42 0 rfl ?_
    refine zk_iconst hc (nI 2) dX7_next_43 rfl ?_
    refine zk_iaddN hc dX7_next_44 ?_
    refine zk_iconst hc (nI 1) dX7_next_45 rfl ?_
    refine zk_iastN hc 10 rfl (by omega) (by decide) (ws2 := MW g.2.1 a u pa im tx rw rb rk rt he (va_up (va_up tr ((3 * lv) + 2) (n + 1)) ((3 * lv) + 2) 1) be sp pm fl ln rm rd bn fk fp rs wk wp bm) rfl dX7_next_46 ?_
    refine zk_aload_n hc dX7_next_47 1 rfl ?_
    refine zk_get hc inlX7 (ci := 7) rfl 0 19 (by decide) mw_4_23 rfl rfl rfl dX7_next_48 ?_
    refine zk_iload_n hc dX7_next_51 0 rfl ?_
    refine zk_iconst hc (nI 1) dX7_next_52 rfl ?_
    refine zk_iaddN hc dX7_next_53 ?_
    refine zk_dup2 hc dX7_next_54 rfl rfl ?_
    refine zk_ialdN hc 10 rfl (by omega) (by decide) dX7_next_55 ?_
    refine zk_top (y := nI t) (congrArg nI (by simp [va_up, htt])) ?_
    refine zk_iconst hc (nI 1) dX7_next_56 rfl ?_
    refine zk_iaddN hc dX7_next_57 ?_
    refine zk_iastN hc 10 rfl (by omega) (by decide) (ws2 := MW g.2.1 a u pa im tx rw rb rk rt he (va_up (va_up (va_up tr ((3 * lv) + 2) (n + 1)) ((3 * lv) + 2) 1) ((3 * lv) + 1) (t + 1)) be sp pm fl ln rm rd bn fk fp rs wk wp bm) rfl dX7_next_58 ?_
    refine zk_aload_n hc dX7_next_59 1 rfl ?_
    refine zk_get hc inlX7 (ci := 7) rfl 0 19 (by decide) mw_4_23 rfl rfl rfl dX7_next_60 ?_
    refine zk_iload_n hc dX7_next_63 0 rfl ?_
    refine zk_iconst hc (nI 1) dX7_next_64 rfl ?_
    refine zk_iaddN hc dX7_next_65 ?_
    refine zk_ialdN hc 10 rfl (by omega) (by decide) dX7_next_66 ?_
    refine zk_top (y := nI (t + 1)) (congrArg nI (by simp [va_up, htt])) ?_
    refine zk_aload_n hc dX7_next_67 1 rfl ?_
    refine zk_get hc inlX7 (ci := 7) rfl 0 0 (by decide) mw_4_11 rfl rfl rfl dX7_next_68 ?_
    refine zk_iconst hc (nI 4) dX7_next_71 rfl ?_
    refine zk_ialdN hc 1 rfl (by omega) (by decide) dX7_next_72 ?_
    refine zk_icmp_neN hc 95 dX7_next_73 (by decide) (by omega) (by omega) (fun hK => ?_) (fun hK => ?_)
    · refine zk_aload_n hc dX7_next_95 1 rfl ?_
      refine zk_get hc inlX7 (ci := 7) rfl 0 19 (by decide) mw_4_23 rfl rfl rfl dX7_next_96 ?_
      refine zk_iload_n hc dX7_next_99 0 rfl ?_
      refine zk_ialdN hc 10 rfl (by omega) (by decide) dX7_next_100 ?_
      refine zk_top (y := nI f) (congrArg nI (by simp [va_up, htf])) ?_
      refine zk_aload_n hc dX7_next_101 1 rfl ?_
      refine zk_get hc inlX7 (ci := 7) rfl 0 0 (by decide) mw_4_11 rfl rfl rfl dX7_next_102 ?_
      refine zk_iconst hc (nI 4) dX7_next_105 rfl ?_
      refine zk_ialdN hc 1 rfl (by omega) (by decide) dX7_next_106 ?_
      refine zk_icmp_geN hc 114 dX7_next_107 (by decide) (by omega) (by omega) (fun hfK => ?_) (fun hfK => ?_)
      · refine zk_iconst hc (nI 0) dX7_next_114 rfl ?_
        refine fin 0 0 _ _ _ _ (by decide) (by decide) dX7_next_115 rfl (?_)
        have e1 : nxT1 (mny u f) t n = t + 1 := if_pos hn1
        have e2 : nxN (mny u f) n = 1 := if_pos hn1
        have e3 : nxF (u 4) (mny u f) f t n = f := if_neg (by rw [e1]; exact hK)
        have e4 : nxT (u 4) (mny u f) t n = t + 1 := (if_neg (by rw [e1]; exact hK)).trans e1
        refine ⟨_, rfl, ?_, ?_, ?_, ?_, ?_⟩
        · intro j hj; unfold va_up; repeat rw [if_neg (by omega)]
        · rw [e3]; simp [va_up, htf, htt, htn]
        · rw [e4]; simp [va_up, htf, htt, htn]
        · rw [e2]; simp [va_up, htf, htt, htn]
        · rw [e3, if_neg (by omega)]
      · refine zk_iconst hc (nI 1) dX7_next_110 rfl ?_
        refine zk_goto hc 115 dX7_next_111 (by decide) ?_
        refine fin 0 0 _ _ _ _ (by decide) (by decide) dX7_next_115 rfl (?_)
        have e1 : nxT1 (mny u f) t n = t + 1 := if_pos hn1
        have e2 : nxN (mny u f) n = 1 := if_pos hn1
        have e3 : nxF (u 4) (mny u f) f t n = f := if_neg (by rw [e1]; exact hK)
        have e4 : nxT (u 4) (mny u f) t n = t + 1 := (if_neg (by rw [e1]; exact hK)).trans e1
        refine ⟨_, rfl, ?_, ?_, ?_, ?_, ?_⟩
        · intro j hj; unfold va_up; repeat rw [if_neg (by omega)]
        · rw [e3]; simp [va_up, htf, htt, htn]
        · rw [e4]; simp [va_up, htf, htt, htn]
        · rw [e2]; simp [va_up, htf, htt, htn]
        · rw [e3, if_pos (by omega)]
    · refine zk_aload_n hc dX7_next_76 1 rfl ?_
      refine zk_get hc inlX7 (ci := 7) rfl 0 19 (by decide) mw_4_23 rfl rfl rfl dX7_next_77 ?_
      refine zk_iload_n hc dX7_next_80 0 rfl ?_
      refine zk_iconst hc (nI 1) dX7_next_81 rfl ?_
      refine zk_iaddN hc dX7_next_82 ?_
      refine zk_iconst hc (nI 0) dX7_next_83 rfl ?_
      refine zk_iastN hc 10 rfl (by omega) (by decide) (ws2 := MW g.2.1 a u pa im tx rw rb rk rt he (va_up (va_up (va_up (va_up tr ((3 * lv) + 2) (n + 1)) ((3 * lv) + 2) 1) ((3 * lv) + 1) (t + 1)) ((3 * lv) + 1) 0) be sp pm fl ln rm rd bn fk fp rs wk wp bm) rfl dX7_next_84 ?_
      refine zk_aload_n hc dX7_next_85 1 rfl ?_
      refine zk_get hc inlX7 (ci := 7) rfl 0 19 (by decide) mw_4_23 rfl rfl rfl dX7_next_86 ?_
      refine zk_iload_n hc dX7_next_89 0 rfl ?_
      refine zk_dup2 hc dX7_next_90 rfl rfl ?_
      refine zk_ialdN hc 10 rfl (by omega) (by decide) dX7_next_91 ?_
      refine zk_top (y := nI f) (congrArg nI (by simp [va_up, htf])) ?_
      refine zk_iconst hc (nI 1) dX7_next_92 rfl ?_
      refine zk_iaddN hc dX7_next_93 ?_
      refine zk_iastN hc 10 rfl (by omega) (by decide) (ws2 := MW g.2.1 a u pa im tx rw rb rk rt he (va_up (va_up (va_up (va_up (va_up tr ((3 * lv) + 2) (n + 1)) ((3 * lv) + 2) 1) ((3 * lv) + 1) (t + 1)) ((3 * lv) + 1) 0) (3 * lv) (f + 1)) be sp pm fl ln rm rd bn fk fp rs wk wp bm) rfl dX7_next_94 ?_
      refine zk_aload_n hc dX7_next_95 1 rfl ?_
      refine zk_get hc inlX7 (ci := 7) rfl 0 19 (by decide) mw_4_23 rfl rfl rfl dX7_next_96 ?_
      refine zk_iload_n hc dX7_next_99 0 rfl ?_
      refine zk_ialdN hc 10 rfl (by omega) (by decide) dX7_next_100 ?_
      refine zk_top (y := nI (f + 1)) (congrArg nI (by simp [va_up, htf])) ?_
      refine zk_aload_n hc dX7_next_101 1 rfl ?_
      refine zk_get hc inlX7 (ci := 7) rfl 0 0 (by decide) mw_4_11 rfl rfl rfl dX7_next_102 ?_
      refine zk_iconst hc (nI 4) dX7_next_105 rfl ?_
      refine zk_ialdN hc 1 rfl (by omega) (by decide) dX7_next_106 ?_
      refine zk_icmp_geN hc 114 dX7_next_107 (by decide) (by omega) (by omega) (fun hfK => ?_) (fun hfK => ?_)
      · refine zk_iconst hc (nI 0) dX7_next_114 rfl ?_
        refine fin 0 0 _ _ _ _ (by decide) (by decide) dX7_next_115 rfl (?_)
        have e1 : nxT1 (mny u f) t n = t + 1 := if_pos hn1
        have e2 : nxN (mny u f) n = 1 := if_pos hn1
        have e3 : nxF (u 4) (mny u f) f t n = f + 1 := if_pos (e1.trans hK)
        have e4 : nxT (u 4) (mny u f) t n = 0 := if_pos (e1.trans hK)
        refine ⟨_, rfl, ?_, ?_, ?_, ?_, ?_⟩
        · intro j hj; unfold va_up; repeat rw [if_neg (by omega)]
        · rw [e3]; simp [va_up, htf, htt, htn]
        · rw [e4]; simp [va_up, htf, htt, htn]
        · rw [e2]; simp [va_up, htf, htt, htn]
        · rw [e3, if_neg (by omega)]
      · refine zk_iconst hc (nI 1) dX7_next_110 rfl ?_
        refine zk_goto hc 115 dX7_next_111 (by decide) ?_
        refine fin 0 0 _ _ _ _ (by decide) (by decide) dX7_next_115 rfl (?_)
        have e1 : nxT1 (mny u f) t n = t + 1 := if_pos hn1
        have e2 : nxN (mny u f) n = 1 := if_pos hn1
        have e3 : nxF (u 4) (mny u f) f t n = f + 1 := if_pos (e1.trans hK)
        have e4 : nxT (u 4) (mny u f) t n = 0 := if_pos (e1.trans hK)
        refine ⟨_, rfl, ?_, ?_, ?_, ?_, ?_⟩
        · intro j hj; unfold va_up; repeat rw [if_neg (by omega)]
        · rw [e3]; simp [va_up, htf, htt, htn]
        · rw [e4]; simp [va_up, htf, htt, htn]
        · rw [e2]; simp [va_up, htf, htt, htn]
        · rw [e3, if_pos (by omega)]

set_option maxHeartbeats 4000000 in
set_option maxRecDepth 100000 in
theorem ct_X7_enter (g : GG) (l : Launch) (a : Nat → Nat) (u pa im tx rw rb rk rt he tr be sp : Nat → Nat) (pm fl ln rm rd bn : Nat) (fk fp rs wk wp bm : Int32) (lv : Nat) (hlv : lv < 3) : CtV g l yX7_enter cX7_enter 2 (rmK 2 0 0) (MW g.2.1 a u pa im tx rw rb rk rt he tr be sp pm fl ln rm rd bn fk fp rs wk wp bm) [.ref (a 0), .int (nI lv)] (fun W1 => W1 = MW g.2.1 a u pa im tx rw rb rk rt (va_cpy u he 0 (131 * lv) 131) (va_up (va_up (va_up tr (3 * lv) 0) (3 * lv + 1) 0) (3 * lv + 2) 0) be sp pm fl ln rm rd bn fk fp rs wk wp bm) := by
  refine CtV.go RX7 rfl (by decide +kernel) (Nat.le_of_ble_eq_true rfl) ?_
  intro p e s m args below meth c A H0 Q hc hnm fin
  show KW g p l e (rmK 2 0 0) s m args below meth c 2 A H0 0 0 Q (MW g.2.1 a u pa im tx rw rb rk rt he tr be sp pm fl ln rm rd bn fk fp rs wk wp bm) [(0, .ref (a 0)), (1, .int (nI lv))] 0 []
  refine zk_aload_n hc dX7_enter_0 0 rfl ?_
  refine zk_get hc inlX7 (ci := 7) rfl 0 19 (by decide) mw_4_23 rfl rfl rfl dX7_enter_1 ?_
  refine zk_iconst hc (nI 3) dX7_enter_4 rfl ?_
  refine zk_iload_n hc dX7_enter_5 1 rfl ?_
  refine zk_imulN hc dX7_enter_6 ?_
  refine zk_iconst hc (nI 0) dX7_enter_7 rfl ?_
  refine zk_iastN hc 10 rfl (by omega) (by decide) (ws2 := MW g.2.1 a u pa im tx rw rb rk rt he (va_up tr (3 * lv) 0) be sp pm fl ln rm rd bn fk fp rs wk wp bm) rfl dX7_enter_8 ?_
  refine zk_aload_n hc dX7_enter_9 0 rfl ?_
  refine zk_get hc inlX7 (ci := 7) rfl 0 19 (by decide) mw_4_23 rfl rfl rfl dX7_enter_10 ?_
  refine zk_iconst hc (nI 3) dX7_enter_13 rfl ?_
  refine zk_iload_n hc dX7_enter_14 1 rfl ?_
  refine zk_imulN hc dX7_enter_15 ?_
  refine zk_iconst hc (nI 1) dX7_enter_16 rfl ?_
  refine zk_iaddN hc dX7_enter_17 ?_
  refine zk_iconst hc (nI 0) dX7_enter_18 rfl ?_
  refine zk_iastN hc 10 rfl (by omega) (by decide) (ws2 := MW g.2.1 a u pa im tx rw rb rk rt he (va_up (va_up tr (3 * lv) 0) ((3 * lv) + 1) 0) be sp pm fl ln rm rd bn fk fp rs wk wp bm) rfl dX7_enter_19 ?_
  refine zk_aload_n hc dX7_enter_20 0 rfl ?_
  refine zk_get hc inlX7 (ci := 7) rfl 0 19 (by decide) mw_4_23 rfl rfl rfl dX7_enter_21 ?_
  refine zk_iconst hc (nI 3) dX7_enter_24 rfl ?_
  refine zk_iload_n hc dX7_enter_25 1 rfl ?_
  refine zk_imulN hc dX7_enter_26 ?_
  refine zk_iconst hc (nI 2) dX7_enter_27 rfl ?_
  refine zk_iaddN hc dX7_enter_28 ?_
  refine zk_iconst hc (nI 0) dX7_enter_29 rfl ?_
  refine zk_iastN hc 10 rfl (by omega) (by decide) (ws2 := MW g.2.1 a u pa im tx rw rb rk rt he (va_up (va_up (va_up tr (3 * lv) 0) ((3 * lv) + 1) 0) ((3 * lv) + 2) 0) be sp pm fl ln rm rd bn fk fp rs wk wp bm) rfl dX7_enter_30 ?_
  refine zk_aload_n hc dX7_enter_31 0 rfl ?_
  refine zk_iload_n hc dX7_enter_32 1 rfl ?_
  refine zk_callVv hc (rest := []) (ct_X7_hold g l a u pa im tx rw rb rk rt he (va_up (va_up (va_up tr (3 * lv) 0) ((3 * lv) + 1) 0) ((3 * lv) + 2) 0) be sp pm fl ln rm rd bn fk fp rs wk wp bm lv (by omega)) gg_X7_166 cd_X7_hold ⟨Nat.le_of_ble_eq_true rfl, Nat.le_of_ble_eq_true rfl⟩ ⟨Nat.le_of_ble_eq_true rfl, Nat.le_of_ble_eq_true rfl⟩ ([]) ([]) rfl 0 rfl rfl rfl (Nat.le_of_ble_eq_true rfl) dX7_enter_33 (fun W1 hp => ?_)
  obtain rfl := hp
  refine zk_ws (ws2 := MW g.2.1 a u pa im tx rw rb rk rt (va_cpy u he 0 (131 * lv) 131) (va_up (va_up (va_up tr (3 * lv) 0) ((3 * lv) + 1) 0) ((3 * lv) + 2) 0) be sp pm fl ln rm rd bn fk fp rs wk wp bm) rfl ?_
  exact fin 0 0 _ _ _ (by decide) (by decide) dX7_enter_36 (rfl)

set_option maxHeartbeats 4000000 in
set_option maxRecDepth 100000 in
theorem ct_X7_isWorthIt (g : GG) (l : Launch) (a : Nat → Nat) (u pa im tx rw rb rk rt he tr be sp : Nat → Nat) (pm fl ln rm rd bn : Nat) (fk fp rs wk wp bm : Int32) (k : Nat) (hk4 : k ≤ 4) (hK4 : u 4 ≤ 4) (hm : ∀ t, t < 4 → mny u t ≤ 8) (hd : ∀ t j, t < 4 → j < 8 → dst u t j < 6) (h13 : u 13 < 6) (h12b : u 12 ≤ 10) : CtI g l yX7_isWorthIt cX7_isWorthIt 2 (some .boolean) (rmK 5 0 0) (MW g.2.1 a u pa im tx rw rb rk rt he tr be sp pm fl ln rm rd bn fk fp rs wk wp bm) [.ref (a 0), .int (nI k)] (fun r W1 => r = (if (0 < k ∧ spr u (u 4) - 1 ≤ k ∧ muf u = -9) then nI 1 else nI 0) ∧ W1 = MW g.2.1 a u pa im tx rw rb rk rt he tr be sp pm fl ln rm rd bn fk fp rs wk wp bm) := by
  refine CtZ.go RX7 rfl (by decide +kernel) (Nat.le_of_ble_eq_true rfl) ?_
  intro p e s m args below meth c A H0 Q hc hnm fin
  show KW g p l e (rmK 5 0 0) s m args below meth c 2 A H0 0 0 Q (MW g.2.1 a u pa im tx rw rb rk rt he tr be sp pm fl ln rm rd bn fk fp rs wk wp bm) [(0, .ref (a 0)), (1, .int (nI k))] 0 []
  refine zk_iload_n hc dX7_isWorthIt_0 1 rfl ?_
  refine zk_if_leN hc 27 dX7_isWorthIt_1 (by decide) (by omega) (fun hk0 => ?_) (fun hk0 => ?_)
  · refine zk_iconst hc (nI 0) dX7_isWorthIt_27 rfl ?_
    refine fin 0 0 _ _ _ _ (by decide) (by decide) dX7_isWorthIt_28 rfl (?_)
    exact ⟨by rw [if_neg (by omega)], rfl⟩
  · refine zk_aload_n hc dX7_isWorthIt_4 0 rfl ?_
    refine zk_callVi hc (rest := []) (ct_X7_spread g l a u pa im tx rw rb rk rt he tr be sp pm fl ln rm rd bn fk fp rs wk wp bm hK4 hm hd h13) gg_X7_169 cd_X7_spread ⟨Nat.le_of_ble_eq_true rfl, Nat.le_of_ble_eq_true rfl⟩ ⟨Nat.le_of_ble_eq_true rfl, Nat.le_of_ble_eq_true rfl⟩ ([]) ([]) rfl 0 rfl rfl rfl (Nat.le_of_ble_eq_true rfl) dX7_isWorthIt_5 (fun r W1 hp => ?_)
    obtain ⟨rfl, rfl⟩ := hp
    refine zk_ws (ws2 := MW g.2.1 a u pa im tx rw rb rk rt he tr be sp pm fl ln rm rd bn fk fp rs wk wp bm) rfl ?_
    refine zk_iconst hc (nI 1) dX7_isWorthIt_8 rfl ?_
    refine zk_isub hc dX7_isWorthIt_9 ?_
    refine zk_iload_n hc dX7_isWorthIt_10 1 rfl ?_
    refine zk_icmp_gt hc 27 dX7_isWorthIt_11 (by decide) (fun hg => ?_) (fun hg => ?_)
    · refine zk_iconst hc (nI 0) dX7_isWorthIt_27 rfl ?_
      refine fin 0 0 _ _ _ _ (by decide) (by decide) dX7_isWorthIt_28 rfl (?_)
      exact ⟨by rw [if_neg (fun z => absurd z.2.1 (by have := (spr_gt (by have := spr_le u (u 4); omega) hk4).mp hg; omega))], rfl⟩
    · refine zk_aload_n hc dX7_isWorthIt_14 0 rfl ?_
      refine zk_callVi hc (rest := []) (ct_X7_madeUp g l a u pa im tx rw rb rk rt he tr be sp pm fl ln rm rd bn fk fp rs wk wp bm hK4 hm hd h13 h12b) gg_X7_163 cd_X7_madeUp ⟨Nat.le_of_ble_eq_true rfl, Nat.le_of_ble_eq_true rfl⟩ ⟨Nat.le_of_ble_eq_true rfl, Nat.le_of_ble_eq_true rfl⟩ ([]) ([]) rfl 0 rfl rfl rfl (Nat.le_of_ble_eq_true rfl) dX7_isWorthIt_15 (fun r W1 hp => ?_)
      obtain ⟨rfl, rfl⟩ := hp
      refine zk_ws (ws2 := MW g.2.1 a u pa im tx rw rb rk rt he tr be sp pm fl ln rm rd bn fk fp rs wk wp bm) rfl ?_
      refine zk_bipush hc ((-9)) dX7_isWorthIt_18 rfl ?_
      refine zk_icmp_ne hc 27 dX7_isWorthIt_20 (by decide) (fun hmd => ?_) (fun hmd => ?_)
      · refine zk_iconst hc (nI 0) dX7_isWorthIt_27 rfl ?_
        refine fin 0 0 _ _ _ _ (by decide) (by decide) dX7_isWorthIt_28 rfl (?_)
        exact ⟨by rw [if_neg (fun z => hmd z.2.2)], rfl⟩
      · refine zk_iconst hc (nI 1) dX7_isWorthIt_23 rfl ?_
        refine zk_goto hc 28 dX7_isWorthIt_24 (by decide) ?_
        refine fin 0 0 _ _ _ _ (by decide) (by decide) dX7_isWorthIt_28 rfl (?_)
        exact ⟨by rw [if_pos ⟨hk0, Nat.not_lt.mp (fun z => hg ((spr_gt (by have := spr_le u (u 4); omega) hk4).mpr z)), hmd⟩], rfl⟩
