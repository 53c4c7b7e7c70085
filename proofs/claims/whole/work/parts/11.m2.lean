set_option maxHeartbeats 4000000 in
set_option maxRecDepth 100000 in
theorem ct_X7_beginRow (g : GG) (l : Launch) (a : Nat → Nat) (u pa im tx rw rb rk rt he tr be sp : Nat → Nat) (pm fl ln rm rd bn : Nat) (fk fp rs wk wp bm : Int32) (t n : Nat) (ht : t < 4) (hn : n ≤ 8) : CtV g l yX7_beginRow cX7_beginRow 4 (rmK 3 0 0) (MW g.2.1 a u pa im tx rw rb rk rt he tr be sp pm fl ln rm rd bn fk fp rs wk wp bm) [.ref (a 0), .int (nI t), .int (nI n)] (fun W1 => ∃ r, W1 = MW g.2.1 a u pa im tx r rb rk rt he tr be sp pm fl ln n rd bn fk fp rs wk wp bm ∧ rowL r n = kds u t n) := by
  refine CtV.go RX7 rfl (by decide +kernel) (Nat.le_of_ble_eq_true rfl) ?_
  intro p e s m args below meth c A H0 Q hc hnm fin
  show KW g p l e (rmK 3 0 0) s m args below meth c 4 A H0 0 0 Q (MW g.2.1 a u pa im tx rw rb rk rt he tr be sp pm fl ln rm rd bn fk fp rs wk wp bm) [(0, .ref (a 0)), (1, .int (nI t)), (2, .int (nI n))] 0 []
  refine zk_aload_n hc dX7_beginRow_0 0 rfl ?_
  refine zk_iconst hc (nI 0) dX7_beginRow_1 rfl ?_
  refine zk_put hc inlX7 (ci := 7) rfl tyX7 tyX7_ok nmX7 0 11 (by decide) mw_12_12 rfl rfl rfl rfl rfl (Nat.le_of_ble_eq_true rfl) (ws2 := MW g.2.1 a u pa im tx rw rb rk rt he tr be sp pm fl ln 0 rd bn fk fp rs wk wp bm) rfl dX7_beginRow_2 ?_
  refine zk_iconst hc (nI 0) dX7_beginRow_5 rfl ?_
  refine zk_istore_n hc (lv2 := [(3, .int (nI 0)), (0, .ref (a 0)), (1, .int (nI t)), (2, .int (nI n))]) dX7_beginRow_6 (by decide) rfl ?_
  have loop7 : ∀ (N : Nat) (q : Nat) (r : Nat → Nat), n - q < N → (q ≤ n) → (rowL r q = kds u t q) → KW g p l e (rmK 3 0 0) s m args below meth c 4 A H0 0 0 Q (MW g.2.1 a u pa im tx r rb rk rt he tr be sp pm fl ln q rd bn fk fp rs wk wp bm) [(0, .ref (a 0)), (1, .int (nI t)), (2, .int (nI n)), (3, .int (nI q))] 7 [] := by
    intro N
    induction N with
    | zero => intro q r hm; exact absurd hm (Nat.not_lt_zero _)
    | succ N ih7 =>
      intro q r hm7 hq hr
      refine zk_iload_n hc dX7_beginRow_7 3 rfl ?_
      refine zk_iload_n hc dX7_beginRow_8 2 rfl ?_
      refine zk_icmp_geN hc 28 dX7_beginRow_9 (by decide) (by omega) (by omega) (fun h_1 => ?_) (fun h_1 => ?_)
      · refine fin 0 0 _ _ _ (by decide) (by decide) dX7_beginRow_28 (?_)
        have eq : q = n := by omega
        subst eq
        exact ⟨r, rfl, hr⟩
      · refine zk_aload_n hc dX7_beginRow_12 0 rfl ?_
        refine zk_aload_n hc dX7_beginRow_13 0 rfl ?_
        refine zk_iload_n hc dX7_beginRow_14 1 rfl ?_
        refine zk_iload_n hc dX7_beginRow_15 3 rfl ?_
        refine zk_callVi hc (rest := [.ref (a 0)]) (ct_X7_kindAt g l a u pa im tx r rb rk rt he tr be sp pm fl ln q rd bn fk fp rs wk wp bm t q (by omega)) gg_X7_70 cd_X7_kindAt ⟨Nat.le_of_ble_eq_true rfl, Nat.le_of_ble_eq_true rfl⟩ ⟨Nat.le_of_ble_eq_true rfl, Nat.le_of_ble_eq_true rfl⟩ ([]) ([]) rfl 0 rfl rfl rfl (Nat.le_of_ble_eq_true rfl) dX7_beginRow_16 (fun r W1 hp => ?_)
        obtain ⟨rfl, rfl⟩ := hp
        refine zk_ws (ws2 := MW g.2.1 a u pa im tx r rb rk rt he tr be sp pm fl ln q rd bn fk fp rs wk wp bm) rfl ?_
        refine zk_callVv hc (rest := []) (ct_X7_appendKind g l a u pa im tx r rb rk rt he tr be sp pm fl ln q rd bn fk fp rs wk wp bm (knd u t q) (by omega)) gg_X7_73 cd_X7_appendKind ⟨Nat.le_of_ble_eq_true rfl, Nat.le_of_ble_eq_true rfl⟩ ⟨Nat.le_of_ble_eq_true rfl, Nat.le_of_ble_eq_true rfl⟩ ([]) ([]) rfl 0 rfl rfl rfl (Nat.le_of_ble_eq_true rfl) dX7_beginRow_19 (fun W1 hp => ?_)
        obtain rfl := hp
        refine zk_ws (ws2 := MW g.2.1 a u pa im tx (va_up r q (knd u t q)) rb rk rt he tr be sp pm fl ln (q + 1) rd bn fk fp rs wk wp bm) rfl ?_
        refine zk_iinc hc (v := nI (q + 1)) (lv2 := [(3, .int (nI (q + 1))), (0, .ref (a 0)), (1, .int (nI t)), (2, .int (nI n))]) dX7_beginRow_22 3 rfl (nq_inc rfl) (by decide) rfl ?_
        refine zk_goto hc 7 dX7_beginRow_25 (by decide) ?_
        refine zk_lv [1, 2, 3, 0] (lv2 := [(0, .ref (a 0)), (1, .int (nI t)), (2, .int (nI n)), (3, .int (nI (q + 1)))]) rfl ?_
        exact ih7 (q + 1) (va_up r q (knd u t q)) (by omega) (by omega) (by rw [rowL_up, kds_succ, hr])
  refine zk_lv [1, 2, 3, 0] (lv2 := [(0, .ref (a 0)), (1, .int (nI t)), (2, .int (nI n)), (3, .int (nI 0))]) rfl ?_
  exact loop7 ((n - 0) + 1) 0 rw (Nat.lt_succ_self _) (Nat.zero_le _) rfl

set_option maxHeartbeats 4000000 in
set_option maxRecDepth 100000 in
theorem ct_X7_leastGap (g : GG) (l : Launch) (a : Nat → Nat) (u pa im tx rw rb rk rt he tr be sp : Nat → Nat) (pm fl ln rm rd bn : Nat) (fk fp rs wk wp bm : Int32) (hm : rm ≤ 24) (hk : ∀ j, j < rm → rw j < 3) : CtI g l yX7_leastGap cX7_leastGap 5 (some .int) (rmK 2 0 0) (MW g.2.1 a u pa im tx rw rb rk rt he tr be sp pm fl ln rm rd bn fk fp rs wk wp bm) [.ref (a 0)] (fun r W1 => r = encG (gap (rowL rw rm)) ∧ W1 = MW g.2.1 a u pa im tx rw rb rk rt he tr be sp pm fl ln rm rd bn fk fp rs wk wp bm) := by
  refine CtI.go RX7 rfl (by decide +kernel) (Nat.le_of_ble_eq_true rfl) ?_
  intro p e s m args below meth c A H0 Q hc hnm fin
  show KW g p l e (rmK 2 0 0) s m args below meth c 5 A H0 0 0 Q (MW g.2.1 a u pa im tx rw rb rk rt he tr be sp pm fl ln rm rd bn fk fp rs wk wp bm) [(0, .ref (a 0))] 0 []
  refine zk_bipush hc ((-9)) dX7_leastGap_0 rfl ?_
  refine zk_istore_n hc (lv2 := [(1, .int (-9)), (0, .ref (a 0))]) dX7_leastGap_2 (by decide) rfl ?_
  refine zk_bipush hc ((-9)) dX7_leastGap_3 rfl ?_
  refine zk_istore_n hc (lv2 := [(2, .int (-9)), (1, .int (-9)), (0, .ref (a 0))]) dX7_leastGap_5 (by decide) rfl ?_
  refine zk_iconst hc (nI 0) dX7_leastGap_6 rfl ?_
  refine zk_istore_n hc (lv2 := [(3, .int (nI 0)), (2, .int (-9)), (1, .int (-9)), (0, .ref (a 0))]) dX7_leastGap_7 (by decide) rfl ?_
  have loop8 : ∀ (N : Nat) (q : Nat) (le : Int32) (la : Int32), rm - q < N → (q ≤ rm) → (lgE (gfold (rowL rw q)).1 le) → (lgA rw q (gfold (rowL rw q)) la) → KW g p l e (rmK 2 0 0) s m args below meth c 5 A H0 0 0 Q (MW g.2.1 a u pa im tx rw rb rk rt he tr be sp pm fl ln rm rd bn fk fp rs wk wp bm) [(0, .ref (a 0)), (1, .int le), (2, .int la), (3, .int (nI q))] 8 [] := by
    intro N
    induction N with
    | zero => intro q le la hm; exact absurd hm (Nat.not_lt_zero _)
    | succ N ih8 =>
      intro q le la hm8 hq hle hla
      refine zk_iload_n hc dX7_leastGap_8 3 rfl ?_
      refine zk_aload_n hc dX7_leastGap_9 0 rfl ?_
      refine zk_get hc inlX7 (ci := 7) rfl 0 11 (by decide) mw_12_12 rfl rfl rfl dX7_leastGap_10 ?_
      refine zk_icmp_geN hc 80 dX7_leastGap_13 (by decide) (by omega) (by omega) (fun h_1 => ?_) (fun h_1 => ?_)
      · refine zk_iload_n hc dX7_leastGap_80 1 rfl ?_
        refine fin 0 0 _ _ _ _ (by decide) (by decide) dX7_leastGap_81 (?_)
        have eq : q = rm := by omega
        subst eq
        exact ⟨lg_end hle, rfl⟩
      · refine zk_aload_n hc dX7_leastGap_16 0 rfl ?_
        refine zk_get hc inlX7 (ci := 7) rfl 0 10 (by decide) mw_4_18 rfl rfl rfl dX7_leastGap_17 ?_
        refine zk_iload_n hc dX7_leastGap_20 3 rfl ?_
        refine zk_ialdN hc 5 rfl (by omega) (by decide) dX7_leastGap_21 ?_
        refine zk_if_eqN hc 74 dX7_leastGap_22 (by decide) (by have := hk q (by omega); omega) (fun hz => ?_) (fun hz => ?_)
        · refine zk_iinc hc (v := nI (q + 1)) (lv2 := [(3, .int (nI (q + 1))), (0, .ref (a 0)), (1, .int le), (2, .int la)]) dX7_leastGap_74 3 rfl (nq_inc rfl) (by decide) rfl ?_
          refine zk_goto hc 8 dX7_leastGap_77 (by decide) ?_
          refine zk_lv [1, 2, 3, 0] (lv2 := [(0, .ref (a 0)), (1, .int le), (2, .int la), (3, .int (nI (q + 1)))]) rfl ?_
          exact ih8 (q + 1) le la (by omega) (by omega) (by rw [rowL_succ, gfold_app]; exact lg_b0 hz hle) (by rw [rowL_succ, gfold_app]; exact lg_c0 hz hla)
        · refine zk_iload_n hc dX7_leastGap_25 2 rfl ?_
          refine zk_bipush hc ((-9)) dX7_leastGap_26 rfl ?_
          refine zk_icmp_eq hc 72 dX7_leastGap_28 (by decide) (fun hl0 => ?_) (fun hl0 => ?_)
          · refine zk_iload_n hc dX7_leastGap_72 3 rfl ?_
            refine zk_istore_n hc (lv2 := [(2, .int (nI q)), (0, .ref (a 0)), (1, .int le), (3, .int (nI q))]) dX7_leastGap_73 (by decide) rfl ?_
            refine zk_iinc hc (v := nI (q + 1)) (lv2 := [(3, .int (nI (q + 1))), (2, .int (nI q)), (0, .ref (a 0)), (1, .int le)]) dX7_leastGap_74 3 rfl (nq_inc rfl) (by decide) rfl ?_
            refine zk_goto hc 8 dX7_leastGap_77 (by decide) ?_
            refine zk_lv [2, 3, 1, 0] (lv2 := [(0, .ref (a 0)), (1, .int le), (2, .int (nI q)), (3, .int (nI (q + 1)))]) rfl ?_
            exact ih8 (q + 1) le (nI q) (by omega) (by omega) (by rw [rowL_succ, gfold_app]; exact lg_bA hz (Or.inl (lg_z hla hl0 (by omega))) hle) (by rw [rowL_succ, gfold_app]; exact lg_c1 hz)
          · obtain ⟨j, hj, rfl, hj1, hj2, hj3⟩ := lg_some hla hl0
            refine zk_aload_n hc dX7_leastGap_31 0 rfl ?_
            refine zk_get hc inlX7 (ci := 7) rfl 0 10 (by decide) mw_4_18 rfl rfl rfl dX7_leastGap_32 ?_
            refine zk_iload_n hc dX7_leastGap_35 2 rfl ?_
            refine zk_ialdN hc 5 rfl (by omega) (by decide) dX7_leastGap_36 ?_
            refine zk_aload_n hc dX7_leastGap_37 0 rfl ?_
            refine zk_get hc inlX7 (ci := 7) rfl 0 10 (by decide) mw_4_18 rfl rfl rfl dX7_leastGap_38 ?_
            refine zk_iload_n hc dX7_leastGap_41 3 rfl ?_
            refine zk_ialdN hc 5 rfl (by omega) (by decide) dX7_leastGap_42 ?_
            refine zk_icmp_eqN hc 72 dX7_leastGap_43 (by decide) (by have := hk q (by omega); have := hk j (by omega); omega) (by have := hk q (by omega); have := hk j (by omega); omega) (fun hne => ?_) (fun hne => ?_)
            · refine zk_iload_n hc dX7_leastGap_72 3 rfl ?_
              refine zk_istore_n hc (lv2 := [(2, .int (nI q)), (0, .ref (a 0)), (1, .int le), (3, .int (nI q))]) dX7_leastGap_73 (by decide) rfl ?_
              refine zk_iinc hc (v := nI (q + 1)) (lv2 := [(3, .int (nI (q + 1))), (2, .int (nI q)), (0, .ref (a 0)), (1, .int le)]) dX7_leastGap_74 3 rfl (nq_inc rfl) (by decide) rfl ?_
              refine zk_goto hc 8 dX7_leastGap_77 (by decide) ?_
              refine zk_lv [2, 3, 1, 0] (lv2 := [(0, .ref (a 0)), (1, .int le), (2, .int (nI q)), (3, .int (nI (q + 1)))]) rfl ?_
              exact ih8 (q + 1) le (nI q) (by omega) (by omega) (by rw [rowL_succ, gfold_app]; exact lg_bA hz (Or.inr (hj1.symm.trans hne)) hle) (by rw [rowL_succ, gfold_app]; exact lg_c1 hz)
            · refine zk_iload_n hc dX7_leastGap_46 3 rfl ?_
              refine zk_iload_n hc dX7_leastGap_47 2 rfl ?_
              refine zk_isubN hc dX7_leastGap_48 (by omega) ?_
              refine zk_iconst hc (nI 1) dX7_leastGap_49 rfl ?_
              refine zk_isubN hc dX7_leastGap_50 (by omega) ?_
              refine zk_istore hc (lv2 := [(4, .int (nI ((q - j) - 1))), (0, .ref (a 0)), (1, .int le), (2, .int (nI j)), (3, .int (nI q))]) dX7_leastGap_51 (by decide) rfl ?_
              refine zk_iload_n hc dX7_leastGap_53 2 rfl ?_
              refine zk_bipush hc ((-9)) dX7_leastGap_54 rfl ?_
              refine zk_icmp_eq hc 65 dX7_leastGap_56 (by decide) (fun hl9 => ?_) (fun hl9 => ?_)
              · refine zk_iload hc dX7_leastGap_65 0 rfl ?_
                refine zk_goto hc 71 dX7_leastGap_67 (by decide) ?_
                refine zk_istore_n hc (lv2 := [(1, .int (nI ((q - j) - 1))), (4, .int (nI ((q - j) - 1))), (0, .ref (a 0)), (2, .int (nI j)), (3, .int (nI q))]) dX7_leastGap_71 (by decide) rfl ?_
                refine zk_iload_n hc dX7_leastGap_72 4 rfl ?_
                refine zk_istore_n hc (lv2 := [(2, .int (nI q)), (1, .int (nI ((q - j) - 1))), (4, .int (nI ((q - j) - 1))), (0, .ref (a 0)), (3, .int (nI q))]) dX7_leastGap_73 (by decide) rfl ?_
                refine zk_iinc hc (v := nI (q + 1)) (lv2 := [(3, .int (nI (q + 1))), (2, .int (nI q)), (1, .int (nI ((q - j) - 1))), (4, .int (nI ((q - j) - 1))), (0, .ref (a 0))]) dX7_leastGap_74 4 rfl (nq_inc rfl) (by decide) rfl ?_
                refine zk_goto hc 8 dX7_leastGap_77 (by decide) ?_
                refine zk_lv [4, 2, 1, 0] (lv2 := [(0, .ref (a 0)), (1, .int (nI ((q - j) - 1))), (2, .int (nI q)), (3, .int (nI (q + 1)))]) rfl ?_
                exact ih8 (q + 1) (nI ((q - j) - 1)) (nI q) (by omega) (by omega) (by rw [rowL_succ, gfold_app]; exact lg_bB hz hj2 (by omega) (by have := lg_99 hle hl9; have e : Nat.min (gfold (rowL rw q)).1 (gfold (rowL rw q)).2.2 = min (gfold (rowL rw q)).1 (gfold (rowL rw q)).2.2 := rfl; omega) (by omega)) (by rw [rowL_succ, gfold_app]; exact lg_c1 hz)
              · obtain ⟨h99, rfl⟩ := lg_lt hle hl9
                refine zk_iload hc dX7_leastGap_59 0 rfl ?_
                refine zk_iload_n hc dX7_leastGap_61 2 rfl ?_
                refine zk_icmp_geN hc 70 dX7_leastGap_62 (by decide) (by omega) (by omega) (fun hlt => ?_) (fun hlt => ?_)
                · refine zk_iload_n hc dX7_leastGap_70 2 rfl ?_
                  refine zk_istore_n hc (lv2 := [(1, .int (nI ((gfold (rowL rw q)).1))), (4, .int (nI ((q - j) - 1))), (0, .ref (a 0)), (2, .int (nI j)), (3, .int (nI q))]) dX7_leastGap_71 (by decide) rfl ?_
                  refine zk_iload_n hc dX7_leastGap_72 4 rfl ?_
                  refine zk_istore_n hc (lv2 := [(2, .int (nI q)), (1, .int (nI ((gfold (rowL rw q)).1))), (4, .int (nI ((q - j) - 1))), (0, .ref (a 0)), (3, .int (nI q))]) dX7_leastGap_73 (by decide) rfl ?_
                  refine zk_iinc hc (v := nI (q + 1)) (lv2 := [(3, .int (nI (q + 1))), (2, .int (nI q)), (1, .int (nI ((gfold (rowL rw q)).1))), (4, .int (nI ((q - j) - 1))), (0, .ref (a 0))]) dX7_leastGap_74 4 rfl (nq_inc rfl) (by decide) rfl ?_
                  refine zk_goto hc 8 dX7_leastGap_77 (by decide) ?_
                  refine zk_lv [4, 2, 1, 0] (lv2 := [(0, .ref (a 0)), (1, .int (nI ((gfold (rowL rw q)).1))), (2, .int (nI q)), (3, .int (nI (q + 1)))]) rfl ?_
                  exact ih8 (q + 1) (nI ((gfold (rowL rw q)).1)) (nI q) (by omega) (by omega) (by rw [rowL_succ, gfold_app]; exact lg_bB hz hj2 (by omega) (by have e : Nat.min (gfold (rowL rw q)).1 (gfold (rowL rw q)).2.2 = min (gfold (rowL rw q)).1 (gfold (rowL rw q)).2.2 := rfl; omega) h99) (by rw [rowL_succ, gfold_app]; exact lg_c1 hz)
                · refine zk_iload hc dX7_leastGap_65 0 rfl ?_
                  refine zk_goto hc 71 dX7_leastGap_67 (by decide) ?_
                  refine zk_istore_n hc (lv2 := [(1, .int (nI ((q - j) - 1))), (4, .int (nI ((q - j) - 1))), (0, .ref (a 0)), (2, .int (nI j)), (3, .int (nI q))]) dX7_leastGap_71 (by decide) rfl ?_
                  refine zk_iload_n hc dX7_leastGap_72 4 rfl ?_
                  refine zk_istore_n hc (lv2 := [(2, .int (nI q)), (1, .int (nI ((q - j) - 1))), (4, .int (nI ((q - j) - 1))), (0, .ref (a 0)), (3, .int (nI q))]) dX7_leastGap_73 (by decide) rfl ?_
                  refine zk_iinc hc (v := nI (q + 1)) (lv2 := [(3, .int (nI (q + 1))), (2, .int (nI q)), (1, .int (nI ((q - j) - 1))), (4, .int (nI ((q - j) - 1))), (0, .ref (a 0))]) dX7_leastGap_74 4 rfl (nq_inc rfl) (by decide) rfl ?_
                  refine zk_goto hc 8 dX7_leastGap_77 (by decide) ?_
                  refine zk_lv [4, 2, 1, 0] (lv2 := [(0, .ref (a 0)), (1, .int (nI ((q - j) - 1))), (2, .int (nI q)), (3, .int (nI (q + 1)))]) rfl ?_
                  exact ih8 (q + 1) (nI ((q - j) - 1)) (nI q) (by omega) (by omega) (by rw [rowL_succ, gfold_app]; exact lg_bB hz hj2 (by omega) (by have e : Nat.min (gfold (rowL rw q)).1 (gfold (rowL rw q)).2.2 = min (gfold (rowL rw q)).1 (gfold (rowL rw q)).2.2 := rfl; omega) (by omega)) (by rw [rowL_succ, gfold_app]; exact lg_c1 hz)
  refine zk_lv [3, 2, 1, 0] (lv2 := [(0, .ref (a 0)), (1, .int (-9)), (2, .int (-9)), (3, .int (nI 0))]) rfl ?_
  exact loop8 ((rm - 0) + 1) 0 (-9) (-9) (Nat.lt_succ_self _) (Nat.zero_le _) (Or.inl ⟨rfl, rfl⟩) (Or.inl ⟨rfl, rfl, Nat.zero_le _⟩)
