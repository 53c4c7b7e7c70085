set_option maxHeartbeats 4000000 in
set_option maxRecDepth 100000 in
theorem ct_X7_madeUp (g : GG) (l : Launch) (a : Nat → Nat) (u pa im tx rw rb rk rt he tr be sp : Nat → Nat) (pm fl ln rm rd bn : Nat) (fk fp rs wk wp bm : Int32) (hK4 : u 4 ≤ 4) (hm : ∀ t, t < 4 → mny u t ≤ 8) (hd : ∀ t j, t < 4 → j < 8 → dst u t j < 6) (h13 : u 13 < 6) (h12b : u 12 ≤ 10) : CtI g l yX7_madeUp cX7_madeUp 4 (some .int) (rmK 4 0 0) (MW g.2.1 a u pa im tx rw rb rk rt he tr be sp pm fl ln rm rd bn fk fp rs wk wp bm) [.ref (a 0)] (fun r W1 => r = muf u ∧ W1 = MW g.2.1 a u pa im tx rw rb rk rt he tr be sp pm fl ln rm rd bn fk fp rs wk wp bm) := by
  refine CtI.go RX7 rfl (by decide +kernel) (Nat.le_of_ble_eq_true rfl) ?_
  intro p e s m args below meth c A H0 Q hc hnm fin
  show KW g p l e (rmK 4 0 0) s m args below meth c 4 A H0 0 0 Q (MW g.2.1 a u pa im tx rw rb rk rt he tr be sp pm fl ln rm rd bn fk fp rs wk wp bm) [(0, .ref (a 0))] 0 []
  refine zk_aload_n hc dX7_madeUp_0 0 rfl ?_
  refine zk_get hc inlX7 (ci := 7) rfl 0 0 (by decide) mw_4_11 rfl rfl rfl dX7_madeUp_1 ?_
  refine zk_bipush hc (nI 12) dX7_madeUp_4 rfl ?_
  refine zk_ialdN hc 1 rfl (by omega) (by decide) dX7_madeUp_6 ?_
  refine zk_if_neN hc 13 dX7_madeUp_7 (by decide) (by omega) (fun h12 => ?_) (fun h12 => ?_)
  · refine zk_bipush hc ((-9)) dX7_madeUp_13 rfl ?_
    refine zk_istore_n hc (lv2 := [(1, .int (-9)), (0, .ref (a 0))]) dX7_madeUp_15 (by decide) rfl ?_
    refine zk_iconst hc (nI 0) dX7_madeUp_16 rfl ?_
    refine zk_istore_n hc (lv2 := [(2, .int (nI 0)), (1, .int (-9)), (0, .ref (a 0))]) dX7_madeUp_17 (by decide) rfl ?_
    have loop18 : ∀ (N : Nat) (q : Nat) (fo : Int32), u 4 - q < N → (q ≤ u 4) → ((mufS u q = 4 ∧ fo = -9) ∨ (mufS u q < 4 ∧ fo = nI (mufS u q))) → KW g p l e (rmK 4 0 0) s m args below meth c 4 A H0 0 0 Q (MW g.2.1 a u pa im tx rw rb rk rt he tr be sp pm fl ln rm rd bn fk fp rs wk wp bm) [(0, .ref (a 0)), (1, .int fo), (2, .int (nI q))] 18 [] := by
      intro N
      induction N with
      | zero => intro q fo hm; exact absurd hm (Nat.not_lt_zero _)
      | succ N ih18 =>
        intro q fo hm18 hq hfo
        refine zk_iload_n hc dX7_madeUp_18 2 rfl ?_
        refine zk_aload_n hc dX7_madeUp_19 0 rfl ?_
        refine zk_get hc inlX7 (ci := 7) rfl 0 0 (by decide) mw_4_11 rfl rfl rfl dX7_madeUp_20 ?_
        refine zk_iconst hc (nI 4) dX7_madeUp_23 rfl ?_
        refine zk_ialdN hc 1 rfl (by omega) (by decide) dX7_madeUp_24 ?_
        refine zk_icmp_geN hc 72 dX7_madeUp_25 (by decide) (by omega) (by omega) (fun h_1 => ?_) (fun h_1 => ?_)
        · refine zk_iload_n hc dX7_madeUp_72 1 rfl ?_
          refine fin 0 0 _ _ _ _ (by decide) (by decide) dX7_madeUp_73 (?_)
          exact ⟨by unfold muf; rw [if_neg h12, show u 4 = q by omega]; rcases hfo with ⟨z, e1⟩ | ⟨z, e1⟩; rw [if_neg (by omega), e1]; rw [if_pos (by omega), e1], rfl⟩
        · refine zk_aload_n hc dX7_madeUp_28 0 rfl ?_
          refine zk_iload_n hc dX7_madeUp_29 2 rfl ?_
          refine zk_aload_n hc dX7_madeUp_30 0 rfl ?_
          refine zk_get hc inlX7 (ci := 7) rfl 0 0 (by decide) mw_4_11 rfl rfl rfl dX7_madeUp_31 ?_
          refine zk_bipush hc (nI 13) dX7_madeUp_34 rfl ?_
          refine zk_ialdN hc 1 rfl (by omega) (by decide) dX7_madeUp_36 ?_
          refine zk_callVi hc (rest := []) (ct_X7_bound g l a u pa im tx rw rb rk rt he tr be sp pm fl ln rm rd bn fk fp rs wk wp bm q (u 13) (by omega) (hm q (by omega)) (fun j hj => by have := hd q j (by omega) hj; omega) (by omega)) gg_X7_117 cd_X7_bound ⟨Nat.le_of_ble_eq_true rfl, Nat.le_of_ble_eq_true rfl⟩ ⟨Nat.le_of_ble_eq_true rfl, Nat.le_of_ble_eq_true rfl⟩ ([]) ([]) rfl 0 rfl rfl rfl (Nat.le_of_ble_eq_true rfl) dX7_madeUp_37 (fun r W1 hp => ?_)
          obtain ⟨rfl, rfl⟩ := hp
          refine zk_ws (ws2 := MW g.2.1 a u pa im tx rw rb rk rt he tr be sp pm fl ln rm rd bn fk fp rs wk wp bm) rfl ?_
          refine zk_istore_n hc (lv2 := [(3, .int (nI (bnd u q (u 13) (mny u q)))), (0, .ref (a 0)), (1, .int fo), (2, .int (nI q))]) dX7_madeUp_40 (by decide) rfl ?_
          refine zk_iload_n hc dX7_madeUp_41 0 rfl ?_
          refine zk_if_leN hc 66 dX7_madeUp_42 (by decide) (by have := hm q (by omega); have := bnd_le u q (u 13) (mny u q); omega) (fun hb => ?_) (fun hb => ?_)
          · refine zk_iinc hc (v := nI (q + 1)) (lv2 := [(2, .int (nI (q + 1))), (3, .int (nI (bnd u q (u 13) (mny u q)))), (0, .ref (a 0)), (1, .int fo)]) dX7_madeUp_66 3 rfl (nq_inc rfl) (by decide) rfl ?_
            refine zk_goto hc 18 dX7_madeUp_69 (by decide) ?_
            refine zk_lv [2, 3, 0] (lv2 := [(0, .ref (a 0)), (1, .int fo), (2, .int (nI (q + 1)))]) rfl ?_
            exact ih18 (q + 1) fo (by omega) (by omega) (mf_0 (show bnt u q = 0 from hb) hfo)
          · refine zk_iload_n hc dX7_madeUp_45 2 rfl ?_
            refine zk_bipush hc ((-9)) dX7_madeUp_46 rfl ?_
            refine zk_icmp_ne hc 61 dX7_madeUp_48 (by decide) (fun hfx => ?_) (fun hfx => ?_)
            · refine zk_bipush hc ((-9)) dX7_madeUp_61 rfl ?_
              refine fin 0 0 _ _ _ _ (by decide) (by decide) dX7_madeUp_63 (?_)
              have h5 : mufS u (q + 1) = 5 := mf_5a hfo hfx (show 0 < bnt u q from hb)
              exact ⟨by unfold muf; rw [if_neg h12, if_neg (by rw [mufS_5 (show q + 1 ≤ u 4 by omega) h5]; decide)], rfl⟩
            · obtain ⟨hz4, rfl⟩ := mf_4 hfo hfx
              refine zk_iload_n hc dX7_madeUp_51 0 rfl ?_
              refine zk_aload_n hc dX7_madeUp_52 1 rfl ?_
              refine zk_iload_n hc dX7_madeUp_53 3 rfl ?_
              refine zk_iconst hc (nI 0) dX7_madeUp_54 rfl ?_
              refine zk_callVi hc (rest := [.int (nI (bnd u q (u 13) (mny u q)))]) (ct_X7_of g l a u pa im tx rw rb rk rt he tr be sp pm fl ln rm rd bn fk fp rs wk wp bm q 0 (by omega)) gg_X7_63 cd_X7_of ⟨Nat.le_of_ble_eq_true rfl, Nat.le_of_ble_eq_true rfl⟩ ⟨Nat.le_of_ble_eq_true rfl, Nat.le_of_ble_eq_true rfl⟩ ([]) ([]) rfl 0 rfl rfl rfl (Nat.le_of_ble_eq_true rfl) dX7_madeUp_55 (fun r W1 hp => ?_)
              obtain ⟨rfl, rfl⟩ := hp
              refine zk_ws (ws2 := MW g.2.1 a u pa im tx rw rb rk rt he tr be sp pm fl ln rm rd bn fk fp rs wk wp bm) rfl ?_
              refine zk_top (y := nI (mny u q)) rfl ?_
              refine zk_icmp_geN hc 64 dX7_madeUp_58 (by decide) (by have := hm q (by omega); have := bnd_le u q (u 13) (mny u q); omega) (by have := hm q (by omega); have := bnd_le u q (u 13) (mny u q); omega) (fun hlt => ?_) (fun hlt => ?_)
              · refine zk_iload_n hc dX7_madeUp_64 3 rfl ?_
                refine zk_istore_n hc (lv2 := [(1, .int (nI q)), (3, .int (nI (bnd u q (u 13) (mny u q)))), (0, .ref (a 0)), (2, .int (nI q))]) dX7_madeUp_65 (by decide) rfl ?_
                refine zk_iinc hc (v := nI (q + 1)) (lv2 := [(2, .int (nI (q + 1))), (1, .int (nI q)), (3, .int (nI (bnd u q (u 13) (mny u q)))), (0, .ref (a 0))]) dX7_madeUp_66 3 rfl (nq_inc rfl) (by decide) rfl ?_
                refine zk_goto hc 18 dX7_madeUp_69 (by decide) ?_
                refine zk_lv [3, 1, 0] (lv2 := [(0, .ref (a 0)), (1, .int (nI q)), (2, .int (nI (q + 1)))]) rfl ?_
                exact ih18 (q + 1) (nI q) (by omega) (by omega) (mf_q hz4 (show 0 < bnt u q from hb) (show mny u q ≤ bnt u q from hlt) (by omega))
              · refine zk_bipush hc ((-9)) dX7_madeUp_61 rfl ?_
                refine fin 0 0 _ _ _ _ (by decide) (by decide) dX7_madeUp_63 (?_)
                have h5 : mufS u (q + 1) = 5 := mf_5b (show 0 < bnt u q from hb) (show bnt u q < mny u q from hlt) (hfo4 := hz4)
                exact ⟨by unfold muf; rw [if_neg h12, if_neg (by rw [mufS_5 (show q + 1 ≤ u 4 by omega) h5]; decide)], rfl⟩
    refine zk_lv [2, 1, 0] (lv2 := [(0, .ref (a 0)), (1, .int (-9)), (2, .int (nI 0))]) rfl ?_
    exact loop18 ((u 4 - 0) + 1) 0 (-9) (Nat.lt_succ_self _) (Nat.zero_le _) (Or.inl ⟨rfl, rfl⟩)
  · refine zk_bipush hc ((-9)) dX7_madeUp_10 rfl ?_
    refine fin 0 0 _ _ _ _ (by decide) (by decide) dX7_madeUp_12 (?_)
    exact ⟨by unfold muf; rw [if_pos h12], rfl⟩
