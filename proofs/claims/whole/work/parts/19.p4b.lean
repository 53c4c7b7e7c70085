set_option maxHeartbeats 4000000 in
set_option maxRecDepth 100000 in
theorem ct_X7_back (g : GG) (l : Launch) (a : Nat → Nat) (u pa im tx rw rb rk rt he tr be sp : Nat → Nat) (pm fl ln rm rd bn : Nat) (fk fp rs wk wp bm : Int32) (cN : Nat) (hN : cN ≤ 512) (hW : Wf cN u) (hpm : pm ≤ 8) (hfl : fl < 4) (hI : ∀ i, i < 2 → flG fl i ≠ 0 → Wf cN (bakU u im i)) (v : Int32) : CtI g l yX7_back cX7_back 3 (some .int) (rmK 3 0 0) (MW g.2.1 a u pa im tx rw rb rk rt he tr be sp pm fl ln rm rd bn fk fp rs wk wp bm) [.ref (a 0), .int v] (fun r W1 => r = aBak u im fl v ∧ ∃ X, W1 = MSW g.2.1 a (nBak (u, pa, pm, im, fl, tx, ln, fk, fp, rs) v) X) := by
  refine CtI.go RX7 rfl (by decide +kernel) (Nat.le_of_ble_eq_true rfl) ?_
  intro p e s m args below meth c A H0 Q hc hnm fin
  obtain ⟨⟨hK2, hK4⟩, ⟨hC1, hC8⟩, hg, ⟨hh1, hh2⟩, ⟨hv1, hv2⟩, hs3, hl10, hld, htr, hmC, hwk, hbg⟩ := id hW
  have hm : ∀ t, t < 4 → mny u t ≤ 8 := fun t h => (htr t h).1
  have hm4 : ∀ t, t < u 4 → mny u t ≤ 8 := fun t h => (htr t (by omega)).1
  have hk : ∀ t j, t < 4 → j < 8 → knd u t j < 3 := fun t j h1 h2 => (hwk t j h1 h2).2
  have hd : ∀ t j, t < 4 → j < 8 → dst u t j < 6 := fun t j h1 h2 => (hwk t j h1 h2).1
  have h13 : u 13 < 6 := hld 0 (by omega)
  have h6 : u 6 ≤ 1000 * cN + 600 := hbg 6 (by omega)
  show KW g p l e (rmK 3 0 0) s m args below meth c 3 A H0 0 0 Q (MW g.2.1 a u pa im tx rw rb rk rt he tr be sp pm fl ln rm rd bn fk fp rs wk wp bm) [(0, .ref (a 0)), (1, .int v)] 0 []
  refine zk_iload_n hc dX7_back_0 1 rfl ?_
  refine zk_callSi hc (rest := []) (ct_X7_isImage g l v) gg_X7_203 cd_X7_isImage ⟨Nat.le_of_ble_eq_true rfl, Nat.le_of_ble_eq_true rfl⟩ ⟨Nat.le_of_ble_eq_true rfl, Nat.le_of_ble_eq_true rfl⟩ ([]) (MW g.2.1 a u pa im tx rw rb rk rt he tr be sp pm fl ln rm rd bn fk fp rs wk wp bm) rfl rfl (Nat.le_of_ble_eq_true rfl) dX7_back_1 (fun r W1 hp => ?_)
  obtain ⟨rfl, rfl⟩ := hp
  refine zk_ws (ws2 := MW g.2.1 a u pa im tx rw rb rk rt he tr be sp pm fl ln rm rd bn fk fp rs wk wp bm) rfl ?_
  by_cases hi : inR 0 1 v
  · refine zk_top (y := nI 1) (if_pos hi) ?_
    obtain ⟨t, t0, t1, rfl⟩ := rngN (by omega) hi
    refine zk_if_neN hc 9 dX7_back_4 (by decide) (by omega) (fun h_1 => ?_) (fun h_1 => ?_)
    · refine zk_aload_n hc dX7_back_9 0 rfl ?_
      refine zk_get hc inlX7 (ci := 7) rfl 0 4 (by decide) mw_31_8 rfl rfl rfl dX7_back_10 ?_
      refine zk_iload_n hc dX7_back_13 1 rfl ?_
      refine zk_ishr hc dX7_back_14 ?_
      refine zk_iconst hc (nI 1) dX7_back_15 rfl ?_
      refine zk_iand hc dX7_back_16 ?_
      refine zk_top (y := nI (flG fl t)) (flG_eq hfl (by omega)) ?_
      refine zk_if_neN hc 23 dX7_back_17 (by decide) (by have := flG_lt hfl t; omega) (fun h0 => ?_) (fun h0 => ?_)
      · refine zk_aload_n hc dX7_back_23 0 rfl ?_
        refine zk_callVv hc (rest := []) (ct_X7_remember g l a u pa im tx rw rb rk rt he tr be sp pm fl ln rm rd bn fk fp rs wk wp bm hpm) gg_X7_107 cd_X7_remember ⟨Nat.le_of_ble_eq_true rfl, Nat.le_of_ble_eq_true rfl⟩ ⟨Nat.le_of_ble_eq_true rfl, Nat.le_of_ble_eq_true rfl⟩ ([]) ([]) rfl 0 rfl rfl rfl (Nat.le_of_ble_eq_true rfl) dX7_back_24 (fun W1 hp => ?_)
        obtain rfl := hp
        refine zk_ws (ws2 := MW g.2.1 a u (remP u pa pm) im tx rw rb rk rt he tr be sp (remN pm) fl ln rm rd bn fk fp rs wk wp bm) rfl ?_
        refine zk_iconst hc (nI 0) dX7_back_27 rfl ?_
        refine zk_istore_n hc (lv2 := [(2, .int (nI 0)), (0, .ref (a 0)), (1, .int (nI t))]) dX7_back_28 (by decide) rfl ?_
        refine zk_ws (ws2 := MW g.2.1 a (va_cpy im u (131 * t) 0 0) (remP u pa pm) im tx rw rb rk rt he tr be sp (remN pm) fl ln rm rd bn fk fp rs wk wp bm) (congrArg (fun zz => MW g.2.1 a zz (remP u pa pm) im tx rw rb rk rt he tr be sp (remN pm) fl ln rm rd bn fk fp rs wk wp bm) (show u = va_cpy im u (131 * t) 0 0 from cpy_zero _ _ _ _)) ?_
        have loop29 : ∀ (N : Nat) (q : Nat), 131 - q < N → (q ≤ 131) → KW g p l e (rmK 3 0 0) s m args below meth c 3 A H0 0 0 Q (MW g.2.1 a (va_cpy im u (131 * t) 0 q) (remP u pa pm) im tx rw rb rk rt he tr be sp (remN pm) fl ln rm rd bn fk fp rs wk wp bm) [(0, .ref (a 0)), (1, .int (nI t)), (2, .int (nI q))] 29 [] := by
          intro N
          induction N with
          | zero => intro q hm; exact absurd hm (Nat.not_lt_zero _)
          | succ N ih29 =>
            intro q hm29 hq
            refine zk_iload_n hc dX7_back_29 2 rfl ?_
            refine zk_sipush hc (nI 131) dX7_back_30 rfl ?_
            refine zk_icmp_geN hc 60 dX7_back_33 (by decide) (by omega) (by omega) (fun h_2 => ?_) (fun h_2 => ?_)
            · refine zk_ws (ws2 := MW g.2.1 a (bakU u im t) (remP u pa pm) im tx rw rb rk rt he tr be sp (remN pm) fl ln rm rd bn fk fp rs wk wp bm) (congrArg (fun zz => MW g.2.1 a zz (remP u pa pm) im tx rw rb rk rt he tr be sp (remN pm) fl ln rm rd bn fk fp rs wk wp bm) (show va_cpy im u (131 * t) 0 q = bakU u im t from congrArg (va_cpy im u (131 * t) 0) (by omega))) ?_
              have hW2 := hI t (by omega) h0
              refine zk_aload_n hc dX7_back_60 0 rfl ?_
              refine zk_callVi hc (rest := []) (ct_X7_wagons g l a (bakU u im t) (remP u pa pm) im tx rw rb rk rt he tr be sp (remN pm) fl ln rm rd bn fk fp rs wk wp bm hW2.1.2 (fun z hz => (hW2.2.2.2.2.2.2.2.2.1 z (by have := hW2.1.2; omega)).1)) gg_X7_193 cd_X7_wagons ⟨Nat.le_of_ble_eq_true rfl, Nat.le_of_ble_eq_true rfl⟩ ⟨Nat.le_of_ble_eq_true rfl, Nat.le_of_ble_eq_true rfl⟩ ([]) ([]) rfl 0 rfl rfl rfl (Nat.le_of_ble_eq_true rfl) dX7_back_61 (fun r W1 hp => ?_)
              obtain ⟨rfl, rfl⟩ := hp
              refine zk_ws (ws2 := MW g.2.1 a (bakU u im t) (remP u pa pm) im tx rw rb rk rt he tr be sp (remN pm) fl ln rm rd bn fk fp rs wk wp bm) rfl ?_
              refine fin 0 0 _ _ _ _ (by decide) (by decide) dX7_back_64 (?_)
              exact ⟨by unfold aBak; rw [if_pos hi, tOf_nI (by omega), if_neg h0], (rw, rb, rk, rt, he, tr, be, sp, rm, rd, bn, wk, wp, bm), by unfold nBak; rw [tOf_nI (by omega), if_pos ⟨hi, h0⟩]; rfl⟩
            · refine zk_aload_n hc dX7_back_36 0 rfl ?_
              refine zk_get hc inlX7 (ci := 7) rfl 0 0 (by decide) mw_4_11 rfl rfl rfl dX7_back_37 ?_
              refine zk_iload_n hc dX7_back_40 2 rfl ?_
              refine zk_aload_n hc dX7_back_41 0 rfl ?_
              refine zk_get hc inlX7 (ci := 7) rfl 0 3 (by decide) mw_4_13 rfl rfl rfl dX7_back_42 ?_
              refine zk_sipush hc (nI 131) dX7_back_45 rfl ?_
              refine zk_iload_n hc dX7_back_48 1 rfl ?_
              refine zk_imulN hc dX7_back_49 ?_
              refine zk_iload_n hc dX7_back_50 2 rfl ?_
              refine zk_iaddN hc dX7_back_51 ?_
              refine zk_ialdN hc 3 rfl (by omega) (by decide) dX7_back_52 ?_
              refine zk_iastN hc 1 rfl (by omega) (by decide) (ws2 := MW g.2.1 a (va_up (va_cpy im u (131 * t) 0 q) q (im ((131 * t) + q))) (remP u pa pm) im tx rw rb rk rt he tr be sp (remN pm) fl ln rm rd bn fk fp rs wk wp bm) rfl dX7_back_53 ?_
              refine zk_ws (ws2 := MW g.2.1 a (va_cpy im u (131 * t) 0 (q + 1)) (remP u pa pm) im tx rw rb rk rt he tr be sp (remN pm) fl ln rm rd bn fk fp rs wk wp bm) (congrArg (fun zz => MW g.2.1 a zz (remP u pa pm) im tx rw rb rk rt he tr be sp (remN pm) fl ln rm rd bn fk fp rs wk wp bm) (show va_up (va_cpy im u (131 * t) 0 q) q (im ((131 * t) + q)) = va_cpy im u (131 * t) 0 (q + 1) from cpy_step (by omega) rfl)) ?_
              refine zk_iinc hc (v := nI (q + 1)) (lv2 := [(2, .int (nI (q + 1))), (0, .ref (a 0)), (1, .int (nI t))]) dX7_back_54 2 rfl (nq_inc rfl) (by decide) rfl ?_
              refine zk_goto hc 29 dX7_back_57 (by decide) ?_
              refine zk_lv [1, 2, 0] (lv2 := [(0, .ref (a 0)), (1, .int (nI t)), (2, .int (nI (q + 1)))]) rfl ?_
              exact ih29 (q + 1) (by omega) (by omega)
        refine zk_lv [1, 2, 0] (lv2 := [(0, .ref (a 0)), (1, .int (nI t)), (2, .int (nI 0))]) rfl ?_
        exact loop29 ((131 - 0) + 1) 0 (Nat.lt_succ_self _) (Nat.zero_le _)
      · refine zk_bipush hc ((-2)) dX7_back_20 rfl ?_
        refine fin 0 0 _ _ _ _ (by decide) (by decide) dX7_back_22 (?_)
        exact ⟨by unfold aBak; rw [if_pos hi, tOf_nI (by omega), if_pos h0], (rw, rb, rk, rt, he, tr, be, sp, rm, rd, bn, wk, wp, bm), by unfold nBak; rw [tOf_nI (by omega), if_neg (fun z => z.2 h0)]; rfl⟩
    · exact absurd h_1 (by decide)
  · refine zk_top (y := nI 0) (if_neg hi) ?_
    refine zk_if_neN hc 9 dX7_back_4 (by decide) (by omega) (fun h_3 => ?_) (fun h_3 => ?_)
    · exact absurd h_3 (by decide)
    · refine zk_iconst hc ((-1)) dX7_back_7 rfl ?_
      refine fin 0 0 _ _ _ _ (by decide) (by decide) dX7_back_8 (?_)
      exact ⟨by unfold aBak; rw [if_neg hi], (rw, rb, rk, rt, he, tr, be, sp, rm, rd, bn, wk, wp, bm), by unfold nBak; rw [if_neg (fun z => hi z.1)]; rfl⟩
