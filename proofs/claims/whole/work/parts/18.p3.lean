set_option maxHeartbeats 4000000 in
set_option maxRecDepth 100000 in
theorem ct_X7_cost (g : GG) (l : Launch) (a : Nat → Nat) (u pa im tx rw rb rk rt he tr be sp : Nat → Nat) (pm fl ln rm rd bn : Nat) (fk fp rs wk wp bm : Int32) (cN : Nat) (hN : cN ≤ 512) (hW : Wf cN u)  (vf vt vn : Int32) : CtI g l yX7_cost cX7_cost 4 (some .int) (rmK 5 0 0) (MW g.2.1 a u pa im tx rw rb rk rt he tr be sp pm fl ln rm rd bn fk fp rs wk wp bm) [.ref (a 0), .int vf, .int vt, .int vn] (fun r W1 => r = aCos u vf vt vn ∧ ∃ X, W1 = MSW g.2.1 a ((u, pa, pm, im, fl, tx, ln, fk, fp, rs)) X) := by
  refine CtI.go RX7 rfl (by decide +kernel) (Nat.le_of_ble_eq_true rfl) ?_
  intro p e s m args below meth c A H0 Q hc hnm fin
  obtain ⟨⟨hK2, hK4⟩, ⟨hC1, hC8⟩, hg, ⟨hh1, hh2⟩, ⟨hv1, hv2⟩, hs3, hl10, hld, htr, hmC, hwk, hbg⟩ := id hW
  have hm : ∀ t, t < 4 → mny u t ≤ 8 := fun t h => (htr t h).1
  have hm4 : ∀ t, t < u 4 → mny u t ≤ 8 := fun t h => (htr t (by omega)).1
  have hk : ∀ t j, t < 4 → j < 8 → knd u t j < 3 := fun t j h1 h2 => (hwk t j h1 h2).2
  have hd : ∀ t j, t < 4 → j < 8 → dst u t j < 6 := fun t j h1 h2 => (hwk t j h1 h2).1
  have h13 : u 13 < 6 := hld 0 (by omega)
  have h6 : u 6 ≤ 1000 * cN + 600 := hbg 6 (by omega)
  show KW g p l e (rmK 5 0 0) s m args below meth c 4 A H0 0 0 Q (MW g.2.1 a u pa im tx rw rb rk rt he tr be sp pm fl ln rm rd bn fk fp rs wk wp bm) [(0, .ref (a 0)), (1, .int vf), (2, .int vt), (3, .int vn)] 0 []
  refine zk_aload_n hc dX7_cost_0 0 rfl ?_
  refine zk_iload_n hc dX7_cost_1 1 rfl ?_
  refine zk_iload_n hc dX7_cost_2 2 rfl ?_
  refine zk_iload_n hc dX7_cost_3 3 rfl ?_
  refine zk_callVi hc (rest := []) (ct_X7_areTracks g l a u pa im tx rw rb rk rt he tr be sp pm fl ln rm rd bn fk fp rs wk wp bm vf vt vn (by omega)) gg_X7_97 cd_X7_areTracks ⟨Nat.le_of_ble_eq_true rfl, Nat.le_of_ble_eq_true rfl⟩ ⟨Nat.le_of_ble_eq_true rfl, Nat.le_of_ble_eq_true rfl⟩ ([]) ([]) rfl 0 rfl rfl rfl (Nat.le_of_ble_eq_true rfl) dX7_cost_4 (fun r W1 hp => ?_)
  obtain ⟨rfl, rfl⟩ := hp
  refine zk_ws (ws2 := MW g.2.1 a u pa im tx rw rb rk rt he tr be sp pm fl ln rm rd bn fk fp rs wk wp bm) rfl ?_
  by_cases ha : ((nI 0 ≤ vf ∧ vf ≤ nI (u 4 - 1)) ∧ (nI 0 ≤ vt ∧ vt ≤ nI (u 4 - 1)) ∧ vf ≠ vt ∧ nI 1 ≤ vn ∧ vn ≤ nI 8)
  · refine zk_top (y := nI 1) (if_pos ha) ?_
    obtain ⟨f, -, f1, rfl⟩ := rngN (by omega) ha.1
    obtain ⟨t, -, t1, rfl⟩ := rngN (by omega) ha.2.1
    obtain ⟨n, n0, n1, rfl⟩ := rngN (by omega) ha.2.2.2
    refine zk_if_eqN hc 20 dX7_cost_7 (by decide) (by omega) (fun h_1 => ?_) (fun h_1 => ?_)
    · exact absurd h_1 (by decide)
    · refine zk_aload_n hc dX7_cost_10 0 rfl ?_
      refine zk_iload_n hc dX7_cost_11 1 rfl ?_
      refine zk_iload_n hc dX7_cost_12 2 rfl ?_
      refine zk_iload_n hc dX7_cost_13 3 rfl ?_
      refine zk_callVi hc (rest := []) (ct_X7_costOf g l a u pa im tx rw rb rk rt he tr be sp pm fl ln rm rd bn fk fp rs wk wp bm f t n (by omega) (by omega) n1 (hm f (by omega)) (hm t (by omega)) hC8 hv2 hk hg) gg_X7_100 cd_X7_costOf ⟨Nat.le_of_ble_eq_true rfl, Nat.le_of_ble_eq_true rfl⟩ ⟨Nat.le_of_ble_eq_true rfl, Nat.le_of_ble_eq_true rfl⟩ ([]) ([]) rfl 0 rfl rfl rfl (Nat.le_of_ble_eq_true rfl) dX7_cost_14 (fun r W1 hp => ?_)
      obtain ⟨rfl, r_2, n_3, rfl⟩ := hp
      refine zk_ws (ws2 := MW g.2.1 a u pa im tx r_2 rb rk rt he tr be sp pm fl ln n_3 rd bn fk fp rs wk wp bm) rfl ?_
      refine zk_goto hc 21 dX7_cost_17 (by decide) ?_
      refine fin 0 0 _ _ _ _ (by decide) (by decide) dX7_cost_21 (?_)
      exact ⟨by unfold aCos; rw [if_pos ha, tOf_nI (by omega), tOf_nI (by omega), tOf_nI (by omega)], (r_2, rb, rk, rt, he, tr, be, sp, n_3, rd, bn, wk, wp, bm), by rfl⟩
  · refine zk_top (y := nI 0) (if_neg ha) ?_
    refine zk_if_eqN hc 20 dX7_cost_7 (by decide) (by omega) (fun h_4 => ?_) (fun h_4 => ?_)
    · refine zk_iconst hc ((-1)) dX7_cost_20 rfl ?_
      refine fin 0 0 _ _ _ _ (by decide) (by decide) dX7_cost_21 (?_)
      exact ⟨by unfold aCos; rw [if_neg ha], (rw, rb, rk, rt, he, tr, be, sp, rm, rd, bn, wk, wp, bm), by rfl⟩
    · exact absurd h_4 (by decide)

set_option maxHeartbeats 4000000 in
set_option maxRecDepth 100000 in
theorem ct_X7_move (g : GG) (l : Launch) (a : Nat → Nat) (u pa im tx rw rb rk rt he tr be sp : Nat → Nat) (pm fl ln rm rd bn : Nat) (fk fp rs wk wp bm : Int32) (cN : Nat) (hN : cN ≤ 512) (hW : Wf cN u) (hpm : pm ≤ 8) (vf vt vn : Int32) : CtI g l yX7_move cX7_move 5 (some .int) (rmK 6 0 0) (MW g.2.1 a u pa im tx rw rb rk rt he tr be sp pm fl ln rm rd bn fk fp rs wk wp bm) [.ref (a 0), .int vf, .int vt, .int vn] (fun r W1 => r = aCos u vf vt vn ∧ ∃ X, W1 = MSW g.2.1 a (nMov (u, pa, pm, im, fl, tx, ln, fk, fp, rs) vf vt vn) X) := by
  refine CtI.go RX7 rfl (by decide +kernel) (Nat.le_of_ble_eq_true rfl) ?_
  intro p e s m args below meth c A H0 Q hc hnm fin
  obtain ⟨⟨hK2, hK4⟩, ⟨hC1, hC8⟩, hg, ⟨hh1, hh2⟩, ⟨hv1, hv2⟩, hs3, hl10, hld, htr, hmC, hwk, hbg⟩ := id hW
  have hm : ∀ t, t < 4 → mny u t ≤ 8 := fun t h => (htr t h).1
  have hm4 : ∀ t, t < u 4 → mny u t ≤ 8 := fun t h => (htr t (by omega)).1
  have hk : ∀ t j, t < 4 → j < 8 → knd u t j < 3 := fun t j h1 h2 => (hwk t j h1 h2).2
  have hd : ∀ t j, t < 4 → j < 8 → dst u t j < 6 := fun t j h1 h2 => (hwk t j h1 h2).1
  have h13 : u 13 < 6 := hld 0 (by omega)
  have h6 : u 6 ≤ 1000 * cN + 600 := hbg 6 (by omega)
  show KW g p l e (rmK 6 0 0) s m args below meth c 5 A H0 0 0 Q (MW g.2.1 a u pa im tx rw rb rk rt he tr be sp pm fl ln rm rd bn fk fp rs wk wp bm) [(0, .ref (a 0)), (1, .int vf), (2, .int vt), (3, .int vn)] 0 []
  refine zk_aload_n hc dX7_move_0 0 rfl ?_
  refine zk_iload_n hc dX7_move_1 1 rfl ?_
  refine zk_iload_n hc dX7_move_2 2 rfl ?_
  refine zk_iload_n hc dX7_move_3 3 rfl ?_
  refine zk_callVi hc (rest := []) (ct_X7_cost g l a u pa im tx rw rb rk rt he tr be sp pm fl ln rm rd bn fk fp rs wk wp bm cN hN hW vf vt vn) gg_X7_104 cd_X7_cost ⟨Nat.le_of_ble_eq_true rfl, Nat.le_of_ble_eq_true rfl⟩ ⟨Nat.le_of_ble_eq_true rfl, Nat.le_of_ble_eq_true rfl⟩ ([]) ([]) rfl 0 rfl rfl rfl (Nat.le_of_ble_eq_true rfl) dX7_move_4 (fun r W1 hp => ?_)
  obtain ⟨rfl, ⟨rwx_1, rbx_1, rkx_1, rtx_1, hex_1, trx_1, bex_1, spx_1, rmx_1, rdx_1, bnx_1, wkx_1, wpx_1, bmx_1⟩, rfl⟩ := hp
  refine zk_ws (ws2 := MW g.2.1 a u pa im tx rwx_1 rbx_1 rkx_1 rtx_1 hex_1 trx_1 bex_1 spx_1 pm fl ln rmx_1 rdx_1 bnx_1 fk fp rs wkx_1 wpx_1 bmx_1) rfl ?_
  refine zk_istore hc (lv2 := [(4, .int (aCos u vf vt vn)), (0, .ref (a 0)), (1, .int vf), (2, .int vt), (3, .int vn)]) dX7_move_7 (by decide) rfl ?_
  refine zk_iload hc dX7_move_9 0 rfl ?_
  refine zk_if_lt hc 27 dX7_move_11 (by decide) (fun hz => ?_) (fun hz => ?_)
  · refine zk_iload hc dX7_move_27 0 rfl ?_
    refine fin 0 0 _ _ _ _ (by decide) (by decide) dX7_move_29 (?_)
    exact ⟨by rfl, (rwx_1, rbx_1, rkx_1, rtx_1, hex_1, trx_1, bex_1, spx_1, rmx_1, rdx_1, bnx_1, wkx_1, wpx_1, bmx_1), by unfold nMov; rw [if_neg (not_not_intro hz)]; rfl⟩
  · obtain ⟨f, t, n, rfl, rfl, rfl, hf1, ht1, hft, hn1, hn8, hnf, hnt, hco⟩ := aCos_nn hK4 hz
    rw [hco]
    refine zk_aload_n hc dX7_move_14 1 rfl ?_
    refine zk_callVv hc (rest := []) (ct_X7_remember g l a u pa im tx rwx_1 rbx_1 rkx_1 rtx_1 hex_1 trx_1 bex_1 spx_1 pm fl ln rmx_1 rdx_1 bnx_1 fk fp rs wkx_1 wpx_1 bmx_1 hpm) gg_X7_107 cd_X7_remember ⟨Nat.le_of_ble_eq_true rfl, Nat.le_of_ble_eq_true rfl⟩ ⟨Nat.le_of_ble_eq_true rfl, Nat.le_of_ble_eq_true rfl⟩ ([]) ([]) rfl 0 rfl rfl rfl (Nat.le_of_ble_eq_true rfl) dX7_move_15 (fun W1 hp => ?_)
    obtain rfl := hp
    refine zk_ws (ws2 := MW g.2.1 a u (remP u pa pm) im tx rwx_1 rbx_1 rkx_1 rtx_1 hex_1 trx_1 bex_1 spx_1 (remN pm) fl ln rmx_1 rdx_1 bnx_1 fk fp rs wkx_1 wpx_1 bmx_1) rfl ?_
    refine zk_aload_n hc dX7_move_18 1 rfl ?_
    refine zk_iload_n hc dX7_move_19 2 rfl ?_
    refine zk_iload_n hc dX7_move_20 3 rfl ?_
    refine zk_iload_n hc dX7_move_21 4 rfl ?_
    refine zk_iload hc dX7_move_22 0 rfl ?_
    refine zk_callVv hc (rest := []) (ct_X7_carry g l a u (remP u pa pm) im tx rwx_1 rbx_1 rkx_1 rtx_1 hex_1 trx_1 bex_1 spx_1 (remN pm) fl ln rmx_1 rdx_1 bnx_1 fk fp rs wkx_1 wpx_1 bmx_1 f t n (mins u f t n) (by omega) (by omega) hft hnf (hm f (by omega)) (by omega)) gg_X7_110 cd_X7_carry ⟨Nat.le_of_ble_eq_true rfl, Nat.le_of_ble_eq_true rfl⟩ ⟨Nat.le_of_ble_eq_true rfl, Nat.le_of_ble_eq_true rfl⟩ ([]) ([]) rfl 0 rfl rfl rfl (Nat.le_of_ble_eq_true rfl) dX7_move_24 (fun W1 hp => ?_)
    obtain rfl := hp
    refine zk_ws (ws2 := MW g.2.1 a (carU u f t n (mins u f t n)) (remP u pa pm) im tx rwx_1 rbx_1 rkx_1 rtx_1 hex_1 trx_1 bex_1 spx_1 (remN pm) fl ln rmx_1 rdx_1 bnx_1 fk fp rs wkx_1 wpx_1 bmx_1) rfl ?_
    refine zk_iload hc dX7_move_27 0 rfl ?_
    refine fin 0 0 _ _ _ _ (by decide) (by decide) dX7_move_29 (?_)
    exact ⟨by exact hco.symm, (rwx_1, rbx_1, rkx_1, rtx_1, hex_1, trx_1, bex_1, spx_1, rmx_1, rdx_1, bnx_1, wkx_1, wpx_1, bmx_1), by unfold nMov; rw [if_pos hz, tOf_nI (by omega), tOf_nI (by omega), tOf_nI (by omega)]; rfl⟩

set_option maxHeartbeats 4000000 in
set_option maxRecDepth 100000 in
theorem ct_X7_undo (g : GG) (l : Launch) (a : Nat → Nat) (u pa im tx rw rb rk rt he tr be sp : Nat → Nat) (pm fl ln rm rd bn : Nat) (fk fp rs wk wp bm : Int32) (hpm : pm ≤ 8) : CtI g l yX7_undo cX7_undo 2 (some .int) (rmK 1 0 0) (MW g.2.1 a u pa im tx rw rb rk rt he tr be sp pm fl ln rm rd bn fk fp rs wk wp bm) [.ref (a 0)] (fun r W1 => r = aUnd pm ∧ ∃ X, W1 = MSW g.2.1 a (nUnd (u, pa, pm, im, fl, tx, ln, fk, fp, rs) ) X) := by
  refine CtI.go RX7 rfl (by decide +kernel) (Nat.le_of_ble_eq_true rfl) ?_
  intro p e s m args below meth c A H0 Q hc hnm fin
  show KW g p l e (rmK 1 0 0) s m args below meth c 2 A H0 0 0 Q (MW g.2.1 a u pa im tx rw rb rk rt he tr be sp pm fl ln rm rd bn fk fp rs wk wp bm) [(0, .ref (a 0))] 0 []
  refine zk_aload_n hc dX7_undo_0 0 rfl ?_
  refine zk_get hc inlX7 (ci := 7) rfl 0 2 (by decide) mw_7_9 rfl rfl rfl dX7_undo_1 ?_
  refine zk_if_neN hc 10 dX7_undo_4 (by decide) (by omega) (fun h0 => ?_) (fun h0 => ?_)
  · refine zk_aload_n hc dX7_undo_10 0 rfl ?_
    refine zk_dup hc dX7_undo_11 rfl ?_
    refine zk_get hc inlX7 (ci := 7) rfl 0 2 (by decide) mw_7_9 rfl rfl rfl dX7_undo_12 ?_
    refine zk_iconst hc (nI 1) dX7_undo_15 rfl ?_
    refine zk_isubN hc dX7_undo_16 (by omega) ?_
    refine zk_put hc inlX7 (ci := 7) rfl tyX7 tyX7_ok nmX7 0 2 (by decide) mw_7_9 rfl rfl rfl rfl rfl (Nat.le_of_ble_eq_true rfl) (ws2 := MW g.2.1 a u pa im tx rw rb rk rt he tr be sp (pm - 1) fl ln rm rd bn fk fp rs wk wp bm) rfl dX7_undo_17 ?_
    refine zk_iconst hc (nI 0) dX7_undo_20 rfl ?_
    refine zk_istore_n hc (lv2 := [(1, .int (nI 0)), (0, .ref (a 0))]) dX7_undo_21 (by decide) rfl ?_
    refine zk_ws (ws2 := MW g.2.1 a (va_cpy pa u (131 * (pm - 1)) 0 0) pa im tx rw rb rk rt he tr be sp (pm - 1) fl ln rm rd bn fk fp rs wk wp bm) (congrArg (fun zz => MW g.2.1 a zz pa im tx rw rb rk rt he tr be sp (pm - 1) fl ln rm rd bn fk fp rs wk wp bm) (show u = va_cpy pa u (131 * (pm - 1)) 0 0 from cpy_zero _ _ _ _)) ?_
    have loop22 : ∀ (N : Nat) (q : Nat), 131 - q < N → (q ≤ 131) → KW g p l e (rmK 1 0 0) s m args below meth c 2 A H0 0 0 Q (MW g.2.1 a (va_cpy pa u (131 * (pm - 1)) 0 q) pa im tx rw rb rk rt he tr be sp (pm - 1) fl ln rm rd bn fk fp rs wk wp bm) [(0, .ref (a 0)), (1, .int (nI q))] 22 [] := by
      intro N
      induction N with
      | zero => intro q hm; exact absurd hm (Nat.not_lt_zero _)
      | succ N ih22 =>
        intro q hm22 hq
        refine zk_iload_n hc dX7_undo_22 1 rfl ?_
        refine zk_sipush hc (nI 131) dX7_undo_23 rfl ?_
        refine zk_icmp_geN hc 56 dX7_undo_26 (by decide) (by omega) (by omega) (fun h_1 => ?_) (fun h_1 => ?_)
        · refine zk_ws (ws2 := MW g.2.1 a (va_cpy pa u (131 * (pm - 1)) 0 131) pa im tx rw rb rk rt he tr be sp (pm - 1) fl ln rm rd bn fk fp rs wk wp bm) (congrArg (fun zz => MW g.2.1 a zz pa im tx rw rb rk rt he tr be sp (pm - 1) fl ln rm rd bn fk fp rs wk wp bm) (show va_cpy pa u (131 * (pm - 1)) 0 q = va_cpy pa u (131 * (pm - 1)) 0 131 from congrArg (va_cpy pa u (131 * (pm - 1)) 0) (by omega))) ?_
          refine zk_aload_n hc dX7_undo_56 0 rfl ?_
          refine zk_get hc inlX7 (ci := 7) rfl 0 2 (by decide) mw_7_9 rfl rfl rfl dX7_undo_57 ?_
          refine fin 0 0 _ _ _ _ (by decide) (by decide) dX7_undo_60 (?_)
          exact ⟨by unfold aUnd; rw [if_neg h0], (rw, rb, rk, rt, he, tr, be, sp, rm, rd, bn, wk, wp, bm), by unfold nUnd; rw [if_neg h0]; rfl⟩
        · refine zk_aload_n hc dX7_undo_29 0 rfl ?_
          refine zk_get hc inlX7 (ci := 7) rfl 0 0 (by decide) mw_4_11 rfl rfl rfl dX7_undo_30 ?_
          refine zk_iload_n hc dX7_undo_33 1 rfl ?_
          refine zk_aload_n hc dX7_undo_34 0 rfl ?_
          refine zk_get hc inlX7 (ci := 7) rfl 0 1 (by decide) mw_4_12 rfl rfl rfl dX7_undo_35 ?_
          refine zk_sipush hc (nI 131) dX7_undo_38 rfl ?_
          refine zk_aload_n hc dX7_undo_41 0 rfl ?_
          refine zk_get hc inlX7 (ci := 7) rfl 0 2 (by decide) mw_7_9 rfl rfl rfl dX7_undo_42 ?_
          refine zk_imulN hc dX7_undo_45 ?_
          refine zk_iload_n hc dX7_undo_46 1 rfl ?_
          refine zk_iaddN hc dX7_undo_47 ?_
          refine zk_ialdN hc 2 rfl (by omega) (by decide) dX7_undo_48 ?_
          refine zk_iastN hc 1 rfl (by omega) (by decide) (ws2 := MW g.2.1 a (va_up (va_cpy pa u (131 * (pm - 1)) 0 q) q (pa ((131 * (pm - 1)) + q))) pa im tx rw rb rk rt he tr be sp (pm - 1) fl ln rm rd bn fk fp rs wk wp bm) rfl dX7_undo_49 ?_
          refine zk_ws (ws2 := MW g.2.1 a (va_cpy pa u (131 * (pm - 1)) 0 (q + 1)) pa im tx rw rb rk rt he tr be sp (pm - 1) fl ln rm rd bn fk fp rs wk wp bm) (congrArg (fun zz => MW g.2.1 a zz pa im tx rw rb rk rt he tr be sp (pm - 1) fl ln rm rd bn fk fp rs wk wp bm) (show va_up (va_cpy pa u (131 * (pm - 1)) 0 q) q (pa ((131 * (pm - 1)) + q)) = va_cpy pa u (131 * (pm - 1)) 0 (q + 1) from cpy_step (by omega) rfl)) ?_
          refine zk_iinc hc (v := nI (q + 1)) (lv2 := [(1, .int (nI (q + 1))), (0, .ref (a 0))]) dX7_undo_50 1 rfl (nq_inc rfl) (by decide) rfl ?_
          refine zk_goto hc 22 dX7_undo_53 (by decide) ?_
          refine zk_lv [1, 0] (lv2 := [(0, .ref (a 0)), (1, .int (nI (q + 1)))]) rfl ?_
          exact ih22 (q + 1) (by omega) (by omega)
    refine zk_lv [1, 0] (lv2 := [(0, .ref (a 0)), (1, .int (nI 0))]) rfl ?_
    exact loop22 ((131 - 0) + 1) 0 (Nat.lt_succ_self _) (Nat.zero_le _)
  · refine zk_bipush hc ((-2)) dX7_undo_7 rfl ?_
    refine fin 0 0 _ _ _ _ (by decide) (by decide) dX7_undo_9 (?_)
    exact ⟨by unfold aUnd; rw [if_pos h0], (rw, rb, rk, rt, he, tr, be, sp, rm, rd, bn, wk, wp, bm), by unfold nUnd; rw [if_pos h0]; rfl⟩

set_option maxHeartbeats 4000000 in
set_option maxRecDepth 100000 in
theorem ct_X7_write (g : GG) (l : Launch) (a : Nat → Nat) (u pa im tx rw rb rk rt he tr be sp : Nat → Nat) (pm fl ln rm rd bn : Nat) (fk fp rs wk wp bm : Int32) (hln : ln ≤ 60) (v : Int32) : CtI g l yX7_write cX7_write 2 (some .int) (rmK 2 0 0) (MW g.2.1 a u pa im tx rw rb rk rt he tr be sp pm fl ln rm rd bn fk fp rs wk wp bm) [.ref (a 0), .int v] (fun r W1 => r = aWri ln v ∧ ∃ X, W1 = MSW g.2.1 a (nWri (u, pa, pm, im, fl, tx, ln, fk, fp, rs) v) X) := by
  refine CtI.go RX7 rfl (by decide +kernel) (Nat.le_of_ble_eq_true rfl) ?_
  intro p e s m args below meth c A H0 Q hc hnm fin
  show KW g p l e (rmK 2 0 0) s m args below meth c 2 A H0 0 0 Q (MW g.2.1 a u pa im tx rw rb rk rt he tr be sp pm fl ln rm rd bn fk fp rs wk wp bm) [(0, .ref (a 0)), (1, .int v)] 0 []
  refine zk_iload_n hc dX7_write_0 1 rfl ?_
  refine zk_bipush hc (nI 32) dX7_write_1 rfl ?_
  refine zk_bipush hc (nI 126) dX7_write_3 rfl ?_
  refine zk_callSi hc (rest := []) (ct_X7_isIn g l v (nI 32) (nI 126)) gg_X7_59 cd_X7_isIn ⟨Nat.le_of_ble_eq_true rfl, Nat.le_of_ble_eq_true rfl⟩ ⟨Nat.le_of_ble_eq_true rfl, Nat.le_of_ble_eq_true rfl⟩ ([]) (MW g.2.1 a u pa im tx rw rb rk rt he tr be sp pm fl ln rm rd bn fk fp rs wk wp bm) rfl rfl (Nat.le_of_ble_eq_true rfl) dX7_write_5 (fun r W1 hp => ?_)
  obtain ⟨rfl, rfl⟩ := hp
  refine zk_ws (ws2 := MW g.2.1 a u pa im tx rw rb rk rt he tr be sp pm fl ln rm rd bn fk fp rs wk wp bm) rfl ?_
  by_cases hi : nI 32 ≤ v ∧ v ≤ nI 126
  · refine zk_top (y := nI 1) (if_pos hi) ?_
    obtain ⟨t, t0, t1, rfl⟩ := rngN (by omega) hi
    refine zk_if_neN hc 13 dX7_write_8 (by decide) (by omega) (fun h_1 => ?_) (fun h_1 => ?_)
    · refine zk_aload_n hc dX7_write_13 0 rfl ?_
      refine zk_get hc inlX7 (ci := 7) rfl 0 6 (by decide) mw_11_18 rfl rfl rfl dX7_write_14 ?_
      refine zk_bipush hc (nI 60) dX7_write_17 rfl ?_
      refine zk_icmp_neN hc 25 dX7_write_19 (by decide) (by omega) (by omega) (fun h6 => ?_) (fun h6 => ?_)
      · refine zk_aload_n hc dX7_write_25 0 rfl ?_
        refine zk_get hc inlX7 (ci := 7) rfl 0 5 (by decide) mw_4_14 rfl rfl rfl dX7_write_26 ?_
        refine zk_aload_n hc dX7_write_29 0 rfl ?_
        refine zk_get hc inlX7 (ci := 7) rfl 0 6 (by decide) mw_11_18 rfl rfl rfl dX7_write_30 ?_
        refine zk_iload_n hc dX7_write_33 1 rfl ?_
        refine zk_iastN hc 4 rfl (by omega) (by decide) (ws2 := MW g.2.1 a u pa im (va_up tx ln t) rw rb rk rt he tr be sp pm fl ln rm rd bn fk fp rs wk wp bm) rfl dX7_write_34 ?_
        refine zk_aload_n hc dX7_write_35 0 rfl ?_
        refine zk_dup hc dX7_write_36 rfl ?_
        refine zk_get hc inlX7 (ci := 7) rfl 0 6 (by decide) mw_11_18 rfl rfl rfl dX7_write_37 ?_
        refine zk_iconst hc (nI 1) dX7_write_40 rfl ?_
        refine zk_iaddN hc dX7_write_41 ?_
        refine zk_put hc inlX7 (ci := 7) rfl tyX7 tyX7_ok nmX7 0 6 (by decide) mw_11_18 rfl rfl rfl rfl rfl (Nat.le_of_ble_eq_true rfl) (ws2 := MW g.2.1 a u pa im (va_up tx ln t) rw rb rk rt he tr be sp pm fl (ln + 1) rm rd bn fk fp rs wk wp bm) rfl dX7_write_42 ?_
        refine zk_aload_n hc dX7_write_45 0 rfl ?_
        refine zk_get hc inlX7 (ci := 7) rfl 0 6 (by decide) mw_11_18 rfl rfl rfl dX7_write_46 ?_
        refine fin 0 0 _ _ _ _ (by decide) (by decide) dX7_write_49 (?_)
        exact ⟨by unfold aWri; rw [if_pos hi, if_neg h6], (rw, rb, rk, rt, he, tr, be, sp, rm, rd, bn, wk, wp, bm), by unfold nWri; rw [if_pos ⟨hi, h6⟩, tOf_nI (by omega)]; rfl⟩
      · refine zk_bipush hc ((-3)) dX7_write_22 rfl ?_
        refine fin 0 0 _ _ _ _ (by decide) (by decide) dX7_write_24 (?_)
        exact ⟨by unfold aWri; rw [if_pos hi, if_pos h6], (rw, rb, rk, rt, he, tr, be, sp, rm, rd, bn, wk, wp, bm), by unfold nWri; rw [if_neg (fun z => z.2 h6)]; rfl⟩
    · exact absurd h_1 (by decide)
  · refine zk_top (y := nI 0) (if_neg hi) ?_
    refine zk_if_neN hc 13 dX7_write_8 (by decide) (by omega) (fun h_2 => ?_) (fun h_2 => ?_)
    · exact absurd h_2 (by decide)
    · refine zk_iconst hc ((-1)) dX7_write_11 rfl ?_
      refine fin 0 0 _ _ _ _ (by decide) (by decide) dX7_write_12 (?_)
      exact ⟨by unfold aWri; rw [if_neg hi], (rw, rb, rk, rt, he, tr, be, sp, rm, rd, bn, wk, wp, bm), by unfold nWri; rw [if_neg (fun z => hi z.1)]; rfl⟩

set_option maxHeartbeats 4000000 in
set_option maxRecDepth 100000 in
theorem ct_X7_wipe (g : GG) (l : Launch) (a : Nat → Nat) (u pa im tx rw rb rk rt he tr be sp : Nat → Nat) (pm fl ln rm rd bn : Nat) (fk fp rs wk wp bm : Int32)  : CtI g l yX7_wipe cX7_wipe 2 (some .int) (rmK 1 0 0) (MW g.2.1 a u pa im tx rw rb rk rt he tr be sp pm fl ln rm rd bn fk fp rs wk wp bm) [.ref (a 0)] (fun r W1 => r = nI ln ∧ ∃ X, W1 = MSW g.2.1 a (nWip (u, pa, pm, im, fl, tx, ln, fk, fp, rs) ) X) := by
  refine CtI.go RX7 rfl (by decide +kernel) (Nat.le_of_ble_eq_true rfl) ?_
  intro p e s m args below meth c A H0 Q hc hnm fin
  show KW g p l e (rmK 1 0 0) s m args below meth c 2 A H0 0 0 Q (MW g.2.1 a u pa im tx rw rb rk rt he tr be sp pm fl ln rm rd bn fk fp rs wk wp bm) [(0, .ref (a 0))] 0 []
  refine zk_aload_n hc dX7_wipe_0 0 rfl ?_
  refine zk_get hc inlX7 (ci := 7) rfl 0 6 (by decide) mw_11_18 rfl rfl rfl dX7_wipe_1 ?_
  refine zk_istore_n hc (lv2 := [(1, .int (nI ln)), (0, .ref (a 0))]) dX7_wipe_4 (by decide) rfl ?_
  refine zk_aload_n hc dX7_wipe_5 1 rfl ?_
  refine zk_iconst hc (nI 0) dX7_wipe_6 rfl ?_
  refine zk_put hc inlX7 (ci := 7) rfl tyX7 tyX7_ok nmX7 0 6 (by decide) mw_11_18 rfl rfl rfl rfl rfl (Nat.le_of_ble_eq_true rfl) (ws2 := MW g.2.1 a u pa im tx rw rb rk rt he tr be sp pm fl 0 rm rd bn fk fp rs wk wp bm) rfl dX7_wipe_7 ?_
  refine zk_iload_n hc dX7_wipe_10 0 rfl ?_
  refine fin 0 0 _ _ _ _ (by decide) (by decide) dX7_wipe_11 (?_)
  exact ⟨by rfl, (rw, rb, rk, rt, he, tr, be, sp, rm, rd, bn, wk, wp, bm), by rfl⟩

set_option maxHeartbeats 4000000 in
set_option maxRecDepth 100000 in
theorem ct_X7_fault (g : GG) (l : Launch) (a : Nat → Nat) (u pa im tx rw rb rk rt he tr be sp : Nat → Nat) (pm fl ln rm rd bn : Nat) (fk fp rs wk wp bm : Int32)  (v : Int32) : CtI g l yX7_fault cX7_fault 2 (some .int) (rmK 1 0 0) (MW g.2.1 a u pa im tx rw rb rk rt he tr be sp pm fl ln rm rd bn fk fp rs wk wp bm) [.ref (a 0), .int v] (fun r W1 => r = aFau fk fp v ∧ ∃ X, W1 = MSW g.2.1 a ((u, pa, pm, im, fl, tx, ln, fk, fp, rs)) X) := by
  refine CtI.go RX7 rfl (by decide +kernel) (Nat.le_of_ble_eq_true rfl) ?_
  intro p e s m args below meth c A H0 Q hc hnm fin
  show KW g p l e (rmK 1 0 0) s m args below meth c 2 A H0 0 0 Q (MW g.2.1 a u pa im tx rw rb rk rt he tr be sp pm fl ln rm rd bn fk fp rs wk wp bm) [(0, .ref (a 0)), (1, .int v)] 0 []
  refine zk_iload_n hc dX7_fault_0 1 rfl ?_
  refine zk_if_ne hc 11 dX7_fault_1 (by decide) (fun hz => ?_) (fun hz => ?_)
  · refine zk_iload_n hc dX7_fault_11 1 rfl ?_
    refine zk_iconst hc (nI 1) dX7_fault_12 rfl ?_
    refine zk_icmp_ne hc 23 dX7_fault_13 (by decide) (fun h1 => ?_) (fun h1 => ?_)
    · refine zk_iconst hc ((-1)) dX7_fault_23 rfl ?_
      refine fin 0 0 _ _ _ _ (by decide) (by decide) dX7_fault_24 (?_)
      exact ⟨by unfold aFau; rw [if_neg hz, if_neg h1], (rw, rb, rk, rt, he, tr, be, sp, rm, rd, bn, wk, wp, bm), by rfl⟩
    · refine zk_aload_n hc dX7_fault_16 0 rfl ?_
      refine zk_get hc inlX7 (ci := 7) rfl 0 8 (by decide) mw_4_16 rfl rfl rfl dX7_fault_17 ?_
      refine zk_goto hc 24 dX7_fault_20 (by decide) ?_
      refine fin 0 0 _ _ _ _ (by decide) (by decide) dX7_fault_24 (?_)
      exact ⟨by unfold aFau; rw [if_neg hz, if_pos h1], (rw, rb, rk, rt, he, tr, be, sp, rm, rd, bn, wk, wp, bm), by rfl⟩
  · refine zk_aload_n hc dX7_fault_4 0 rfl ?_
    refine zk_get hc inlX7 (ci := 7) rfl 0 7 (by decide) mw_4_15 rfl rfl rfl dX7_fault_5 ?_
    refine zk_goto hc 24 dX7_fault_8 (by decide) ?_
    refine fin 0 0 _ _ _ _ (by decide) (by decide) dX7_fault_24 (?_)
    exact ⟨by unfold aFau; rw [if_pos hz], (rw, rb, rk, rt, he, tr, be, sp, rm, rd, bn, wk, wp, bm), by rfl⟩

set_option maxHeartbeats 4000000 in
set_option maxRecDepth 100000 in
theorem ct_X7_setting (g : GG) (l : Launch) (a : Nat → Nat) (u pa im tx rw rb rk rt he tr be sp : Nat → Nat) (pm fl ln rm rd bn : Nat) (fk fp rs wk wp bm : Int32)  (v : Int32) : CtI g l yX7_setting cX7_setting 2 (some .int) (rmK 2 0 0) (MW g.2.1 a u pa im tx rw rb rk rt he tr be sp pm fl ln rm rd bn fk fp rs wk wp bm) [.ref (a 0), .int v] (fun r W1 => r = aSti u v ∧ ∃ X, W1 = MSW g.2.1 a ((u, pa, pm, im, fl, tx, ln, fk, fp, rs)) X) := by
  refine CtI.go RX7 rfl (by decide +kernel) (Nat.le_of_ble_eq_true rfl) ?_
  intro p e s m args below meth c A H0 Q hc hnm fin
  show KW g p l e (rmK 2 0 0) s m args below meth c 2 A H0 0 0 Q (MW g.2.1 a u pa im tx rw rb rk rt he tr be sp pm fl ln rm rd bn fk fp rs wk wp bm) [(0, .ref (a 0)), (1, .int v)] 0 []
  refine zk_iload_n hc dX7_setting_0 1 rfl ?_
  refine zk_iconst hc (nI 0) dX7_setting_1 rfl ?_
  refine zk_iconst hc (nI 3) dX7_setting_2 rfl ?_
  refine zk_callSi hc (rest := []) (ct_X7_isIn g l v (nI 0) (nI 3)) gg_X7_59 cd_X7_isIn ⟨Nat.le_of_ble_eq_true rfl, Nat.le_of_ble_eq_true rfl⟩ ⟨Nat.le_of_ble_eq_true rfl, Nat.le_of_ble_eq_true rfl⟩ ([]) (MW g.2.1 a u pa im tx rw rb rk rt he tr be sp pm fl ln rm rd bn fk fp rs wk wp bm) rfl rfl (Nat.le_of_ble_eq_true rfl) dX7_setting_3 (fun r W1 hp => ?_)
  obtain ⟨rfl, rfl⟩ := hp
  refine zk_ws (ws2 := MW g.2.1 a u pa im tx rw rb rk rt he tr be sp pm fl ln rm rd bn fk fp rs wk wp bm) rfl ?_
  by_cases hi : nI 0 ≤ v ∧ v ≤ nI 3
  · refine zk_top (y := nI 1) (if_pos hi) ?_
    obtain ⟨t, t0, t1, rfl⟩ := rngN (by omega) hi
    refine zk_if_eqN hc 18 dX7_setting_6 (by decide) (by omega) (fun h_1 => ?_) (fun h_1 => ?_)
    · exact absurd h_1 (by decide)
    · refine zk_aload_n hc dX7_setting_9 0 rfl ?_
      refine zk_get hc inlX7 (ci := 7) rfl 0 0 (by decide) mw_4_11 rfl rfl rfl dX7_setting_10 ?_
      refine zk_iload_n hc dX7_setting_13 1 rfl ?_
      refine zk_ialdN hc 1 rfl (by omega) (by decide) dX7_setting_14 ?_
      refine zk_goto hc 19 dX7_setting_15 (by decide) ?_
      refine fin 0 0 _ _ _ _ (by decide) (by decide) dX7_setting_19 (?_)
      exact ⟨by unfold aSti; rw [if_pos hi, tOf_nI (by omega)], (rw, rb, rk, rt, he, tr, be, sp, rm, rd, bn, wk, wp, bm), by rfl⟩
  · refine zk_top (y := nI 0) (if_neg hi) ?_
    refine zk_if_eqN hc 18 dX7_setting_6 (by decide) (by omega) (fun h_2 => ?_) (fun h_2 => ?_)
    · refine zk_iconst hc ((-1)) dX7_setting_18 rfl ?_
      refine fin 0 0 _ _ _ _ (by decide) (by decide) dX7_setting_19 (?_)
      exact ⟨by unfold aSti; rw [if_neg hi], (rw, rb, rk, rt, he, tr, be, sp, rm, rd, bn, wk, wp, bm), by rfl⟩
    · exact absurd h_2 (by decide)

set_option maxHeartbeats 4000000 in
set_option maxRecDepth 100000 in
theorem ct_X7_train (g : GG) (l : Launch) (a : Nat → Nat) (u pa im tx rw rb rk rt he tr be sp : Nat → Nat) (pm fl ln rm rd bn : Nat) (fk fp rs wk wp bm : Int32) (cN : Nat) (hN : cN ≤ 512) (hW : Wf cN u)  (v : Int32) : CtI g l yX7_train cX7_train 2 (some .int) (rmK 1 0 0) (MW g.2.1 a u pa im tx rw rb rk rt he tr be sp pm fl ln rm rd bn fk fp rs wk wp bm) [.ref (a 0), .int v] (fun r W1 => r = aTra u v ∧ ∃ X, W1 = MSW g.2.1 a ((u, pa, pm, im, fl, tx, ln, fk, fp, rs)) X) := by
  refine CtI.go RX7 rfl (by decide +kernel) (Nat.le_of_ble_eq_true rfl) ?_
  intro p e s m args below meth c A H0 Q hc hnm fin
  obtain ⟨⟨hK2, hK4⟩, ⟨hC1, hC8⟩, hg, ⟨hh1, hh2⟩, ⟨hv1, hv2⟩, hs3, hl10, hld, htr, hmC, hwk, hbg⟩ := id hW
  have hm : ∀ t, t < 4 → mny u t ≤ 8 := fun t h => (htr t h).1
  have hm4 : ∀ t, t < u 4 → mny u t ≤ 8 := fun t h => (htr t (by omega)).1
  have hk : ∀ t j, t < 4 → j < 8 → knd u t j < 3 := fun t j h1 h2 => (hwk t j h1 h2).2
  have hd : ∀ t j, t < 4 → j < 8 → dst u t j < 6 := fun t j h1 h2 => (hwk t j h1 h2).1
  have h13 : u 13 < 6 := hld 0 (by omega)
  have h6 : u 6 ≤ 1000 * cN + 600 := hbg 6 (by omega)
  show KW g p l e (rmK 1 0 0) s m args below meth c 2 A H0 0 0 Q (MW g.2.1 a u pa im tx rw rb rk rt he tr be sp pm fl ln rm rd bn fk fp rs wk wp bm) [(0, .ref (a 0)), (1, .int v)] 0 []
  refine zk_iload_n hc dX7_train_0 1 rfl ?_
  refine zk_if_ge hc 8 dX7_train_1 (by decide) (fun h0 => ?_) (fun h0 => ?_)
  · refine zk_iload_n hc dX7_train_8 1 rfl ?_
    refine zk_aload_n hc dX7_train_9 0 rfl ?_
    refine zk_get hc inlX7 (ci := 7) rfl 0 0 (by decide) mw_4_11 rfl rfl rfl dX7_train_10 ?_
    refine zk_bipush hc (nI 12) dX7_train_13 rfl ?_
    refine zk_ialdN hc 1 rfl (by omega) (by decide) dX7_train_15 ?_
    refine zk_icmp_ge hc 31 dX7_train_16 (by decide) (fun h1 => ?_) (fun h1 => ?_)
    · refine zk_bipush hc ((-9)) dX7_train_31 rfl ?_
      refine fin 0 0 _ _ _ _ (by decide) (by decide) dX7_train_33 (?_)
      exact ⟨by unfold aTra; rw [if_neg (not_not_intro h0), if_neg (not_not_intro h1)], (rw, rb, rk, rt, he, tr, be, sp, rm, rd, bn, wk, wp, bm), by rfl⟩
    · obtain ⟨t, t0, rfl⟩ := rngL (by omega) h0 h1
      refine zk_aload_n hc dX7_train_19 0 rfl ?_
      refine zk_get hc inlX7 (ci := 7) rfl 0 0 (by decide) mw_4_11 rfl rfl rfl dX7_train_20 ?_
      refine zk_bipush hc (nI 13) dX7_train_23 rfl ?_
      refine zk_iload_n hc dX7_train_25 1 rfl ?_
      refine zk_iaddN hc dX7_train_26 ?_
      refine zk_ialdN hc 1 rfl (by omega) (by decide) dX7_train_27 ?_
      refine zk_goto hc 33 dX7_train_28 (by decide) ?_
      refine fin 0 0 _ _ _ _ (by decide) (by decide) dX7_train_33 (?_)
      exact ⟨by unfold aTra; rw [if_neg (not_not_intro h0), if_pos h1, tOf_nI (by omega)], (rw, rb, rk, rt, he, tr, be, sp, rm, rd, bn, wk, wp, bm), by rfl⟩
  · refine zk_iconst hc ((-1)) dX7_train_4 rfl ?_
    refine zk_goto hc 33 dX7_train_5 (by decide) ?_
    refine fin 0 0 _ _ _ _ (by decide) (by decide) dX7_train_33 (?_)
    exact ⟨by unfold aTra; rw [if_pos h0], (rw, rb, rk, rt, he, tr, be, sp, rm, rd, bn, wk, wp, bm), by rfl⟩

set_option maxHeartbeats 4000000 in
set_option maxRecDepth 100000 in
theorem ct_X7_wagon (g : GG) (l : Launch) (a : Nat → Nat) (u pa im tx rw rb rk rt he tr be sp : Nat → Nat) (pm fl ln rm rd bn : Nat) (fk fp rs wk wp bm : Int32) (cN : Nat) (hN : cN ≤ 512) (hW : Wf cN u)  (v pv w : Int32) : CtI g l yX7_wagon cX7_wagon 4 (some .int) (rmK 3 0 0) (MW g.2.1 a u pa im tx rw rb rk rt he tr be sp pm fl ln rm rd bn fk fp rs wk wp bm) [.ref (a 0), .int v, .int pv, .int w] (fun r W1 => r = aWag u v pv w ∧ ∃ X, W1 = MSW g.2.1 a ((u, pa, pm, im, fl, tx, ln, fk, fp, rs)) X) := by
  refine CtI.go RX7 rfl (by decide +kernel) (Nat.le_of_ble_eq_true rfl) ?_
  intro p e s m args below meth c A H0 Q hc hnm fin
  obtain ⟨⟨hK2, hK4⟩, ⟨hC1, hC8⟩, hg, ⟨hh1, hh2⟩, ⟨hv1, hv2⟩, hs3, hl10, hld, htr, hmC, hwk, hbg⟩ := id hW
  have hm : ∀ t, t < 4 → mny u t ≤ 8 := fun t h => (htr t h).1
  have hm4 : ∀ t, t < u 4 → mny u t ≤ 8 := fun t h => (htr t (by omega)).1
  have hk : ∀ t j, t < 4 → j < 8 → knd u t j < 3 := fun t j h1 h2 => (hwk t j h1 h2).2
  have hd : ∀ t j, t < 4 → j < 8 → dst u t j < 6 := fun t j h1 h2 => (hwk t j h1 h2).1
  have h13 : u 13 < 6 := hld 0 (by omega)
  have h6 : u 6 ≤ 1000 * cN + 600 := hbg 6 (by omega)
  show KW g p l e (rmK 3 0 0) s m args below meth c 4 A H0 0 0 Q (MW g.2.1 a u pa im tx rw rb rk rt he tr be sp pm fl ln rm rd bn fk fp rs wk wp bm) [(0, .ref (a 0)), (1, .int v), (2, .int pv), (3, .int w)] 0 []
  refine zk_aload_n hc dX7_wagon_0 0 rfl ?_
  refine zk_iload_n hc dX7_wagon_1 1 rfl ?_
  refine zk_callVi hc (rest := []) (ct_X7_isTrack g l a u pa im tx rw rb rk rt he tr be sp pm fl ln rm rd bn fk fp rs wk wp bm v (by omega)) gg_X7_89 cd_X7_isTrack ⟨Nat.le_of_ble_eq_true rfl, Nat.le_of_ble_eq_true rfl⟩ ⟨Nat.le_of_ble_eq_true rfl, Nat.le_of_ble_eq_true rfl⟩ ([]) ([]) rfl 0 rfl rfl rfl (Nat.le_of_ble_eq_true rfl) dX7_wagon_2 (fun r W1 hp => ?_)
  obtain ⟨rfl, rfl⟩ := hp
  refine zk_ws (ws2 := MW g.2.1 a u pa im tx rw rb rk rt he tr be sp pm fl ln rm rd bn fk fp rs wk wp bm) rfl ?_
  by_cases hi : nI 0 ≤ v ∧ v ≤ nI (u 4 - 1)
  · refine zk_top (y := nI 1) (if_pos hi) ?_
    obtain ⟨t, t0, t1, rfl⟩ := rngN (by omega) hi
    refine zk_if_eqN hc 21 dX7_wagon_5 (by decide) (by omega) (fun h_1 => ?_) (fun h_1 => ?_)
    · exact absurd h_1 (by decide)
    · refine zk_iload_n hc dX7_wagon_8 2 rfl ?_
      refine zk_if_lt hc 21 dX7_wagon_9 (by decide) (fun hp => ?_) (fun hp => ?_)
      · refine zk_iconst hc ((-1)) dX7_wagon_21 rfl ?_
        refine fin 0 0 _ _ _ _ (by decide) (by decide) dX7_wagon_22 (?_)
        exact ⟨by unfold aWag; rw [if_neg (fun z => z.2.1 hp)], (rw, rb, rk, rt, he, tr, be, sp, rm, rd, bn, wk, wp, bm), by rfl⟩
      · refine zk_iload_n hc dX7_wagon_12 3 rfl ?_
        refine zk_iconst hc (nI 0) dX7_wagon_13 rfl ?_
        refine zk_iconst hc (nI 2) dX7_wagon_14 rfl ?_
        refine zk_callSi hc (rest := []) (ct_X7_isIn g l w (nI 0) (nI 2)) gg_X7_59 cd_X7_isIn ⟨Nat.le_of_ble_eq_true rfl, Nat.le_of_ble_eq_true rfl⟩ ⟨Nat.le_of_ble_eq_true rfl, Nat.le_of_ble_eq_true rfl⟩ ([]) (MW g.2.1 a u pa im tx rw rb rk rt he tr be sp pm fl ln rm rd bn fk fp rs wk wp bm) rfl rfl (Nat.le_of_ble_eq_true rfl) dX7_wagon_15 (fun r W1 hp => ?_)
        obtain ⟨rfl, rfl⟩ := hp
        refine zk_ws (ws2 := MW g.2.1 a u pa im tx rw rb rk rt he tr be sp pm fl ln rm rd bn fk fp rs wk wp bm) rfl ?_
        by_cases hq : nI 0 ≤ w ∧ w ≤ nI 2
        · refine zk_top (y := nI 1) (if_pos hq) ?_
          obtain ⟨k, k0, k1, rfl⟩ := rngN (by omega) hq
          refine zk_if_neN hc 23 dX7_wagon_18 (by decide) (by omega) (fun h_2 => ?_) (fun h_2 => ?_)
          · refine zk_iload_n hc dX7_wagon_23 2 rfl ?_
            refine zk_aload_n hc dX7_wagon_24 0 rfl ?_
            refine zk_iload_n hc dX7_wagon_25 1 rfl ?_
            refine zk_iconst hc (nI 0) dX7_wagon_26 rfl ?_
            refine zk_callVi hc (rest := [.int pv]) (ct_X7_of g l a u pa im tx rw rb rk rt he tr be sp pm fl ln rm rd bn fk fp rs wk wp bm t 0 (by omega)) gg_X7_63 cd_X7_of ⟨Nat.le_of_ble_eq_true rfl, Nat.le_of_ble_eq_true rfl⟩ ⟨Nat.le_of_ble_eq_true rfl, Nat.le_of_ble_eq_true rfl⟩ ([]) ([]) rfl 0 rfl rfl rfl (Nat.le_of_ble_eq_true rfl) dX7_wagon_27 (fun r W1 hp => ?_)
            obtain ⟨rfl, rfl⟩ := hp
            refine zk_ws (ws2 := MW g.2.1 a u pa im tx rw rb rk rt he tr be sp pm fl ln rm rd bn fk fp rs wk wp bm) rfl ?_
            refine zk_top (y := nI (mny u t)) rfl ?_
            refine zk_icmp_ge hc 48 dX7_wagon_30 (by decide) (fun hx => ?_) (fun hx => ?_)
            · refine zk_bipush hc ((-9)) dX7_wagon_48 rfl ?_
              refine fin 0 0 _ _ _ _ (by decide) (by decide) dX7_wagon_50 (?_)
              exact ⟨by unfold aWag; rw [if_pos ⟨hi, hp, hq⟩, tOf_nI (by omega), if_neg (not_not_intro hx)], (rw, rb, rk, rt, he, tr, be, sp, rm, rd, bn, wk, wp, bm), by rfl⟩
            · have hmt := hm t (by omega)
              obtain ⟨j, hj, rfl⟩ := rngL (by omega) (Int32.not_lt.mp hp) hx
              refine zk_aload_n hc dX7_wagon_33 0 rfl ?_
              refine zk_iload_n hc dX7_wagon_34 1 rfl ?_
              refine zk_iconst hc (nI 3) dX7_wagon_35 rfl ?_
              refine zk_iconst hc (nI 3) dX7_wagon_36 rfl ?_
              refine zk_iload_n hc dX7_wagon_37 2 rfl ?_
              refine zk_imulN hc dX7_wagon_38 ?_
              refine zk_iaddN hc dX7_wagon_39 ?_
              refine zk_iload_n hc dX7_wagon_40 3 rfl ?_
              refine zk_iaddN hc dX7_wagon_41 ?_
              refine zk_callVi hc (rest := []) (ct_X7_of g l a u pa im tx rw rb rk rt he tr be sp pm fl ln rm rd bn fk fp rs wk wp bm t ((3 + (3 * j)) + k) (by omega)) gg_X7_63 cd_X7_of ⟨Nat.le_of_ble_eq_true rfl, Nat.le_of_ble_eq_true rfl⟩ ⟨Nat.le_of_ble_eq_true rfl, Nat.le_of_ble_eq_true rfl⟩ ([]) ([]) rfl 0 rfl rfl rfl (Nat.le_of_ble_eq_true rfl) dX7_wagon_42 (fun r W1 hp => ?_)
              obtain ⟨rfl, rfl⟩ := hp
              refine zk_ws (ws2 := MW g.2.1 a u pa im tx rw rb rk rt he tr be sp pm fl ln rm rd bn fk fp rs wk wp bm) rfl ?_
              refine zk_goto hc 50 dX7_wagon_45 (by decide) ?_
              refine fin 0 0 _ _ _ _ (by decide) (by decide) dX7_wagon_50 (?_)
              exact ⟨by unfold aWag; rw [if_pos ⟨hi, hp, hq⟩, tOf_nI (by omega), if_pos hx, tOf_nI (by omega), tOf_nI (by omega)], (rw, rb, rk, rt, he, tr, be, sp, rm, rd, bn, wk, wp, bm), by rfl⟩
          · exact absurd h_2 (by decide)
        · refine zk_top (y := nI 0) (if_neg hq) ?_
          refine zk_if_neN hc 23 dX7_wagon_18 (by decide) (by omega) (fun h_3 => ?_) (fun h_3 => ?_)
          · exact absurd h_3 (by decide)
          · refine zk_iconst hc ((-1)) dX7_wagon_21 rfl ?_
            refine fin 0 0 _ _ _ _ (by decide) (by decide) dX7_wagon_22 (?_)
            exact ⟨by unfold aWag; rw [if_neg (fun z => hq z.2.2)], (rw, rb, rk, rt, he, tr, be, sp, rm, rd, bn, wk, wp, bm), by rfl⟩
  · refine zk_top (y := nI 0) (if_neg hi) ?_
    refine zk_if_eqN hc 21 dX7_wagon_5 (by decide) (by omega) (fun h_4 => ?_) (fun h_4 => ?_)
    · refine zk_iconst hc ((-1)) dX7_wagon_21 rfl ?_
      refine fin 0 0 _ _ _ _ (by decide) (by decide) dX7_wagon_22 (?_)
      exact ⟨by unfold aWag; rw [if_neg (fun z => hi z.1)], (rw, rb, rk, rt, he, tr, be, sp, rm, rd, bn, wk, wp, bm), by rfl⟩
    · exact absurd h_4 (by decide)
