set_option maxHeartbeats 4000000 in
set_option maxRecDepth 100000 in
theorem ct_X7_isImage (g : GG) (l : Launch) (v : Int32) : CtI g l yX7_isImage cX7_isImage 1 (some .boolean) (rmK 2 0 0) (([] : va_W)) [.int v] (fun r W1 => r = (if inR 0 1 v then nI 1 else nI 0) ∧ W1 = []) := by
  refine CtZ.go RX7 rfl (by decide +kernel) (Nat.le_of_ble_eq_true rfl) ?_
  intro p e s m args below meth c A H0 Q hc hnm fin
  show KW g p l e (rmK 2 0 0) s m args below meth c 1 A H0 0 0 Q (([] : va_W)) [(0, .int v)] 0 []
  refine zk_iload_n hc dX7_isImage_0 0 rfl ?_
  refine zk_iconst hc (nI 0) dX7_isImage_1 rfl ?_
  refine zk_iconst hc (nI 1) dX7_isImage_2 rfl ?_
  refine zk_callSi hc (rest := []) (ct_X7_isIn g l v (nI 0) (nI 1)) gg_X7_59 cd_X7_isIn ⟨Nat.le_of_ble_eq_true rfl, Nat.le_of_ble_eq_true rfl⟩ ⟨Nat.le_of_ble_eq_true rfl, Nat.le_of_ble_eq_true rfl⟩ ([]) ([] : va_W) rfl rfl (Nat.le_of_ble_eq_true rfl) dX7_isImage_3 (fun r W1 hp => ?_)
  obtain ⟨rfl, rfl⟩ := hp
  refine zk_ws (ws2 := ([] : va_W)) rfl ?_
  by_cases hi : nI 0 ≤ v ∧ v ≤ nI 1
  · refine zk_top (y := nI 1) (if_pos hi) ?_
    exact fin 0 0 _ _ _ _ (by decide) (by decide) dX7_isImage_6 rfl (⟨by rw [if_pos hi], rfl⟩)
  · refine zk_top (y := nI 0) (if_neg hi) ?_
    exact fin 0 0 _ _ _ _ (by decide) (by decide) dX7_isImage_6 rfl (⟨by rw [if_neg hi], rfl⟩)

set_option maxHeartbeats 4000000 in
set_option maxRecDepth 100000 in
theorem ct_X7_keep (g : GG) (l : Launch) (a : Nat → Nat) (u pa im tx rw rb rk rt he tr be sp : Nat → Nat) (pm fl ln rm rd bn : Nat) (fk fp rs wk wp bm : Int32) (cN : Nat) (hN : cN ≤ 512) (hW : Wf cN u) (hfl : fl < 4) (v : Int32) : CtI g l yX7_keep cX7_keep 3 (some .int) (rmK 3 0 0) (MW g.2.1 a u pa im tx rw rb rk rt he tr be sp pm fl ln rm rd bn fk fp rs wk wp bm) [.ref (a 0), .int v] (fun r W1 => r = aKee u v ∧ ∃ X, W1 = MSW g.2.1 a (nKee (u, pa, pm, im, fl, tx, ln, fk, fp, rs) v) X) := by
  refine CtI.go RX7 rfl (by decide +kernel) (Nat.le_of_ble_eq_true rfl) ?_
  intro p e s m args below meth c A H0 Q hc hnm fin
  obtain ⟨⟨hK2, hK4⟩, ⟨hC1, hC8⟩, hg, ⟨hh1, hh2⟩, ⟨hv1, hv2⟩, hs3, hl10, hld, htr, hmC, hwk, hbg⟩ := id hW
  have hm : ∀ t, t < 4 → mny u t ≤ 8 := fun t h => (htr t h).1
  have hm4 : ∀ t, t < u 4 → mny u t ≤ 8 := fun t h => (htr t (by omega)).1
  have hk : ∀ t j, t < 4 → j < 8 → knd u t j < 3 := fun t j h1 h2 => (hwk t j h1 h2).2
  have hd : ∀ t j, t < 4 → j < 8 → dst u t j < 6 := fun t j h1 h2 => (hwk t j h1 h2).1
  have h13 : u 13 < 6 := hld 0 (by omega)
  have h6 : u 6 ≤ 1000 * cN + 600 := hbg 6 (by omega)
  show KW g p l e (rmK 3 0 0) s m args below meth c 3 A H0 0 0 Q (MW g.2.1 a u pa im tx rw rb rk rt he tr be sp pm fl ln rm rd bn fk fp rs wk wp bm) [(0, .ref (a 0)), (1, .int v)] 0 []
  refine zk_iload_n hc dX7_keep_0 1 rfl ?_
  refine zk_callSi hc (rest := []) (ct_X7_isImage g l v) gg_X7_203 cd_X7_isImage ⟨Nat.le_of_ble_eq_true rfl, Nat.le_of_ble_eq_true rfl⟩ ⟨Nat.le_of_ble_eq_true rfl, Nat.le_of_ble_eq_true rfl⟩ ([]) (MW g.2.1 a u pa im tx rw rb rk rt he tr be sp pm fl ln rm rd bn fk fp rs wk wp bm) rfl rfl (Nat.le_of_ble_eq_true rfl) dX7_keep_1 (fun r W1 hp => ?_)
  obtain ⟨rfl, rfl⟩ := hp
  refine zk_ws (ws2 := MW g.2.1 a u pa im tx rw rb rk rt he tr be sp pm fl ln rm rd bn fk fp rs wk wp bm) rfl ?_
  by_cases hi : inR 0 1 v
  · refine zk_top (y := nI 1) (if_pos hi) ?_
    obtain ⟨t, t0, t1, rfl⟩ := rngN (by omega) hi
    refine zk_if_neN hc 9 dX7_keep_4 (by decide) (by omega) (fun h_1 => ?_) (fun h_1 => ?_)
    · refine zk_iconst hc (nI 0) dX7_keep_9 rfl ?_
      refine zk_istore_n hc (lv2 := [(2, .int (nI 0)), (0, .ref (a 0)), (1, .int (nI t))]) dX7_keep_10 (by decide) rfl ?_
      refine zk_ws (ws2 := MW g.2.1 a u pa (va_cpy u im 0 (131 * t) 0) tx rw rb rk rt he tr be sp pm fl ln rm rd bn fk fp rs wk wp bm) (congrArg (fun zz => MW g.2.1 a u pa zz tx rw rb rk rt he tr be sp pm fl ln rm rd bn fk fp rs wk wp bm) (show im = va_cpy u im 0 (131 * t) 0 from cpy_zero _ _ _ _)) ?_
      have loop11 : ∀ (N : Nat) (q : Nat), 131 - q < N → (q ≤ 131) → KW g p l e (rmK 3 0 0) s m args below meth c 3 A H0 0 0 Q (MW g.2.1 a u pa (va_cpy u im 0 (131 * t) q) tx rw rb rk rt he tr be sp pm fl ln rm rd bn fk fp rs wk wp bm) [(0, .ref (a 0)), (1, .int (nI t)), (2, .int (nI q))] 11 [] := by
        intro N
        induction N with
        | zero => intro q hm; exact absurd hm (Nat.not_lt_zero _)
        | succ N ih11 =>
          intro q hm11 hq
          refine zk_iload_n hc dX7_keep_11 2 rfl ?_
          refine zk_sipush hc (nI 131) dX7_keep_12 rfl ?_
          refine zk_icmp_geN hc 42 dX7_keep_15 (by decide) (by omega) (by omega) (fun h_2 => ?_) (fun h_2 => ?_)
          · refine zk_ws (ws2 := MW g.2.1 a u pa (va_cpy u im 0 (131 * t) 131) tx rw rb rk rt he tr be sp pm fl ln rm rd bn fk fp rs wk wp bm) (congrArg (fun zz => MW g.2.1 a u pa zz tx rw rb rk rt he tr be sp pm fl ln rm rd bn fk fp rs wk wp bm) (show va_cpy u im 0 (131 * t) q = va_cpy u im 0 (131 * t) 131 from congrArg (va_cpy u im 0 (131 * t)) (by omega))) ?_
            refine zk_aload_n hc dX7_keep_42 0 rfl ?_
            refine zk_dup hc dX7_keep_43 rfl ?_
            refine zk_get hc inlX7 (ci := 7) rfl 0 4 (by decide) mw_31_8 rfl rfl rfl dX7_keep_44 ?_
            refine zk_iconst hc (nI 1) dX7_keep_47 rfl ?_
            refine zk_iload_n hc dX7_keep_48 1 rfl ?_
            refine zk_ishl hc dX7_keep_49 ?_
            refine zk_ior hc dX7_keep_50 ?_
            refine zk_top (y := nI (flS fl t)) (flS_eq hfl (by omega)) ?_
            refine zk_put hc inlX7 (ci := 7) rfl tyX7 tyX7_ok nmX7 0 4 (by decide) mw_31_8 rfl rfl rfl rfl rfl (Nat.le_of_ble_eq_true rfl) (ws2 := MW g.2.1 a u pa (va_cpy u im 0 (131 * t) 131) tx rw rb rk rt he tr be sp pm (flS fl t) ln rm rd bn fk fp rs wk wp bm) rfl dX7_keep_51 ?_
            refine zk_aload_n hc dX7_keep_54 0 rfl ?_
            refine zk_callVi hc (rest := []) (ct_X7_wagons g l a u pa (va_cpy u im 0 (131 * t) 131) tx rw rb rk rt he tr be sp pm (flS fl t) ln rm rd bn fk fp rs wk wp bm hK4 hm4) gg_X7_193 cd_X7_wagons ⟨Nat.le_of_ble_eq_true rfl, Nat.le_of_ble_eq_true rfl⟩ ⟨Nat.le_of_ble_eq_true rfl, Nat.le_of_ble_eq_true rfl⟩ ([]) ([]) rfl 0 rfl rfl rfl (Nat.le_of_ble_eq_true rfl) dX7_keep_55 (fun r W1 hp => ?_)
            obtain ⟨rfl, rfl⟩ := hp
            refine zk_ws (ws2 := MW g.2.1 a u pa (va_cpy u im 0 (131 * t) 131) tx rw rb rk rt he tr be sp pm (flS fl t) ln rm rd bn fk fp rs wk wp bm) rfl ?_
            refine fin 0 0 _ _ _ _ (by decide) (by decide) dX7_keep_58 (?_)
            exact ⟨by unfold aKee; rw [if_pos hi], (rw, rb, rk, rt, he, tr, be, sp, rm, rd, bn, wk, wp, bm), by unfold nKee; rw [if_pos hi, tOf_nI (by omega)]; rfl⟩
          · refine zk_aload_n hc dX7_keep_18 0 rfl ?_
            refine zk_get hc inlX7 (ci := 7) rfl 0 3 (by decide) mw_4_13 rfl rfl rfl dX7_keep_19 ?_
            refine zk_sipush hc (nI 131) dX7_keep_22 rfl ?_
            refine zk_iload_n hc dX7_keep_25 1 rfl ?_
            refine zk_imulN hc dX7_keep_26 ?_
            refine zk_iload_n hc dX7_keep_27 2 rfl ?_
            refine zk_iaddN hc dX7_keep_28 ?_
            refine zk_aload_n hc dX7_keep_29 0 rfl ?_
            refine zk_get hc inlX7 (ci := 7) rfl 0 0 (by decide) mw_4_11 rfl rfl rfl dX7_keep_30 ?_
            refine zk_iload_n hc dX7_keep_33 2 rfl ?_
            refine zk_ialdN hc 1 rfl (by omega) (by decide) dX7_keep_34 ?_
            refine zk_iastN hc 3 rfl (by omega) (by decide) (ws2 := MW g.2.1 a u pa (va_up (va_cpy u im 0 (131 * t) q) ((131 * t) + q) (u q)) tx rw rb rk rt he tr be sp pm fl ln rm rd bn fk fp rs wk wp bm) rfl dX7_keep_35 ?_
            refine zk_ws (ws2 := MW g.2.1 a u pa (va_cpy u im 0 (131 * t) (q + 1)) tx rw rb rk rt he tr be sp pm fl ln rm rd bn fk fp rs wk wp bm) (congrArg (fun zz => MW g.2.1 a u pa zz tx rw rb rk rt he tr be sp pm fl ln rm rd bn fk fp rs wk wp bm) (show va_up (va_cpy u im 0 (131 * t) q) ((131 * t) + q) (u q) = va_cpy u im 0 (131 * t) (q + 1) from cpy_step (by omega) (by rw [Nat.zero_add]))) ?_
            refine zk_iinc hc (v := nI (q + 1)) (lv2 := [(2, .int (nI (q + 1))), (0, .ref (a 0)), (1, .int (nI t))]) dX7_keep_36 2 rfl (nq_inc rfl) (by decide) rfl ?_
            refine zk_goto hc 11 dX7_keep_39 (by decide) ?_
            refine zk_lv [1, 2, 0] (lv2 := [(0, .ref (a 0)), (1, .int (nI t)), (2, .int (nI (q + 1)))]) rfl ?_
            exact ih11 (q + 1) (by omega) (by omega)
      refine zk_lv [1, 2, 0] (lv2 := [(0, .ref (a 0)), (1, .int (nI t)), (2, .int (nI 0))]) rfl ?_
      exact loop11 ((131 - 0) + 1) 0 (Nat.lt_succ_self _) (Nat.zero_le _)
    · exact absurd h_1 (by decide)
  · refine zk_top (y := nI 0) (if_neg hi) ?_
    refine zk_if_neN hc 9 dX7_keep_4 (by decide) (by omega) (fun h_3 => ?_) (fun h_3 => ?_)
    · exact absurd h_3 (by decide)
    · refine zk_iconst hc ((-1)) dX7_keep_7 rfl ?_
      refine fin 0 0 _ _ _ _ (by decide) (by decide) dX7_keep_8 (?_)
      exact ⟨by unfold aKee; rw [if_neg hi], (rw, rb, rk, rt, he, tr, be, sp, rm, rd, bn, wk, wp, bm), by unfold nKee; rw [if_neg hi]; rfl⟩

set_option maxHeartbeats 4000000 in
set_option maxRecDepth 100000 in
theorem ct_X7_unsafeTracks (g : GG) (l : Launch) (a : Nat → Nat) (u pa im tx rw rb rk rt he tr be sp : Nat → Nat) (pm fl ln rm rd bn : Nat) (fk fp rs wk wp bm : Int32) (hK4 : u 4 ≤ 4) (hm : ∀ t, t < 4 → mny u t ≤ 8) (hk : ∀ t j, t < 4 → j < 8 → knd u t j < 3) (hg : u 0 ≤ 3) : CtI g l yX7_unsafeTracks cX7_unsafeTracks 3 (some .int) (rmK 5 0 0) (MW g.2.1 a u pa im tx rw rb rk rt he tr be sp pm fl ln rm rd bn fk fp rs wk wp bm) [.ref (a 0)] (fun r W1 => r = nI (unsN u (u 4)) ∧ ∃ r2 n2, W1 = MW g.2.1 a u pa im tx r2 rb rk rt he tr be sp pm fl ln n2 rd bn fk fp rs wk wp bm) := by
  refine CtI.go RX7 rfl (by decide +kernel) (Nat.le_of_ble_eq_true rfl) ?_
  intro p e s m args below meth c A H0 Q hc hnm fin
  show KW g p l e (rmK 5 0 0) s m args below meth c 3 A H0 0 0 Q (MW g.2.1 a u pa im tx rw rb rk rt he tr be sp pm fl ln rm rd bn fk fp rs wk wp bm) [(0, .ref (a 0))] 0 []
  refine zk_iconst hc (nI 0) dX7_unsafeTracks_0 rfl ?_
  refine zk_istore_n hc (lv2 := [(1, .int (nI 0)), (0, .ref (a 0))]) dX7_unsafeTracks_1 (by decide) rfl ?_
  refine zk_iconst hc (nI 0) dX7_unsafeTracks_2 rfl ?_
  refine zk_istore_n hc (lv2 := [(2, .int (nI 0)), (1, .int (nI 0)), (0, .ref (a 0))]) dX7_unsafeTracks_3 (by decide) rfl ?_
  have loop4 : ∀ (N : Nat) (q : Nat) (x : Nat) (r1 : Nat → Nat) (n1 : Nat), u 4 - q < N → (q ≤ u 4) → (x = unsN u q) → KW g p l e (rmK 5 0 0) s m args below meth c 3 A H0 0 0 Q (MW g.2.1 a u pa im tx r1 rb rk rt he tr be sp pm fl ln n1 rd bn fk fp rs wk wp bm) [(0, .ref (a 0)), (1, .int (nI x)), (2, .int (nI q))] 4 [] := by
    intro N
    induction N with
    | zero => intro q x r1 n1 hm; exact absurd hm (Nat.not_lt_zero _)
    | succ N ih4 =>
      intro q x r1 n1 hm4 hq hx
      refine zk_iload_n hc dX7_unsafeTracks_4 2 rfl ?_
      refine zk_aload_n hc dX7_unsafeTracks_5 0 rfl ?_
      refine zk_get hc inlX7 (ci := 7) rfl 0 0 (by decide) mw_4_11 rfl rfl rfl dX7_unsafeTracks_6 ?_
      refine zk_iconst hc (nI 4) dX7_unsafeTracks_9 rfl ?_
      refine zk_ialdN hc 1 rfl (by omega) (by decide) dX7_unsafeTracks_10 ?_
      refine zk_icmp_geN hc 36 dX7_unsafeTracks_11 (by decide) (by omega) (by omega) (fun h_1 => ?_) (fun h_1 => ?_)
      · refine zk_iload_n hc dX7_unsafeTracks_36 1 rfl ?_
        refine fin 0 0 _ _ _ _ (by decide) (by decide) dX7_unsafeTracks_37 (?_)
        exact ⟨by rw [hx, show q = u 4 by omega], _, _, rfl⟩
      · refine zk_iload_n hc dX7_unsafeTracks_14 1 rfl ?_
        refine zk_aload_n hc dX7_unsafeTracks_15 0 rfl ?_
        refine zk_iload_n hc dX7_unsafeTracks_16 2 rfl ?_
        refine zk_callVi hc (rest := [.int (nI x)]) (ct_X7_isSafe g l a u pa im tx r1 rb rk rt he tr be sp pm fl ln n1 rd bn fk fp rs wk wp bm q (by omega) (hm q (by omega)) hk hg) gg_X7_120 cd_X7_isSafe ⟨Nat.le_of_ble_eq_true rfl, Nat.le_of_ble_eq_true rfl⟩ ⟨Nat.le_of_ble_eq_true rfl, Nat.le_of_ble_eq_true rfl⟩ ([]) ([]) rfl 0 rfl rfl rfl (Nat.le_of_ble_eq_true rfl) dX7_unsafeTracks_17 (fun r W1 hp => ?_)
        obtain ⟨rfl, r_2, n_3, rfl⟩ := hp
        refine zk_ws (ws2 := MW g.2.1 a u pa im tx r_2 rb rk rt he tr be sp pm fl ln n_3 rd bn fk fp rs wk wp bm) rfl ?_
        by_cases hs : u 0 ≤ gap (kds u q (mny u q))
        · refine zk_top (y := nI 1) (if_pos hs) ?_
          refine zk_if_eqN hc 27 dX7_unsafeTracks_20 (by decide) (by omega) (fun h_4 => ?_) (fun h_4 => ?_)
          · exact absurd h_4 (by decide)
          · refine zk_iconst hc (nI 0) dX7_unsafeTracks_23 rfl ?_
            refine zk_goto hc 28 dX7_unsafeTracks_24 (by decide) ?_
            refine zk_iaddN hc dX7_unsafeTracks_28 ?_
            refine zk_istore_n hc (lv2 := [(1, .int (nI (x + 0))), (0, .ref (a 0)), (2, .int (nI q))]) dX7_unsafeTracks_29 (by decide) rfl ?_
            refine zk_iinc hc (v := nI (q + 1)) (lv2 := [(2, .int (nI (q + 1))), (1, .int (nI (x + 0))), (0, .ref (a 0))]) dX7_unsafeTracks_30 2 rfl (nq_inc rfl) (by decide) rfl ?_
            refine zk_goto hc 4 dX7_unsafeTracks_33 (by decide) ?_
            refine zk_lv [2, 1, 0] (lv2 := [(0, .ref (a 0)), (1, .int (nI (x + 0))), (2, .int (nI (q + 1)))]) rfl ?_
            exact ih4 (q + 1) (x + 0) r_2 n_3 (by omega) (by omega) (by unfold unsN; rw [hx, if_pos hs])
        · refine zk_top (y := nI 0) (if_neg hs) ?_
          refine zk_if_eqN hc 27 dX7_unsafeTracks_20 (by decide) (by omega) (fun h_5 => ?_) (fun h_5 => ?_)
          · refine zk_iconst hc (nI 1) dX7_unsafeTracks_27 rfl ?_
            refine zk_iaddN hc dX7_unsafeTracks_28 ?_
            refine zk_istore_n hc (lv2 := [(1, .int (nI (x + 1))), (0, .ref (a 0)), (2, .int (nI q))]) dX7_unsafeTracks_29 (by decide) rfl ?_
            refine zk_iinc hc (v := nI (q + 1)) (lv2 := [(2, .int (nI (q + 1))), (1, .int (nI (x + 1))), (0, .ref (a 0))]) dX7_unsafeTracks_30 2 rfl (nq_inc rfl) (by decide) rfl ?_
            refine zk_goto hc 4 dX7_unsafeTracks_33 (by decide) ?_
            refine zk_lv [2, 1, 0] (lv2 := [(0, .ref (a 0)), (1, .int (nI (x + 1))), (2, .int (nI (q + 1)))]) rfl ?_
            exact ih4 (q + 1) (x + 1) r_2 n_3 (by omega) (by omega) (by unfold unsN; rw [hx, if_neg hs])
          · exact absurd h_5 (by decide)
  refine zk_lv [2, 1, 0] (lv2 := [(0, .ref (a 0)), (1, .int (nI 0)), (2, .int (nI 0))]) rfl ?_
  exact loop4 ((u 4 - 0) + 1) 0 0 rw rm (Nat.lt_succ_self _) (Nat.zero_le _) rfl

set_option maxHeartbeats 4000000 in
set_option maxRecDepth 100000 in
theorem ct_X7_spread (g : GG) (l : Launch) (a : Nat → Nat) (u pa im tx rw rb rk rt he tr be sp : Nat → Nat) (pm fl ln rm rd bn : Nat) (fk fp rs wk wp bm : Int32) (hK4 : u 4 ≤ 4) (hm : ∀ t, t < 4 → mny u t ≤ 8) (hd : ∀ t j, t < 4 → j < 8 → dst u t j < 6) (h13 : u 13 < 6) : CtI g l yX7_spread cX7_spread 3 (some .int) (rmK 4 0 0) (MW g.2.1 a u pa im tx rw rb rk rt he tr be sp pm fl ln rm rd bn fk fp rs wk wp bm) [.ref (a 0)] (fun r W1 => r = nI (spr u (u 4)) ∧ W1 = MW g.2.1 a u pa im tx rw rb rk rt he tr be sp pm fl ln rm rd bn fk fp rs wk wp bm) := by
  refine CtI.go RX7 rfl (by decide +kernel) (Nat.le_of_ble_eq_true rfl) ?_
  intro p e s m args below meth c A H0 Q hc hnm fin
  show KW g p l e (rmK 4 0 0) s m args below meth c 3 A H0 0 0 Q (MW g.2.1 a u pa im tx rw rb rk rt he tr be sp pm fl ln rm rd bn fk fp rs wk wp bm) [(0, .ref (a 0))] 0 []
  refine zk_iconst hc (nI 0) dX7_spread_0 rfl ?_
  refine zk_istore_n hc (lv2 := [(1, .int (nI 0)), (0, .ref (a 0))]) dX7_spread_1 (by decide) rfl ?_
  refine zk_iconst hc (nI 0) dX7_spread_2 rfl ?_
  refine zk_istore_n hc (lv2 := [(2, .int (nI 0)), (1, .int (nI 0)), (0, .ref (a 0))]) dX7_spread_3 (by decide) rfl ?_
  have loop4 : ∀ (N : Nat) (q : Nat) (x : Nat), u 4 - q < N → (q ≤ u 4) → (x = spr u q) → KW g p l e (rmK 4 0 0) s m args below meth c 3 A H0 0 0 Q (MW g.2.1 a u pa im tx rw rb rk rt he tr be sp pm fl ln rm rd bn fk fp rs wk wp bm) [(0, .ref (a 0)), (1, .int (nI x)), (2, .int (nI q))] 4 [] := by
    intro N
    induction N with
    | zero => intro q x hm; exact absurd hm (Nat.not_lt_zero _)
    | succ N ih4 =>
      intro q x hm4 hq hx
      refine zk_iload_n hc dX7_spread_4 2 rfl ?_
      refine zk_aload_n hc dX7_spread_5 0 rfl ?_
      refine zk_get hc inlX7 (ci := 7) rfl 0 0 (by decide) mw_4_11 rfl rfl rfl dX7_spread_6 ?_
      refine zk_iconst hc (nI 4) dX7_spread_9 rfl ?_
      refine zk_ialdN hc 1 rfl (by omega) (by decide) dX7_spread_10 ?_
      refine zk_icmp_geN hc 43 dX7_spread_11 (by decide) (by omega) (by omega) (fun h_1 => ?_) (fun h_1 => ?_)
      · refine zk_iload_n hc dX7_spread_43 1 rfl ?_
        refine fin 0 0 _ _ _ _ (by decide) (by decide) dX7_spread_44 (?_)
        exact ⟨by rw [hx, show q = u 4 by omega], rfl⟩
      · refine zk_iload_n hc dX7_spread_14 1 rfl ?_
        refine zk_aload_n hc dX7_spread_15 0 rfl ?_
        refine zk_iload_n hc dX7_spread_16 2 rfl ?_
        refine zk_aload_n hc dX7_spread_17 0 rfl ?_
        refine zk_get hc inlX7 (ci := 7) rfl 0 0 (by decide) mw_4_11 rfl rfl rfl dX7_spread_18 ?_
        refine zk_bipush hc (nI 13) dX7_spread_21 rfl ?_
        refine zk_ialdN hc 1 rfl (by omega) (by decide) dX7_spread_23 ?_
        refine zk_callVi hc (rest := [.int (nI x)]) (ct_X7_bound g l a u pa im tx rw rb rk rt he tr be sp pm fl ln rm rd bn fk fp rs wk wp bm q (u 13) (by omega) (hm q (by omega)) (fun j hj => by have := hd q j (by omega) hj; omega) (by omega)) gg_X7_117 cd_X7_bound ⟨Nat.le_of_ble_eq_true rfl, Nat.le_of_ble_eq_true rfl⟩ ⟨Nat.le_of_ble_eq_true rfl, Nat.le_of_ble_eq_true rfl⟩ ([]) ([]) rfl 0 rfl rfl rfl (Nat.le_of_ble_eq_true rfl) dX7_spread_24 (fun r W1 hp => ?_)
        obtain ⟨rfl, rfl⟩ := hp
        refine zk_ws (ws2 := MW g.2.1 a u pa im tx rw rb rk rt he tr be sp pm fl ln rm rd bn fk fp rs wk wp bm) rfl ?_
        refine zk_if_leN hc 34 dX7_spread_27 (by decide) (by have := hm q (by omega); have := bnd_le u q (u 13) (mny u q); omega) (fun hb => ?_) (fun hb => ?_)
        · refine zk_iconst hc (nI 0) dX7_spread_34 rfl ?_
          refine zk_iaddN hc dX7_spread_35 ?_
          refine zk_istore_n hc (lv2 := [(1, .int (nI (x + 0))), (0, .ref (a 0)), (2, .int (nI q))]) dX7_spread_36 (by decide) rfl ?_
          refine zk_iinc hc (v := nI (q + 1)) (lv2 := [(2, .int (nI (q + 1))), (1, .int (nI (x + 0))), (0, .ref (a 0))]) dX7_spread_37 2 rfl (nq_inc rfl) (by decide) rfl ?_
          refine zk_goto hc 4 dX7_spread_40 (by decide) ?_
          refine zk_lv [2, 1, 0] (lv2 := [(0, .ref (a 0)), (1, .int (nI (x + 0))), (2, .int (nI (q + 1)))]) rfl ?_
          exact ih4 (q + 1) (x + 0) (by omega) (by omega) (by unfold spr; rw [hx, if_neg (show ¬ 0 < bnt u q by show ¬ 0 < bnd u q (u 13) (mny u q); omega)])
        · refine zk_iconst hc (nI 1) dX7_spread_30 rfl ?_
          refine zk_goto hc 35 dX7_spread_31 (by decide) ?_
          refine zk_iaddN hc dX7_spread_35 ?_
          refine zk_istore_n hc (lv2 := [(1, .int (nI (x + 1))), (0, .ref (a 0)), (2, .int (nI q))]) dX7_spread_36 (by decide) rfl ?_
          refine zk_iinc hc (v := nI (q + 1)) (lv2 := [(2, .int (nI (q + 1))), (1, .int (nI (x + 1))), (0, .ref (a 0))]) dX7_spread_37 2 rfl (nq_inc rfl) (by decide) rfl ?_
          refine zk_goto hc 4 dX7_spread_40 (by decide) ?_
          refine zk_lv [2, 1, 0] (lv2 := [(0, .ref (a 0)), (1, .int (nI (x + 1))), (2, .int (nI (q + 1)))]) rfl ?_
          exact ih4 (q + 1) (x + 1) (by omega) (by omega) (by unfold spr; rw [hx, if_pos (show 0 < bnt u q from hb)])
  refine zk_lv [2, 1, 0] (lv2 := [(0, .ref (a 0)), (1, .int (nI 0)), (2, .int (nI 0))]) rfl ?_
  exact loop4 ((u 4 - 0) + 1) 0 0 (Nat.lt_succ_self _) (Nat.zero_le _) rfl
