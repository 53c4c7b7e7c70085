set_option maxHeartbeats 4000000 in
set_option maxRecDepth 100000 in
theorem ct_X7_depart (g : GG) (l : Launch) (a : Nat → Nat) (u pa im tx rw rb rk rt he tr be sp : Nat → Nat) (pm fl ln rm rd bn : Nat) (fk fp rs wk wp bm : Int32) (cN : Nat) (hN : cN ≤ 512) (hW : Wf cN u) (hpm : pm ≤ 8) (v : Int32) : CtI g l yX7_depart cX7_depart 5 (some .int) (rmK 6 0 0) (MW g.2.1 a u pa im tx rw rb rk rt he tr be sp pm fl ln rm rd bn fk fp rs wk wp bm) [.ref (a 0), .int v] (fun r W1 => r = aDep u v ∧ ∃ X, W1 = MSW g.2.1 a (nDep (u, pa, pm, im, fl, tx, ln, fk, fp, rs) v) X) := by
  refine CtI.go RX7 rfl (by decide +kernel) (Nat.le_of_ble_eq_true rfl) ?_
  intro p e s m args below meth c A H0 Q hc hnm fin
  obtain ⟨⟨hK2, hK4⟩, ⟨hC1, hC8⟩, hg, ⟨hh1, hh2⟩, ⟨hv1, hv2⟩, hs3, hl10, hld, htr, hmC, hwk, hbg⟩ := id hW
  have hm : ∀ t, t < 4 → mny u t ≤ 8 := fun t h => (htr t h).1
  have hm4 : ∀ t, t < u 4 → mny u t ≤ 8 := fun t h => (htr t (by omega)).1
  have hk : ∀ t j, t < 4 → j < 8 → knd u t j < 3 := fun t j h1 h2 => (hwk t j h1 h2).2
  have hd : ∀ t j, t < 4 → j < 8 → dst u t j < 6 := fun t j h1 h2 => (hwk t j h1 h2).1
  have h13 : u 13 < 6 := hld 0 (by omega)
  have h6 : u 6 ≤ 1000 * cN + 600 := hbg 6 (by omega)
  show KW g p l e (rmK 6 0 0) s m args below meth c 5 A H0 0 0 Q (MW g.2.1 a u pa im tx rw rb rk rt he tr be sp pm fl ln rm rd bn fk fp rs wk wp bm) [(0, .ref (a 0)), (1, .int v)] 0 []
  refine zk_aload_n hc dX7_depart_0 0 rfl ?_
  refine zk_iload_n hc dX7_depart_1 1 rfl ?_
  refine zk_callVi hc (rest := []) (ct_X7_isTrack g l a u pa im tx rw rb rk rt he tr be sp pm fl ln rm rd bn fk fp rs wk wp bm v (by omega)) gg_X7_89 cd_X7_isTrack ⟨Nat.le_of_ble_eq_true rfl, Nat.le_of_ble_eq_true rfl⟩ ⟨Nat.le_of_ble_eq_true rfl, Nat.le_of_ble_eq_true rfl⟩ ([]) ([]) rfl 0 rfl rfl rfl (Nat.le_of_ble_eq_true rfl) dX7_depart_2 (fun r W1 hp => ?_)
  obtain ⟨rfl, rfl⟩ := hp
  refine zk_ws (ws2 := MW g.2.1 a u pa im tx rw rb rk rt he tr be sp pm fl ln rm rd bn fk fp rs wk wp bm) rfl ?_
  by_cases hi : nI 0 ≤ v ∧ v ≤ nI (u 4 - 1)
  · refine zk_top (y := nI 1) (if_pos hi) ?_
    obtain ⟨t, t0, t1, rfl⟩ := rngN (by omega) hi
    refine zk_if_neN hc 10 dX7_depart_5 (by decide) (by omega) (fun h_1 => ?_) (fun h_1 => ?_)
    · refine zk_aload_n hc dX7_depart_10 0 rfl ?_
      refine zk_iload_n hc dX7_depart_11 1 rfl ?_
      refine zk_callVi hc (rest := []) (ct_X7_reasonAgainst g l a u pa im tx rw rb rk rt he tr be sp pm fl ln rm rd bn fk fp rs wk wp bm t (by omega) hK4 hm4 hd h13 hk hl10 hg hh2 (by omega) (fun _ => (htr t (by omega)).2.2) (by have := (htr t (by omega)).2.1; omega)) gg_X7_127 cd_X7_reasonAgainst ⟨Nat.le_of_ble_eq_true rfl, Nat.le_of_ble_eq_true rfl⟩ ⟨Nat.le_of_ble_eq_true rfl, Nat.le_of_ble_eq_true rfl⟩ ([]) ([]) rfl 0 rfl rfl rfl (Nat.le_of_ble_eq_true rfl) dX7_depart_12 (fun r W1 hp => ?_)
      obtain ⟨rfl, r_2, n_3, rfl⟩ := hp
      refine zk_ws (ws2 := MW g.2.1 a u pa im tx r_2 rb rk rt he tr be sp pm fl ln n_3 rd bn fk fp rs wk wp bm) rfl ?_
      refine zk_istore_n hc (lv2 := [(2, .int (nI (rea u t))), (0, .ref (a 0)), (1, .int (nI t))]) dX7_depart_15 (by decide) rfl ?_
      refine zk_iload_n hc dX7_depart_16 0 rfl ?_
      refine zk_if_eqN hc 28 dX7_depart_17 (by decide) (by have := rea_le u t; omega) (fun h0 => ?_) (fun h0 => ?_)
      · refine zk_aload_n hc dX7_depart_28 1 rfl ?_
        refine zk_callVv hc (rest := []) (ct_X7_remember g l a u pa im tx r_2 rb rk rt he tr be sp pm fl ln n_3 rd bn fk fp rs wk wp bm hpm) gg_X7_107 cd_X7_remember ⟨Nat.le_of_ble_eq_true rfl, Nat.le_of_ble_eq_true rfl⟩ ⟨Nat.le_of_ble_eq_true rfl, Nat.le_of_ble_eq_true rfl⟩ ([]) ([]) rfl 0 rfl rfl rfl (Nat.le_of_ble_eq_true rfl) dX7_depart_29 (fun W1 hp => ?_)
        obtain rfl := hp
        refine zk_ws (ws2 := MW g.2.1 a u (remP u pa pm) im tx r_2 rb rk rt he tr be sp (remN pm) fl ln n_3 rd bn fk fp rs wk wp bm) rfl ?_
        refine zk_aload_n hc dX7_depart_32 1 rfl ?_
        refine zk_iload_n hc dX7_depart_33 2 rfl ?_
        refine zk_iconst hc (nI 0) dX7_depart_34 rfl ?_
        refine zk_callVi hc (rest := []) (ct_X7_of g l a u (remP u pa pm) im tx r_2 rb rk rt he tr be sp (remN pm) fl ln n_3 rd bn fk fp rs wk wp bm t 0 (by omega)) gg_X7_63 cd_X7_of ⟨Nat.le_of_ble_eq_true rfl, Nat.le_of_ble_eq_true rfl⟩ ⟨Nat.le_of_ble_eq_true rfl, Nat.le_of_ble_eq_true rfl⟩ ([]) ([]) rfl 0 rfl rfl rfl (Nat.le_of_ble_eq_true rfl) dX7_depart_35 (fun r W1 hp => ?_)
        obtain ⟨rfl, rfl⟩ := hp
        refine zk_ws (ws2 := MW g.2.1 a u (remP u pa pm) im tx r_2 rb rk rt he tr be sp (remN pm) fl ln n_3 rd bn fk fp rs wk wp bm) rfl ?_
        refine zk_top (y := nI (mny u t)) rfl ?_
        refine zk_istore_n hc (lv2 := [(3, .int (nI (mny u t))), (2, .int (nI (rea u t))), (0, .ref (a 0)), (1, .int (nI t))]) dX7_depart_38 (by decide) rfl ?_
        refine zk_aload_n hc dX7_depart_39 2 rfl ?_
        refine zk_iload_n hc dX7_depart_40 3 rfl ?_
        refine zk_iconst hc (nI 0) dX7_depart_41 rfl ?_
        refine zk_iconst hc (nI 0) dX7_depart_42 rfl ?_
        refine zk_callVv hc (rest := []) (ct_X7_put g l a u (remP u pa pm) im tx r_2 rb rk rt he tr be sp (remN pm) fl ln n_3 rd bn fk fp rs wk wp bm t 0 0 (by omega)) gg_X7_93 cd_X7_put ⟨Nat.le_of_ble_eq_true rfl, Nat.le_of_ble_eq_true rfl⟩ ⟨Nat.le_of_ble_eq_true rfl, Nat.le_of_ble_eq_true rfl⟩ ([]) ([]) rfl 0 rfl rfl rfl (Nat.le_of_ble_eq_true rfl) dX7_depart_43 (fun W1 hp => ?_)
        obtain rfl := hp
        refine zk_ws (ws2 := MW g.2.1 a (va_up u (23 + 27 * t + 0) 0) (remP u pa pm) im tx r_2 rb rk rt he tr be sp (remN pm) fl ln n_3 rd bn fk fp rs wk wp bm) rfl ?_
        refine zk_aload_n hc dX7_depart_46 2 rfl ?_
        refine zk_iload_n hc dX7_depart_47 3 rfl ?_
        refine zk_iconst hc (nI 1) dX7_depart_48 rfl ?_
        refine zk_iconst hc (nI 0) dX7_depart_49 rfl ?_
        refine zk_callVv hc (rest := []) (ct_X7_put g l a (va_up u (23 + 27 * t + 0) 0) (remP u pa pm) im tx r_2 rb rk rt he tr be sp (remN pm) fl ln n_3 rd bn fk fp rs wk wp bm t 1 0 (by omega)) gg_X7_93 cd_X7_put ⟨Nat.le_of_ble_eq_true rfl, Nat.le_of_ble_eq_true rfl⟩ ⟨Nat.le_of_ble_eq_true rfl, Nat.le_of_ble_eq_true rfl⟩ ([]) ([]) rfl 0 rfl rfl rfl (Nat.le_of_ble_eq_true rfl) dX7_depart_50 (fun W1 hp => ?_)
        obtain rfl := hp
        refine zk_ws (ws2 := MW g.2.1 a (va_up (va_up u (23 + 27 * t + 0) 0) (23 + 27 * t + 1) 0) (remP u pa pm) im tx r_2 rb rk rt he tr be sp (remN pm) fl ln n_3 rd bn fk fp rs wk wp bm) rfl ?_
        refine zk_aload_n hc dX7_depart_53 2 rfl ?_
        refine zk_get hc inlX7 (ci := 7) rfl 0 0 (by decide) mw_4_11 rfl rfl rfl dX7_depart_54 ?_
        refine zk_bipush hc (nI 10) dX7_depart_57 rfl ?_
        refine zk_dup2 hc dX7_depart_59 rfl rfl ?_
        refine zk_ialdN hc 1 rfl (by omega) (by decide) dX7_depart_60 ?_
        refine zk_top (y := nI (u 10)) (congrArg nI (put0_lo (by omega) (by omega))) ?_
        refine zk_iconst hc (nI 1) dX7_depart_61 rfl ?_
        refine zk_iaddN hc dX7_depart_62 ?_
        refine zk_iastN hc 1 rfl (by omega) (by decide) (ws2 := MW g.2.1 a (va_up (va_up (va_up u (23 + 27 * t + 0) 0) (23 + 27 * t + 1) 0) 10 ((u 10) + 1)) (remP u pa pm) im tx r_2 rb rk rt he tr be sp (remN pm) fl ln n_3 rd bn fk fp rs wk wp bm) rfl dX7_depart_63 ?_
        refine zk_aload_n hc dX7_depart_64 2 rfl ?_
        refine zk_get hc inlX7 (ci := 7) rfl 0 0 (by decide) mw_4_11 rfl rfl rfl dX7_depart_65 ?_
        refine zk_bipush hc (nI 11) dX7_depart_68 rfl ?_
        refine zk_dup2 hc dX7_depart_70 rfl rfl ?_
        refine zk_ialdN hc 1 rfl (by omega) (by decide) dX7_depart_71 ?_
        refine zk_top (y := nI (u 11)) (congrArg nI (put0_lo (by omega) (by omega))) ?_
        refine zk_iload_n hc dX7_depart_72 0 rfl ?_
        refine zk_iaddN hc dX7_depart_73 ?_
        refine zk_iastN hc 1 rfl (by omega) (by decide) (ws2 := MW g.2.1 a (va_up (va_up (va_up (va_up u (23 + 27 * t + 0) 0) (23 + 27 * t + 1) 0) 10 ((u 10) + 1)) 11 ((u 11) + (mny u t))) (remP u pa pm) im tx r_2 rb rk rt he tr be sp (remN pm) fl ln n_3 rd bn fk fp rs wk wp bm) rfl dX7_depart_74 ?_
        refine zk_ws (ws2 := MW g.2.1 a (dep4 u t) (remP u pa pm) im tx r_2 rb rk rt he tr be sp (remN pm) fl ln n_3 rd bn fk fp rs wk wp bm) (congrArg (fun zz => MW g.2.1 a zz (remP u pa pm) im tx r_2 rb rk rt he tr be sp (remN pm) fl ln n_3 rd bn fk fp rs wk wp bm) (show va_up (va_up (va_up (va_up u (23 + 27 * t + 0) 0) (23 + 27 * t + 1) 0) 10 ((u 10) + 1)) 11 ((u 11) + (mny u t)) = dep4 u t from rfl)) ?_
        have hL : 1 ≤ u 12 := rea_12 h0
        refine zk_bipush hc (nI 13) dX7_depart_75 rfl ?_
        refine zk_istore hc (lv2 := [(4, .int (nI 13)), (3, .int (nI (mny u t))), (2, .int (nI (rea u t))), (0, .ref (a 0)), (1, .int (nI t))]) dX7_depart_77 (by decide) rfl ?_
        refine zk_ws (ws2 := MW g.2.1 a (depL u t 0) (remP u pa pm) im tx r_2 rb rk rt he tr be sp (remN pm) fl ln n_3 rd bn fk fp rs wk wp bm) (congrArg (fun zz => MW g.2.1 a zz (remP u pa pm) im tx r_2 rb rk rt he tr be sp (remN pm) fl ln n_3 rd bn fk fp rs wk wp bm) (show dep4 u t = depL u t 0 from cpy_zero _ _ _ _)) ?_
        have loop79 : ∀ (N : Nat) (q : Nat), u 12 - 1 - q < N → (q ≤ u 12 - 1) → KW g p l e (rmK 6 0 0) s m args below meth c 5 A H0 0 0 Q (MW g.2.1 a (depL u t q) (remP u pa pm) im tx r_2 rb rk rt he tr be sp (remN pm) fl ln n_3 rd bn fk fp rs wk wp bm) [(0, .ref (a 0)), (1, .int (nI t)), (2, .int (nI (rea u t))), (3, .int (nI (mny u t))), (4, .int (nI (13 + q)))] 79 [] := by
          intro N
          induction N with
          | zero => intro q hm; exact absurd hm (Nat.not_lt_zero _)
          | succ N ih79 =>
            intro q hm79 hq
            refine zk_iload hc dX7_depart_79 4 rfl ?_
            refine zk_bipush hc (nI 13) dX7_depart_81 rfl ?_
            refine zk_aload_n hc dX7_depart_83 0 rfl ?_
            refine zk_get hc inlX7 (ci := 7) rfl 0 0 (by decide) mw_4_11 rfl rfl rfl dX7_depart_84 ?_
            refine zk_bipush hc (nI 12) dX7_depart_87 rfl ?_
            refine zk_ialdN hc 1 rfl (by omega) (by decide) dX7_depart_89 ?_
            refine zk_top (y := nI (u 12)) (congrArg nI (depL_12)) ?_
            refine zk_iaddN hc dX7_depart_90 ?_
            refine zk_iconst hc (nI 1) dX7_depart_91 rfl ?_
            refine zk_isubN hc dX7_depart_92 (by omega) ?_
            refine zk_icmp_geN hc 118 dX7_depart_93 (by decide) (by omega) (by omega) (fun hx => ?_) (fun hx => ?_)
            · refine zk_ws (ws2 := MW g.2.1 a (depL u t (u 12 - 1)) (remP u pa pm) im tx r_2 rb rk rt he tr be sp (remN pm) fl ln n_3 rd bn fk fp rs wk wp bm) (congrArg (fun zz => MW g.2.1 a zz (remP u pa pm) im tx r_2 rb rk rt he tr be sp (remN pm) fl ln n_3 rd bn fk fp rs wk wp bm) (show depL u t q = depL u t (u 12 - 1) from congrArg (depL u t) (by omega))) ?_
              refine zk_aload_n hc dX7_depart_118 0 rfl ?_
              refine zk_get hc inlX7 (ci := 7) rfl 0 0 (by decide) mw_4_11 rfl rfl rfl dX7_depart_119 ?_
              refine zk_bipush hc (nI 12) dX7_depart_122 rfl ?_
              refine zk_dup2 hc dX7_depart_124 rfl rfl ?_
              refine zk_ialdN hc 1 rfl (by omega) (by decide) dX7_depart_125 ?_
              refine zk_top (y := nI (u 12)) (congrArg nI (depL_12)) ?_
              refine zk_iconst hc (nI 1) dX7_depart_126 rfl ?_
              refine zk_isubN hc dX7_depart_127 (by omega) ?_
              refine zk_iastN hc 1 rfl (by omega) (by decide) (ws2 := MW g.2.1 a (va_up (depL u t (u 12 - 1)) 12 ((u 12) - 1)) (remP u pa pm) im tx r_2 rb rk rt he tr be sp (remN pm) fl ln n_3 rd bn fk fp rs wk wp bm) rfl dX7_depart_128 ?_
              refine zk_iload_n hc dX7_depart_129 3 rfl ?_
              refine fin 0 0 _ _ _ _ (by decide) (by decide) dX7_depart_130 (?_)
              exact ⟨by unfold aDep; rw [if_pos hi, tOf_nI (by omega), if_neg (not_not_intro h0)], (r_2, rb, rk, rt, he, tr, be, sp, n_3, rd, bn, wk, wp, bm), by unfold nDep; rw [if_pos hi, tOf_nI (by omega), if_neg (not_not_intro h0)]; rfl⟩
            · refine zk_aload_n hc dX7_depart_96 0 rfl ?_
              refine zk_get hc inlX7 (ci := 7) rfl 0 0 (by decide) mw_4_11 rfl rfl rfl dX7_depart_97 ?_
              refine zk_iload hc dX7_depart_100 4 rfl ?_
              refine zk_aload_n hc dX7_depart_102 0 rfl ?_
              refine zk_get hc inlX7 (ci := 7) rfl 0 0 (by decide) mw_4_11 rfl rfl rfl dX7_depart_103 ?_
              refine zk_iload hc dX7_depart_106 4 rfl ?_
              refine zk_iconst hc (nI 1) dX7_depart_108 rfl ?_
              refine zk_iaddN hc dX7_depart_109 ?_
              refine zk_ialdN hc 1 rfl (by omega) (by decide) dX7_depart_110 ?_
              refine zk_top (y := nI (dep4 u t (14 + q))) (congrArg nI (by unfold depL; rw [pk_cpy_out (by omega)]; exact congrArg _ (by omega))) ?_
              refine zk_iastN hc 1 rfl (by omega) (by decide) (ws2 := MW g.2.1 a (va_up (depL u t q) (13 + q) (dep4 u t (14 + q))) (remP u pa pm) im tx r_2 rb rk rt he tr be sp (remN pm) fl ln n_3 rd bn fk fp rs wk wp bm) rfl dX7_depart_111 ?_
              refine zk_ws (ws2 := MW g.2.1 a (depL u t (q + 1)) (remP u pa pm) im tx r_2 rb rk rt he tr be sp (remN pm) fl ln n_3 rd bn fk fp rs wk wp bm) (congrArg (fun zz => MW g.2.1 a zz (remP u pa pm) im tx r_2 rb rk rt he tr be sp (remN pm) fl ln n_3 rd bn fk fp rs wk wp bm) (show va_up (depL u t q) (13 + q) (dep4 u t (14 + q)) = depL u t (q + 1) from cpy_step (by omega) rfl)) ?_
              refine zk_iinc hc (v := nI (13 + q + 1)) (lv2 := [(4, .int (nI (13 + q + 1))), (0, .ref (a 0)), (1, .int (nI t)), (2, .int (nI (rea u t))), (3, .int (nI (mny u t)))]) dX7_depart_112 4 rfl (nq_inc rfl) (by decide) rfl ?_
              refine zk_goto hc 79 dX7_depart_115 (by decide) ?_
              refine zk_lv [1, 2, 3, 4, 0] (lv2 := [(0, .ref (a 0)), (1, .int (nI t)), (2, .int (nI (rea u t))), (3, .int (nI (mny u t))), (4, .int (nI (13 + q + 1)))]) rfl ?_
              exact ih79 (q + 1) (by omega) (by omega)
        refine zk_lv [3, 4, 2, 1, 0] (lv2 := [(0, .ref (a 0)), (1, .int (nI t)), (2, .int (nI (rea u t))), (3, .int (nI (mny u t))), (4, .int (nI 13))]) rfl ?_
        exact loop79 ((u 12 - 1 - 0) + 1) 0 (Nat.lt_succ_self _) (Nat.zero_le _)
      · refine zk_aload_n hc dX7_depart_20 1 rfl ?_
        refine zk_iload_n hc dX7_depart_21 0 rfl ?_
        refine zk_put hc inlX7 (ci := 7) rfl tyX7 tyX7_ok nmX7 0 9 (by decide) mw_4_17 rfl rfl rfl rfl rfl (Nat.le_of_ble_eq_true rfl) (ws2 := MW g.2.1 a u pa im tx r_2 rb rk rt he tr be sp pm fl ln n_3 rd bn fk fp (nI (rea u t)) wk wp bm) rfl dX7_depart_22 ?_
        refine zk_bipush hc ((-2)) dX7_depart_25 rfl ?_
        refine fin 0 0 _ _ _ _ (by decide) (by decide) dX7_depart_27 (?_)
        exact ⟨by unfold aDep; rw [if_pos hi, tOf_nI (by omega), if_pos h0], (r_2, rb, rk, rt, he, tr, be, sp, n_3, rd, bn, wk, wp, bm), by unfold nDep; rw [if_pos hi, tOf_nI (by omega), if_pos h0]; rfl⟩
    · exact absurd h_1 (by decide)
  · refine zk_top (y := nI 0) (if_neg hi) ?_
    refine zk_if_neN hc 10 dX7_depart_5 (by decide) (by omega) (fun h_4 => ?_) (fun h_4 => ?_)
    · exact absurd h_4 (by decide)
    · refine zk_iconst hc ((-1)) dX7_depart_8 rfl ?_
      refine fin 0 0 _ _ _ _ (by decide) (by decide) dX7_depart_9 (?_)
      exact ⟨by unfold aDep; rw [if_neg hi], (rw, rb, rk, rt, he, tr, be, sp, rm, rd, bn, wk, wp, bm), by unfold nDep; rw [if_neg hi]; rfl⟩

set_option maxHeartbeats 4000000 in
set_option maxRecDepth 100000 in
theorem ct_X7_begin (g : GG) (l : Launch) (a : Nat → Nat) (u pa im tx rw rb rk rt he tr be sp : Nat → Nat) (pm fl ln rm rd bn : Nat) (fk fp rs wk wp bm : Int32) (cN : Nat) (hN : cN ≤ 512) (hW : Wf cN u) (hpm : pm ≤ 8) (v w : Int32) : CtI g l yX7_begin cX7_begin 5 (some .int) (rmK 4 0 0) (MW g.2.1 a u pa im tx rw rb rk rt he tr be sp pm fl ln rm rd bn fk fp rs wk wp bm) [.ref (a 0), .int v, .int w] (fun r W1 => r = aBeg u v w ∧ ∃ X, W1 = MSW g.2.1 a (nBeg (u, pa, pm, im, fl, tx, ln, fk, fp, rs) v w) X) := by
  refine CtI.go RX7 rfl (by decide +kernel) (Nat.le_of_ble_eq_true rfl) ?_
  intro p e s m args below meth c A H0 Q hc hnm fin
  obtain ⟨⟨hK2, hK4⟩, ⟨hC1, hC8⟩, hg, ⟨hh1, hh2⟩, ⟨hv1, hv2⟩, hs3, hl10, hld, htr, hmC, hwk, hbg⟩ := id hW
  have hm : ∀ t, t < 4 → mny u t ≤ 8 := fun t h => (htr t h).1
  have hm4 : ∀ t, t < u 4 → mny u t ≤ 8 := fun t h => (htr t (by omega)).1
  have hk : ∀ t j, t < 4 → j < 8 → knd u t j < 3 := fun t j h1 h2 => (hwk t j h1 h2).2
  have hd : ∀ t j, t < 4 → j < 8 → dst u t j < 6 := fun t j h1 h2 => (hwk t j h1 h2).1
  have h13 : u 13 < 6 := hld 0 (by omega)
  have h6 : u 6 ≤ 1000 * cN + 600 := hbg 6 (by omega)
  show KW g p l e (rmK 4 0 0) s m args below meth c 5 A H0 0 0 Q (MW g.2.1 a u pa im tx rw rb rk rt he tr be sp pm fl ln rm rd bn fk fp rs wk wp bm) [(0, .ref (a 0)), (1, .int v), (2, .int w)] 0 []
  refine zk_iload_n hc dX7_begin_0 1 rfl ?_
  refine zk_iconst hc (nI 2) dX7_begin_1 rfl ?_
  refine zk_iconst hc (nI 4) dX7_begin_2 rfl ?_
  refine zk_callSi hc (rest := []) (ct_X7_isIn g l v (nI 2) (nI 4)) gg_X7_59 cd_X7_isIn ⟨Nat.le_of_ble_eq_true rfl, Nat.le_of_ble_eq_true rfl⟩ ⟨Nat.le_of_ble_eq_true rfl, Nat.le_of_ble_eq_true rfl⟩ ([]) (MW g.2.1 a u pa im tx rw rb rk rt he tr be sp pm fl ln rm rd bn fk fp rs wk wp bm) rfl rfl (Nat.le_of_ble_eq_true rfl) dX7_begin_3 (fun r W1 hp => ?_)
  obtain ⟨rfl, rfl⟩ := hp
  refine zk_ws (ws2 := MW g.2.1 a u pa im tx rw rb rk rt he tr be sp pm fl ln rm rd bn fk fp rs wk wp bm) rfl ?_
  by_cases hi1 : nI 2 ≤ v ∧ v ≤ nI 4
  · refine zk_top (y := nI 1) (if_pos hi1) ?_
    obtain ⟨t, t0, t1, rfl⟩ := rngN (by omega) hi1
    refine zk_if_eqN hc 19 dX7_begin_6 (by decide) (by omega) (fun h_1 => ?_) (fun h_1 => ?_)
    · exact absurd h_1 (by decide)
    · refine zk_iload_n hc dX7_begin_9 2 rfl ?_
      refine zk_iconst hc (nI 1) dX7_begin_10 rfl ?_
      refine zk_bipush hc (nI 8) dX7_begin_11 rfl ?_
      refine zk_callSi hc (rest := []) (ct_X7_isIn g l w (nI 1) (nI 8)) gg_X7_59 cd_X7_isIn ⟨Nat.le_of_ble_eq_true rfl, Nat.le_of_ble_eq_true rfl⟩ ⟨Nat.le_of_ble_eq_true rfl, Nat.le_of_ble_eq_true rfl⟩ ([]) (MW g.2.1 a u pa im tx rw rb rk rt he tr be sp pm fl ln rm rd bn fk fp rs wk wp bm) rfl rfl (Nat.le_of_ble_eq_true rfl) dX7_begin_13 (fun r W1 hp => ?_)
      obtain ⟨rfl, rfl⟩ := hp
      refine zk_ws (ws2 := MW g.2.1 a u pa im tx rw rb rk rt he tr be sp pm fl ln rm rd bn fk fp rs wk wp bm) rfl ?_
      by_cases hi2 : nI 1 ≤ w ∧ w ≤ nI 8
      · refine zk_top (y := nI 1) (if_pos hi2) ?_
        obtain ⟨k, k0, k1, rfl⟩ := rngN (by omega) hi2
        refine zk_if_neN hc 21 dX7_begin_16 (by decide) (by omega) (fun h_2 => ?_) (fun h_2 => ?_)
        · refine zk_aload_n hc dX7_begin_21 0 rfl ?_
          refine zk_callVv hc (rest := []) (ct_X7_remember g l a u pa im tx rw rb rk rt he tr be sp pm fl ln rm rd bn fk fp rs wk wp bm hpm) gg_X7_107 cd_X7_remember ⟨Nat.le_of_ble_eq_true rfl, Nat.le_of_ble_eq_true rfl⟩ ⟨Nat.le_of_ble_eq_true rfl, Nat.le_of_ble_eq_true rfl⟩ ([]) ([]) rfl 0 rfl rfl rfl (Nat.le_of_ble_eq_true rfl) dX7_begin_22 (fun W1 hp => ?_)
          obtain rfl := hp
          refine zk_ws (ws2 := MW g.2.1 a u (remP u pa pm) im tx rw rb rk rt he tr be sp (remN pm) fl ln rm rd bn fk fp rs wk wp bm) rfl ?_
          refine zk_aload_n hc dX7_begin_25 0 rfl ?_
          refine zk_callVi hc (rest := []) (ct_X7_wagons g l a u (remP u pa pm) im tx rw rb rk rt he tr be sp (remN pm) fl ln rm rd bn fk fp rs wk wp bm hK4 hm4) gg_X7_193 cd_X7_wagons ⟨Nat.le_of_ble_eq_true rfl, Nat.le_of_ble_eq_true rfl⟩ ⟨Nat.le_of_ble_eq_true rfl, Nat.le_of_ble_eq_true rfl⟩ ([]) ([]) rfl 0 rfl rfl rfl (Nat.le_of_ble_eq_true rfl) dX7_begin_26 (fun r W1 hp => ?_)
          obtain ⟨rfl, rfl⟩ := hp
          refine zk_ws (ws2 := MW g.2.1 a u (remP u pa pm) im tx rw rb rk rt he tr be sp (remN pm) fl ln rm rd bn fk fp rs wk wp bm) rfl ?_
          refine zk_istore_n hc (lv2 := [(3, .int (nI (wgs u (u 4)))), (0, .ref (a 0)), (1, .int (nI t)), (2, .int (nI k))]) dX7_begin_29 (by decide) rfl ?_
          refine zk_bipush hc (nI 6) dX7_begin_30 rfl ?_
          refine zk_istore hc (lv2 := [(4, .int (nI 6)), (3, .int (nI (wgs u (u 4)))), (0, .ref (a 0)), (1, .int (nI t)), (2, .int (nI k))]) dX7_begin_32 (by decide) rfl ?_
          refine zk_ws (ws2 := MW g.2.1 a (begZ u 0) (remP u pa pm) im tx rw rb rk rt he tr be sp (remN pm) fl ln rm rd bn fk fp rs wk wp bm) (congrArg (fun zz => MW g.2.1 a zz (remP u pa pm) im tx rw rb rk rt he tr be sp (remN pm) fl ln rm rd bn fk fp rs wk wp bm) (show u = begZ u 0 from cpy_zero _ _ _ _)) ?_
          have loop34 : ∀ (N : Nat) (q : Nat), 125 - q < N → (q ≤ 125) → KW g p l e (rmK 4 0 0) s m args below meth c 5 A H0 0 0 Q (MW g.2.1 a (begZ u q) (remP u pa pm) im tx rw rb rk rt he tr be sp (remN pm) fl ln rm rd bn fk fp rs wk wp bm) [(0, .ref (a 0)), (1, .int (nI t)), (2, .int (nI k)), (3, .int (nI (wgs u (u 4)))), (4, .int (nI (6 + q)))] 34 [] := by
            intro N
            induction N with
            | zero => intro q hm; exact absurd hm (Nat.not_lt_zero _)
            | succ N ih34 =>
              intro q hm34 hq
              refine zk_iload hc dX7_begin_34 4 rfl ?_
              refine zk_sipush hc (nI 131) dX7_begin_36 rfl ?_
              refine zk_icmp_geN hc 56 dX7_begin_39 (by decide) (by omega) (by omega) (fun h_3 => ?_) (fun h_3 => ?_)
              · refine zk_ws (ws2 := MW g.2.1 a (begZ u 125) (remP u pa pm) im tx rw rb rk rt he tr be sp (remN pm) fl ln rm rd bn fk fp rs wk wp bm) (congrArg (fun zz => MW g.2.1 a zz (remP u pa pm) im tx rw rb rk rt he tr be sp (remN pm) fl ln rm rd bn fk fp rs wk wp bm) (show begZ u q = begZ u 125 from congrArg (begZ u) (by omega))) ?_
                refine zk_aload_n hc dX7_begin_56 0 rfl ?_
                refine zk_get hc inlX7 (ci := 7) rfl 0 0 (by decide) mw_4_11 rfl rfl rfl dX7_begin_57 ?_
                refine zk_iconst hc (nI 4) dX7_begin_60 rfl ?_
                refine zk_iload_n hc dX7_begin_61 1 rfl ?_
                refine zk_iastN hc 1 rfl (by omega) (by decide) (ws2 := MW g.2.1 a (va_up (begZ u 125) 4 t) (remP u pa pm) im tx rw rb rk rt he tr be sp (remN pm) fl ln rm rd bn fk fp rs wk wp bm) rfl dX7_begin_62 ?_
                refine zk_aload_n hc dX7_begin_63 0 rfl ?_
                refine zk_get hc inlX7 (ci := 7) rfl 0 0 (by decide) mw_4_11 rfl rfl rfl dX7_begin_64 ?_
                refine zk_iconst hc (nI 5) dX7_begin_67 rfl ?_
                refine zk_iload_n hc dX7_begin_68 2 rfl ?_
                refine zk_iastN hc 1 rfl (by omega) (by decide) (ws2 := MW g.2.1 a (va_up (va_up (begZ u 125) 4 t) 5 k) (remP u pa pm) im tx rw rb rk rt he tr be sp (remN pm) fl ln rm rd bn fk fp rs wk wp bm) rfl dX7_begin_69 ?_
                refine zk_iload_n hc dX7_begin_70 3 rfl ?_
                refine fin 0 0 _ _ _ _ (by decide) (by decide) dX7_begin_71 (?_)
                exact ⟨by unfold aBeg; rw [if_pos ⟨hi1, hi2⟩], (rw, rb, rk, rt, he, tr, be, sp, rm, rd, bn, wk, wp, bm), by unfold nBeg; rw [if_pos ⟨hi1, hi2⟩, tOf_nI (by omega), tOf_nI (by omega)]; rfl⟩
              · refine zk_aload_n hc dX7_begin_42 0 rfl ?_
                refine zk_get hc inlX7 (ci := 7) rfl 0 0 (by decide) mw_4_11 rfl rfl rfl dX7_begin_43 ?_
                refine zk_iload hc dX7_begin_46 4 rfl ?_
                refine zk_iconst hc (nI 0) dX7_begin_48 rfl ?_
                refine zk_iastN hc 1 rfl (by omega) (by decide) (ws2 := MW g.2.1 a (va_up (begZ u q) (6 + q) 0) (remP u pa pm) im tx rw rb rk rt he tr be sp (remN pm) fl ln rm rd bn fk fp rs wk wp bm) rfl dX7_begin_49 ?_
                refine zk_ws (ws2 := MW g.2.1 a (begZ u (q + 1)) (remP u pa pm) im tx rw rb rk rt he tr be sp (remN pm) fl ln rm rd bn fk fp rs wk wp bm) (congrArg (fun zz => MW g.2.1 a zz (remP u pa pm) im tx rw rb rk rt he tr be sp (remN pm) fl ln rm rd bn fk fp rs wk wp bm) (show va_up (begZ u q) (6 + q) 0 = begZ u (q + 1) from cpy_step (by omega) rfl)) ?_
                refine zk_iinc hc (v := nI (6 + q + 1)) (lv2 := [(4, .int (nI (6 + q + 1))), (0, .ref (a 0)), (1, .int (nI t)), (2, .int (nI k)), (3, .int (nI (wgs u (u 4))))]) dX7_begin_50 4 rfl (nq_inc rfl) (by decide) rfl ?_
                refine zk_goto hc 34 dX7_begin_53 (by decide) ?_
                refine zk_lv [1, 2, 3, 4, 0] (lv2 := [(0, .ref (a 0)), (1, .int (nI t)), (2, .int (nI k)), (3, .int (nI (wgs u (u 4)))), (4, .int (nI (6 + q + 1)))]) rfl ?_
                exact ih34 (q + 1) (by omega) (by omega)
          refine zk_lv [2, 3, 4, 1, 0] (lv2 := [(0, .ref (a 0)), (1, .int (nI t)), (2, .int (nI k)), (3, .int (nI (wgs u (u 4)))), (4, .int (nI 6))]) rfl ?_
          exact loop34 ((125 - 0) + 1) 0 (Nat.lt_succ_self _) (Nat.zero_le _)
        · exact absurd h_2 (by decide)
      · refine zk_top (y := nI 0) (if_neg hi2) ?_
        refine zk_if_neN hc 21 dX7_begin_16 (by decide) (by omega) (fun h_4 => ?_) (fun h_4 => ?_)
        · exact absurd h_4 (by decide)
        · refine zk_iconst hc ((-1)) dX7_begin_19 rfl ?_
          refine fin 0 0 _ _ _ _ (by decide) (by decide) dX7_begin_20 (?_)
          exact ⟨by unfold aBeg; rw [if_neg (fun z => hi2 z.2)], (rw, rb, rk, rt, he, tr, be, sp, rm, rd, bn, wk, wp, bm), by unfold nBeg; rw [if_neg (fun z => hi2 z.2)]; rfl⟩
  · refine zk_top (y := nI 0) (if_neg hi1) ?_
    refine zk_if_eqN hc 19 dX7_begin_6 (by decide) (by omega) (fun h_5 => ?_) (fun h_5 => ?_)
    · refine zk_iconst hc ((-1)) dX7_begin_19 rfl ?_
      refine fin 0 0 _ _ _ _ (by decide) (by decide) dX7_begin_20 (?_)
      exact ⟨by unfold aBeg; rw [if_neg (fun z => hi1 z.1)], (rw, rb, rk, rt, he, tr, be, sp, rm, rd, bn, wk, wp, bm), by unfold nBeg; rw [if_neg (fun z => hi1 z.1)]; rfl⟩
    · exact absurd h_5 (by decide)

set_option maxHeartbeats 4000000 in
set_option maxRecDepth 100000 in
theorem ct_X7_isOf (g : GG) (l : Launch) (v w : Int32) : CtI g l yX7_isOf cX7_isOf 2 (some .boolean) (rmK 2 0 0) (([] : va_W)) [.int v, .int w] (fun r W1 => r = (if (inR 0 3 v ∧ inR (setLo (tOf v)) (setHi (tOf v)) w) then nI 1 else nI 0) ∧ W1 = []) := by
  refine CtZ.go RX7 rfl (by decide +kernel) (Nat.le_of_ble_eq_true rfl) ?_
  intro p e s m args below meth c A H0 Q hc hnm fin
  show KW g p l e (rmK 2 0 0) s m args below meth c 2 A H0 0 0 Q (([] : va_W)) [(0, .int v), (1, .int w)] 0 []
  refine zk_iload_n hc dX7_isOf_0 0 rfl ?_
  by_cases hsw : nI 0 ≤ v ∧ v ≤ nI 2
  · obtain ⟨k, hk0, hk1, rfl⟩ := rngN (by omega) hsw
    rcases (show k = 0 ∨ k = 1 ∨ k = 2 by omega) with rfl | rfl | rfl
    · refine zk_tableIn hc 28 dX7_isOf_1 (by decide) (by decide) rfl (by decide) ?_
      refine zk_iload_n hc dX7_isOf_28 1 rfl ?_
      refine zk_iconst hc (nI 0) dX7_isOf_29 rfl ?_
      refine zk_iconst hc (nI 3) dX7_isOf_30 rfl ?_
      refine zk_callSi hc (rest := []) (ct_X7_isIn g l w (nI 0) (nI 3)) gg_X7_59 cd_X7_isIn ⟨Nat.le_of_ble_eq_true rfl, Nat.le_of_ble_eq_true rfl⟩ ⟨Nat.le_of_ble_eq_true rfl, Nat.le_of_ble_eq_true rfl⟩ ([]) ([] : va_W) rfl rfl (Nat.le_of_ble_eq_true rfl) dX7_isOf_31 (fun r W1 hp => ?_)
      obtain ⟨rfl, rfl⟩ := hp
      refine zk_ws (ws2 := ([] : va_W)) rfl ?_
      by_cases hi : nI 0 ≤ w ∧ w ≤ nI 3
      · refine zk_top (y := nI 1) (if_pos hi) ?_
        refine fin 0 0 _ _ _ _ (by decide) (by decide) dX7_isOf_34 rfl (?_)
        exact ⟨by rw [if_pos ⟨⟨by decide, by decide⟩, hi⟩], rfl⟩
      · refine zk_top (y := nI 0) (if_neg hi) ?_
        refine fin 0 0 _ _ _ _ (by decide) (by decide) dX7_isOf_34 rfl (?_)
        exact ⟨by rw [if_neg (fun z => hi z.2)], rfl⟩
    · refine zk_tableIn hc 35 dX7_isOf_1 (by decide) (by decide) rfl (by decide) ?_
      refine zk_iload_n hc dX7_isOf_35 1 rfl ?_
      refine zk_bipush hc (nI 10) dX7_isOf_36 rfl ?_
      refine zk_sipush hc (nI 600) dX7_isOf_38 rfl ?_
      refine zk_callSi hc (rest := []) (ct_X7_isIn g l w (nI 10) (nI 600)) gg_X7_59 cd_X7_isIn ⟨Nat.le_of_ble_eq_true rfl, Nat.le_of_ble_eq_true rfl⟩ ⟨Nat.le_of_ble_eq_true rfl, Nat.le_of_ble_eq_true rfl⟩ ([]) ([] : va_W) rfl rfl (Nat.le_of_ble_eq_true rfl) dX7_isOf_41 (fun r W1 hp => ?_)
      obtain ⟨rfl, rfl⟩ := hp
      refine zk_ws (ws2 := ([] : va_W)) rfl ?_
      by_cases hi : nI 10 ≤ w ∧ w ≤ nI 600
      · refine zk_top (y := nI 1) (if_pos hi) ?_
        refine fin 0 0 _ _ _ _ (by decide) (by decide) dX7_isOf_44 rfl (?_)
        exact ⟨by rw [if_pos ⟨⟨by decide, by decide⟩, hi⟩], rfl⟩
      · refine zk_top (y := nI 0) (if_neg hi) ?_
        refine fin 0 0 _ _ _ _ (by decide) (by decide) dX7_isOf_44 rfl (?_)
        exact ⟨by rw [if_neg (fun z => hi z.2)], rfl⟩
    · refine zk_tableIn hc 45 dX7_isOf_1 (by decide) (by decide) rfl (by decide) ?_
      refine zk_iload_n hc dX7_isOf_45 1 rfl ?_
      refine zk_iconst hc (nI 1) dX7_isOf_46 rfl ?_
      refine zk_bipush hc (nI 20) dX7_isOf_47 rfl ?_
      refine zk_callSi hc (rest := []) (ct_X7_isIn g l w (nI 1) (nI 20)) gg_X7_59 cd_X7_isIn ⟨Nat.le_of_ble_eq_true rfl, Nat.le_of_ble_eq_true rfl⟩ ⟨Nat.le_of_ble_eq_true rfl, Nat.le_of_ble_eq_true rfl⟩ ([]) ([] : va_W) rfl rfl (Nat.le_of_ble_eq_true rfl) dX7_isOf_49 (fun r W1 hp => ?_)
      obtain ⟨rfl, rfl⟩ := hp
      refine zk_ws (ws2 := ([] : va_W)) rfl ?_
      by_cases hi : nI 1 ≤ w ∧ w ≤ nI 20
      · refine zk_top (y := nI 1) (if_pos hi) ?_
        refine fin 0 0 _ _ _ _ (by decide) (by decide) dX7_isOf_52 rfl (?_)
        exact ⟨by rw [if_pos ⟨⟨by decide, by decide⟩, hi⟩], rfl⟩
      · refine zk_top (y := nI 0) (if_neg hi) ?_
        refine fin 0 0 _ _ _ _ (by decide) (by decide) dX7_isOf_52 rfl (?_)
        exact ⟨by rw [if_neg (fun z => hi z.2)], rfl⟩
  · refine zk_tableOut hc 53 dX7_isOf_1 (tab_out (hi := 2) (by decide) hsw) (by decide) ?_
    refine zk_iload_n hc dX7_isOf_53 0 rfl ?_
    refine zk_iconst hc (nI 3) dX7_isOf_54 rfl ?_
    refine zk_icmp_ne hc 72 dX7_isOf_55 (by decide) (fun h3 => ?_) (fun h3 => ?_)
    · refine zk_iconst hc (nI 0) dX7_isOf_72 rfl ?_
      refine fin 0 0 _ _ _ _ (by decide) (by decide) dX7_isOf_73 rfl (?_)
      exact ⟨by rw [if_neg (fun z => set_no hsw h3 z.1)], rfl⟩
    · refine zk_iload_n hc dX7_isOf_58 1 rfl ?_
      refine zk_iconst hc (nI 0) dX7_isOf_59 rfl ?_
      refine zk_bipush hc (nI 30) dX7_isOf_60 rfl ?_
      refine zk_callSi hc (rest := []) (ct_X7_isIn g l w (nI 0) (nI 30)) gg_X7_59 cd_X7_isIn ⟨Nat.le_of_ble_eq_true rfl, Nat.le_of_ble_eq_true rfl⟩ ⟨Nat.le_of_ble_eq_true rfl, Nat.le_of_ble_eq_true rfl⟩ ([]) ([] : va_W) rfl rfl (Nat.le_of_ble_eq_true rfl) dX7_isOf_62 (fun r W1 hp => ?_)
      obtain ⟨rfl, rfl⟩ := hp
      refine zk_ws (ws2 := ([] : va_W)) rfl ?_
      by_cases hi : nI 0 ≤ w ∧ w ≤ nI 30
      · refine zk_top (y := nI 1) (if_pos hi) ?_
        refine zk_if_eqN hc 72 dX7_isOf_65 (by decide) (by omega) (fun h_1 => ?_) (fun h_1 => ?_)
        · exact absurd h_1 (by decide)
        · refine zk_iconst hc (nI 1) dX7_isOf_68 rfl ?_
          refine zk_goto hc 73 dX7_isOf_69 (by decide) ?_
          refine fin 0 0 _ _ _ _ (by decide) (by decide) dX7_isOf_73 rfl (?_)
          subst h3
          exact ⟨by rw [if_pos ⟨⟨by decide, by decide⟩, hi⟩], rfl⟩
      · refine zk_top (y := nI 0) (if_neg hi) ?_
        refine zk_if_eqN hc 72 dX7_isOf_65 (by decide) (by omega) (fun h_2 => ?_) (fun h_2 => ?_)
        · refine zk_iconst hc (nI 0) dX7_isOf_72 rfl ?_
          refine fin 0 0 _ _ _ _ (by decide) (by decide) dX7_isOf_73 rfl (?_)
          subst h3
          exact ⟨by rw [if_neg (fun z => hi z.2)], rfl⟩
        · exact absurd h_2 (by decide)

set_option maxHeartbeats 4000000 in
set_option maxRecDepth 100000 in
theorem ct_X7_set (g : GG) (l : Launch) (a : Nat → Nat) (u pa im tx rw rb rk rt he tr be sp : Nat → Nat) (pm fl ln rm rd bn : Nat) (fk fp rs wk wp bm : Int32) (cN : Nat) (hN : cN ≤ 512) (hW : Wf cN u) (hpm : pm ≤ 8) (v w : Int32) : CtI g l yX7_set cX7_set 4 (some .int) (rmK 3 0 0) (MW g.2.1 a u pa im tx rw rb rk rt he tr be sp pm fl ln rm rd bn fk fp rs wk wp bm) [.ref (a 0), .int v, .int w] (fun r W1 => r = aSet u v w ∧ ∃ X, W1 = MSW g.2.1 a (nSet (u, pa, pm, im, fl, tx, ln, fk, fp, rs) v w) X) := by
  refine CtI.go RX7 rfl (by decide +kernel) (Nat.le_of_ble_eq_true rfl) ?_
  intro p e s m args below meth c A H0 Q hc hnm fin
  obtain ⟨⟨hK2, hK4⟩, ⟨hC1, hC8⟩, hg, ⟨hh1, hh2⟩, ⟨hv1, hv2⟩, hs3, hl10, hld, htr, hmC, hwk, hbg⟩ := id hW
  have hm : ∀ t, t < 4 → mny u t ≤ 8 := fun t h => (htr t h).1
  have hm4 : ∀ t, t < u 4 → mny u t ≤ 8 := fun t h => (htr t (by omega)).1
  have hk : ∀ t j, t < 4 → j < 8 → knd u t j < 3 := fun t j h1 h2 => (hwk t j h1 h2).2
  have hd : ∀ t j, t < 4 → j < 8 → dst u t j < 6 := fun t j h1 h2 => (hwk t j h1 h2).1
  have h13 : u 13 < 6 := hld 0 (by omega)
  have h6 : u 6 ≤ 1000 * cN + 600 := hbg 6 (by omega)
  show KW g p l e (rmK 3 0 0) s m args below meth c 4 A H0 0 0 Q (MW g.2.1 a u pa im tx rw rb rk rt he tr be sp pm fl ln rm rd bn fk fp rs wk wp bm) [(0, .ref (a 0)), (1, .int v), (2, .int w)] 0 []
  refine zk_iload_n hc dX7_set_0 1 rfl ?_
  refine zk_iload_n hc dX7_set_1 2 rfl ?_
  refine zk_callSi hc (rest := []) (ct_X7_isOf g l v w) gg_X7_196 cd_X7_isOf ⟨Nat.le_of_ble_eq_true rfl, Nat.le_of_ble_eq_true rfl⟩ ⟨Nat.le_of_ble_eq_true rfl, Nat.le_of_ble_eq_true rfl⟩ ([]) (MW g.2.1 a u pa im tx rw rb rk rt he tr be sp pm fl ln rm rd bn fk fp rs wk wp bm) rfl rfl (Nat.le_of_ble_eq_true rfl) dX7_set_2 (fun r W1 hp => ?_)
  obtain ⟨rfl, rfl⟩ := hp
  refine zk_ws (ws2 := MW g.2.1 a u pa im tx rw rb rk rt he tr be sp pm fl ln rm rd bn fk fp rs wk wp bm) rfl ?_
  by_cases hi : inR 0 3 v ∧ inR (setLo (tOf v)) (setHi (tOf v)) w
  · refine zk_top (y := nI 1) (if_pos hi) ?_
    obtain ⟨t, t0, t1, rfl⟩ := rngN (by omega) hi.1
    have hi2 := hi.2
    rw [tOf_nI (by omega)] at hi2
    have hsh := setHi_le t
    obtain ⟨k, k0, k1, rfl⟩ := rngN (by omega) hi2 (by have := setLo_le t; omega)
    refine zk_if_neN hc 10 dX7_set_5 (by decide) (by omega) (fun h_1 => ?_) (fun h_1 => ?_)
    · refine zk_aload_n hc dX7_set_10 0 rfl ?_
      refine zk_callVv hc (rest := []) (ct_X7_remember g l a u pa im tx rw rb rk rt he tr be sp pm fl ln rm rd bn fk fp rs wk wp bm hpm) gg_X7_107 cd_X7_remember ⟨Nat.le_of_ble_eq_true rfl, Nat.le_of_ble_eq_true rfl⟩ ⟨Nat.le_of_ble_eq_true rfl, Nat.le_of_ble_eq_true rfl⟩ ([]) ([]) rfl 0 rfl rfl rfl (Nat.le_of_ble_eq_true rfl) dX7_set_11 (fun W1 hp => ?_)
      obtain rfl := hp
      refine zk_ws (ws2 := MW g.2.1 a u (remP u pa pm) im tx rw rb rk rt he tr be sp (remN pm) fl ln rm rd bn fk fp rs wk wp bm) rfl ?_
      refine zk_aload_n hc dX7_set_14 0 rfl ?_
      refine zk_get hc inlX7 (ci := 7) rfl 0 0 (by decide) mw_4_11 rfl rfl rfl dX7_set_15 ?_
      refine zk_iload_n hc dX7_set_18 1 rfl ?_
      refine zk_ialdN hc 1 rfl (by omega) (by decide) dX7_set_19 ?_
      refine zk_istore_n hc (lv2 := [(3, .int (nI (u t))), (0, .ref (a 0)), (1, .int (nI t)), (2, .int (nI k))]) dX7_set_20 (by decide) rfl ?_
      refine zk_aload_n hc dX7_set_21 1 rfl ?_
      refine zk_get hc inlX7 (ci := 7) rfl 0 0 (by decide) mw_4_11 rfl rfl rfl dX7_set_22 ?_
      refine zk_iload_n hc dX7_set_25 2 rfl ?_
      refine zk_iload_n hc dX7_set_26 3 rfl ?_
      refine zk_iastN hc 1 rfl (by omega) (by decide) (ws2 := MW g.2.1 a (va_up u t k) (remP u pa pm) im tx rw rb rk rt he tr be sp (remN pm) fl ln rm rd bn fk fp rs wk wp bm) rfl dX7_set_27 ?_
      refine zk_iload_n hc dX7_set_28 0 rfl ?_
      refine fin 0 0 _ _ _ _ (by decide) (by decide) dX7_set_29 (?_)
      exact ⟨by unfold aSet; rw [if_pos hi, tOf_nI (by omega)], (rw, rb, rk, rt, he, tr, be, sp, rm, rd, bn, wk, wp, bm), by unfold nSet; rw [if_pos hi, tOf_nI (by omega), tOf_nI (by omega)]; rfl⟩
    · exact absurd h_1 (by decide)
  · refine zk_top (y := nI 0) (if_neg hi) ?_
    refine zk_if_neN hc 10 dX7_set_5 (by decide) (by omega) (fun h_2 => ?_) (fun h_2 => ?_)
    · exact absurd h_2 (by decide)
    · refine zk_iconst hc ((-1)) dX7_set_8 rfl ?_
      refine fin 0 0 _ _ _ _ (by decide) (by decide) dX7_set_9 (?_)
      exact ⟨by unfold aSet; rw [if_neg hi], (rw, rb, rk, rt, he, tr, be, sp, rm, rd, bn, wk, wp, bm), by unfold nSet; rw [if_neg hi]; rfl⟩
