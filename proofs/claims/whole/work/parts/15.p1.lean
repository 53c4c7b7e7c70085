set_option maxHeartbeats 4000000 in
set_option maxRecDepth 100000 in
theorem ct_X7_remember (g : GG) (l : Launch) (a : Nat → Nat) (u pa im tx rw rb rk rt he tr be sp : Nat → Nat) (pm fl ln rm rd bn : Nat) (fk fp rs wk wp bm : Int32) (hpm : pm ≤ 8) : CtV g l yX7_remember cX7_remember 2 (rmK 2 0 0) (MW g.2.1 a u pa im tx rw rb rk rt he tr be sp pm fl ln rm rd bn fk fp rs wk wp bm) [.ref (a 0)] (fun W1 => W1 = MW g.2.1 a u (remP u pa pm) im tx rw rb rk rt he tr be sp (remN pm) fl ln rm rd bn fk fp rs wk wp bm) := by
  refine CtV.go RX7 rfl (by decide +kernel) (Nat.le_of_ble_eq_true rfl) ?_
  intro p e s m args below meth c A H0 Q hc hnm fin
  show KW g p l e (rmK 2 0 0) s m args below meth c 2 A H0 0 0 Q (MW g.2.1 a u pa im tx rw rb rk rt he tr be sp pm fl ln rm rd bn fk fp rs wk wp bm) [(0, .ref (a 0))] 0 []
  refine zk_aload_n hc dX7_remember_0 0 rfl ?_
  refine zk_get hc inlX7 (ci := 7) rfl 0 2 (by decide) mw_7_9 rfl rfl rfl dX7_remember_1 ?_
  refine zk_bipush hc (nI 8) dX7_remember_4 rfl ?_
  refine zk_icmp_neN hc 50 dX7_remember_6 (by decide) (by omega) (by omega) (fun h8 => ?_) (fun h8 => ?_)
  · refine zk_iconst hc (nI 0) dX7_remember_50 rfl ?_
    refine zk_istore_n hc (lv2 := [(1, .int (nI 0)), (0, .ref (a 0))]) dX7_remember_51 (by decide) rfl ?_
    refine zk_ws (ws2 := MW g.2.1 a u (va_cpy u pa 0 (131 * (pm)) 0) im tx rw rb rk rt he tr be sp pm fl ln rm rd bn fk fp rs wk wp bm) (congrArg (fun zz => MW g.2.1 a u zz im tx rw rb rk rt he tr be sp pm fl ln rm rd bn fk fp rs wk wp bm) (show pa = va_cpy u pa 0 (131 * (pm)) 0 from cpy_zero _ _ _ _)) ?_
    have loop52 : ∀ (N : Nat) (q : Nat), 131 - q < N → (q ≤ 131) → KW g p l e (rmK 2 0 0) s m args below meth c 2 A H0 0 0 Q (MW g.2.1 a u (va_cpy u pa 0 (131 * (pm)) q) im tx rw rb rk rt he tr be sp pm fl ln rm rd bn fk fp rs wk wp bm) [(0, .ref (a 0)), (1, .int (nI q))] 52 [] := by
      intro N
      induction N with
      | zero => intro q hm; exact absurd hm (Nat.not_lt_zero _)
      | succ N ih52 =>
        intro q hm52 hq
        refine zk_iload_n hc dX7_remember_52 1 rfl ?_
        refine zk_sipush hc (nI 131) dX7_remember_53 rfl ?_
        refine zk_icmp_geN hc 86 dX7_remember_56 (by decide) (by omega) (by omega) (fun h_1 => ?_) (fun h_1 => ?_)
        · refine zk_ws (ws2 := MW g.2.1 a u (va_cpy u pa 0 (131 * (pm)) 131) im tx rw rb rk rt he tr be sp pm fl ln rm rd bn fk fp rs wk wp bm) (congrArg (fun zz => MW g.2.1 a u zz im tx rw rb rk rt he tr be sp pm fl ln rm rd bn fk fp rs wk wp bm) (show va_cpy u pa 0 (131 * (pm)) q = va_cpy u pa 0 (131 * (pm)) 131 from congrArg (va_cpy u pa 0 (131 * (pm))) (by omega))) ?_
          refine zk_aload_n hc dX7_remember_86 0 rfl ?_
          refine zk_dup hc dX7_remember_87 rfl ?_
          refine zk_get hc inlX7 (ci := 7) rfl 0 2 (by decide) mw_7_9 rfl rfl rfl dX7_remember_88 ?_
          refine zk_iconst hc (nI 1) dX7_remember_91 rfl ?_
          refine zk_iaddN hc dX7_remember_92 ?_
          refine zk_put hc inlX7 (ci := 7) rfl tyX7 tyX7_ok nmX7 0 2 (by decide) mw_7_9 rfl rfl rfl rfl rfl (Nat.le_of_ble_eq_true rfl) (ws2 := MW g.2.1 a u (va_cpy u pa 0 (131 * (pm)) 131) im tx rw rb rk rt he tr be sp (pm + 1) fl ln rm rd bn fk fp rs wk wp bm) rfl dX7_remember_93 ?_
          exact fin 0 0 _ _ _ (by decide) (by decide) dX7_remember_96 (by unfold remP remN; rw [if_neg h8, if_neg h8])
        · refine zk_aload_n hc dX7_remember_59 0 rfl ?_
          refine zk_get hc inlX7 (ci := 7) rfl 0 1 (by decide) mw_4_12 rfl rfl rfl dX7_remember_60 ?_
          refine zk_sipush hc (nI 131) dX7_remember_63 rfl ?_
          refine zk_aload_n hc dX7_remember_66 0 rfl ?_
          refine zk_get hc inlX7 (ci := 7) rfl 0 2 (by decide) mw_7_9 rfl rfl rfl dX7_remember_67 ?_
          refine zk_imulN hc dX7_remember_70 ?_
          refine zk_iload_n hc dX7_remember_71 1 rfl ?_
          refine zk_iaddN hc dX7_remember_72 ?_
          refine zk_aload_n hc dX7_remember_73 0 rfl ?_
          refine zk_get hc inlX7 (ci := 7) rfl 0 0 (by decide) mw_4_11 rfl rfl rfl dX7_remember_74 ?_
          refine zk_iload_n hc dX7_remember_77 1 rfl ?_
          refine zk_ialdN hc 1 rfl (by omega) (by decide) dX7_remember_78 ?_
          refine zk_iastN hc 2 rfl (by omega) (by decide) (ws2 := MW g.2.1 a u (va_up (va_cpy u pa 0 (131 * (pm)) q) ((131 * pm) + q) (u q)) im tx rw rb rk rt he tr be sp pm fl ln rm rd bn fk fp rs wk wp bm) rfl dX7_remember_79 ?_
          refine zk_ws (ws2 := MW g.2.1 a u (va_cpy u pa 0 (131 * (pm)) (q + 1)) im tx rw rb rk rt he tr be sp pm fl ln rm rd bn fk fp rs wk wp bm) (congrArg (fun zz => MW g.2.1 a u zz im tx rw rb rk rt he tr be sp pm fl ln rm rd bn fk fp rs wk wp bm) (show va_up (va_cpy u pa 0 (131 * (pm)) q) ((131 * pm) + q) (u q) = va_cpy u pa 0 (131 * (pm)) (q + 1) from cpy_step (by omega) (by rw [Nat.zero_add]))) ?_
          refine zk_iinc hc (v := nI (q + 1)) (lv2 := [(1, .int (nI (q + 1))), (0, .ref (a 0))]) dX7_remember_80 1 rfl (nq_inc rfl) (by decide) rfl ?_
          refine zk_goto hc 52 dX7_remember_83 (by decide) ?_
          refine zk_lv [1, 0] (lv2 := [(0, .ref (a 0)), (1, .int (nI (q + 1)))]) rfl ?_
          exact ih52 (q + 1) (by omega) (by omega)
    refine zk_lv [1, 0] (lv2 := [(0, .ref (a 0)), (1, .int (nI 0))]) rfl ?_
    exact loop52 ((131 - 0) + 1) 0 (Nat.lt_succ_self _) (Nat.zero_le _)
  · subst h8
    refine zk_iconst hc (nI 0) dX7_remember_9 rfl ?_
    refine zk_istore_n hc (lv2 := [(1, .int (nI 0)), (0, .ref (a 0))]) dX7_remember_10 (by decide) rfl ?_
    refine zk_ws (ws2 := MW g.2.1 a u (va_cpy pa pa 131 0 0) im tx rw rb rk rt he tr be sp 8 fl ln rm rd bn fk fp rs wk wp bm) (congrArg (fun zz => MW g.2.1 a u zz im tx rw rb rk rt he tr be sp 8 fl ln rm rd bn fk fp rs wk wp bm) (show pa = va_cpy pa pa 131 0 0 from cpy_zero _ _ _ _)) ?_
    have loop11 : ∀ (N : Nat) (q : Nat), 917 - q < N → (q ≤ 917) → KW g p l e (rmK 2 0 0) s m args below meth c 2 A H0 0 0 Q (MW g.2.1 a u (va_cpy pa pa 131 0 q) im tx rw rb rk rt he tr be sp 8 fl ln rm rd bn fk fp rs wk wp bm) [(0, .ref (a 0)), (1, .int (nI q))] 11 [] := by
      intro N
      induction N with
      | zero => intro q hm; exact absurd hm (Nat.not_lt_zero _)
      | succ N ih11 =>
        intro q hm11 hq
        refine zk_iload_n hc dX7_remember_11 1 rfl ?_
        refine zk_sipush hc (nI 917) dX7_remember_12 rfl ?_
        refine zk_icmp_geN hc 40 dX7_remember_15 (by decide) (by omega) (by omega) (fun h_2 => ?_) (fun h_2 => ?_)
        · refine zk_ws (ws2 := MW g.2.1 a u (va_cpy pa pa 131 0 917) im tx rw rb rk rt he tr be sp 8 fl ln rm rd bn fk fp rs wk wp bm) (congrArg (fun zz => MW g.2.1 a u zz im tx rw rb rk rt he tr be sp 8 fl ln rm rd bn fk fp rs wk wp bm) (show va_cpy pa pa 131 0 q = va_cpy pa pa 131 0 917 from congrArg (va_cpy pa pa 131 0) (by omega))) ?_
          refine zk_aload_n hc dX7_remember_40 0 rfl ?_
          refine zk_dup hc dX7_remember_41 rfl ?_
          refine zk_get hc inlX7 (ci := 7) rfl 0 2 (by decide) mw_7_9 rfl rfl rfl dX7_remember_42 ?_
          refine zk_iconst hc (nI 1) dX7_remember_45 rfl ?_
          refine zk_isubN hc dX7_remember_46 (by omega) ?_
          refine zk_put hc inlX7 (ci := 7) rfl tyX7 tyX7_ok nmX7 0 2 (by decide) mw_7_9 rfl rfl rfl rfl rfl (Nat.le_of_ble_eq_true rfl) (ws2 := MW g.2.1 a u (va_cpy pa pa 131 0 917) im tx rw rb rk rt he tr be sp (8 - 1) fl ln rm rd bn fk fp rs wk wp bm) rfl dX7_remember_47 ?_
          refine zk_iconst hc (nI 0) dX7_remember_50 rfl ?_
          refine zk_istore_n hc (lv2 := [(1, .int (nI 0)), (0, .ref (a 0))]) dX7_remember_51 (by decide) rfl ?_
          refine zk_ws (ws2 := MW g.2.1 a u (va_cpy u (va_cpy pa pa 131 0 917) 0 (131 * (8 - 1)) 0) im tx rw rb rk rt he tr be sp (8 - 1) fl ln rm rd bn fk fp rs wk wp bm) (congrArg (fun zz => MW g.2.1 a u zz im tx rw rb rk rt he tr be sp (8 - 1) fl ln rm rd bn fk fp rs wk wp bm) (show va_cpy pa pa 131 0 917 = va_cpy u (va_cpy pa pa 131 0 917) 0 (131 * (8 - 1)) 0 from cpy_zero _ _ _ _)) ?_
          have loop52 : ∀ (N : Nat) (q : Nat), 131 - q < N → (q ≤ 131) → KW g p l e (rmK 2 0 0) s m args below meth c 2 A H0 0 0 Q (MW g.2.1 a u (va_cpy u (va_cpy pa pa 131 0 917) 0 (131 * (8 - 1)) q) im tx rw rb rk rt he tr be sp (8 - 1) fl ln rm rd bn fk fp rs wk wp bm) [(0, .ref (a 0)), (1, .int (nI q))] 52 [] := by
            intro N
            induction N with
            | zero => intro q hm; exact absurd hm (Nat.not_lt_zero _)
            | succ N ih52 =>
              intro q hm52 hq
              refine zk_iload_n hc dX7_remember_52 1 rfl ?_
              refine zk_sipush hc (nI 131) dX7_remember_53 rfl ?_
              refine zk_icmp_geN hc 86 dX7_remember_56 (by decide) (by omega) (by omega) (fun h_3 => ?_) (fun h_3 => ?_)
              · refine zk_ws (ws2 := MW g.2.1 a u (va_cpy u (va_cpy pa pa 131 0 917) 0 (131 * (8 - 1)) 131) im tx rw rb rk rt he tr be sp (8 - 1) fl ln rm rd bn fk fp rs wk wp bm) (congrArg (fun zz => MW g.2.1 a u zz im tx rw rb rk rt he tr be sp (8 - 1) fl ln rm rd bn fk fp rs wk wp bm) (show va_cpy u (va_cpy pa pa 131 0 917) 0 (131 * (8 - 1)) q = va_cpy u (va_cpy pa pa 131 0 917) 0 (131 * (8 - 1)) 131 from congrArg (va_cpy u (va_cpy pa pa 131 0 917) 0 (131 * (8 - 1))) (by omega))) ?_
                refine zk_aload_n hc dX7_remember_86 0 rfl ?_
                refine zk_dup hc dX7_remember_87 rfl ?_
                refine zk_get hc inlX7 (ci := 7) rfl 0 2 (by decide) mw_7_9 rfl rfl rfl dX7_remember_88 ?_
                refine zk_iconst hc (nI 1) dX7_remember_91 rfl ?_
                refine zk_iaddN hc dX7_remember_92 ?_
                refine zk_put hc inlX7 (ci := 7) rfl tyX7 tyX7_ok nmX7 0 2 (by decide) mw_7_9 rfl rfl rfl rfl rfl (Nat.le_of_ble_eq_true rfl) (ws2 := MW g.2.1 a u (va_cpy u (va_cpy pa pa 131 0 917) 0 (131 * (8 - 1)) 131) im tx rw rb rk rt he tr be sp ((8 - 1) + 1) fl ln rm rd bn fk fp rs wk wp bm) rfl dX7_remember_93 ?_
                exact fin 0 0 _ _ _ (by decide) (by decide) dX7_remember_96 (rfl)
              · refine zk_aload_n hc dX7_remember_59 0 rfl ?_
                refine zk_get hc inlX7 (ci := 7) rfl 0 1 (by decide) mw_4_12 rfl rfl rfl dX7_remember_60 ?_
                refine zk_sipush hc (nI 131) dX7_remember_63 rfl ?_
                refine zk_aload_n hc dX7_remember_66 0 rfl ?_
                refine zk_get hc inlX7 (ci := 7) rfl 0 2 (by decide) mw_7_9 rfl rfl rfl dX7_remember_67 ?_
                refine zk_imulN hc dX7_remember_70 ?_
                refine zk_iload_n hc dX7_remember_71 1 rfl ?_
                refine zk_iaddN hc dX7_remember_72 ?_
                refine zk_aload_n hc dX7_remember_73 0 rfl ?_
                refine zk_get hc inlX7 (ci := 7) rfl 0 0 (by decide) mw_4_11 rfl rfl rfl dX7_remember_74 ?_
                refine zk_iload_n hc dX7_remember_77 1 rfl ?_
                refine zk_ialdN hc 1 rfl (by omega) (by decide) dX7_remember_78 ?_
                refine zk_iastN hc 2 rfl (by omega) (by decide) (ws2 := MW g.2.1 a u (va_up (va_cpy u (va_cpy pa pa 131 0 917) 0 (131 * (8 - 1)) q) ((131 * (8 - 1)) + q) (u q)) im tx rw rb rk rt he tr be sp (8 - 1) fl ln rm rd bn fk fp rs wk wp bm) rfl dX7_remember_79 ?_
                refine zk_ws (ws2 := MW g.2.1 a u (va_cpy u (va_cpy pa pa 131 0 917) 0 (131 * (8 - 1)) (q + 1)) im tx rw rb rk rt he tr be sp (8 - 1) fl ln rm rd bn fk fp rs wk wp bm) (congrArg (fun zz => MW g.2.1 a u zz im tx rw rb rk rt he tr be sp (8 - 1) fl ln rm rd bn fk fp rs wk wp bm) (show va_up (va_cpy u (va_cpy pa pa 131 0 917) 0 (131 * (8 - 1)) q) ((131 * (8 - 1)) + q) (u q) = va_cpy u (va_cpy pa pa 131 0 917) 0 (131 * (8 - 1)) (q + 1) from cpy_step (by omega) (by rw [Nat.zero_add]))) ?_
                refine zk_iinc hc (v := nI (q + 1)) (lv2 := [(1, .int (nI (q + 1))), (0, .ref (a 0))]) dX7_remember_80 1 rfl (nq_inc rfl) (by decide) rfl ?_
                refine zk_goto hc 52 dX7_remember_83 (by decide) ?_
                refine zk_lv [1, 0] (lv2 := [(0, .ref (a 0)), (1, .int (nI (q + 1)))]) rfl ?_
                exact ih52 (q + 1) (by omega) (by omega)
          refine zk_lv [1, 0] (lv2 := [(0, .ref (a 0)), (1, .int (nI 0))]) rfl ?_
          exact loop52 ((131 - 0) + 1) 0 (Nat.lt_succ_self _) (Nat.zero_le _)
        · refine zk_aload_n hc dX7_remember_18 0 rfl ?_
          refine zk_get hc inlX7 (ci := 7) rfl 0 1 (by decide) mw_4_12 rfl rfl rfl dX7_remember_19 ?_
          refine zk_iload_n hc dX7_remember_22 1 rfl ?_
          refine zk_aload_n hc dX7_remember_23 0 rfl ?_
          refine zk_get hc inlX7 (ci := 7) rfl 0 1 (by decide) mw_4_12 rfl rfl rfl dX7_remember_24 ?_
          refine zk_iload_n hc dX7_remember_27 1 rfl ?_
          refine zk_sipush hc (nI 131) dX7_remember_28 rfl ?_
          refine zk_iaddN hc dX7_remember_31 ?_
          refine zk_ialdN hc 2 rfl (by omega) (by decide) dX7_remember_32 ?_
          refine zk_iastN hc 2 rfl (by omega) (by decide) (ws2 := MW g.2.1 a u (va_up (va_cpy pa pa 131 0 q) q ((va_cpy pa pa 131 0 q) (q + 131))) im tx rw rb rk rt he tr be sp 8 fl ln rm rd bn fk fp rs wk wp bm) rfl dX7_remember_33 ?_
          refine zk_ws (ws2 := MW g.2.1 a u (va_cpy pa pa 131 0 (q + 1)) im tx rw rb rk rt he tr be sp 8 fl ln rm rd bn fk fp rs wk wp bm) (congrArg (fun zz => MW g.2.1 a u zz im tx rw rb rk rt he tr be sp 8 fl ln rm rd bn fk fp rs wk wp bm) (show va_up (va_cpy pa pa 131 0 q) q ((va_cpy pa pa 131 0 q) (q + 131)) = va_cpy pa pa 131 0 (q + 1) from cpy_step (by omega) (by rw [pk_cpy_out (by omega), Nat.add_comm]))) ?_
          refine zk_iinc hc (v := nI (q + 1)) (lv2 := [(1, .int (nI (q + 1))), (0, .ref (a 0))]) dX7_remember_34 1 rfl (nq_inc rfl) (by decide) rfl ?_
          refine zk_goto hc 11 dX7_remember_37 (by decide) ?_
          refine zk_lv [1, 0] (lv2 := [(0, .ref (a 0)), (1, .int (nI (q + 1)))]) rfl ?_
          exact ih11 (q + 1) (by omega) (by omega)
    refine zk_lv [1, 0] (lv2 := [(0, .ref (a 0)), (1, .int (nI 0))]) rfl ?_
    exact loop11 ((917 - 0) + 1) 0 (Nat.lt_succ_self _) (Nat.zero_le _)

set_option maxHeartbeats 4000000 in
set_option maxRecDepth 100000 in
theorem ct_X7_pause (g : GG) (l : Launch) (a : Nat → Nat) (u pa im tx rw rb rk rt he tr be sp : Nat → Nat) (pm fl ln rm rd bn : Nat) (fk fp rs wk wp bm : Int32) (cN : Nat) (hN : cN ≤ 512) (hW : Wf cN u) (hpm : pm ≤ 8) (v : Int32) : CtI g l yX7_pause cX7_pause 2 (some .int) (rmK 3 0 0) (MW g.2.1 a u pa im tx rw rb rk rt he tr be sp pm fl ln rm rd bn fk fp rs wk wp bm) [.ref (a 0), .int v] (fun r W1 => r = aPau u v ∧ ∃ X, W1 = MSW g.2.1 a (nPau (u, pa, pm, im, fl, tx, ln, fk, fp, rs) v) X) := by
  refine CtI.go RX7 rfl (by decide +kernel) (Nat.le_of_ble_eq_true rfl) ?_
  intro p e s m args below meth c A H0 Q hc hnm fin
  obtain ⟨⟨hK2, hK4⟩, ⟨hC1, hC8⟩, hg, ⟨hh1, hh2⟩, ⟨hv1, hv2⟩, hs3, hl10, hld, htr, hmC, hwk, hbg⟩ := id hW
  have hm : ∀ t, t < 4 → mny u t ≤ 8 := fun t h => (htr t h).1
  have hm4 : ∀ t, t < u 4 → mny u t ≤ 8 := fun t h => (htr t (by omega)).1
  have hk : ∀ t j, t < 4 → j < 8 → knd u t j < 3 := fun t j h1 h2 => (hwk t j h1 h2).2
  have hd : ∀ t j, t < 4 → j < 8 → dst u t j < 6 := fun t j h1 h2 => (hwk t j h1 h2).1
  have h13 : u 13 < 6 := hld 0 (by omega)
  have h6 : u 6 ≤ 1000 * cN + 600 := hbg 6 (by omega)
  show KW g p l e (rmK 3 0 0) s m args below meth c 2 A H0 0 0 Q (MW g.2.1 a u pa im tx rw rb rk rt he tr be sp pm fl ln rm rd bn fk fp rs wk wp bm) [(0, .ref (a 0)), (1, .int v)] 0 []
  refine zk_iload_n hc dX7_pause_0 1 rfl ?_
  refine zk_iconst hc (nI 1) dX7_pause_1 rfl ?_
  refine zk_sipush hc (nI 1000) dX7_pause_2 rfl ?_
  refine zk_callSi hc (rest := []) (ct_X7_isIn g l v (nI 1) (nI 1000)) gg_X7_59 cd_X7_isIn ⟨Nat.le_of_ble_eq_true rfl, Nat.le_of_ble_eq_true rfl⟩ ⟨Nat.le_of_ble_eq_true rfl, Nat.le_of_ble_eq_true rfl⟩ ([]) (MW g.2.1 a u pa im tx rw rb rk rt he tr be sp pm fl ln rm rd bn fk fp rs wk wp bm) rfl rfl (Nat.le_of_ble_eq_true rfl) dX7_pause_5 (fun r W1 hp => ?_)
  obtain ⟨rfl, rfl⟩ := hp
  refine zk_ws (ws2 := MW g.2.1 a u pa im tx rw rb rk rt he tr be sp pm fl ln rm rd bn fk fp rs wk wp bm) rfl ?_
  by_cases hi : nI 1 ≤ v ∧ v ≤ nI 1000
  · refine zk_top (y := nI 1) (if_pos hi) ?_
    obtain ⟨t, t0, t1, rfl⟩ := rngN (by omega) hi
    refine zk_if_neN hc 13 dX7_pause_8 (by decide) (by omega) (fun h_1 => ?_) (fun h_1 => ?_)
    · refine zk_aload_n hc dX7_pause_13 0 rfl ?_
      refine zk_callVv hc (rest := []) (ct_X7_remember g l a u pa im tx rw rb rk rt he tr be sp pm fl ln rm rd bn fk fp rs wk wp bm hpm) gg_X7_107 cd_X7_remember ⟨Nat.le_of_ble_eq_true rfl, Nat.le_of_ble_eq_true rfl⟩ ⟨Nat.le_of_ble_eq_true rfl, Nat.le_of_ble_eq_true rfl⟩ ([]) ([]) rfl 0 rfl rfl rfl (Nat.le_of_ble_eq_true rfl) dX7_pause_14 (fun W1 hp => ?_)
      obtain rfl := hp
      refine zk_ws (ws2 := MW g.2.1 a u (remP u pa pm) im tx rw rb rk rt he tr be sp (remN pm) fl ln rm rd bn fk fp rs wk wp bm) rfl ?_
      refine zk_aload_n hc dX7_pause_17 0 rfl ?_
      refine zk_get hc inlX7 (ci := 7) rfl 0 0 (by decide) mw_4_11 rfl rfl rfl dX7_pause_18 ?_
      refine zk_bipush hc (nI 6) dX7_pause_21 rfl ?_
      refine zk_dup2 hc dX7_pause_23 rfl rfl ?_
      refine zk_ialdN hc 1 rfl (by omega) (by decide) dX7_pause_24 ?_
      refine zk_iload_n hc dX7_pause_25 1 rfl ?_
      refine zk_iaddN hc dX7_pause_26 ?_
      refine zk_iastN hc 1 rfl (by omega) (by decide) (ws2 := MW g.2.1 a (va_up u 6 ((u 6) + t)) (remP u pa pm) im tx rw rb rk rt he tr be sp (remN pm) fl ln rm rd bn fk fp rs wk wp bm) rfl dX7_pause_27 ?_
      refine zk_aload_n hc dX7_pause_28 0 rfl ?_
      refine zk_get hc inlX7 (ci := 7) rfl 0 0 (by decide) mw_4_11 rfl rfl rfl dX7_pause_29 ?_
      refine zk_bipush hc (nI 6) dX7_pause_32 rfl ?_
      refine zk_ialdN hc 1 rfl (by omega) (by decide) dX7_pause_34 ?_
      refine zk_top (y := nI (u 6 + t)) rfl ?_
      refine fin 0 0 _ _ _ _ (by decide) (by decide) dX7_pause_35 (?_)
      exact ⟨by unfold aPau; rw [if_pos hi, tOf_nI (by omega)], (rw, rb, rk, rt, he, tr, be, sp, rm, rd, bn, wk, wp, bm), by unfold nPau; rw [if_pos hi, tOf_nI (by omega)]; rfl⟩
    · exact absurd h_1 (by decide)
  · refine zk_top (y := nI 0) (if_neg hi) ?_
    refine zk_if_neN hc 13 dX7_pause_8 (by decide) (by omega) (fun h_2 => ?_) (fun h_2 => ?_)
    · exact absurd h_2 (by decide)
    · refine zk_iconst hc ((-1)) dX7_pause_11 rfl ?_
      refine fin 0 0 _ _ _ _ (by decide) (by decide) dX7_pause_12 (?_)
      exact ⟨by unfold aPau; rw [if_neg hi], (rw, rb, rk, rt, he, tr, be, sp, rm, rd, bn, wk, wp, bm), by unfold nPau; rw [if_neg hi]; rfl⟩

set_option maxHeartbeats 4000000 in
set_option maxRecDepth 100000 in
theorem ct_X7_test (g : GG) (l : Launch) (a : Nat → Nat) (u pa im tx rw rb rk rt he tr be sp : Nat → Nat) (pm fl ln rm rd bn : Nat) (fk fp rs wk wp bm : Int32) (cN : Nat) (hN : cN ≤ 512) (hW : Wf cN u) (hpm : pm ≤ 8) (v : Int32) : CtI g l yX7_test cX7_test 3 (some .int) (rmK 3 0 0) (MW g.2.1 a u pa im tx rw rb rk rt he tr be sp pm fl ln rm rd bn fk fp rs wk wp bm) [.ref (a 0), .int v] (fun r W1 => r = aTes u v ∧ ∃ X, W1 = MSW g.2.1 a (nTes (u, pa, pm, im, fl, tx, ln, fk, fp, rs) v) X) := by
  refine CtI.go RX7 rfl (by decide +kernel) (Nat.le_of_ble_eq_true rfl) ?_
  intro p e s m args below meth c A H0 Q hc hnm fin
  obtain ⟨⟨hK2, hK4⟩, ⟨hC1, hC8⟩, hg, ⟨hh1, hh2⟩, ⟨hv1, hv2⟩, hs3, hl10, hld, htr, hmC, hwk, hbg⟩ := id hW
  have hm : ∀ t, t < 4 → mny u t ≤ 8 := fun t h => (htr t h).1
  have hm4 : ∀ t, t < u 4 → mny u t ≤ 8 := fun t h => (htr t (by omega)).1
  have hk : ∀ t j, t < 4 → j < 8 → knd u t j < 3 := fun t j h1 h2 => (hwk t j h1 h2).2
  have hd : ∀ t j, t < 4 → j < 8 → dst u t j < 6 := fun t j h1 h2 => (hwk t j h1 h2).1
  have h13 : u 13 < 6 := hld 0 (by omega)
  have h6 : u 6 ≤ 1000 * cN + 600 := hbg 6 (by omega)
  show KW g p l e (rmK 3 0 0) s m args below meth c 3 A H0 0 0 Q (MW g.2.1 a u pa im tx rw rb rk rt he tr be sp pm fl ln rm rd bn fk fp rs wk wp bm) [(0, .ref (a 0)), (1, .int v)] 0 []
  refine zk_aload_n hc dX7_test_0 0 rfl ?_
  refine zk_iload_n hc dX7_test_1 1 rfl ?_
  refine zk_callVi hc (rest := []) (ct_X7_isTrack g l a u pa im tx rw rb rk rt he tr be sp pm fl ln rm rd bn fk fp rs wk wp bm v (by omega)) gg_X7_89 cd_X7_isTrack ⟨Nat.le_of_ble_eq_true rfl, Nat.le_of_ble_eq_true rfl⟩ ⟨Nat.le_of_ble_eq_true rfl, Nat.le_of_ble_eq_true rfl⟩ ([]) ([]) rfl 0 rfl rfl rfl (Nat.le_of_ble_eq_true rfl) dX7_test_2 (fun r W1 hp => ?_)
  obtain ⟨rfl, rfl⟩ := hp
  refine zk_ws (ws2 := MW g.2.1 a u pa im tx rw rb rk rt he tr be sp pm fl ln rm rd bn fk fp rs wk wp bm) rfl ?_
  by_cases hi : nI 0 ≤ v ∧ v ≤ nI (u 4 - 1)
  · refine zk_top (y := nI 1) (if_pos hi) ?_
    obtain ⟨t, t0, t1, rfl⟩ := rngN (by omega) hi
    refine zk_if_neN hc 10 dX7_test_5 (by decide) (by omega) (fun h_1 => ?_) (fun h_1 => ?_)
    · refine zk_aload_n hc dX7_test_10 0 rfl ?_
      refine zk_iload_n hc dX7_test_11 1 rfl ?_
      refine zk_iconst hc (nI 0) dX7_test_12 rfl ?_
      refine zk_callVi hc (rest := []) (ct_X7_of g l a u pa im tx rw rb rk rt he tr be sp pm fl ln rm rd bn fk fp rs wk wp bm t 0 (by omega)) gg_X7_63 cd_X7_of ⟨Nat.le_of_ble_eq_true rfl, Nat.le_of_ble_eq_true rfl⟩ ⟨Nat.le_of_ble_eq_true rfl, Nat.le_of_ble_eq_true rfl⟩ ([]) ([]) rfl 0 rfl rfl rfl (Nat.le_of_ble_eq_true rfl) dX7_test_13 (fun r W1 hp => ?_)
      obtain ⟨rfl, rfl⟩ := hp
      refine zk_ws (ws2 := MW g.2.1 a u pa im tx rw rb rk rt he tr be sp pm fl ln rm rd bn fk fp rs wk wp bm) rfl ?_
      refine zk_top (y := nI (mny u t)) rfl ?_
      refine zk_if_neN hc 22 dX7_test_16 (by decide) (by have := hm t (by omega); omega) (fun h0 => ?_) (fun h0 => ?_)
      · refine zk_aload_n hc dX7_test_22 0 rfl ?_
        refine zk_callVv hc (rest := []) (ct_X7_remember g l a u pa im tx rw rb rk rt he tr be sp pm fl ln rm rd bn fk fp rs wk wp bm hpm) gg_X7_107 cd_X7_remember ⟨Nat.le_of_ble_eq_true rfl, Nat.le_of_ble_eq_true rfl⟩ ⟨Nat.le_of_ble_eq_true rfl, Nat.le_of_ble_eq_true rfl⟩ ([]) ([]) rfl 0 rfl rfl rfl (Nat.le_of_ble_eq_true rfl) dX7_test_23 (fun W1 hp => ?_)
        obtain rfl := hp
        refine zk_ws (ws2 := MW g.2.1 a u (remP u pa pm) im tx rw rb rk rt he tr be sp (remN pm) fl ln rm rd bn fk fp rs wk wp bm) rfl ?_
        refine zk_aload_n hc dX7_test_26 0 rfl ?_
        refine zk_get hc inlX7 (ci := 7) rfl 0 0 (by decide) mw_4_11 rfl rfl rfl dX7_test_27 ?_
        refine zk_iconst hc (nI 3) dX7_test_30 rfl ?_
        refine zk_ialdN hc 1 rfl (by omega) (by decide) dX7_test_31 ?_
        refine zk_iconst hc (nI 2) dX7_test_32 rfl ?_
        refine zk_aload_n hc dX7_test_33 0 rfl ?_
        refine zk_iload_n hc dX7_test_34 1 rfl ?_
        refine zk_iconst hc (nI 0) dX7_test_35 rfl ?_
        refine zk_callVi hc (rest := [.int (nI 2), .int (nI (u 3))]) (ct_X7_of g l a u (remP u pa pm) im tx rw rb rk rt he tr be sp (remN pm) fl ln rm rd bn fk fp rs wk wp bm t 0 (by omega)) gg_X7_63 cd_X7_of ⟨Nat.le_of_ble_eq_true rfl, Nat.le_of_ble_eq_true rfl⟩ ⟨Nat.le_of_ble_eq_true rfl, Nat.le_of_ble_eq_true rfl⟩ ([]) ([]) rfl 0 rfl rfl rfl (Nat.le_of_ble_eq_true rfl) dX7_test_36 (fun r W1 hp => ?_)
        obtain ⟨rfl, rfl⟩ := hp
        refine zk_ws (ws2 := MW g.2.1 a u (remP u pa pm) im tx rw rb rk rt he tr be sp (remN pm) fl ln rm rd bn fk fp rs wk wp bm) rfl ?_
        refine zk_top (y := nI (mny u t)) rfl ?_
        refine zk_imulN hc dX7_test_39 ?_
        refine zk_iaddN hc dX7_test_40 ?_
        refine zk_istore_n hc (lv2 := [(2, .int (nI ((u 3) + (2 * (mny u t))))), (0, .ref (a 0)), (1, .int (nI t))]) dX7_test_41 (by decide) rfl ?_
        refine zk_aload_n hc dX7_test_42 1 rfl ?_
        refine zk_get hc inlX7 (ci := 7) rfl 0 0 (by decide) mw_4_11 rfl rfl rfl dX7_test_43 ?_
        refine zk_bipush hc (nI 6) dX7_test_46 rfl ?_
        refine zk_dup2 hc dX7_test_48 rfl rfl ?_
        refine zk_ialdN hc 1 rfl (by omega) (by decide) dX7_test_49 ?_
        refine zk_iload_n hc dX7_test_50 0 rfl ?_
        refine zk_iaddN hc dX7_test_51 ?_
        refine zk_iastN hc 1 rfl (by omega) (by decide) (ws2 := MW g.2.1 a (va_up u 6 ((u 6) + ((u 3) + (2 * (mny u t))))) (remP u pa pm) im tx rw rb rk rt he tr be sp (remN pm) fl ln rm rd bn fk fp rs wk wp bm) rfl dX7_test_52 ?_
        refine zk_aload_n hc dX7_test_53 1 rfl ?_
        refine zk_iload_n hc dX7_test_54 2 rfl ?_
        refine zk_iconst hc (nI 1) dX7_test_55 rfl ?_
        refine zk_iconst hc (nI 1) dX7_test_56 rfl ?_
        refine zk_callVv hc (rest := []) (ct_X7_put g l a (va_up u 6 ((u 6) + ((u 3) + (2 * (mny u t))))) (remP u pa pm) im tx rw rb rk rt he tr be sp (remN pm) fl ln rm rd bn fk fp rs wk wp bm t 1 1 (by omega)) gg_X7_93 cd_X7_put ⟨Nat.le_of_ble_eq_true rfl, Nat.le_of_ble_eq_true rfl⟩ ⟨Nat.le_of_ble_eq_true rfl, Nat.le_of_ble_eq_true rfl⟩ ([]) ([]) rfl 0 rfl rfl rfl (Nat.le_of_ble_eq_true rfl) dX7_test_57 (fun W1 hp => ?_)
        obtain rfl := hp
        refine zk_ws (ws2 := MW g.2.1 a (va_up (va_up u 6 ((u 6) + ((u 3) + (2 * (mny u t))))) (23 + 27 * t + 1) 1) (remP u pa pm) im tx rw rb rk rt he tr be sp (remN pm) fl ln rm rd bn fk fp rs wk wp bm) rfl ?_
        refine zk_aload_n hc dX7_test_60 1 rfl ?_
        refine zk_iload_n hc dX7_test_61 2 rfl ?_
        refine zk_iconst hc (nI 2) dX7_test_62 rfl ?_
        refine zk_aload_n hc dX7_test_63 1 rfl ?_
        refine zk_get hc inlX7 (ci := 7) rfl 0 0 (by decide) mw_4_11 rfl rfl rfl dX7_test_64 ?_
        refine zk_bipush hc (nI 6) dX7_test_67 rfl ?_
        refine zk_ialdN hc 1 rfl (by omega) (by decide) dX7_test_69 ?_
        refine zk_top (y := nI (u 6 + (u 3 + 2 * mny u t))) (congrArg nI (by simp [va_up]; omega)) ?_
        refine zk_callVv hc (rest := []) (ct_X7_put g l a (va_up (va_up u 6 ((u 6) + ((u 3) + (2 * (mny u t))))) (23 + 27 * t + 1) 1) (remP u pa pm) im tx rw rb rk rt he tr be sp (remN pm) fl ln rm rd bn fk fp rs wk wp bm t 2 (u 6 + (u 3 + 2 * mny u t)) (by omega)) gg_X7_93 cd_X7_put ⟨Nat.le_of_ble_eq_true rfl, Nat.le_of_ble_eq_true rfl⟩ ⟨Nat.le_of_ble_eq_true rfl, Nat.le_of_ble_eq_true rfl⟩ ([]) ([]) rfl 0 rfl rfl rfl (Nat.le_of_ble_eq_true rfl) dX7_test_70 (fun W1 hp => ?_)
        obtain rfl := hp
        refine zk_ws (ws2 := MW g.2.1 a (va_up (va_up (va_up u 6 ((u 6) + ((u 3) + (2 * (mny u t))))) (23 + 27 * t + 1) 1) (23 + 27 * t + 2) (u 6 + (u 3 + 2 * mny u t))) (remP u pa pm) im tx rw rb rk rt he tr be sp (remN pm) fl ln rm rd bn fk fp rs wk wp bm) rfl ?_
        refine zk_iload_n hc dX7_test_73 0 rfl ?_
        refine fin 0 0 _ _ _ _ (by decide) (by decide) dX7_test_74 (?_)
        exact ⟨by unfold aTes; rw [if_pos hi, tOf_nI (by omega), if_neg h0], (rw, rb, rk, rt, he, tr, be, sp, rm, rd, bn, wk, wp, bm), by unfold nTes; rw [tOf_nI (by omega), if_pos ⟨hi, h0⟩]; rfl⟩
      · refine zk_bipush hc ((-2)) dX7_test_19 rfl ?_
        refine fin 0 0 _ _ _ _ (by decide) (by decide) dX7_test_21 (?_)
        exact ⟨by unfold aTes; rw [if_pos hi, tOf_nI (by omega), if_pos h0], (rw, rb, rk, rt, he, tr, be, sp, rm, rd, bn, wk, wp, bm), by unfold nTes; rw [tOf_nI (by omega), if_neg (fun z => z.2 h0)]; rfl⟩
    · exact absurd h_1 (by decide)
  · refine zk_top (y := nI 0) (if_neg hi) ?_
    refine zk_if_neN hc 10 dX7_test_5 (by decide) (by omega) (fun h_2 => ?_) (fun h_2 => ?_)
    · exact absurd h_2 (by decide)
    · refine zk_iconst hc ((-1)) dX7_test_8 rfl ?_
      refine fin 0 0 _ _ _ _ (by decide) (by decide) dX7_test_9 (?_)
      exact ⟨by unfold aTes; rw [if_neg hi], (rw, rb, rk, rt, he, tr, be, sp, rm, rd, bn, wk, wp, bm), by unfold nTes; rw [if_neg (fun z => hi z.1)]; rfl⟩
