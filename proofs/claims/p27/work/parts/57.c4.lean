set_option maxHeartbeats 4000000 in
set_option maxRecDepth 100000 in
theorem ct_X3_countWanted (g : GG) (l : Launch) (a : Nat → Nat) (xb xr : Nat) (wa wi wo : Nat → Nat) (hb : Nat) (ay : Nat → Nat) (u st ds le wg : Nat → Nat) (te : Nat → Int32) (ck mv mm tg gn wc g1 g2 g3 : Nat) (hY : YA u st ds le wg) (hG : GU u) (hN : GN u) (hl1 : u 12 ≠ 0) (t : Nat) (ht : t < u 4) : CtV g l yX3_countWanted cX3_countWanted 6 (rmK 4 0 0) (SEW g.2.1 a xb (ay 0) xr wa wi wo hb ++ (YW g.2.1 ay st ds le wg te (u 4) (u 5) ck mv mm tg gn wc (u 12) g1 g2 g3)) [.ref (a 0), .int (nI t)] (fun W1 => W1 = SEW g.2.1 a xb (ay 0) xr (va_up wa t (cwt (isW u t) (mny u t)).1) (va_up wi t (cwt (isW u t) (mny u t)).2.1) (va_up wo t (cwt (isW u t) (mny u t)).2.2) hb ++ (YW g.2.1 ay st ds le wg te (u 4) (u 5) ck mv mm tg gn wc (u 12) g1 g2 g3)) := by
  refine CtV.go RX3 rfl (by decide +kernel) (Nat.le_of_ble_eq_true rfl) ?_
  intro p e s m args below meth c A H0 Q hc hnm fin
  obtain ⟨hK4, hC8, hv2, hg3, hm, hdk, h13, h12⟩ := id hG
  have hmt := hm t (by omega)
  show KW g p l e (rmK 4 0 0) s m args below meth c 6 A H0 0 0 Q (SEW g.2.1 a xb (ay 0) xr wa wi wo hb ++ (YW g.2.1 ay st ds le wg te (u 4) (u 5) ck mv mm tg gn wc (u 12) g1 g2 g3)) [(0, .ref (a 0)), (1, .int (nI t))] 0 []
  refine zk_iconst hc (nI 0) dX3_countWanted_0 rfl ?_
  refine zk_istore_n hc (lv2 := [(2, .int (nI 0)), (0, .ref (a 0)), (1, .int (nI t))]) dX3_countWanted_1 (by decide) rfl ?_
  refine zk_iconst hc (nI 0) dX3_countWanted_2 rfl ?_
  refine zk_istore_n hc (lv2 := [(3, .int (nI 0)), (2, .int (nI 0)), (0, .ref (a 0)), (1, .int (nI t))]) dX3_countWanted_3 (by decide) rfl ?_
  refine zk_iconst hc (nI 0) dX3_countWanted_4 rfl ?_
  refine zk_istore hc (lv2 := [(4, .int (nI 0)), (3, .int (nI 0)), (2, .int (nI 0)), (0, .ref (a 0)), (1, .int (nI t))]) dX3_countWanted_5 (by decide) rfl ?_
  refine zk_iconst hc (nI 0) dX3_countWanted_7 rfl ?_
  refine zk_istore hc (lv2 := [(5, .int (nI 0)), (4, .int (nI 0)), (3, .int (nI 0)), (2, .int (nI 0)), (0, .ref (a 0)), (1, .int (nI t))]) dX3_countWanted_8 (by decide) rfl ?_
  have loop10 : ∀ (N : Nat) (k : Nat) (x : Nat) (v : Nat) (z : Nat), mny u t - k < N → (k ≤ mny u t) → (x = (cwt (isW u t) k).1) → (v = (cwt (isW u t) k).2.1) → (z = (cwt (isW u t) k).2.2) → (v ≤ k) → KW g p l e (rmK 4 0 0) s m args below meth c 6 A H0 0 0 Q (SEW g.2.1 a xb (ay 0) xr wa wi wo hb ++ (YW g.2.1 ay st ds le wg te (u 4) (u 5) ck mv mm tg gn wc (u 12) g1 g2 g3)) [(0, .ref (a 0)), (1, .int (nI t)), (2, .int (nI x)), (3, .int (nI v)), (4, .int (nI z)), (5, .int (nI k))] 10 [] := by
    intro N
    induction N with
    | zero => intro k x v z hm; exact absurd hm (Nat.not_lt_zero _)
    | succ N ih10 =>
      intro k x v z hm10 hk hx hy hz hb8
      refine zk_iload hc dX3_countWanted_10 5 rfl ?_
      refine zk_aload_n hc dX3_countWanted_12 0 rfl ?_
      refine zk_get hc inlX3 (ci := 3) rfl 0 2 (by decide) mw_3_17 rfl rfl rfl dX3_countWanted_13 ?_
      refine zk_get hc inlX5 (ci := 5) rfl 4 11 (by decide) mw_15_1 rfl rfl rfl dX3_countWanted_16 ?_
      refine zk_iload_n hc dX3_countWanted_19 1 rfl ?_
      refine zk_ialdN hc 7 rfl (by omega) (by decide) dX3_countWanted_20 ?_
      refine zk_top (y := nI (mny u t)) (yle hY (by omega)) ?_
      refine zk_icmp_geN hc 64 dX3_countWanted_21 (by decide) (by omega) (by omega) (fun h_1 => ?_) (fun h_1 => ?_)
      · refine zk_aload_n hc dX3_countWanted_64 0 rfl ?_
        refine zk_get hc inlX3 (ci := 3) rfl 0 4 (by decide) mw_3_19 rfl rfl rfl dX3_countWanted_65 ?_
        refine zk_iload_n hc dX3_countWanted_68 1 rfl ?_
        refine zk_iload_n hc dX3_countWanted_69 2 rfl ?_
        refine zk_iastN hc 1 rfl (by omega) (by decide) (ws2 := SEW g.2.1 a xb (ay 0) xr (va_up wa t x) wi wo hb ++ (YW g.2.1 ay st ds le wg te (u 4) (u 5) ck mv mm tg gn wc (u 12) g1 g2 g3)) rfl dX3_countWanted_70 ?_
        refine zk_aload_n hc dX3_countWanted_71 0 rfl ?_
        refine zk_get hc inlX3 (ci := 3) rfl 0 5 (by decide) mw_3_20 rfl rfl rfl dX3_countWanted_72 ?_
        refine zk_iload_n hc dX3_countWanted_75 1 rfl ?_
        refine zk_iload_n hc dX3_countWanted_76 3 rfl ?_
        refine zk_iastN hc 2 rfl (by omega) (by decide) (ws2 := SEW g.2.1 a xb (ay 0) xr (va_up wa t x) (va_up wi t v) wo hb ++ (YW g.2.1 ay st ds le wg te (u 4) (u 5) ck mv mm tg gn wc (u 12) g1 g2 g3)) rfl dX3_countWanted_77 ?_
        refine zk_aload_n hc dX3_countWanted_78 0 rfl ?_
        refine zk_get hc inlX3 (ci := 3) rfl 0 6 (by decide) mw_3_21 rfl rfl rfl dX3_countWanted_79 ?_
        refine zk_iload_n hc dX3_countWanted_82 1 rfl ?_
        refine zk_iload hc dX3_countWanted_83 4 rfl ?_
        refine zk_iastN hc 3 rfl (by omega) (by decide) (ws2 := SEW g.2.1 a xb (ay 0) xr (va_up wa t x) (va_up wi t v) (va_up wo t z) hb ++ (YW g.2.1 ay st ds le wg te (u 4) (u 5) ck mv mm tg gn wc (u 12) g1 g2 g3)) rfl dX3_countWanted_85 ?_
        refine fin 0 0 _ _ _ (by decide) (by decide) dX3_countWanted_86 (?_)
        have ek : k = mny u t := by omega
        rw [hx, hy, hz, ek]
      · refine zk_aload_n hc dX3_countWanted_24 0 rfl ?_
        refine zk_get hc inlX3 (ci := 3) rfl 0 2 (by decide) mw_3_17 rfl rfl rfl dX3_countWanted_25 ?_
        refine zk_iload_n hc dX3_countWanted_28 1 rfl ?_
        refine zk_iload hc dX3_countWanted_29 5 rfl ?_
        refine zk_callVi hc (rest := []) (ct_X5_isForFirst g l ay u st ds le wg te ck mv mm tg gn wc g1 g2 g3 hY hG hN hl1 t k (by omega) (by omega)) gg_X3_128 cd_X5_isForFirst ⟨Nat.le_of_ble_eq_true rfl, Nat.le_of_ble_eq_true rfl⟩ ⟨Nat.le_of_ble_eq_true rfl, Nat.le_of_ble_eq_true rfl⟩ (SEW g.2.1 a xb (ay 0) xr wa wi wo hb) ([]) rfl 4 rfl rfl rfl (Nat.le_of_ble_eq_true rfl) dX3_countWanted_31 (fun r W1 hp => ?_)
        obtain ⟨rfl, rfl⟩ := hp
        refine zk_ws (ws2 := SEW g.2.1 a xb (ay 0) xr wa wi wo hb ++ (YW g.2.1 ay st ds le wg te (u 4) (u 5) ck mv mm tg gn wc (u 12) g1 g2 g3)) rfl ?_
        by_cases hd : dst u t k = u 13
        · refine zk_top (y := nI 1) (if_pos hd) ?_
          have hd2 := cwt_t (p := isW u t) (k := k) (decide_eq_true hd) hx hy hz
          refine zk_if_eqN hc 55 dX3_countWanted_34 (by decide) (by omega) (fun h_2 => ?_) (fun h_2 => ?_)
          · exact absurd h_2 (by decide)
          · refine zk_iinc hc (v := nI (x + 1)) (lv2 := [(2, .int (nI (x + 1))), (0, .ref (a 0)), (1, .int (nI t)), (3, .int (nI v)), (4, .int (nI z)), (5, .int (nI k))]) dX3_countWanted_37 2 rfl (nq_inc rfl) (by decide) rfl ?_
            refine zk_iinc hc (v := nI (z + 1)) (lv2 := [(4, .int (nI (z + 1))), (2, .int (nI (x + 1))), (0, .ref (a 0)), (1, .int (nI t)), (3, .int (nI v)), (5, .int (nI k))]) dX3_countWanted_40 4 rfl (nq_inc rfl) (by decide) rfl ?_
            refine zk_iload_n hc dX3_countWanted_43 4 rfl ?_
            refine zk_iload hc dX3_countWanted_44 5 rfl ?_
            refine zk_icmp_neN hc 58 dX3_countWanted_46 (by decide) (by omega) (by omega) (fun he => ?_) (fun he => ?_)
            · refine zk_iinc hc (v := nI (k + 1)) (lv2 := [(5, .int (nI (k + 1))), (4, .int (nI (z + 1))), (2, .int (nI (x + 1))), (0, .ref (a 0)), (1, .int (nI t)), (3, .int (nI v))]) dX3_countWanted_58 5 rfl (nq_inc rfl) (by decide) rfl ?_
              refine zk_goto hc 10 dX3_countWanted_61 (by decide) ?_
              refine zk_lv [3, 4, 2, 5, 1, 0] (lv2 := [(0, .ref (a 0)), (1, .int (nI t)), (2, .int (nI (x + 1))), (3, .int (nI v)), (4, .int (nI (z + 1))), (5, .int (nI (k + 1)))]) rfl ?_
              exact ih10 (k + 1) (x + 1) v (z + 1) (by omega) (by omega) hd2.1 (hd2.2.2.1 he) hd2.2.2.2 (by omega)
            · refine zk_iinc hc (v := nI (v + 1)) (lv2 := [(3, .int (nI (v + 1))), (4, .int (nI (z + 1))), (2, .int (nI (x + 1))), (0, .ref (a 0)), (1, .int (nI t)), (5, .int (nI k))]) dX3_countWanted_49 4 rfl (nq_inc rfl) (by decide) rfl ?_
              refine zk_goto hc 58 dX3_countWanted_52 (by decide) ?_
              refine zk_iinc hc (v := nI (k + 1)) (lv2 := [(5, .int (nI (k + 1))), (3, .int (nI (v + 1))), (4, .int (nI (z + 1))), (2, .int (nI (x + 1))), (0, .ref (a 0)), (1, .int (nI t))]) dX3_countWanted_58 5 rfl (nq_inc rfl) (by decide) rfl ?_
              refine zk_goto hc 10 dX3_countWanted_61 (by decide) ?_
              refine zk_lv [4, 5, 3, 1, 2, 0] (lv2 := [(0, .ref (a 0)), (1, .int (nI t)), (2, .int (nI (x + 1))), (3, .int (nI (v + 1))), (4, .int (nI (z + 1))), (5, .int (nI (k + 1)))]) rfl ?_
              exact ih10 (k + 1) (x + 1) (v + 1) (z + 1) (by omega) (by omega) hd2.1 (hd2.2.1 he) hd2.2.2.2 (by omega)
        · refine zk_top (y := nI 0) (if_neg hd) ?_
          have hd2 := cwt_f (p := isW u t) (k := k) (fun w => hd (of_decide_eq_true w)) hx hy
          refine zk_if_eqN hc 55 dX3_countWanted_34 (by decide) (by omega) (fun h_3 => ?_) (fun h_3 => ?_)
          · refine zk_iconst hc (nI 0) dX3_countWanted_55 rfl ?_
            refine zk_istore hc (lv2 := [(4, .int (nI 0)), (0, .ref (a 0)), (1, .int (nI t)), (2, .int (nI x)), (3, .int (nI v)), (5, .int (nI k))]) dX3_countWanted_56 (by decide) rfl ?_
            refine zk_iinc hc (v := nI (k + 1)) (lv2 := [(5, .int (nI (k + 1))), (4, .int (nI 0)), (0, .ref (a 0)), (1, .int (nI t)), (2, .int (nI x)), (3, .int (nI v))]) dX3_countWanted_58 5 rfl (nq_inc rfl) (by decide) rfl ?_
            refine zk_goto hc 10 dX3_countWanted_61 (by decide) ?_
            refine zk_lv [2, 3, 4, 5, 1, 0] (lv2 := [(0, .ref (a 0)), (1, .int (nI t)), (2, .int (nI x)), (3, .int (nI v)), (4, .int (nI 0)), (5, .int (nI (k + 1)))]) rfl ?_
            exact ih10 (k + 1) x v 0 (by omega) (by omega) hd2.1 hd2.2.1 hd2.2.2 (by omega)
          · exact absurd h_3 (by decide)
  refine zk_lv [4, 5, 3, 2, 1, 0] (lv2 := [(0, .ref (a 0)), (1, .int (nI t)), (2, .int (nI 0)), (3, .int (nI 0)), (4, .int (nI 0)), (5, .int (nI 0))]) rfl ?_
  exact loop10 ((mny u t - 0) + 1) 0 0 0 0 (Nat.lt_succ_self _) (Nat.zero_le _) rfl rfl rfl (Nat.le_refl 0)

set_option maxHeartbeats 4000000 in
set_option maxRecDepth 100000 in
theorem ct_X3_movesNeededFor (g : GG) (l : Launch) (a : Nat → Nat) (xb xr : Nat) (wa wi wo : Nat → Nat) (hb : Nat) (ay : Nat → Nat) (u st ds le wg : Nat → Nat) (te : Nat → Int32) (ck mv mm tg gn wc g1 g2 g3 : Nat) (hY : YA u st ds le wg) (hG : GU u) (hN : GN u) (hl1 : u 12 ≠ 0) (hWW : WA u wa wi wo (u 4)) (t : Nat) (ht : t < u 4) : CtI g l yX3_movesNeededFor cX3_movesNeededFor 5 (some .int) (rmK 1 0 0) (SEW g.2.1 a xb (ay 0) xr wa wi wo hb ++ (YW g.2.1 ay st ds le wg te (u 4) (u 5) ck mv mm tg gn wc (u 12) g1 g2 g3)) [.ref (a 0), .int (nI t)] (fun r W1 => r = nI (nd (isW u) (mny u) (u 4) t) ∧ W1 = SEW g.2.1 a xb (ay 0) xr wa wi wo hb ++ (YW g.2.1 ay st ds le wg te (u 4) (u 5) ck mv mm tg gn wc (u 12) g1 g2 g3)) := by
  refine CtI.go RX3 rfl (by decide +kernel) (Nat.le_of_ble_eq_true rfl) ?_
  intro p e s m args below meth c A H0 Q hc hnm fin
  obtain ⟨hK4, hC8, hv2, hg3, hm, hdk, h13, h12⟩ := id hG
  have hcb : ∀ z, z < u 4 → (cwt (isW u z) (mny u z)).1 ≤ 8 ∧ (cwt (isW u z) (mny u z)).2.1 ≤ 8 ∧ (cwt (isW u z) (mny u z)).2.2 ≤ 8 := fun z hz => cwt_b _ (hm z (by omega))
  show KW g p l e (rmK 1 0 0) s m args below meth c 5 A H0 0 0 Q (SEW g.2.1 a xb (ay 0) xr wa wi wo hb ++ (YW g.2.1 ay st ds le wg te (u 4) (u 5) ck mv mm tg gn wc (u 12) g1 g2 g3)) [(0, .ref (a 0)), (1, .int (nI t))] 0 []
  refine zk_aload_n hc dX3_movesNeededFor_0 0 rfl ?_
  refine zk_get hc inlX3 (ci := 3) rfl 0 5 (by decide) mw_3_20 rfl rfl rfl dX3_movesNeededFor_1 ?_
  refine zk_iload_n hc dX3_movesNeededFor_4 1 rfl ?_
  refine zk_ialdN hc 2 rfl (by omega) (by decide) dX3_movesNeededFor_5 ?_
  refine zk_top (y := nI ((cwt (isW u t) (mny u t)).2.1)) (congrArg nI (hWW t (by omega)).2.1) ?_
  refine zk_aload_n hc dX3_movesNeededFor_6 0 rfl ?_
  refine zk_get hc inlX3 (ci := 3) rfl 0 2 (by decide) mw_3_17 rfl rfl rfl dX3_movesNeededFor_7 ?_
  refine zk_get hc inlX5 (ci := 5) rfl 4 11 (by decide) mw_15_1 rfl rfl rfl dX3_movesNeededFor_10 ?_
  refine zk_iload_n hc dX3_movesNeededFor_13 1 rfl ?_
  refine zk_ialdN hc 7 rfl (by omega) (by decide) dX3_movesNeededFor_14 ?_
  refine zk_top (y := nI (mny u t)) (yle hY (by omega)) ?_
  refine zk_icmp_geN hc 22 dX3_movesNeededFor_15 (by decide) (by have := hcb t (by omega); have := hm t (by omega); omega) (by have := hcb t (by omega); have := hm t (by omega); omega) (fun h15 => ?_) (fun h15 => ?_)
  · refine zk_iconst hc (nI 0) dX3_movesNeededFor_22 rfl ?_
    refine zk_istore_n hc (lv2 := [(2, .int (nI 0)), (0, .ref (a 0)), (1, .int (nI t))]) dX3_movesNeededFor_23 (by decide) rfl ?_
    refine zk_aload_n hc dX3_movesNeededFor_24 1 rfl ?_
    refine zk_get hc inlX3 (ci := 3) rfl 0 5 (by decide) mw_3_20 rfl rfl rfl dX3_movesNeededFor_25 ?_
    refine zk_iload_n hc dX3_movesNeededFor_28 2 rfl ?_
    refine zk_ialdN hc 2 rfl (by omega) (by decide) dX3_movesNeededFor_29 ?_
    refine zk_top (y := nI ((cwt (isW u t) (mny u t)).2.1)) (congrArg nI (hWW t (by omega)).2.1) ?_
    refine zk_aload_n hc dX3_movesNeededFor_30 1 rfl ?_
    refine zk_get hc inlX3 (ci := 3) rfl 0 4 (by decide) mw_3_19 rfl rfl rfl dX3_movesNeededFor_31 ?_
    refine zk_iload_n hc dX3_movesNeededFor_34 2 rfl ?_
    refine zk_ialdN hc 1 rfl (by omega) (by decide) dX3_movesNeededFor_35 ?_
    refine zk_top (y := nI ((cwt (isW u t) (mny u t)).1)) (congrArg nI (hWW t (by omega)).1) ?_
    refine zk_icmp_geN hc 43 dX3_movesNeededFor_36 (by decide) (by have := hcb t (by omega); have := hm t (by omega); omega) (by have := hcb t (by omega); have := hm t (by omega); omega) (fun h36 => ?_) (fun h36 => ?_)
    · refine zk_iconst hc (nI 0) dX3_movesNeededFor_43 rfl ?_
      refine zk_istore_n hc (lv2 := [(3, .int (nI 0)), (2, .int (nI 0)), (0, .ref (a 0)), (1, .int (nI t))]) dX3_movesNeededFor_44 (by decide) rfl ?_
      refine zk_iconst hc (nI 0) dX3_movesNeededFor_45 rfl ?_
      refine zk_istore hc (lv2 := [(4, .int (nI 0)), (3, .int (nI 0)), (2, .int (nI 0)), (0, .ref (a 0)), (1, .int (nI t))]) dX3_movesNeededFor_46 (by decide) rfl ?_
      have loop48 : ∀ (N : Nat) (z : Nat) (x : Nat) (v : Nat), u 4 - z < N → (z ≤ u 4) → (x = (mnS (isW u) (mny u) t z).1) → (v = if (mnS (isW u) (mny u) t z).2 = true then 1 else 0) → (x ≤ z + 1) → (v ≤ 1) → KW g p l e (rmK 1 0 0) s m args below meth c 5 A H0 0 0 Q (SEW g.2.1 a xb (ay 0) xr wa wi wo hb ++ (YW g.2.1 ay st ds le wg te (u 4) (u 5) ck mv mm tg gn wc (u 12) g1 g2 g3)) [(0, .ref (a 0)), (1, .int (nI t)), (2, .int (nI x)), (3, .int (nI v)), (4, .int (nI z))] 48 [] := by
        intro N
        induction N with
        | zero => intro z x v hm; exact absurd hm (Nat.not_lt_zero _)
        | succ N ih48 =>
          intro z x v hm48 hz hx hy hx1 hy1
          refine zk_iload hc dX3_movesNeededFor_48 4 rfl ?_
          refine zk_aload_n hc dX3_movesNeededFor_50 0 rfl ?_
          refine zk_get hc inlX3 (ci := 3) rfl 0 2 (by decide) mw_3_17 rfl rfl rfl dX3_movesNeededFor_51 ?_
          refine zk_get hc inlX5 (ci := 5) rfl 4 0 (by decide) mw_15_0 rfl rfl rfl dX3_movesNeededFor_54 ?_
          refine zk_icmp_geN hc 112 dX3_movesNeededFor_57 (by decide) (by omega) (by omega) (fun h_1 => ?_) (fun h_1 => ?_)
          · refine zk_iload_n hc dX3_movesNeededFor_112 3 rfl ?_
            refine zk_if_eqN hc 122 dX3_movesNeededFor_113 (by decide) (by omega) (fun h113 => ?_) (fun h113 => ?_)
            · refine zk_iload_n hc dX3_movesNeededFor_122 2 rfl ?_
              refine fin 0 0 _ _ _ _ (by decide) (by decide) dX3_movesNeededFor_123 (?_)
              exact ⟨congrArg nI ((nd_t hx hy (show z = u 4 by omega)).1 h113), rfl⟩
            · refine zk_iload_n hc dX3_movesNeededFor_116 2 rfl ?_
              refine zk_iconst hc (nI 1) dX3_movesNeededFor_117 rfl ?_
              refine zk_iaddN hc dX3_movesNeededFor_118 ?_
              refine zk_goto hc 123 dX3_movesNeededFor_119 (by decide) ?_
              refine fin 0 0 _ _ _ _ (by decide) (by decide) dX3_movesNeededFor_123 (?_)
              exact ⟨congrArg nI ((nd_t hx hy (show z = u 4 by omega)).2 h113), rfl⟩
          · refine zk_iload hc dX3_movesNeededFor_60 4 rfl ?_
            refine zk_iload_n hc dX3_movesNeededFor_62 1 rfl ?_
            refine zk_icmp_eqN hc 106 dX3_movesNeededFor_63 (by decide) (by omega) (by omega) (fun h_2 => ?_) (fun h_2 => ?_)
            · refine zk_iinc hc (v := nI (z + 1)) (lv2 := [(4, .int (nI (z + 1))), (0, .ref (a 0)), (1, .int (nI t)), (2, .int (nI x)), (3, .int (nI v))]) dX3_movesNeededFor_106 4 rfl (nq_inc rfl) (by decide) rfl ?_
              refine zk_goto hc 48 dX3_movesNeededFor_109 (by decide) ?_
              refine zk_lv [1, 2, 3, 4, 0] (lv2 := [(0, .ref (a 0)), (1, .int (nI t)), (2, .int (nI x)), (3, .int (nI v)), (4, .int (nI (z + 1)))]) rfl ?_
              exact ih48 (z + 1) x v (by omega) (by omega) (mn_skip (by omega) hx hy).1 (mn_skip (by omega) hx hy).2 (by omega) (by omega)
            · refine zk_aload_n hc dX3_movesNeededFor_66 0 rfl ?_
              refine zk_get hc inlX3 (ci := 3) rfl 0 4 (by decide) mw_3_19 rfl rfl rfl dX3_movesNeededFor_67 ?_
              refine zk_iload hc dX3_movesNeededFor_70 4 rfl ?_
              refine zk_ialdN hc 1 rfl (by omega) (by decide) dX3_movesNeededFor_72 ?_
              refine zk_top (y := nI ((cwt (isW u z) (mny u z)).1)) (congrArg nI (hWW z (by omega)).1) ?_
              refine zk_if_leN hc 106 dX3_movesNeededFor_73 (by decide) (by have := hcb z (by omega); have := hm z (by omega); omega) (fun h_3 => ?_) (fun h_3 => ?_)
              · refine zk_iinc hc (v := nI (z + 1)) (lv2 := [(4, .int (nI (z + 1))), (0, .ref (a 0)), (1, .int (nI t)), (2, .int (nI x)), (3, .int (nI v))]) dX3_movesNeededFor_106 4 rfl (nq_inc rfl) (by decide) rfl ?_
                refine zk_goto hc 48 dX3_movesNeededFor_109 (by decide) ?_
                refine zk_lv [1, 2, 3, 4, 0] (lv2 := [(0, .ref (a 0)), (1, .int (nI t)), (2, .int (nI x)), (3, .int (nI v)), (4, .int (nI (z + 1)))]) rfl ?_
                exact ih48 (z + 1) x v (by omega) (by omega) (mn_skip (by omega) hx hy).1 (mn_skip (by omega) hx hy).2 (by omega) (by omega)
              · refine zk_iinc hc (v := nI (x + 1)) (lv2 := [(2, .int (nI (x + 1))), (0, .ref (a 0)), (1, .int (nI t)), (3, .int (nI v)), (4, .int (nI z))]) dX3_movesNeededFor_76 2 rfl (nq_inc rfl) (by decide) rfl ?_
                refine zk_iload_n hc dX3_movesNeededFor_79 3 rfl ?_
                refine zk_if_neN hc 100 dX3_movesNeededFor_80 (by decide) (by omega) (fun h_4 => ?_) (fun h_4 => ?_)
                · refine zk_iconst hc (nI 1) dX3_movesNeededFor_100 rfl ?_
                  refine zk_goto hc 105 dX3_movesNeededFor_101 (by decide) ?_
                  refine zk_istore_n hc (lv2 := [(3, .int (nI 1)), (2, .int (nI (x + 1))), (0, .ref (a 0)), (1, .int (nI t)), (4, .int (nI z))]) dX3_movesNeededFor_105 (by decide) rfl ?_
                  refine zk_iinc hc (v := nI (z + 1)) (lv2 := [(4, .int (nI (z + 1))), (3, .int (nI 1)), (2, .int (nI (x + 1))), (0, .ref (a 0)), (1, .int (nI t))]) dX3_movesNeededFor_106 4 rfl (nq_inc rfl) (by decide) rfl ?_
                  refine zk_goto hc 48 dX3_movesNeededFor_109 (by decide) ?_
                  refine zk_lv [3, 4, 2, 1, 0] (lv2 := [(0, .ref (a 0)), (1, .int (nI t)), (2, .int (nI (x + 1))), (3, .int (nI 1)), (4, .int (nI (z + 1)))]) rfl ?_
                  exact ih48 (z + 1) (x + 1) 1 (by omega) (by omega) (mn_up (p := isW u) (L := mny u) (by omega) hx hy (if_pos (by omega)).symm).1 (mn_up (p := isW u) (L := mny u) (by omega) hx hy (if_pos (by omega)).symm).2 (by omega) (by omega)
                · refine zk_aload_n hc dX3_movesNeededFor_83 1 rfl ?_
                  refine zk_get hc inlX3 (ci := 3) rfl 0 6 (by decide) mw_3_21 rfl rfl rfl dX3_movesNeededFor_84 ?_
                  refine zk_iload hc dX3_movesNeededFor_87 4 rfl ?_
                  refine zk_ialdN hc 3 rfl (by omega) (by decide) dX3_movesNeededFor_89 ?_
                  refine zk_top (y := nI ((cwt (isW u z) (mny u z)).2.2)) (congrArg nI (hWW z (by omega)).2.2) ?_
                  refine zk_aload_n hc dX3_movesNeededFor_90 1 rfl ?_
                  refine zk_get hc inlX3 (ci := 3) rfl 0 4 (by decide) mw_3_19 rfl rfl rfl dX3_movesNeededFor_91 ?_
                  refine zk_iload hc dX3_movesNeededFor_94 4 rfl ?_
                  refine zk_ialdN hc 1 rfl (by omega) (by decide) dX3_movesNeededFor_96 ?_
                  refine zk_top (y := nI ((cwt (isW u z) (mny u z)).1)) (congrArg nI (hWW z (by omega)).1) ?_
                  refine zk_icmp_geN hc 104 dX3_movesNeededFor_97 (by decide) (by have := hcb z (by omega); have := hm z (by omega); omega) (by have := hcb z (by omega); have := hm z (by omega); omega) (fun h_5 => ?_) (fun h_5 => ?_)
                  · refine zk_iconst hc (nI 0) dX3_movesNeededFor_104 rfl ?_
                    refine zk_istore_n hc (lv2 := [(3, .int (nI 0)), (2, .int (nI (x + 1))), (0, .ref (a 0)), (1, .int (nI t)), (4, .int (nI z))]) dX3_movesNeededFor_105 (by decide) rfl ?_
                    refine zk_iinc hc (v := nI (z + 1)) (lv2 := [(4, .int (nI (z + 1))), (3, .int (nI 0)), (2, .int (nI (x + 1))), (0, .ref (a 0)), (1, .int (nI t))]) dX3_movesNeededFor_106 4 rfl (nq_inc rfl) (by decide) rfl ?_
                    refine zk_goto hc 48 dX3_movesNeededFor_109 (by decide) ?_
                    refine zk_lv [3, 4, 2, 1, 0] (lv2 := [(0, .ref (a 0)), (1, .int (nI t)), (2, .int (nI (x + 1))), (3, .int (nI 0)), (4, .int (nI (z + 1)))]) rfl ?_
                    exact ih48 (z + 1) (x + 1) 0 (by omega) (by omega) (mn_up (p := isW u) (L := mny u) (by omega) hx hy (if_neg (by omega)).symm).1 (mn_up (p := isW u) (L := mny u) (by omega) hx hy (if_neg (by omega)).symm).2 (by omega) (by omega)
                  · refine zk_iconst hc (nI 1) dX3_movesNeededFor_100 rfl ?_
                    refine zk_goto hc 105 dX3_movesNeededFor_101 (by decide) ?_
                    refine zk_istore_n hc (lv2 := [(3, .int (nI 1)), (2, .int (nI (x + 1))), (0, .ref (a 0)), (1, .int (nI t)), (4, .int (nI z))]) dX3_movesNeededFor_105 (by decide) rfl ?_
                    refine zk_iinc hc (v := nI (z + 1)) (lv2 := [(4, .int (nI (z + 1))), (3, .int (nI 1)), (2, .int (nI (x + 1))), (0, .ref (a 0)), (1, .int (nI t))]) dX3_movesNeededFor_106 4 rfl (nq_inc rfl) (by decide) rfl ?_
                    refine zk_goto hc 48 dX3_movesNeededFor_109 (by decide) ?_
                    refine zk_lv [3, 4, 2, 1, 0] (lv2 := [(0, .ref (a 0)), (1, .int (nI t)), (2, .int (nI (x + 1))), (3, .int (nI 1)), (4, .int (nI (z + 1)))]) rfl ?_
                    exact ih48 (z + 1) (x + 1) 1 (by omega) (by omega) (mn_up (p := isW u) (L := mny u) (by omega) hx hy (if_pos (by omega)).symm).1 (mn_up (p := isW u) (L := mny u) (by omega) hx hy (if_pos (by omega)).symm).2 (by omega) (by omega)
      refine zk_lv [3, 4, 2, 1, 0] (lv2 := [(0, .ref (a 0)), (1, .int (nI t)), (2, .int (nI 0)), (3, .int (nI 0)), (4, .int (nI 0))]) rfl ?_
      exact loop48 ((u 4 - 0) + 1) 0 0 0 (Nat.lt_succ_self _) (Nat.zero_le _) (mn_0 (p := isW u) (L := mny u) (t := t) (if_neg (by omega)).symm (if_neg (by omega)).symm).1 (mn_0 (p := isW u) (L := mny u) (t := t) (if_neg (by omega)).symm (if_neg (by omega)).symm).2 (by omega) (by omega)
    · refine zk_iconst hc (nI 1) dX3_movesNeededFor_39 rfl ?_
      refine zk_goto hc 44 dX3_movesNeededFor_40 (by decide) ?_
      refine zk_istore_n hc (lv2 := [(3, .int (nI 1)), (2, .int (nI 0)), (0, .ref (a 0)), (1, .int (nI t))]) dX3_movesNeededFor_44 (by decide) rfl ?_
      refine zk_iconst hc (nI 0) dX3_movesNeededFor_45 rfl ?_
      refine zk_istore hc (lv2 := [(4, .int (nI 0)), (3, .int (nI 1)), (2, .int (nI 0)), (0, .ref (a 0)), (1, .int (nI t))]) dX3_movesNeededFor_46 (by decide) rfl ?_
      have loop48 : ∀ (N : Nat) (z : Nat) (x : Nat) (v : Nat), u 4 - z < N → (z ≤ u 4) → (x = (mnS (isW u) (mny u) t z).1) → (v = if (mnS (isW u) (mny u) t z).2 = true then 1 else 0) → (x ≤ z + 1) → (v ≤ 1) → KW g p l e (rmK 1 0 0) s m args below meth c 5 A H0 0 0 Q (SEW g.2.1 a xb (ay 0) xr wa wi wo hb ++ (YW g.2.1 ay st ds le wg te (u 4) (u 5) ck mv mm tg gn wc (u 12) g1 g2 g3)) [(0, .ref (a 0)), (1, .int (nI t)), (2, .int (nI x)), (3, .int (nI v)), (4, .int (nI z))] 48 [] := by
        intro N
        induction N with
        | zero => intro z x v hm; exact absurd hm (Nat.not_lt_zero _)
        | succ N ih48 =>
          intro z x v hm48 hz hx hy hx1 hy1
          refine zk_iload hc dX3_movesNeededFor_48 4 rfl ?_
          refine zk_aload_n hc dX3_movesNeededFor_50 0 rfl ?_
          refine zk_get hc inlX3 (ci := 3) rfl 0 2 (by decide) mw_3_17 rfl rfl rfl dX3_movesNeededFor_51 ?_
          refine zk_get hc inlX5 (ci := 5) rfl 4 0 (by decide) mw_15_0 rfl rfl rfl dX3_movesNeededFor_54 ?_
          refine zk_icmp_geN hc 112 dX3_movesNeededFor_57 (by decide) (by omega) (by omega) (fun h_6 => ?_) (fun h_6 => ?_)
          · refine zk_iload_n hc dX3_movesNeededFor_112 3 rfl ?_
            refine zk_if_eqN hc 122 dX3_movesNeededFor_113 (by decide) (by omega) (fun h113 => ?_) (fun h113 => ?_)
            · refine zk_iload_n hc dX3_movesNeededFor_122 2 rfl ?_
              refine fin 0 0 _ _ _ _ (by decide) (by decide) dX3_movesNeededFor_123 (?_)
              exact ⟨congrArg nI ((nd_t hx hy (show z = u 4 by omega)).1 h113), rfl⟩
            · refine zk_iload_n hc dX3_movesNeededFor_116 2 rfl ?_
              refine zk_iconst hc (nI 1) dX3_movesNeededFor_117 rfl ?_
              refine zk_iaddN hc dX3_movesNeededFor_118 ?_
              refine zk_goto hc 123 dX3_movesNeededFor_119 (by decide) ?_
              refine fin 0 0 _ _ _ _ (by decide) (by decide) dX3_movesNeededFor_123 (?_)
              exact ⟨congrArg nI ((nd_t hx hy (show z = u 4 by omega)).2 h113), rfl⟩
          · refine zk_iload hc dX3_movesNeededFor_60 4 rfl ?_
            refine zk_iload_n hc dX3_movesNeededFor_62 1 rfl ?_
            refine zk_icmp_eqN hc 106 dX3_movesNeededFor_63 (by decide) (by omega) (by omega) (fun h_7 => ?_) (fun h_7 => ?_)
            · refine zk_iinc hc (v := nI (z + 1)) (lv2 := [(4, .int (nI (z + 1))), (0, .ref (a 0)), (1, .int (nI t)), (2, .int (nI x)), (3, .int (nI v))]) dX3_movesNeededFor_106 4 rfl (nq_inc rfl) (by decide) rfl ?_
              refine zk_goto hc 48 dX3_movesNeededFor_109 (by decide) ?_
              refine zk_lv [1, 2, 3, 4, 0] (lv2 := [(0, .ref (a 0)), (1, .int (nI t)), (2, .int (nI x)), (3, .int (nI v)), (4, .int (nI (z + 1)))]) rfl ?_
              exact ih48 (z + 1) x v (by omega) (by omega) (mn_skip (by omega) hx hy).1 (mn_skip (by omega) hx hy).2 (by omega) (by omega)
            · refine zk_aload_n hc dX3_movesNeededFor_66 0 rfl ?_
              refine zk_get hc inlX3 (ci := 3) rfl 0 4 (by decide) mw_3_19 rfl rfl rfl dX3_movesNeededFor_67 ?_
              refine zk_iload hc dX3_movesNeededFor_70 4 rfl ?_
              refine zk_ialdN hc 1 rfl (by omega) (by decide) dX3_movesNeededFor_72 ?_
              refine zk_top (y := nI ((cwt (isW u z) (mny u z)).1)) (congrArg nI (hWW z (by omega)).1) ?_
              refine zk_if_leN hc 106 dX3_movesNeededFor_73 (by decide) (by have := hcb z (by omega); have := hm z (by omega); omega) (fun h_8 => ?_) (fun h_8 => ?_)
              · refine zk_iinc hc (v := nI (z + 1)) (lv2 := [(4, .int (nI (z + 1))), (0, .ref (a 0)), (1, .int (nI t)), (2, .int (nI x)), (3, .int (nI v))]) dX3_movesNeededFor_106 4 rfl (nq_inc rfl) (by decide) rfl ?_
                refine zk_goto hc 48 dX3_movesNeededFor_109 (by decide) ?_
                refine zk_lv [1, 2, 3, 4, 0] (lv2 := [(0, .ref (a 0)), (1, .int (nI t)), (2, .int (nI x)), (3, .int (nI v)), (4, .int (nI (z + 1)))]) rfl ?_
                exact ih48 (z + 1) x v (by omega) (by omega) (mn_skip (by omega) hx hy).1 (mn_skip (by omega) hx hy).2 (by omega) (by omega)
              · refine zk_iinc hc (v := nI (x + 1)) (lv2 := [(2, .int (nI (x + 1))), (0, .ref (a 0)), (1, .int (nI t)), (3, .int (nI v)), (4, .int (nI z))]) dX3_movesNeededFor_76 2 rfl (nq_inc rfl) (by decide) rfl ?_
                refine zk_iload_n hc dX3_movesNeededFor_79 3 rfl ?_
                refine zk_if_neN hc 100 dX3_movesNeededFor_80 (by decide) (by omega) (fun h_9 => ?_) (fun h_9 => ?_)
                · refine zk_iconst hc (nI 1) dX3_movesNeededFor_100 rfl ?_
                  refine zk_goto hc 105 dX3_movesNeededFor_101 (by decide) ?_
                  refine zk_istore_n hc (lv2 := [(3, .int (nI 1)), (2, .int (nI (x + 1))), (0, .ref (a 0)), (1, .int (nI t)), (4, .int (nI z))]) dX3_movesNeededFor_105 (by decide) rfl ?_
                  refine zk_iinc hc (v := nI (z + 1)) (lv2 := [(4, .int (nI (z + 1))), (3, .int (nI 1)), (2, .int (nI (x + 1))), (0, .ref (a 0)), (1, .int (nI t))]) dX3_movesNeededFor_106 4 rfl (nq_inc rfl) (by decide) rfl ?_
                  refine zk_goto hc 48 dX3_movesNeededFor_109 (by decide) ?_
                  refine zk_lv [3, 4, 2, 1, 0] (lv2 := [(0, .ref (a 0)), (1, .int (nI t)), (2, .int (nI (x + 1))), (3, .int (nI 1)), (4, .int (nI (z + 1)))]) rfl ?_
                  exact ih48 (z + 1) (x + 1) 1 (by omega) (by omega) (mn_up (p := isW u) (L := mny u) (by omega) hx hy (if_pos (by omega)).symm).1 (mn_up (p := isW u) (L := mny u) (by omega) hx hy (if_pos (by omega)).symm).2 (by omega) (by omega)
                · refine zk_aload_n hc dX3_movesNeededFor_83 1 rfl ?_
                  refine zk_get hc inlX3 (ci := 3) rfl 0 6 (by decide) mw_3_21 rfl rfl rfl dX3_movesNeededFor_84 ?_
                  refine zk_iload hc dX3_movesNeededFor_87 4 rfl ?_
                  refine zk_ialdN hc 3 rfl (by omega) (by decide) dX3_movesNeededFor_89 ?_
                  refine zk_top (y := nI ((cwt (isW u z) (mny u z)).2.2)) (congrArg nI (hWW z (by omega)).2.2) ?_
                  refine zk_aload_n hc dX3_movesNeededFor_90 1 rfl ?_
                  refine zk_get hc inlX3 (ci := 3) rfl 0 4 (by decide) mw_3_19 rfl rfl rfl dX3_movesNeededFor_91 ?_
                  refine zk_iload hc dX3_movesNeededFor_94 4 rfl ?_
                  refine zk_ialdN hc 1 rfl (by omega) (by decide) dX3_movesNeededFor_96 ?_
                  refine zk_top (y := nI ((cwt (isW u z) (mny u z)).1)) (congrArg nI (hWW z (by omega)).1) ?_
                  refine zk_icmp_geN hc 104 dX3_movesNeededFor_97 (by decide) (by have := hcb z (by omega); have := hm z (by omega); omega) (by have := hcb z (by omega); have := hm z (by omega); omega) (fun h_10 => ?_) (fun h_10 => ?_)
                  · refine zk_iconst hc (nI 0) dX3_movesNeededFor_104 rfl ?_
                    refine zk_istore_n hc (lv2 := [(3, .int (nI 0)), (2, .int (nI (x + 1))), (0, .ref (a 0)), (1, .int (nI t)), (4, .int (nI z))]) dX3_movesNeededFor_105 (by decide) rfl ?_
                    refine zk_iinc hc (v := nI (z + 1)) (lv2 := [(4, .int (nI (z + 1))), (3, .int (nI 0)), (2, .int (nI (x + 1))), (0, .ref (a 0)), (1, .int (nI t))]) dX3_movesNeededFor_106 4 rfl (nq_inc rfl) (by decide) rfl ?_
                    refine zk_goto hc 48 dX3_movesNeededFor_109 (by decide) ?_
                    refine zk_lv [3, 4, 2, 1, 0] (lv2 := [(0, .ref (a 0)), (1, .int (nI t)), (2, .int (nI (x + 1))), (3, .int (nI 0)), (4, .int (nI (z + 1)))]) rfl ?_
                    exact ih48 (z + 1) (x + 1) 0 (by omega) (by omega) (mn_up (p := isW u) (L := mny u) (by omega) hx hy (if_neg (by omega)).symm).1 (mn_up (p := isW u) (L := mny u) (by omega) hx hy (if_neg (by omega)).symm).2 (by omega) (by omega)
                  · refine zk_iconst hc (nI 1) dX3_movesNeededFor_100 rfl ?_
                    refine zk_goto hc 105 dX3_movesNeededFor_101 (by decide) ?_
                    refine zk_istore_n hc (lv2 := [(3, .int (nI 1)), (2, .int (nI (x + 1))), (0, .ref (a 0)), (1, .int (nI t)), (4, .int (nI z))]) dX3_movesNeededFor_105 (by decide) rfl ?_
                    refine zk_iinc hc (v := nI (z + 1)) (lv2 := [(4, .int (nI (z + 1))), (3, .int (nI 1)), (2, .int (nI (x + 1))), (0, .ref (a 0)), (1, .int (nI t))]) dX3_movesNeededFor_106 4 rfl (nq_inc rfl) (by decide) rfl ?_
                    refine zk_goto hc 48 dX3_movesNeededFor_109 (by decide) ?_
                    refine zk_lv [3, 4, 2, 1, 0] (lv2 := [(0, .ref (a 0)), (1, .int (nI t)), (2, .int (nI (x + 1))), (3, .int (nI 1)), (4, .int (nI (z + 1)))]) rfl ?_
                    exact ih48 (z + 1) (x + 1) 1 (by omega) (by omega) (mn_up (p := isW u) (L := mny u) (by omega) hx hy (if_pos (by omega)).symm).1 (mn_up (p := isW u) (L := mny u) (by omega) hx hy (if_pos (by omega)).symm).2 (by omega) (by omega)
      refine zk_lv [3, 4, 2, 1, 0] (lv2 := [(0, .ref (a 0)), (1, .int (nI t)), (2, .int (nI 0)), (3, .int (nI 1)), (4, .int (nI 0))]) rfl ?_
      exact loop48 ((u 4 - 0) + 1) 0 0 1 (Nat.lt_succ_self _) (Nat.zero_le _) (mn_0 (p := isW u) (L := mny u) (t := t) (if_neg (by omega)).symm (if_pos (by omega)).symm).1 (mn_0 (p := isW u) (L := mny u) (t := t) (if_neg (by omega)).symm (if_pos (by omega)).symm).2 (by omega) (by omega)
  · refine zk_iconst hc (nI 1) dX3_movesNeededFor_18 rfl ?_
    refine zk_goto hc 23 dX3_movesNeededFor_19 (by decide) ?_
    refine zk_istore_n hc (lv2 := [(2, .int (nI 1)), (0, .ref (a 0)), (1, .int (nI t))]) dX3_movesNeededFor_23 (by decide) rfl ?_
    refine zk_aload_n hc dX3_movesNeededFor_24 1 rfl ?_
    refine zk_get hc inlX3 (ci := 3) rfl 0 5 (by decide) mw_3_20 rfl rfl rfl dX3_movesNeededFor_25 ?_
    refine zk_iload_n hc dX3_movesNeededFor_28 2 rfl ?_
    refine zk_ialdN hc 2 rfl (by omega) (by decide) dX3_movesNeededFor_29 ?_
    refine zk_top (y := nI ((cwt (isW u t) (mny u t)).2.1)) (congrArg nI (hWW t (by omega)).2.1) ?_
    refine zk_aload_n hc dX3_movesNeededFor_30 1 rfl ?_
    refine zk_get hc inlX3 (ci := 3) rfl 0 4 (by decide) mw_3_19 rfl rfl rfl dX3_movesNeededFor_31 ?_
    refine zk_iload_n hc dX3_movesNeededFor_34 2 rfl ?_
    refine zk_ialdN hc 1 rfl (by omega) (by decide) dX3_movesNeededFor_35 ?_
    refine zk_top (y := nI ((cwt (isW u t) (mny u t)).1)) (congrArg nI (hWW t (by omega)).1) ?_
    refine zk_icmp_geN hc 43 dX3_movesNeededFor_36 (by decide) (by have := hcb t (by omega); have := hm t (by omega); omega) (by have := hcb t (by omega); have := hm t (by omega); omega) (fun h36 => ?_) (fun h36 => ?_)
    · refine zk_iconst hc (nI 0) dX3_movesNeededFor_43 rfl ?_
      refine zk_istore_n hc (lv2 := [(3, .int (nI 0)), (2, .int (nI 1)), (0, .ref (a 0)), (1, .int (nI t))]) dX3_movesNeededFor_44 (by decide) rfl ?_
      refine zk_iconst hc (nI 0) dX3_movesNeededFor_45 rfl ?_
      refine zk_istore hc (lv2 := [(4, .int (nI 0)), (3, .int (nI 0)), (2, .int (nI 1)), (0, .ref (a 0)), (1, .int (nI t))]) dX3_movesNeededFor_46 (by decide) rfl ?_
      have loop48 : ∀ (N : Nat) (z : Nat) (x : Nat) (v : Nat), u 4 - z < N → (z ≤ u 4) → (x = (mnS (isW u) (mny u) t z).1) → (v = if (mnS (isW u) (mny u) t z).2 = true then 1 else 0) → (x ≤ z + 1) → (v ≤ 1) → KW g p l e (rmK 1 0 0) s m args below meth c 5 A H0 0 0 Q (SEW g.2.1 a xb (ay 0) xr wa wi wo hb ++ (YW g.2.1 ay st ds le wg te (u 4) (u 5) ck mv mm tg gn wc (u 12) g1 g2 g3)) [(0, .ref (a 0)), (1, .int (nI t)), (2, .int (nI x)), (3, .int (nI v)), (4, .int (nI z))] 48 [] := by
        intro N
        induction N with
        | zero => intro z x v hm; exact absurd hm (Nat.not_lt_zero _)
        | succ N ih48 =>
          intro z x v hm48 hz hx hy hx1 hy1
          refine zk_iload hc dX3_movesNeededFor_48 4 rfl ?_
          refine zk_aload_n hc dX3_movesNeededFor_50 0 rfl ?_
          refine zk_get hc inlX3 (ci := 3) rfl 0 2 (by decide) mw_3_17 rfl rfl rfl dX3_movesNeededFor_51 ?_
          refine zk_get hc inlX5 (ci := 5) rfl 4 0 (by decide) mw_15_0 rfl rfl rfl dX3_movesNeededFor_54 ?_
          refine zk_icmp_geN hc 112 dX3_movesNeededFor_57 (by decide) (by omega) (by omega) (fun h_11 => ?_) (fun h_11 => ?_)
          · refine zk_iload_n hc dX3_movesNeededFor_112 3 rfl ?_
            refine zk_if_eqN hc 122 dX3_movesNeededFor_113 (by decide) (by omega) (fun h113 => ?_) (fun h113 => ?_)
            · refine zk_iload_n hc dX3_movesNeededFor_122 2 rfl ?_
              refine fin 0 0 _ _ _ _ (by decide) (by decide) dX3_movesNeededFor_123 (?_)
              exact ⟨congrArg nI ((nd_t hx hy (show z = u 4 by omega)).1 h113), rfl⟩
            · refine zk_iload_n hc dX3_movesNeededFor_116 2 rfl ?_
              refine zk_iconst hc (nI 1) dX3_movesNeededFor_117 rfl ?_
              refine zk_iaddN hc dX3_movesNeededFor_118 ?_
              refine zk_goto hc 123 dX3_movesNeededFor_119 (by decide) ?_
              refine fin 0 0 _ _ _ _ (by decide) (by decide) dX3_movesNeededFor_123 (?_)
              exact ⟨congrArg nI ((nd_t hx hy (show z = u 4 by omega)).2 h113), rfl⟩
          · refine zk_iload hc dX3_movesNeededFor_60 4 rfl ?_
            refine zk_iload_n hc dX3_movesNeededFor_62 1 rfl ?_
            refine zk_icmp_eqN hc 106 dX3_movesNeededFor_63 (by decide) (by omega) (by omega) (fun h_12 => ?_) (fun h_12 => ?_)
            · refine zk_iinc hc (v := nI (z + 1)) (lv2 := [(4, .int (nI (z + 1))), (0, .ref (a 0)), (1, .int (nI t)), (2, .int (nI x)), (3, .int (nI v))]) dX3_movesNeededFor_106 4 rfl (nq_inc rfl) (by decide) rfl ?_
              refine zk_goto hc 48 dX3_movesNeededFor_109 (by decide) ?_
              refine zk_lv [1, 2, 3, 4, 0] (lv2 := [(0, .ref (a 0)), (1, .int (nI t)), (2, .int (nI x)), (3, .int (nI v)), (4, .int (nI (z + 1)))]) rfl ?_
              exact ih48 (z + 1) x v (by omega) (by omega) (mn_skip (by omega) hx hy).1 (mn_skip (by omega) hx hy).2 (by omega) (by omega)
            · refine zk_aload_n hc dX3_movesNeededFor_66 0 rfl ?_
              refine zk_get hc inlX3 (ci := 3) rfl 0 4 (by decide) mw_3_19 rfl rfl rfl dX3_movesNeededFor_67 ?_
              refine zk_iload hc dX3_movesNeededFor_70 4 rfl ?_
              refine zk_ialdN hc 1 rfl (by omega) (by decide) dX3_movesNeededFor_72 ?_
              refine zk_top (y := nI ((cwt (isW u z) (mny u z)).1)) (congrArg nI (hWW z (by omega)).1) ?_
              refine zk_if_leN hc 106 dX3_movesNeededFor_73 (by decide) (by have := hcb z (by omega); have := hm z (by omega); omega) (fun h_13 => ?_) (fun h_13 => ?_)
              · refine zk_iinc hc (v := nI (z + 1)) (lv2 := [(4, .int (nI (z + 1))), (0, .ref (a 0)), (1, .int (nI t)), (2, .int (nI x)), (3, .int (nI v))]) dX3_movesNeededFor_106 4 rfl (nq_inc rfl) (by decide) rfl ?_
                refine zk_goto hc 48 dX3_movesNeededFor_109 (by decide) ?_
                refine zk_lv [1, 2, 3, 4, 0] (lv2 := [(0, .ref (a 0)), (1, .int (nI t)), (2, .int (nI x)), (3, .int (nI v)), (4, .int (nI (z + 1)))]) rfl ?_
                exact ih48 (z + 1) x v (by omega) (by omega) (mn_skip (by omega) hx hy).1 (mn_skip (by omega) hx hy).2 (by omega) (by omega)
              · refine zk_iinc hc (v := nI (x + 1)) (lv2 := [(2, .int (nI (x + 1))), (0, .ref (a 0)), (1, .int (nI t)), (3, .int (nI v)), (4, .int (nI z))]) dX3_movesNeededFor_76 2 rfl (nq_inc rfl) (by decide) rfl ?_
                refine zk_iload_n hc dX3_movesNeededFor_79 3 rfl ?_
                refine zk_if_neN hc 100 dX3_movesNeededFor_80 (by decide) (by omega) (fun h_14 => ?_) (fun h_14 => ?_)
                · refine zk_iconst hc (nI 1) dX3_movesNeededFor_100 rfl ?_
                  refine zk_goto hc 105 dX3_movesNeededFor_101 (by decide) ?_
                  refine zk_istore_n hc (lv2 := [(3, .int (nI 1)), (2, .int (nI (x + 1))), (0, .ref (a 0)), (1, .int (nI t)), (4, .int (nI z))]) dX3_movesNeededFor_105 (by decide) rfl ?_
                  refine zk_iinc hc (v := nI (z + 1)) (lv2 := [(4, .int (nI (z + 1))), (3, .int (nI 1)), (2, .int (nI (x + 1))), (0, .ref (a 0)), (1, .int (nI t))]) dX3_movesNeededFor_106 4 rfl (nq_inc rfl) (by decide) rfl ?_
                  refine zk_goto hc 48 dX3_movesNeededFor_109 (by decide) ?_
                  refine zk_lv [3, 4, 2, 1, 0] (lv2 := [(0, .ref (a 0)), (1, .int (nI t)), (2, .int (nI (x + 1))), (3, .int (nI 1)), (4, .int (nI (z + 1)))]) rfl ?_
                  exact ih48 (z + 1) (x + 1) 1 (by omega) (by omega) (mn_up (p := isW u) (L := mny u) (by omega) hx hy (if_pos (by omega)).symm).1 (mn_up (p := isW u) (L := mny u) (by omega) hx hy (if_pos (by omega)).symm).2 (by omega) (by omega)
                · refine zk_aload_n hc dX3_movesNeededFor_83 1 rfl ?_
                  refine zk_get hc inlX3 (ci := 3) rfl 0 6 (by decide) mw_3_21 rfl rfl rfl dX3_movesNeededFor_84 ?_
                  refine zk_iload hc dX3_movesNeededFor_87 4 rfl ?_
                  refine zk_ialdN hc 3 rfl (by omega) (by decide) dX3_movesNeededFor_89 ?_
                  refine zk_top (y := nI ((cwt (isW u z) (mny u z)).2.2)) (congrArg nI (hWW z (by omega)).2.2) ?_
                  refine zk_aload_n hc dX3_movesNeededFor_90 1 rfl ?_
                  refine zk_get hc inlX3 (ci := 3) rfl 0 4 (by decide) mw_3_19 rfl rfl rfl dX3_movesNeededFor_91 ?_
                  refine zk_iload hc dX3_movesNeededFor_94 4 rfl ?_
                  refine zk_ialdN hc 1 rfl (by omega) (by decide) dX3_movesNeededFor_96 ?_
                  refine zk_top (y := nI ((cwt (isW u z) (mny u z)).1)) (congrArg nI (hWW z (by omega)).1) ?_
                  refine zk_icmp_geN hc 104 dX3_movesNeededFor_97 (by decide) (by have := hcb z (by omega); have := hm z (by omega); omega) (by have := hcb z (by omega); have := hm z (by omega); omega) (fun h_15 => ?_) (fun h_15 => ?_)
                  · refine zk_iconst hc (nI 0) dX3_movesNeededFor_104 rfl ?_
                    refine zk_istore_n hc (lv2 := [(3, .int (nI 0)), (2, .int (nI (x + 1))), (0, .ref (a 0)), (1, .int (nI t)), (4, .int (nI z))]) dX3_movesNeededFor_105 (by decide) rfl ?_
                    refine zk_iinc hc (v := nI (z + 1)) (lv2 := [(4, .int (nI (z + 1))), (3, .int (nI 0)), (2, .int (nI (x + 1))), (0, .ref (a 0)), (1, .int (nI t))]) dX3_movesNeededFor_106 4 rfl (nq_inc rfl) (by decide) rfl ?_
                    refine zk_goto hc 48 dX3_movesNeededFor_109 (by decide) ?_
                    refine zk_lv [3, 4, 2, 1, 0] (lv2 := [(0, .ref (a 0)), (1, .int (nI t)), (2, .int (nI (x + 1))), (3, .int (nI 0)), (4, .int (nI (z + 1)))]) rfl ?_
                    exact ih48 (z + 1) (x + 1) 0 (by omega) (by omega) (mn_up (p := isW u) (L := mny u) (by omega) hx hy (if_neg (by omega)).symm).1 (mn_up (p := isW u) (L := mny u) (by omega) hx hy (if_neg (by omega)).symm).2 (by omega) (by omega)
                  · refine zk_iconst hc (nI 1) dX3_movesNeededFor_100 rfl ?_
                    refine zk_goto hc 105 dX3_movesNeededFor_101 (by decide) ?_
                    refine zk_istore_n hc (lv2 := [(3, .int (nI 1)), (2, .int (nI (x + 1))), (0, .ref (a 0)), (1, .int (nI t)), (4, .int (nI z))]) dX3_movesNeededFor_105 (by decide) rfl ?_
                    refine zk_iinc hc (v := nI (z + 1)) (lv2 := [(4, .int (nI (z + 1))), (3, .int (nI 1)), (2, .int (nI (x + 1))), (0, .ref (a 0)), (1, .int (nI t))]) dX3_movesNeededFor_106 4 rfl (nq_inc rfl) (by decide) rfl ?_
                    refine zk_goto hc 48 dX3_movesNeededFor_109 (by decide) ?_
                    refine zk_lv [3, 4, 2, 1, 0] (lv2 := [(0, .ref (a 0)), (1, .int (nI t)), (2, .int (nI (x + 1))), (3, .int (nI 1)), (4, .int (nI (z + 1)))]) rfl ?_
                    exact ih48 (z + 1) (x + 1) 1 (by omega) (by omega) (mn_up (p := isW u) (L := mny u) (by omega) hx hy (if_pos (by omega)).symm).1 (mn_up (p := isW u) (L := mny u) (by omega) hx hy (if_pos (by omega)).symm).2 (by omega) (by omega)
      refine zk_lv [3, 4, 2, 1, 0] (lv2 := [(0, .ref (a 0)), (1, .int (nI t)), (2, .int (nI 1)), (3, .int (nI 0)), (4, .int (nI 0))]) rfl ?_
      exact loop48 ((u 4 - 0) + 1) 0 1 0 (Nat.lt_succ_self _) (Nat.zero_le _) (mn_0 (p := isW u) (L := mny u) (t := t) (if_pos (by omega)).symm (if_neg (by omega)).symm).1 (mn_0 (p := isW u) (L := mny u) (t := t) (if_pos (by omega)).symm (if_neg (by omega)).symm).2 (by omega) (by omega)
    · refine zk_iconst hc (nI 1) dX3_movesNeededFor_39 rfl ?_
      refine zk_goto hc 44 dX3_movesNeededFor_40 (by decide) ?_
      refine zk_istore_n hc (lv2 := [(3, .int (nI 1)), (2, .int (nI 1)), (0, .ref (a 0)), (1, .int (nI t))]) dX3_movesNeededFor_44 (by decide) rfl ?_
      refine zk_iconst hc (nI 0) dX3_movesNeededFor_45 rfl ?_
      refine zk_istore hc (lv2 := [(4, .int (nI 0)), (3, .int (nI 1)), (2, .int (nI 1)), (0, .ref (a 0)), (1, .int (nI t))]) dX3_movesNeededFor_46 (by decide) rfl ?_
      have loop48 : ∀ (N : Nat) (z : Nat) (x : Nat) (v : Nat), u 4 - z < N → (z ≤ u 4) → (x = (mnS (isW u) (mny u) t z).1) → (v = if (mnS (isW u) (mny u) t z).2 = true then 1 else 0) → (x ≤ z + 1) → (v ≤ 1) → KW g p l e (rmK 1 0 0) s m args below meth c 5 A H0 0 0 Q (SEW g.2.1 a xb (ay 0) xr wa wi wo hb ++ (YW g.2.1 ay st ds le wg te (u 4) (u 5) ck mv mm tg gn wc (u 12) g1 g2 g3)) [(0, .ref (a 0)), (1, .int (nI t)), (2, .int (nI x)), (3, .int (nI v)), (4, .int (nI z))] 48 [] := by
        intro N
        induction N with
        | zero => intro z x v hm; exact absurd hm (Nat.not_lt_zero _)
        | succ N ih48 =>
          intro z x v hm48 hz hx hy hx1 hy1
          refine zk_iload hc dX3_movesNeededFor_48 4 rfl ?_
          refine zk_aload_n hc dX3_movesNeededFor_50 0 rfl ?_
          refine zk_get hc inlX3 (ci := 3) rfl 0 2 (by decide) mw_3_17 rfl rfl rfl dX3_movesNeededFor_51 ?_
          refine zk_get hc inlX5 (ci := 5) rfl 4 0 (by decide) mw_15_0 rfl rfl rfl dX3_movesNeededFor_54 ?_
          refine zk_icmp_geN hc 112 dX3_movesNeededFor_57 (by decide) (by omega) (by omega) (fun h_16 => ?_) (fun h_16 => ?_)
          · refine zk_iload_n hc dX3_movesNeededFor_112 3 rfl ?_
            refine zk_if_eqN hc 122 dX3_movesNeededFor_113 (by decide) (by omega) (fun h113 => ?_) (fun h113 => ?_)
            · refine zk_iload_n hc dX3_movesNeededFor_122 2 rfl ?_
              refine fin 0 0 _ _ _ _ (by decide) (by decide) dX3_movesNeededFor_123 (?_)
              exact ⟨congrArg nI ((nd_t hx hy (show z = u 4 by omega)).1 h113), rfl⟩
            · refine zk_iload_n hc dX3_movesNeededFor_116 2 rfl ?_
              refine zk_iconst hc (nI 1) dX3_movesNeededFor_117 rfl ?_
              refine zk_iaddN hc dX3_movesNeededFor_118 ?_
              refine zk_goto hc 123 dX3_movesNeededFor_119 (by decide) ?_
              refine fin 0 0 _ _ _ _ (by decide) (by decide) dX3_movesNeededFor_123 (?_)
              exact ⟨congrArg nI ((nd_t hx hy (show z = u 4 by omega)).2 h113), rfl⟩
          · refine zk_iload hc dX3_movesNeededFor_60 4 rfl ?_
            refine zk_iload_n hc dX3_movesNeededFor_62 1 rfl ?_
            refine zk_icmp_eqN hc 106 dX3_movesNeededFor_63 (by decide) (by omega) (by omega) (fun h_17 => ?_) (fun h_17 => ?_)
            · refine zk_iinc hc (v := nI (z + 1)) (lv2 := [(4, .int (nI (z + 1))), (0, .ref (a 0)), (1, .int (nI t)), (2, .int (nI x)), (3, .int (nI v))]) dX3_movesNeededFor_106 4 rfl (nq_inc rfl) (by decide) rfl ?_
              refine zk_goto hc 48 dX3_movesNeededFor_109 (by decide) ?_
              refine zk_lv [1, 2, 3, 4, 0] (lv2 := [(0, .ref (a 0)), (1, .int (nI t)), (2, .int (nI x)), (3, .int (nI v)), (4, .int (nI (z + 1)))]) rfl ?_
              exact ih48 (z + 1) x v (by omega) (by omega) (mn_skip (by omega) hx hy).1 (mn_skip (by omega) hx hy).2 (by omega) (by omega)
            · refine zk_aload_n hc dX3_movesNeededFor_66 0 rfl ?_
              refine zk_get hc inlX3 (ci := 3) rfl 0 4 (by decide) mw_3_19 rfl rfl rfl dX3_movesNeededFor_67 ?_
              refine zk_iload hc dX3_movesNeededFor_70 4 rfl ?_
              refine zk_ialdN hc 1 rfl (by omega) (by decide) dX3_movesNeededFor_72 ?_
              refine zk_top (y := nI ((cwt (isW u z) (mny u z)).1)) (congrArg nI (hWW z (by omega)).1) ?_
              refine zk_if_leN hc 106 dX3_movesNeededFor_73 (by decide) (by have := hcb z (by omega); have := hm z (by omega); omega) (fun h_18 => ?_) (fun h_18 => ?_)
              · refine zk_iinc hc (v := nI (z + 1)) (lv2 := [(4, .int (nI (z + 1))), (0, .ref (a 0)), (1, .int (nI t)), (2, .int (nI x)), (3, .int (nI v))]) dX3_movesNeededFor_106 4 rfl (nq_inc rfl) (by decide) rfl ?_
                refine zk_goto hc 48 dX3_movesNeededFor_109 (by decide) ?_
                refine zk_lv [1, 2, 3, 4, 0] (lv2 := [(0, .ref (a 0)), (1, .int (nI t)), (2, .int (nI x)), (3, .int (nI v)), (4, .int (nI (z + 1)))]) rfl ?_
                exact ih48 (z + 1) x v (by omega) (by omega) (mn_skip (by omega) hx hy).1 (mn_skip (by omega) hx hy).2 (by omega) (by omega)
              · refine zk_iinc hc (v := nI (x + 1)) (lv2 := [(2, .int (nI (x + 1))), (0, .ref (a 0)), (1, .int (nI t)), (3, .int (nI v)), (4, .int (nI z))]) dX3_movesNeededFor_76 2 rfl (nq_inc rfl) (by decide) rfl ?_
                refine zk_iload_n hc dX3_movesNeededFor_79 3 rfl ?_
                refine zk_if_neN hc 100 dX3_movesNeededFor_80 (by decide) (by omega) (fun h_19 => ?_) (fun h_19 => ?_)
                · refine zk_iconst hc (nI 1) dX3_movesNeededFor_100 rfl ?_
                  refine zk_goto hc 105 dX3_movesNeededFor_101 (by decide) ?_
                  refine zk_istore_n hc (lv2 := [(3, .int (nI 1)), (2, .int (nI (x + 1))), (0, .ref (a 0)), (1, .int (nI t)), (4, .int (nI z))]) dX3_movesNeededFor_105 (by decide) rfl ?_
                  refine zk_iinc hc (v := nI (z + 1)) (lv2 := [(4, .int (nI (z + 1))), (3, .int (nI 1)), (2, .int (nI (x + 1))), (0, .ref (a 0)), (1, .int (nI t))]) dX3_movesNeededFor_106 4 rfl (nq_inc rfl) (by decide) rfl ?_
                  refine zk_goto hc 48 dX3_movesNeededFor_109 (by decide) ?_
                  refine zk_lv [3, 4, 2, 1, 0] (lv2 := [(0, .ref (a 0)), (1, .int (nI t)), (2, .int (nI (x + 1))), (3, .int (nI 1)), (4, .int (nI (z + 1)))]) rfl ?_
                  exact ih48 (z + 1) (x + 1) 1 (by omega) (by omega) (mn_up (p := isW u) (L := mny u) (by omega) hx hy (if_pos (by omega)).symm).1 (mn_up (p := isW u) (L := mny u) (by omega) hx hy (if_pos (by omega)).symm).2 (by omega) (by omega)
                · refine zk_aload_n hc dX3_movesNeededFor_83 1 rfl ?_
                  refine zk_get hc inlX3 (ci := 3) rfl 0 6 (by decide) mw_3_21 rfl rfl rfl dX3_movesNeededFor_84 ?_
                  refine zk_iload hc dX3_movesNeededFor_87 4 rfl ?_
                  refine zk_ialdN hc 3 rfl (by omega) (by decide) dX3_movesNeededFor_89 ?_
                  refine zk_top (y := nI ((cwt (isW u z) (mny u z)).2.2)) (congrArg nI (hWW z (by omega)).2.2) ?_
                  refine zk_aload_n hc dX3_movesNeededFor_90 1 rfl ?_
                  refine zk_get hc inlX3 (ci := 3) rfl 0 4 (by decide) mw_3_19 rfl rfl rfl dX3_movesNeededFor_91 ?_
                  refine zk_iload hc dX3_movesNeededFor_94 4 rfl ?_
                  refine zk_ialdN hc 1 rfl (by omega) (by decide) dX3_movesNeededFor_96 ?_
                  refine zk_top (y := nI ((cwt (isW u z) (mny u z)).1)) (congrArg nI (hWW z (by omega)).1) ?_
                  refine zk_icmp_geN hc 104 dX3_movesNeededFor_97 (by decide) (by have := hcb z (by omega); have := hm z (by omega); omega) (by have := hcb z (by omega); have := hm z (by omega); omega) (fun h_20 => ?_) (fun h_20 => ?_)
                  · refine zk_iconst hc (nI 0) dX3_movesNeededFor_104 rfl ?_
                    refine zk_istore_n hc (lv2 := [(3, .int (nI 0)), (2, .int (nI (x + 1))), (0, .ref (a 0)), (1, .int (nI t)), (4, .int (nI z))]) dX3_movesNeededFor_105 (by decide) rfl ?_
                    refine zk_iinc hc (v := nI (z + 1)) (lv2 := [(4, .int (nI (z + 1))), (3, .int (nI 0)), (2, .int (nI (x + 1))), (0, .ref (a 0)), (1, .int (nI t))]) dX3_movesNeededFor_106 4 rfl (nq_inc rfl) (by decide) rfl ?_
                    refine zk_goto hc 48 dX3_movesNeededFor_109 (by decide) ?_
                    refine zk_lv [3, 4, 2, 1, 0] (lv2 := [(0, .ref (a 0)), (1, .int (nI t)), (2, .int (nI (x + 1))), (3, .int (nI 0)), (4, .int (nI (z + 1)))]) rfl ?_
                    exact ih48 (z + 1) (x + 1) 0 (by omega) (by omega) (mn_up (p := isW u) (L := mny u) (by omega) hx hy (if_neg (by omega)).symm).1 (mn_up (p := isW u) (L := mny u) (by omega) hx hy (if_neg (by omega)).symm).2 (by omega) (by omega)
                  · refine zk_iconst hc (nI 1) dX3_movesNeededFor_100 rfl ?_
                    refine zk_goto hc 105 dX3_movesNeededFor_101 (by decide) ?_
                    refine zk_istore_n hc (lv2 := [(3, .int (nI 1)), (2, .int (nI (x + 1))), (0, .ref (a 0)), (1, .int (nI t)), (4, .int (nI z))]) dX3_movesNeededFor_105 (by decide) rfl ?_
                    refine zk_iinc hc (v := nI (z + 1)) (lv2 := [(4, .int (nI (z + 1))), (3, .int (nI 1)), (2, .int (nI (x + 1))), (0, .ref (a 0)), (1, .int (nI t))]) dX3_movesNeededFor_106 4 rfl (nq_inc rfl) (by decide) rfl ?_
                    refine zk_goto hc 48 dX3_movesNeededFor_109 (by decide) ?_
                    refine zk_lv [3, 4, 2, 1, 0] (lv2 := [(0, .ref (a 0)), (1, .int (nI t)), (2, .int (nI (x + 1))), (3, .int (nI 1)), (4, .int (nI (z + 1)))]) rfl ?_
                    exact ih48 (z + 1) (x + 1) 1 (by omega) (by omega) (mn_up (p := isW u) (L := mny u) (by omega) hx hy (if_pos (by omega)).symm).1 (mn_up (p := isW u) (L := mny u) (by omega) hx hy (if_pos (by omega)).symm).2 (by omega) (by omega)
      refine zk_lv [3, 4, 2, 1, 0] (lv2 := [(0, .ref (a 0)), (1, .int (nI t)), (2, .int (nI 1)), (3, .int (nI 1)), (4, .int (nI 0))]) rfl ?_
      exact loop48 ((u 4 - 0) + 1) 0 1 1 (Nat.lt_succ_self _) (Nat.zero_le _) (mn_0 (p := isW u) (L := mny u) (t := t) (if_pos (by omega)).symm (if_pos (by omega)).symm).1 (mn_0 (p := isW u) (L := mny u) (t := t) (if_pos (by omega)).symm (if_pos (by omega)).symm).2 (by omega) (by omega)

set_option maxHeartbeats 4000000 in
set_option maxRecDepth 100000 in
theorem ct_X3_movesNeeded (g : GG) (l : Launch) (a : Nat → Nat) (xb xr : Nat) (wa wi wo : Nat → Nat) (hb : Nat) (ay : Nat → Nat) (u st ds le wg : Nat → Nat) (te : Nat → Int32) (ck mv mm tg gn wc g1 g2 g3 : Nat) (hY : YA u st ds le wg) (hG : GU u) (hN : GN u) (hl1 : u 12 ≠ 0) (hK1 : 1 ≤ u 4) : CtI g l yX3_movesNeeded cX3_movesNeeded 3 (some .int) (rmK 5 0 0) (SEW g.2.1 a xb (ay 0) xr wa wi wo hb ++ (YW g.2.1 ay st ds le wg te (u 4) (u 5) ck mv mm tg gn wc (u 12) g1 g2 g3)) [.ref (a 0)] (fun r W1 => r = nI (needU u) ∧ ∃ wa2 wi2 wo2, W1 = SEW g.2.1 a xb (ay 0) xr wa2 wi2 wo2 hb ++ (YW g.2.1 ay st ds le wg te (u 4) (u 5) ck mv mm tg gn wc (u 12) g1 g2 g3)) := by
  refine CtI.go RX3 rfl (by decide +kernel) (Nat.le_of_ble_eq_true rfl) ?_
  intro p e s m args below meth c A H0 Q hc hnm fin
  obtain ⟨hK4, hC8, hv2, hg3, hm, hdk, h13, h12⟩ := id hG
  have hn6 := fun t => nd_6 (isW u) (mny u) hK4 t
  show KW g p l e (rmK 5 0 0) s m args below meth c 3 A H0 0 0 Q (SEW g.2.1 a xb (ay 0) xr wa wi wo hb ++ (YW g.2.1 ay st ds le wg te (u 4) (u 5) ck mv mm tg gn wc (u 12) g1 g2 g3)) [(0, .ref (a 0))] 0 []
  refine zk_iconst hc (nI 0) dX3_movesNeeded_0 rfl ?_
  refine zk_istore_n hc (lv2 := [(1, .int (nI 0)), (0, .ref (a 0))]) dX3_movesNeeded_1 (by decide) rfl ?_
  have loop2 : ∀ (N : Nat) (q : Nat) (wa1 : Nat → Nat) (wi1 : Nat → Nat) (wo1 : Nat → Nat), u 4 - q < N → (q ≤ u 4) → (WA u wa1 wi1 wo1 q) → KW g p l e (rmK 5 0 0) s m args below meth c 3 A H0 0 0 Q (SEW g.2.1 a xb (ay 0) xr wa1 wi1 wo1 hb ++ (YW g.2.1 ay st ds le wg te (u 4) (u 5) ck mv mm tg gn wc (u 12) g1 g2 g3)) [(0, .ref (a 0)), (1, .int (nI q))] 2 [] := by
    intro N
    induction N with
    | zero => intro q wa1 wi1 wo1 hm; exact absurd hm (Nat.not_lt_zero _)
    | succ N ih2 =>
      intro q wa1 wi1 wo1 hm2 hq hWq
      refine zk_iload_n hc dX3_movesNeeded_2 1 rfl ?_
      refine zk_aload_n hc dX3_movesNeeded_3 0 rfl ?_
      refine zk_get hc inlX3 (ci := 3) rfl 0 2 (by decide) mw_3_17 rfl rfl rfl dX3_movesNeeded_4 ?_
      refine zk_get hc inlX5 (ci := 5) rfl 4 0 (by decide) mw_15_0 rfl rfl rfl dX3_movesNeeded_7 ?_
      refine zk_icmp_geN hc 24 dX3_movesNeeded_10 (by decide) (by omega) (by omega) (fun h_1 => ?_) (fun h_1 => ?_)
      · have hWW : WA u wa1 wi1 wo1 (u 4) := (show q = u 4 by omega) ▸ hWq
        refine zk_aload_n hc dX3_movesNeeded_24 0 rfl ?_
        refine zk_iconst hc (nI 0) dX3_movesNeeded_25 rfl ?_
        refine zk_callVi hc (rest := []) (ct_X3_movesNeededFor g l a xb xr wa1 wi1 wo1 hb ay u st ds le wg te ck mv mm tg gn wc g1 g2 g3 hY hG hN hl1 hWW 0 (by omega)) gg_X3_124 cd_X3_movesNeededFor ⟨Nat.le_of_ble_eq_true rfl, Nat.le_of_ble_eq_true rfl⟩ ⟨Nat.le_of_ble_eq_true rfl, Nat.le_of_ble_eq_true rfl⟩ ([]) ([]) rfl 0 rfl rfl rfl (Nat.le_of_ble_eq_true rfl) dX3_movesNeeded_26 (fun r W1 hp => ?_)
        obtain ⟨rfl, rfl⟩ := hp
        refine zk_ws (ws2 := SEW g.2.1 a xb (ay 0) xr wa1 wi1 wo1 hb ++ (YW g.2.1 ay st ds le wg te (u 4) (u 5) ck mv mm tg gn wc (u 12) g1 g2 g3)) rfl ?_
        refine zk_istore_n hc (lv2 := [(1, .int (nI (nd (isW u) (mny u) (u 4) 0))), (0, .ref (a 0))]) dX3_movesNeeded_29 (by decide) rfl ?_
        refine zk_iconst hc (nI 1) dX3_movesNeeded_30 rfl ?_
        refine zk_istore_n hc (lv2 := [(2, .int (nI 1)), (1, .int (nI (nd (isW u) (mny u) (u 4) 0))), (0, .ref (a 0))]) dX3_movesNeeded_31 (by decide) rfl ?_
        have loop32 : ∀ (N : Nat) (j : Nat) (x : Nat), u 4 - j < N → (1 ≤ j ∧ j ≤ u 4) → (x = ndM (isW u) (mny u) (u 4) (j - 1)) → (x ≤ 6) → KW g p l e (rmK 5 0 0) s m args below meth c 3 A H0 0 0 Q (SEW g.2.1 a xb (ay 0) xr wa1 wi1 wo1 hb ++ (YW g.2.1 ay st ds le wg te (u 4) (u 5) ck mv mm tg gn wc (u 12) g1 g2 g3)) [(0, .ref (a 0)), (1, .int (nI x)), (2, .int (nI j))] 32 [] := by
          intro N
          induction N with
          | zero => intro j x hm; exact absurd hm (Nat.not_lt_zero _)
          | succ N ih32 =>
            intro j x hm32 hj hx hx6
            refine zk_iload_n hc dX3_movesNeeded_32 2 rfl ?_
            refine zk_aload_n hc dX3_movesNeeded_33 0 rfl ?_
            refine zk_get hc inlX3 (ci := 3) rfl 0 2 (by decide) mw_3_17 rfl rfl rfl dX3_movesNeeded_34 ?_
            refine zk_get hc inlX5 (ci := 5) rfl 4 0 (by decide) mw_15_0 rfl rfl rfl dX3_movesNeeded_37 ?_
            refine zk_icmp_geN hc 59 dX3_movesNeeded_40 (by decide) (by omega) (by omega) (fun h_2 => ?_) (fun h_2 => ?_)
            · refine zk_iload_n hc dX3_movesNeeded_59 1 rfl ?_
              refine fin 0 0 _ _ _ _ (by decide) (by decide) dX3_movesNeeded_60 (?_)
              exact ⟨congrArg nI (by unfold needU; rw [hx, show j = u 4 by omega]), _, _, _, rfl⟩
            · refine zk_iload_n hc dX3_movesNeeded_43 1 rfl ?_
              refine zk_aload_n hc dX3_movesNeeded_44 0 rfl ?_
              refine zk_iload_n hc dX3_movesNeeded_45 2 rfl ?_
              refine zk_callVi hc (rest := [.int (nI x)]) (ct_X3_movesNeededFor g l a xb xr wa1 wi1 wo1 hb ay u st ds le wg te ck mv mm tg gn wc g1 g2 g3 hY hG hN hl1 hWW j (by omega)) gg_X3_124 cd_X3_movesNeededFor ⟨Nat.le_of_ble_eq_true rfl, Nat.le_of_ble_eq_true rfl⟩ ⟨Nat.le_of_ble_eq_true rfl, Nat.le_of_ble_eq_true rfl⟩ ([]) ([]) rfl 0 rfl rfl rfl (Nat.le_of_ble_eq_true rfl) dX3_movesNeeded_46 (fun r W1 hp => ?_)
              obtain ⟨rfl, rfl⟩ := hp
              refine zk_ws (ws2 := SEW g.2.1 a xb (ay 0) xr wa1 wi1 wo1 hb ++ (YW g.2.1 ay st ds le wg te (u 4) (u 5) ck mv mm tg gn wc (u 12) g1 g2 g3)) rfl ?_
              refine zk_min hc mw_14_11 mw_6_18 mw_6_19 mw_6_20 ⟨by decide, by decide, by decide, by decide⟩ (Nat.le_of_ble_eq_true rfl) dX3_movesNeeded_49 ?_
              refine zk_top (y := nI (Nat.min x (nd (isW u) (mny u) (u 4) j))) (nq_min (by have := hn6 j; omega) (by have := hn6 j; omega)) ?_
              refine zk_istore_n hc (lv2 := [(1, .int (nI (Nat.min x (nd (isW u) (mny u) (u 4) j)))), (0, .ref (a 0)), (2, .int (nI j))]) dX3_movesNeeded_52 (by decide) rfl ?_
              refine zk_iinc hc (v := nI (j + 1)) (lv2 := [(2, .int (nI (j + 1))), (1, .int (nI (Nat.min x (nd (isW u) (mny u) (u 4) j)))), (0, .ref (a 0))]) dX3_movesNeeded_53 2 rfl (nq_inc rfl) (by decide) rfl ?_
              refine zk_goto hc 32 dX3_movesNeeded_56 (by decide) ?_
              refine zk_lv [2, 1, 0] (lv2 := [(0, .ref (a 0)), (1, .int (nI (Nat.min x (nd (isW u) (mny u) (u 4) j)))), (2, .int (nI (j + 1)))]) rfl ?_
              exact ih32 (j + 1) (Nat.min x (nd (isW u) (mny u) (u 4) j)) (by omega) (by omega) (ndM_s hj.1 hx) (Nat.le_trans (Nat.min_le_left _ _) hx6)
        refine zk_lv [2, 1, 0] (lv2 := [(0, .ref (a 0)), (1, .int (nI (nd (isW u) (mny u) (u 4) 0))), (2, .int (nI 1))]) rfl ?_
        exact loop32 ((u 4 - 1) + 1) 1 (nd (isW u) (mny u) (u 4) 0) (Nat.lt_succ_self _) ⟨Nat.le_refl 1, hK1⟩ rfl (hn6 0)
      · refine zk_aload_n hc dX3_movesNeeded_13 0 rfl ?_
        refine zk_iload_n hc dX3_movesNeeded_14 1 rfl ?_
        refine zk_callVv hc (rest := []) (ct_X3_countWanted g l a xb xr wa1 wi1 wo1 hb ay u st ds le wg te ck mv mm tg gn wc g1 g2 g3 hY hG hN hl1 q (by omega)) gg_X3_121 cd_X3_countWanted ⟨Nat.le_of_ble_eq_true rfl, Nat.le_of_ble_eq_true rfl⟩ ⟨Nat.le_of_ble_eq_true rfl, Nat.le_of_ble_eq_true rfl⟩ ([]) ([]) rfl 0 rfl rfl rfl (Nat.le_of_ble_eq_true rfl) dX3_movesNeeded_15 (fun W1 hp => ?_)
        obtain rfl := hp
        refine zk_ws (ws2 := SEW g.2.1 a xb (ay 0) xr (va_up wa1 q (cwt (isW u q) (mny u q)).1) (va_up wi1 q (cwt (isW u q) (mny u q)).2.1) (va_up wo1 q (cwt (isW u q) (mny u q)).2.2) hb ++ (YW g.2.1 ay st ds le wg te (u 4) (u 5) ck mv mm tg gn wc (u 12) g1 g2 g3)) rfl ?_
        refine zk_iinc hc (v := nI (q + 1)) (lv2 := [(1, .int (nI (q + 1))), (0, .ref (a 0))]) dX3_movesNeeded_18 1 rfl (nq_inc rfl) (by decide) rfl ?_
        refine zk_goto hc 2 dX3_movesNeeded_21 (by decide) ?_
        refine zk_lv [1, 0] (lv2 := [(0, .ref (a 0)), (1, .int (nI (q + 1)))]) rfl ?_
        exact ih2 (q + 1) (va_up wa1 q (cwt (isW u q) (mny u q)).1) (va_up wi1 q (cwt (isW u q) (mny u q)).2.1) (va_up wo1 q (cwt (isW u q) (mny u q)).2.2) (by omega) (by omega) (WA_up hWq)
  refine zk_lv [1, 0] (lv2 := [(0, .ref (a 0)), (1, .int (nI 0))]) rfl ?_
  exact loop2 ((u 4 - 0) + 1) 0 wa wi wo (Nat.lt_succ_self _) (Nat.zero_le _) (fun z hz => absurd hz (Nat.not_lt_zero _))
