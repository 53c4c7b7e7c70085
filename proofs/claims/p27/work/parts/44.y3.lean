set_option maxHeartbeats 4000000 in
set_option maxRecDepth 100000 in
theorem ct_X5_costOrCode (g : GG) (l : Launch) (a : Nat → Nat) (u st ds le wg : Nat → Nat) (te : Nat → Int32) (ck mv mm tg gn wc g1 g2 g3 : Nat) (hY : YA u st ds le wg) (hG : GU u) (hN : GN u) (vf vt vn : Int32) (hK1 : 1 ≤ u 4) : CtI g l yX5_costOrCode cX5_costOrCode 4 (some .int) (rmK 4 0 0) (YW g.2.1 a st ds le wg te (u 4) (u 5) ck mv mm tg gn wc (u 12) g1 g2 g3) [.ref (a 0), .int vf, .int vt, .int vn] (fun r W1 => r = aCos u vf vt vn ∧ ∃ g4 g5 g6, W1 = YW g.2.1 a st ds le wg te (u 4) (u 5) ck mv mm tg gn wc (u 12) g4 g5 g6) := by
  refine CtI.go RX5 rfl (by decide +kernel) (Nat.le_of_ble_eq_true rfl) ?_
  intro p e s m args below meth c A H0 Q hc hnm fin
  obtain ⟨hK4, hC8, hv2, hg3, hm, hdk, h13, h12⟩ := id hG
  show KW g p l e (rmK 4 0 0) s m args below meth c 4 A H0 0 0 Q (YW g.2.1 a st ds le wg te (u 4) (u 5) ck mv mm tg gn wc (u 12) g1 g2 g3) [(0, .ref (a 0)), (1, .int vf), (2, .int vt), (3, .int vn)] 0 []
  refine zk_aload_n hc dX5_costOrCode_0 0 rfl ?_
  refine zk_iload_n hc dX5_costOrCode_1 1 rfl ?_
  refine zk_callVi hc (rest := []) (ct_X5_hasTrack g l a u st ds le wg te ck mv mm tg gn wc g1 g2 g3 vf (by omega)) gg_X5_122 cd_X5_hasTrack ⟨Nat.le_of_ble_eq_true rfl, Nat.le_of_ble_eq_true rfl⟩ ⟨Nat.le_of_ble_eq_true rfl, Nat.le_of_ble_eq_true rfl⟩ ([]) ([]) rfl 0 rfl rfl rfl (Nat.le_of_ble_eq_true rfl) dX5_costOrCode_2 (fun r W1 hp => ?_)
  obtain ⟨rfl, rfl⟩ := hp
  refine zk_ws (ws2 := YW g.2.1 a st ds le wg te (u 4) (u 5) ck mv mm tg gn wc (u 12) g1 g2 g3) rfl ?_
  by_cases h1 : nI 0 ≤ vf ∧ vf ≤ nI (u 4 - 1)
  · refine zk_top (y := nI 1) (if_pos h1) ?_
    obtain ⟨f, f0, f1, rfl⟩ := rngN (by omega) h1
    refine zk_if_eqN hc 31 dX5_costOrCode_5 (by decide) (by omega) (fun h_1 => ?_) (fun h_1 => ?_)
    · exact absurd h_1 (by decide)
    · refine zk_aload_n hc dX5_costOrCode_8 0 rfl ?_
      refine zk_iload_n hc dX5_costOrCode_9 2 rfl ?_
      refine zk_callVi hc (rest := []) (ct_X5_hasTrack g l a u st ds le wg te ck mv mm tg gn wc g1 g2 g3 vt (by omega)) gg_X5_122 cd_X5_hasTrack ⟨Nat.le_of_ble_eq_true rfl, Nat.le_of_ble_eq_true rfl⟩ ⟨Nat.le_of_ble_eq_true rfl, Nat.le_of_ble_eq_true rfl⟩ ([]) ([]) rfl 0 rfl rfl rfl (Nat.le_of_ble_eq_true rfl) dX5_costOrCode_10 (fun r W1 hp => ?_)
      obtain ⟨rfl, rfl⟩ := hp
      refine zk_ws (ws2 := YW g.2.1 a st ds le wg te (u 4) (u 5) ck mv mm tg gn wc (u 12) g1 g2 g3) rfl ?_
      by_cases h2 : nI 0 ≤ vt ∧ vt ≤ nI (u 4 - 1)
      · refine zk_top (y := nI 1) (if_pos h2) ?_
        obtain ⟨t, t0, t1, rfl⟩ := rngN (by omega) h2
        refine zk_if_eqN hc 31 dX5_costOrCode_13 (by decide) (by omega) (fun h_2 => ?_) (fun h_2 => ?_)
        · exact absurd h_2 (by decide)
        · refine zk_iload_n hc dX5_costOrCode_16 1 rfl ?_
          refine zk_iload_n hc dX5_costOrCode_17 2 rfl ?_
          refine zk_icmp_eqN hc 31 dX5_costOrCode_18 (by decide) (by omega) (by omega) (fun h3 => ?_) (fun h3 => ?_)
          · refine zk_iconst hc ((-1)) dX5_costOrCode_31 rfl ?_
            refine fin 0 0 _ _ _ _ (by decide) (by decide) dX5_costOrCode_32 (?_)
            exact ⟨by unfold aCos; rw [if_neg (fun z => z.2.2.1 (by rw [h3]))], _, _, _, rfl⟩
          · refine zk_iload_n hc dX5_costOrCode_21 3 rfl ?_
            refine zk_iconst hc (nI 1) dX5_costOrCode_22 rfl ?_
            refine zk_bipush hc (nI 8) dX5_costOrCode_23 rfl ?_
            refine zk_callNi hc (rest := []) (ct_X6_within g l vn (nI 1) (nI 8)) (host := "ShuntYard") nl_X5_74 mw_7_22 mw_7_21 mw_1_2 cd_X6_within ⟨Nat.le_of_ble_eq_true rfl, Nat.le_of_ble_eq_true rfl⟩ ⟨Nat.le_of_ble_eq_true rfl, Nat.le_of_ble_eq_true rfl⟩ ([]) (YW g.2.1 a st ds le wg te (u 4) (u 5) ck mv mm tg gn wc (u 12) g1 g2 g3) rfl rfl (Nat.le_of_ble_eq_true rfl) dX5_costOrCode_25 (fun r W1 hp => ?_)
            obtain ⟨rfl, rfl⟩ := hp
            refine zk_ws (ws2 := YW g.2.1 a st ds le wg te (u 4) (u 5) ck mv mm tg gn wc (u 12) g1 g2 g3) rfl ?_
            by_cases h5 : nI 1 ≤ vn ∧ vn ≤ nI 8
            · refine zk_top (y := nI 1) (if_pos h5) ?_
              obtain ⟨n, n0, n1, rfl⟩ := rngN (by omega) h5
              refine zk_if_neN hc 33 dX5_costOrCode_28 (by decide) (by omega) (fun h_3 => ?_) (fun h_3 => ?_)
              · refine zk_iload_n hc dX5_costOrCode_33 3 rfl ?_
                refine zk_aload_n hc dX5_costOrCode_34 0 rfl ?_
                refine zk_get hc inlX5 (ci := 5) rfl 0 11 (by decide) mw_2_11 rfl rfl rfl dX5_costOrCode_35 ?_
                refine zk_iload_n hc dX5_costOrCode_38 1 rfl ?_
                refine zk_ialdN hc 3 rfl (by omega) (by decide) dX5_costOrCode_39 ?_
                refine zk_top (y := nI (mny u f)) (yle hY (by omega)) ?_
                refine zk_icmp_gtN hc 53 dX5_costOrCode_40 (by decide) (by have := hm f (by omega); omega) (by have := hm f (by omega); omega) (fun h40 => ?_) (fun h40 => ?_)
                · refine zk_bipush hc ((-2)) dX5_costOrCode_53 rfl ?_
                  refine fin 0 0 _ _ _ _ (by decide) (by decide) dX5_costOrCode_55 (?_)
                  exact ⟨by unfold aCos; rw [if_pos ⟨h1, h2, fun z => h3 ((nI_eq (by omega) (by omega)).mp z), h5⟩, tOf_nI (by omega), tOf_nI (by omega), tOf_nI (by omega)]; unfold costI; rw [if_pos (by omega)], _, _, _, rfl⟩
                · refine zk_aload_n hc dX5_costOrCode_43 0 rfl ?_
                  refine zk_iload_n hc dX5_costOrCode_44 1 rfl ?_
                  refine zk_iload_n hc dX5_costOrCode_45 2 rfl ?_
                  refine zk_iload_n hc dX5_costOrCode_46 3 rfl ?_
                  refine zk_callVi hc (rest := []) (ct_X5_isSafeBehindMove g l a u st ds le wg te ck mv mm tg gn wc g1 g2 g3 hY hG hN f t n (by omega) (by omega) (by omega)) gg_X5_125 cd_X5_isSafeBehindMove ⟨Nat.le_of_ble_eq_true rfl, Nat.le_of_ble_eq_true rfl⟩ ⟨Nat.le_of_ble_eq_true rfl, Nat.le_of_ble_eq_true rfl⟩ ([]) ([]) rfl 0 rfl rfl rfl (Nat.le_of_ble_eq_true rfl) dX5_costOrCode_47 (fun r W1 hp => ?_)
                  obtain ⟨rfl, g4z_4, g5z_4, g6z_4, rfl⟩ := hp
                  refine zk_ws (ws2 := YW g.2.1 a st ds le wg te (u 4) (u 5) ck mv mm tg gn wc (u 12) g4z_4 g5z_4 g6z_4) rfl ?_
                  by_cases h6 : u 0 ≤ gap (kds u f (mny u f - n)) ∧ u 0 ≤ gap (kds u t (mny u t) ++ kdf u f (mny u f - n) n)
                  · refine zk_top (y := nI 1) (if_pos h6) ?_
                    refine zk_if_neN hc 56 dX5_costOrCode_50 (by decide) (by omega) (fun h_5 => ?_) (fun h_5 => ?_)
                    · refine zk_aload_n hc dX5_costOrCode_56 0 rfl ?_
                      refine zk_get hc inlX5 (ci := 5) rfl 0 11 (by decide) mw_2_11 rfl rfl rfl dX5_costOrCode_57 ?_
                      refine zk_iload_n hc dX5_costOrCode_60 2 rfl ?_
                      refine zk_ialdN hc 3 rfl (by omega) (by decide) dX5_costOrCode_61 ?_
                      refine zk_top (y := nI (mny u t)) (yle hY (by omega)) ?_
                      refine zk_iload_n hc dX5_costOrCode_62 3 rfl ?_
                      refine zk_iaddN hc dX5_costOrCode_63 ?_
                      refine zk_aload_n hc dX5_costOrCode_64 0 rfl ?_
                      refine zk_get hc inlX5 (ci := 5) rfl 0 1 (by decide) mw_2_7 rfl rfl rfl dX5_costOrCode_65 ?_
                      refine zk_icmp_leN hc 74 dX5_costOrCode_68 (by decide) (by have := hm t (by omega); omega) (by have := hm t (by omega); omega) (fun h68 => ?_) (fun h68 => ?_)
                      · refine zk_aload_n hc dX5_costOrCode_74 0 rfl ?_
                        refine zk_iload_n hc dX5_costOrCode_75 1 rfl ?_
                        refine zk_iload_n hc dX5_costOrCode_76 2 rfl ?_
                        refine zk_iload_n hc dX5_costOrCode_77 3 rfl ?_
                        refine zk_callVi hc (rest := []) (ct_X5_minutesOf g l a u st ds le wg te ck mv mm tg gn wc g4z_4 g5z_4 g6z_4 hY hG hN f t n (by omega) (by omega) (by omega)) gg_X5_128 cd_X5_minutesOf ⟨Nat.le_of_ble_eq_true rfl, Nat.le_of_ble_eq_true rfl⟩ ⟨Nat.le_of_ble_eq_true rfl, Nat.le_of_ble_eq_true rfl⟩ ([]) ([]) rfl 0 rfl rfl rfl (Nat.le_of_ble_eq_true rfl) dX5_costOrCode_78 (fun r W1 hp => ?_)
                        obtain ⟨rfl, rfl⟩ := hp
                        refine zk_ws (ws2 := YW g.2.1 a st ds le wg te (u 4) (u 5) ck mv mm tg gn wc (u 12) g4z_4 g5z_4 g6z_4) rfl ?_
                        refine fin 0 0 _ _ _ _ (by decide) (by decide) dX5_costOrCode_81 (?_)
                        exact ⟨by unfold aCos; rw [if_pos ⟨h1, h2, fun z => h3 ((nI_eq (by omega) (by omega)).mp z), h5⟩, tOf_nI (by omega), tOf_nI (by omega), tOf_nI (by omega)]; unfold costI; rw [if_neg (by omega), if_neg (not_not_intro h6.1), if_neg (not_not_intro h6.2), if_neg (by omega)], _, _, _, rfl⟩
                      · refine zk_bipush hc ((-3)) dX5_costOrCode_71 rfl ?_
                        refine fin 0 0 _ _ _ _ (by decide) (by decide) dX5_costOrCode_73 (?_)
                        exact ⟨by unfold aCos; rw [if_pos ⟨h1, h2, fun z => h3 ((nI_eq (by omega) (by omega)).mp z), h5⟩, tOf_nI (by omega), tOf_nI (by omega), tOf_nI (by omega)]; unfold costI; rw [if_neg (by omega), if_neg (not_not_intro h6.1), if_neg (not_not_intro h6.2), if_pos (by omega)], _, _, _, rfl⟩
                    · exact absurd h_5 (by decide)
                  · refine zk_top (y := nI 0) (if_neg h6) ?_
                    refine zk_if_neN hc 56 dX5_costOrCode_50 (by decide) (by omega) (fun h_6 => ?_) (fun h_6 => ?_)
                    · exact absurd h_6 (by decide)
                    · refine zk_bipush hc ((-2)) dX5_costOrCode_53 rfl ?_
                      refine fin 0 0 _ _ _ _ (by decide) (by decide) dX5_costOrCode_55 (?_)
                      exact ⟨by unfold aCos; rw [if_pos ⟨h1, h2, fun z => h3 ((nI_eq (by omega) (by omega)).mp z), h5⟩, tOf_nI (by omega), tOf_nI (by omega), tOf_nI (by omega)]; unfold costI; rw [if_neg (by omega)]; by_cases hA : u 0 ≤ gap (kds u f (mny u f - n)); rw [if_neg (not_not_intro hA), if_pos (fun z => h6 ⟨hA, z⟩)]; rw [if_pos hA], _, _, _, rfl⟩
              · exact absurd h_3 (by decide)
            · refine zk_top (y := nI 0) (if_neg h5) ?_
              refine zk_if_neN hc 33 dX5_costOrCode_28 (by decide) (by omega) (fun h_7 => ?_) (fun h_7 => ?_)
              · exact absurd h_7 (by decide)
              · refine zk_iconst hc ((-1)) dX5_costOrCode_31 rfl ?_
                refine fin 0 0 _ _ _ _ (by decide) (by decide) dX5_costOrCode_32 (?_)
                exact ⟨by unfold aCos; rw [if_neg (fun z => h5 z.2.2.2)], _, _, _, rfl⟩
      · refine zk_top (y := nI 0) (if_neg h2) ?_
        refine zk_if_eqN hc 31 dX5_costOrCode_13 (by decide) (by omega) (fun h_8 => ?_) (fun h_8 => ?_)
        · refine zk_iconst hc ((-1)) dX5_costOrCode_31 rfl ?_
          refine fin 0 0 _ _ _ _ (by decide) (by decide) dX5_costOrCode_32 (?_)
          exact ⟨by unfold aCos; rw [if_neg (fun z => h2 z.2.1)], _, _, _, rfl⟩
        · exact absurd h_8 (by decide)
  · refine zk_top (y := nI 0) (if_neg h1) ?_
    refine zk_if_eqN hc 31 dX5_costOrCode_5 (by decide) (by omega) (fun h_9 => ?_) (fun h_9 => ?_)
    · refine zk_iconst hc ((-1)) dX5_costOrCode_31 rfl ?_
      refine fin 0 0 _ _ _ _ (by decide) (by decide) dX5_costOrCode_32 (?_)
      exact ⟨by unfold aCos; rw [if_neg (fun z => h1 z.1)], _, _, _, rfl⟩
    · exact absurd h_9 (by decide)

set_option maxHeartbeats 4000000 in
set_option maxRecDepth 100000 in
theorem ct_X5_shift (g : GG) (l : Launch) (a : Nat → Nat) (u st ds le wg : Nat → Nat) (te : Nat → Int32) (ck mv mm tg gn wc g1 g2 g3 : Nat) (f t n : Nat) (hf : f < 4) (ht : t < 4) (hne : f ≠ t) (hn : n ≤ le f) (hmf : le f ≤ 8) (hmt : le t + n ≤ 8) : CtV g l yX5_shift cX5_shift 5 (rmK 1 0 0) (YW g.2.1 a st ds le wg te (u 4) (u 5) ck mv mm tg gn wc (u 12) g1 g2 g3) [.ref (a 0), .int (nI f), .int (nI t), .int (nI n)] (fun W1 => W1 = YW g.2.1 a st ds (shL le f t n) (shW le wg f t n) te (u 4) (u 5) ck mv mm tg gn wc (u 12) g1 g2 g3) := by
  refine CtV.go RX5 rfl (by decide +kernel) (Nat.le_of_ble_eq_true rfl) ?_
  intro p e s m args below meth c A H0 Q hc hnm fin
  show KW g p l e (rmK 1 0 0) s m args below meth c 5 A H0 0 0 Q (YW g.2.1 a st ds le wg te (u 4) (u 5) ck mv mm tg gn wc (u 12) g1 g2 g3) [(0, .ref (a 0)), (1, .int (nI f)), (2, .int (nI t)), (3, .int (nI n))] 0 []
  refine zk_iload_n hc dX5_shift_0 1 rfl ?_
  refine zk_bipush hc (nI 8) dX5_shift_1 rfl ?_
  refine zk_imulN hc dX5_shift_3 ?_
  refine zk_aload_n hc dX5_shift_4 0 rfl ?_
  refine zk_get hc inlX5 (ci := 5) rfl 0 11 (by decide) mw_2_11 rfl rfl rfl dX5_shift_5 ?_
  refine zk_iload_n hc dX5_shift_8 1 rfl ?_
  refine zk_ialdN hc 3 rfl (by omega) (by decide) dX5_shift_9 ?_
  refine zk_iaddN hc dX5_shift_10 ?_
  refine zk_iload_n hc dX5_shift_11 3 rfl ?_
  refine zk_isubN hc dX5_shift_12 (by omega) ?_
  refine zk_istore hc (lv2 := [(4, .int (nI (((f * 8) + (le f)) - n))), (0, .ref (a 0)), (1, .int (nI f)), (2, .int (nI t)), (3, .int (nI n))]) dX5_shift_13 (by decide) rfl ?_
  refine zk_aload_n hc dX5_shift_15 1 rfl ?_
  refine zk_get hc inlX5 (ci := 5) rfl 0 13 (by decide) mw_2_13 rfl rfl rfl dX5_shift_16 ?_
  refine zk_iload hc dX5_shift_19 0 rfl ?_
  refine zk_aload_n hc dX5_shift_21 1 rfl ?_
  refine zk_get hc inlX5 (ci := 5) rfl 0 13 (by decide) mw_2_13 rfl rfl rfl dX5_shift_22 ?_
  refine zk_iload_n hc dX5_shift_25 3 rfl ?_
  refine zk_bipush hc (nI 8) dX5_shift_26 rfl ?_
  refine zk_imulN hc dX5_shift_28 ?_
  refine zk_aload_n hc dX5_shift_29 1 rfl ?_
  refine zk_get hc inlX5 (ci := 5) rfl 0 11 (by decide) mw_2_11 rfl rfl rfl dX5_shift_30 ?_
  refine zk_iload_n hc dX5_shift_33 3 rfl ?_
  refine zk_ialdN hc 3 rfl (by omega) (by decide) dX5_shift_34 ?_
  refine zk_iaddN hc dX5_shift_35 ?_
  refine zk_iload_n hc dX5_shift_36 4 rfl ?_
  refine zk_copyN hc mw_8_16 mw_8_17 mw_8_18 mw_8_19 5 5 rfl rfl (by decide) (by decide) (by omega) (by omega) ⟨by decide, by decide⟩ (Nat.le_of_ble_eq_true rfl) (ws2 := YW g.2.1 a st ds le (va_cpy wg wg (((f * 8) + (le f)) - n) ((t * 8) + (le t)) n) te (u 4) (u 5) ck mv mm tg gn wc (u 12) g1 g2 g3) rfl dX5_shift_37 ?_
  refine zk_aload_n hc dX5_shift_40 1 rfl ?_
  refine zk_get hc inlX5 (ci := 5) rfl 0 11 (by decide) mw_2_11 rfl rfl rfl dX5_shift_41 ?_
  refine zk_iload_n hc dX5_shift_44 2 rfl ?_
  refine zk_dup2 hc dX5_shift_45 rfl rfl ?_
  refine zk_ialdN hc 3 rfl (by omega) (by decide) dX5_shift_46 ?_
  refine zk_iload_n hc dX5_shift_47 4 rfl ?_
  refine zk_isubN hc dX5_shift_48 (by omega) ?_
  refine zk_iastN hc 3 rfl (by omega) (by decide) (ws2 := YW g.2.1 a st ds (va_up le f ((le f) - n)) (va_cpy wg wg (((f * 8) + (le f)) - n) ((t * 8) + (le t)) n) te (u 4) (u 5) ck mv mm tg gn wc (u 12) g1 g2 g3) rfl dX5_shift_49 ?_
  refine zk_aload_n hc dX5_shift_50 1 rfl ?_
  refine zk_get hc inlX5 (ci := 5) rfl 0 11 (by decide) mw_2_11 rfl rfl rfl dX5_shift_51 ?_
  refine zk_iload_n hc dX5_shift_54 3 rfl ?_
  refine zk_dup2 hc dX5_shift_55 rfl rfl ?_
  refine zk_ialdN hc 3 rfl (by omega) (by decide) dX5_shift_56 ?_
  refine zk_top (y := nI (le t)) (congrArg nI (by unfold va_up; rw [if_neg (Ne.symm hne)])) ?_
  refine zk_iload_n hc dX5_shift_57 4 rfl ?_
  refine zk_iaddN hc dX5_shift_58 ?_
  refine zk_iastN hc 3 rfl (by omega) (by decide) (ws2 := YW g.2.1 a st ds (va_up (va_up le f ((le f) - n)) t ((le t) + n)) (va_cpy wg wg (((f * 8) + (le f)) - n) ((t * 8) + (le t)) n) te (u 4) (u 5) ck mv mm tg gn wc (u 12) g1 g2 g3) rfl dX5_shift_59 ?_
  exact fin 0 0 _ _ _ (by decide) (by decide) dX5_shift_60 (rfl)

set_option maxHeartbeats 4000000 in
set_option maxRecDepth 100000 in
theorem ct_X5_drive (g : GG) (l : Launch) (a : Nat → Nat) (u st ds le wg : Nat → Nat) (te : Nat → Int32) (ck mv mm tg gn wc g1 g2 g3 : Nat) (hY : YA u st ds le wg) (hG : GU u) (hN : GN u) (f t n : Nat) (ho : okM u f t n) : CtI g l yX5_drive cX5_drive 5 (some .int) (rmK 3 0 0) (YW g.2.1 a st ds le wg te (u 4) (u 5) ck mv mm tg gn wc (u 12) g1 g2 g3) [.ref (a 0), .int (nI f), .int (nI t), .int (nI n)] (fun r W1 => r = nI (mins u f t n) ∧ W1 = YW g.2.1 a st ds (shL le f t n) (shW le wg f t n) (upd (upd te f (-1)) t (-1)) (u 4) (u 5) (ck + mins u f t n) (mv + 1) (mm + mins u f t n) tg gn wc (u 12) g1 g2 g3) := by
  refine CtI.go RX5 rfl (by decide +kernel) (Nat.le_of_ble_eq_true rfl) ?_
  intro p e s m args below meth c A H0 Q hc hnm fin
  obtain ⟨hK4, hC8, hv2, hg3, hm, hdk, h13, h12⟩ := id hG
  obtain ⟨hf, ht, hne, hn1, hn, -⟩ := id ho
  have hfit := (okM_fit ho).1
  have hmf := hm f (by omega)
  have hlf := hY.2.2.1 f hf
  have hlt := hY.2.2.1 t ht
  show KW g p l e (rmK 3 0 0) s m args below meth c 5 A H0 0 0 Q (YW g.2.1 a st ds le wg te (u 4) (u 5) ck mv mm tg gn wc (u 12) g1 g2 g3) [(0, .ref (a 0)), (1, .int (nI f)), (2, .int (nI t)), (3, .int (nI n))] 0 []
  refine zk_aload_n hc dX5_drive_0 0 rfl ?_
  refine zk_iload_n hc dX5_drive_1 1 rfl ?_
  refine zk_iload_n hc dX5_drive_2 2 rfl ?_
  refine zk_iload_n hc dX5_drive_3 3 rfl ?_
  refine zk_callVi hc (rest := []) (ct_X5_minutesOf g l a u st ds le wg te ck mv mm tg gn wc g1 g2 g3 hY hG hN f t n (by omega) (by omega) (by omega)) gg_X5_128 cd_X5_minutesOf ⟨Nat.le_of_ble_eq_true rfl, Nat.le_of_ble_eq_true rfl⟩ ⟨Nat.le_of_ble_eq_true rfl, Nat.le_of_ble_eq_true rfl⟩ ([]) ([]) rfl 0 rfl rfl rfl (Nat.le_of_ble_eq_true rfl) dX5_drive_4 (fun r W1 hp => ?_)
  obtain ⟨rfl, rfl⟩ := hp
  refine zk_ws (ws2 := YW g.2.1 a st ds le wg te (u 4) (u 5) ck mv mm tg gn wc (u 12) g1 g2 g3) rfl ?_
  refine zk_istore hc (lv2 := [(4, .int (nI (mins u f t n))), (0, .ref (a 0)), (1, .int (nI f)), (2, .int (nI t)), (3, .int (nI n))]) dX5_drive_7 (by decide) rfl ?_
  refine zk_aload_n hc dX5_drive_9 1 rfl ?_
  refine zk_iload_n hc dX5_drive_10 2 rfl ?_
  refine zk_iload_n hc dX5_drive_11 3 rfl ?_
  refine zk_iload_n hc dX5_drive_12 4 rfl ?_
  refine zk_callVv hc (rest := []) (ct_X5_shift g l a u st ds le wg te ck mv mm tg gn wc g1 g2 g3 f t n (by omega) (by omega) hne (by omega) (by omega) (by omega)) gg_X5_136 cd_X5_shift ⟨Nat.le_of_ble_eq_true rfl, Nat.le_of_ble_eq_true rfl⟩ ⟨Nat.le_of_ble_eq_true rfl, Nat.le_of_ble_eq_true rfl⟩ ([]) ([]) rfl 0 rfl rfl rfl (Nat.le_of_ble_eq_true rfl) dX5_drive_13 (fun W1 hp => ?_)
  obtain rfl := hp
  refine zk_ws (ws2 := YW g.2.1 a st ds (shL le f t n) (shW le wg f t n) te (u 4) (u 5) ck mv mm tg gn wc (u 12) g1 g2 g3) rfl ?_
  refine zk_aload_n hc dX5_drive_16 1 rfl ?_
  refine zk_get hc inlX5 (ci := 5) rfl 0 12 (by decide) mw_2_12 rfl rfl rfl dX5_drive_17 ?_
  refine zk_iload_n hc dX5_drive_20 2 rfl ?_
  refine zk_iconst hc ((-1)) dX5_drive_21 rfl ?_
  refine zk_iastR hc 4 rfl (by omega) (by decide) (ws2 := YW g.2.1 a st ds (shL le f t n) (shW le wg f t n) (upd te f (-1)) (u 4) (u 5) ck mv mm tg gn wc (u 12) g1 g2 g3) rfl dX5_drive_22 ?_
  refine zk_aload_n hc dX5_drive_23 1 rfl ?_
  refine zk_get hc inlX5 (ci := 5) rfl 0 12 (by decide) mw_2_12 rfl rfl rfl dX5_drive_24 ?_
  refine zk_iload_n hc dX5_drive_27 3 rfl ?_
  refine zk_iconst hc ((-1)) dX5_drive_28 rfl ?_
  refine zk_iastR hc 4 rfl (by omega) (by decide) (ws2 := YW g.2.1 a st ds (shL le f t n) (shW le wg f t n) (upd (upd te f (-1)) t (-1)) (u 4) (u 5) ck mv mm tg gn wc (u 12) g1 g2 g3) rfl dX5_drive_29 ?_
  refine zk_aload_n hc dX5_drive_30 1 rfl ?_
  refine zk_dup hc dX5_drive_31 rfl ?_
  refine zk_get hc inlX5 (ci := 5) rfl 0 2 (by decide) mw_8_10 rfl rfl rfl dX5_drive_32 ?_
  refine zk_iload hc dX5_drive_35 0 rfl ?_
  refine zk_iaddN hc dX5_drive_37 ?_
  refine zk_put hc inlX5 (ci := 5) rfl tyX5 tyX5_ok nmX5 0 2 (by decide) mw_8_10 rfl rfl rfl rfl rfl (Nat.le_of_ble_eq_true rfl) (ws2 := YW g.2.1 a st ds (shL le f t n) (shW le wg f t n) (upd (upd te f (-1)) t (-1)) (u 4) (u 5) (ck + (mins u f t n)) mv mm tg gn wc (u 12) g1 g2 g3) rfl dX5_drive_38 ?_
  refine zk_aload_n hc dX5_drive_41 1 rfl ?_
  refine zk_dup hc dX5_drive_42 rfl ?_
  refine zk_get hc inlX5 (ci := 5) rfl 0 3 (by decide) mw_8_11 rfl rfl rfl dX5_drive_43 ?_
  refine zk_iconst hc (nI 1) dX5_drive_46 rfl ?_
  refine zk_iaddN hc dX5_drive_47 ?_
  refine zk_put hc inlX5 (ci := 5) rfl tyX5 tyX5_ok nmX5 0 3 (by decide) mw_8_11 rfl rfl rfl rfl rfl (Nat.le_of_ble_eq_true rfl) (ws2 := YW g.2.1 a st ds (shL le f t n) (shW le wg f t n) (upd (upd te f (-1)) t (-1)) (u 4) (u 5) (ck + (mins u f t n)) (mv + 1) mm tg gn wc (u 12) g1 g2 g3) rfl dX5_drive_48 ?_
  refine zk_aload_n hc dX5_drive_51 1 rfl ?_
  refine zk_dup hc dX5_drive_52 rfl ?_
  refine zk_get hc inlX5 (ci := 5) rfl 0 4 (by decide) mw_8_12 rfl rfl rfl dX5_drive_53 ?_
  refine zk_iload hc dX5_drive_56 0 rfl ?_
  refine zk_iaddN hc dX5_drive_58 ?_
  refine zk_put hc inlX5 (ci := 5) rfl tyX5 tyX5_ok nmX5 0 4 (by decide) mw_8_12 rfl rfl rfl rfl rfl (Nat.le_of_ble_eq_true rfl) (ws2 := YW g.2.1 a st ds (shL le f t n) (shW le wg f t n) (upd (upd te f (-1)) t (-1)) (u 4) (u 5) (ck + (mins u f t n)) (mv + 1) (mm + (mins u f t n)) tg gn wc (u 12) g1 g2 g3) rfl dX5_drive_59 ?_
  refine zk_iload hc dX5_drive_62 0 rfl ?_
  exact fin 0 0 _ _ _ _ (by decide) (by decide) dX5_drive_64 (⟨rfl, rfl⟩)

set_option maxHeartbeats 4000000 in
set_option maxRecDepth 100000 in
theorem ct_X5_testBrakes (g : GG) (l : Launch) (a : Nat → Nat) (u st ds le wg : Nat → Nat) (te : Nat → Int32) (ck mv mm tg gn wc g1 g2 g3 : Nat) (hY : YA u st ds le wg) (hG : GU u) (hN : GN u) (t : Nat) (ht : t < u 4) : CtI g l yX5_testBrakes cX5_testBrakes 3 (some .int) (rmK 1 0 0) (YW g.2.1 a st ds le wg te (u 4) (u 5) ck mv mm tg gn wc (u 12) g1 g2 g3) [.ref (a 0), .int (nI t)] (fun r W1 => r = nI (u 3 + 2 * mny u t) ∧ W1 = YW g.2.1 a st ds le wg (upd te t (nI (ck + (u 3 + 2 * mny u t)))) (u 4) (u 5) (ck + (u 3 + 2 * mny u t)) mv mm tg gn wc (u 12) g1 g2 g3) := by
  refine CtI.go RX5 rfl (by decide +kernel) (Nat.le_of_ble_eq_true rfl) ?_
  intro p e s m args below meth c A H0 Q hc hnm fin
  obtain ⟨hK4, hC8, hv2, hg3, hm, hdk, h13, h12⟩ := id hG
  show KW g p l e (rmK 1 0 0) s m args below meth c 3 A H0 0 0 Q (YW g.2.1 a st ds le wg te (u 4) (u 5) ck mv mm tg gn wc (u 12) g1 g2 g3) [(0, .ref (a 0)), (1, .int (nI t))] 0 []
  refine zk_aload_n hc dX5_testBrakes_0 0 rfl ?_
  refine zk_get hc inlX5 (ci := 5) rfl 0 9 (by decide) mw_2_9 rfl rfl rfl dX5_testBrakes_1 ?_
  refine zk_iconst hc (nI 3) dX5_testBrakes_4 rfl ?_
  refine zk_ialdN hc 1 rfl (by omega) (by decide) dX5_testBrakes_5 ?_
  refine zk_top (y := nI (u 3)) (yst hY (by omega)) ?_
  refine zk_iconst hc (nI 2) dX5_testBrakes_6 rfl ?_
  refine zk_aload_n hc dX5_testBrakes_7 0 rfl ?_
  refine zk_get hc inlX5 (ci := 5) rfl 0 11 (by decide) mw_2_11 rfl rfl rfl dX5_testBrakes_8 ?_
  refine zk_iload_n hc dX5_testBrakes_11 1 rfl ?_
  refine zk_ialdN hc 3 rfl (by omega) (by decide) dX5_testBrakes_12 ?_
  refine zk_top (y := nI (mny u t)) (yle hY (by omega)) ?_
  refine zk_imulN hc dX5_testBrakes_13 ?_
  refine zk_iaddN hc dX5_testBrakes_14 ?_
  refine zk_istore_n hc (lv2 := [(2, .int (nI ((u 3) + (2 * (mny u t))))), (0, .ref (a 0)), (1, .int (nI t))]) dX5_testBrakes_15 (by decide) rfl ?_
  refine zk_aload_n hc dX5_testBrakes_16 1 rfl ?_
  refine zk_dup hc dX5_testBrakes_17 rfl ?_
  refine zk_get hc inlX5 (ci := 5) rfl 0 2 (by decide) mw_8_10 rfl rfl rfl dX5_testBrakes_18 ?_
  refine zk_iload_n hc dX5_testBrakes_21 0 rfl ?_
  refine zk_iaddN hc dX5_testBrakes_22 ?_
  refine zk_put hc inlX5 (ci := 5) rfl tyX5 tyX5_ok nmX5 0 2 (by decide) mw_8_10 rfl rfl rfl rfl rfl (Nat.le_of_ble_eq_true rfl) (ws2 := YW g.2.1 a st ds le wg te (u 4) (u 5) (ck + ((u 3) + (2 * (mny u t)))) mv mm tg gn wc (u 12) g1 g2 g3) rfl dX5_testBrakes_23 ?_
  refine zk_aload_n hc dX5_testBrakes_26 1 rfl ?_
  refine zk_get hc inlX5 (ci := 5) rfl 0 12 (by decide) mw_2_12 rfl rfl rfl dX5_testBrakes_27 ?_
  refine zk_iload_n hc dX5_testBrakes_30 2 rfl ?_
  refine zk_aload_n hc dX5_testBrakes_31 1 rfl ?_
  refine zk_get hc inlX5 (ci := 5) rfl 0 2 (by decide) mw_8_10 rfl rfl rfl dX5_testBrakes_32 ?_
  refine zk_iastR hc 4 rfl (by omega) (by decide) (ws2 := YW g.2.1 a st ds le wg (upd te t (nI (ck + ((u 3) + (2 * (mny u t)))))) (u 4) (u 5) (ck + ((u 3) + (2 * (mny u t)))) mv mm tg gn wc (u 12) g1 g2 g3) rfl dX5_testBrakes_35 ?_
  refine zk_iload_n hc dX5_testBrakes_36 0 rfl ?_
  exact fin 0 0 _ _ _ _ (by decide) (by decide) dX5_testBrakes_37 (⟨rfl, rfl⟩)

set_option maxHeartbeats 4000000 in
set_option maxRecDepth 100000 in
theorem ct_X5_testHoldsFor (g : GG) (l : Launch) (a : Nat → Nat) (u st ds le wg : Nat → Nat) (te : Nat → Int32) (ck mv mm tg gn wc g1 g2 g3 : Nat) (hY : YA u st ds le wg) (hG : GU u) (hN : GN u) (t : Nat) (ht : t < u 4) (hck : ck = u 6) (hte : te t = if tst u t = 0 then -1 else nI (tat u t)) (h1 : u 1 ≤ 600) (h6 : u 6 < 1073741824) (hta : tat u t ≤ u 6) : CtI g l yX5_testHoldsFor cX5_testHoldsFor 2 (some .int) (rmK 1 0 0) (YW g.2.1 a st ds le wg te (u 4) (u 5) ck mv mm tg gn wc (u 12) g1 g2 g3) [.ref (a 0), .int (nI t)] (fun r W1 => r = nI (hold u t) ∧ W1 = YW g.2.1 a st ds le wg te (u 4) (u 5) ck mv mm tg gn wc (u 12) g1 g2 g3) := by
  refine CtI.go RX5 rfl (by decide +kernel) (Nat.le_of_ble_eq_true rfl) ?_
  intro p e s m args below meth c A H0 Q hc hnm fin
  obtain ⟨hK4, hC8, hv2, hg3, hm, hdk, h13, h12⟩ := id hG
  show KW g p l e (rmK 1 0 0) s m args below meth c 2 A H0 0 0 Q (YW g.2.1 a st ds le wg te (u 4) (u 5) ck mv mm tg gn wc (u 12) g1 g2 g3) [(0, .ref (a 0)), (1, .int (nI t))] 0 []
  refine zk_aload_n hc dX5_testHoldsFor_0 0 rfl ?_
  refine zk_get hc inlX5 (ci := 5) rfl 0 12 (by decide) mw_2_12 rfl rfl rfl dX5_testHoldsFor_1 ?_
  refine zk_iload_n hc dX5_testHoldsFor_4 1 rfl ?_
  refine zk_ialdR hc 4 rfl (by omega) (by decide) dX5_testHoldsFor_5 ?_
  refine zk_iconst hc ((-1)) dX5_testHoldsFor_6 rfl ?_
  refine zk_icmp_ne hc 12 dX5_testHoldsFor_7 (by decide) (fun hm1 => ?_) (fun hm1 => ?_)
  · have hs0 : ¬ tst u t = 0 := fun z => hm1 (hte.trans (if_pos z))
    rw [if_neg hs0] at hte
    refine zk_iconst hc (nI 0) dX5_testHoldsFor_12 rfl ?_
    refine zk_aload_n hc dX5_testHoldsFor_13 0 rfl ?_
    refine zk_get hc inlX5 (ci := 5) rfl 0 9 (by decide) mw_2_9 rfl rfl rfl dX5_testHoldsFor_14 ?_
    refine zk_iconst hc (nI 1) dX5_testHoldsFor_17 rfl ?_
    refine zk_ialdN hc 1 rfl (by omega) (by decide) dX5_testHoldsFor_18 ?_
    refine zk_top (y := nI (u 1)) (yst hY (by omega)) ?_
    refine zk_aload_n hc dX5_testHoldsFor_19 0 rfl ?_
    refine zk_get hc inlX5 (ci := 5) rfl 0 2 (by decide) mw_8_10 rfl rfl rfl dX5_testHoldsFor_20 ?_
    refine zk_top (y := nI (u 6)) (congrArg nI hck) ?_
    refine zk_aload_n hc dX5_testHoldsFor_23 0 rfl ?_
    refine zk_get hc inlX5 (ci := 5) rfl 0 12 (by decide) mw_2_12 rfl rfl rfl dX5_testHoldsFor_24 ?_
    refine zk_iload_n hc dX5_testHoldsFor_27 1 rfl ?_
    refine zk_ialdR hc 4 rfl (by omega) (by decide) dX5_testHoldsFor_28 ?_
    refine zk_top (y := nI (tat u t)) hte ?_
    refine zk_isubN hc dX5_testHoldsFor_29 (by omega) ?_
    refine zk_isub hc dX5_testHoldsFor_30 ?_
    refine zk_max hc mw_13_12 mw_13_13 mw_6_19 mw_13_14 ⟨by decide, by decide, by decide, by decide⟩ (Nat.le_of_ble_eq_true rfl) dX5_testHoldsFor_31 ?_
    refine zk_top (y := nI (u 1 - (u 6 - tat u t))) (max_0 (by omega) (by omega)) ?_
    refine fin 0 0 _ _ _ _ (by decide) (by decide) dX5_testHoldsFor_34 (?_)
    exact ⟨congrArg nI (by unfold hold; rw [if_neg hs0]), rfl⟩
  · have hs0 : tst u t = 0 := by rcases Classical.em (tst u t = 0) with z | z; exact z; rw [if_neg z] at hte; exact absurd (hte.symm.trans hm1) (nI_m1 (by omega))
    refine zk_iconst hc (nI 0) dX5_testHoldsFor_10 rfl ?_
    refine fin 0 0 _ _ _ _ (by decide) (by decide) dX5_testHoldsFor_11 (?_)
    exact ⟨congrArg nI (by unfold hold; rw [if_pos hs0]), rfl⟩

set_option maxHeartbeats 4000000 in
set_option maxRecDepth 100000 in
theorem ct_X5_isForFirst (g : GG) (l : Launch) (a : Nat → Nat) (u st ds le wg : Nat → Nat) (te : Nat → Int32) (ck mv mm tg gn wc g1 g2 g3 : Nat) (hY : YA u st ds le wg) (hG : GU u) (hN : GN u) (hl1 : u 12 ≠ 0) (t k : Nat) (ht : t < u 4) (hk : k < mny u t) : CtI g l yX5_isForFirst cX5_isForFirst 3 (some .boolean) (rmK 2 0 0) (YW g.2.1 a st ds le wg te (u 4) (u 5) ck mv mm tg gn wc (u 12) g1 g2 g3) [.ref (a 0), .int (nI t), .int (nI k)] (fun r W1 => r = (if dst u t k = u 13 then nI 1 else nI 0) ∧ W1 = YW g.2.1 a st ds le wg te (u 4) (u 5) ck mv mm tg gn wc (u 12) g1 g2 g3) := by
  refine CtZ.go RX5 rfl (by decide +kernel) (Nat.le_of_ble_eq_true rfl) ?_
  intro p e s m args below meth c A H0 Q hc hnm fin
  obtain ⟨hK4, hC8, hv2, hg3, hm, hdk, h13, h12⟩ := id hG
  have hmt := hm t (by omega)
  have heb := enc_b hG hN (show t < 4 by omega) (show k < 8 by omega)
  show KW g p l e (rmK 2 0 0) s m args below meth c 3 A H0 0 0 Q (YW g.2.1 a st ds le wg te (u 4) (u 5) ck mv mm tg gn wc (u 12) g1 g2 g3) [(0, .ref (a 0)), (1, .int (nI t)), (2, .int (nI k))] 0 []
  refine zk_aload_n hc dX5_isForFirst_0 0 rfl ?_
  refine zk_iload_n hc dX5_isForFirst_1 1 rfl ?_
  refine zk_iload_n hc dX5_isForFirst_2 2 rfl ?_
  refine zk_callVi hc (rest := []) (ct_X5_wagonAt g l a u st ds le wg te ck mv mm tg gn wc g1 g2 g3 t k (by omega)) gg_X5_78 cd_X5_wagonAt ⟨Nat.le_of_ble_eq_true rfl, Nat.le_of_ble_eq_true rfl⟩ ⟨Nat.le_of_ble_eq_true rfl, Nat.le_of_ble_eq_true rfl⟩ ([]) ([]) rfl 0 rfl rfl rfl (Nat.le_of_ble_eq_true rfl) dX5_isForFirst_3 (fun r W1 hp => ?_)
  obtain ⟨rfl, rfl⟩ := hp
  refine zk_ws (ws2 := YW g.2.1 a st ds le wg te (u 4) (u 5) ck mv mm tg gn wc (u 12) g1 g2 g3) rfl ?_
  refine zk_top (y := nI (enc u t k)) (ywg hY (by omega) (by omega)) ?_
  refine zk_callNi hc (rest := []) (ct_X6_destinationOf g l (enc u t k) heb.1) (host := "ShuntYard") nl_X5_94 mw_7_11 mw_7_10 mw_1_2 cd_X6_destinationOf ⟨Nat.le_of_ble_eq_true rfl, Nat.le_of_ble_eq_true rfl⟩ ⟨Nat.le_of_ble_eq_true rfl, Nat.le_of_ble_eq_true rfl⟩ ([]) (YW g.2.1 a st ds le wg te (u 4) (u 5) ck mv mm tg gn wc (u 12) g1 g2 g3) rfl rfl (Nat.le_of_ble_eq_true rfl) dX5_isForFirst_6 (fun r W1 hp => ?_)
  obtain ⟨rfl, rfl⟩ := hp
  refine zk_ws (ws2 := YW g.2.1 a st ds le wg te (u 4) (u 5) ck mv mm tg gn wc (u 12) g1 g2 g3) rfl ?_
  refine zk_top (y := nI (dst u t k)) (congrArg nI (enc_d heb.2.1 heb.2.2)) ?_
  refine zk_aload_n hc dX5_isForFirst_9 0 rfl ?_
  refine zk_get hc inlX5 (ci := 5) rfl 0 10 (by decide) mw_2_10 rfl rfl rfl dX5_isForFirst_10 ?_
  refine zk_iconst hc (nI 0) dX5_isForFirst_13 rfl ?_
  refine zk_ialdN hc 2 rfl (by omega) (by decide) dX5_isForFirst_14 ?_
  refine zk_top (y := nI (u 13)) (yds hY (by omega)) ?_
  refine zk_icmp_neN hc 22 dX5_isForFirst_15 (by decide) (by omega) (by omega) (fun hd => ?_) (fun hd => ?_)
  · refine zk_iconst hc (nI 0) dX5_isForFirst_22 rfl ?_
    exact fin 0 0 _ _ _ _ (by decide) (by decide) dX5_isForFirst_23 rfl (⟨by rw [if_neg hd], rfl⟩)
  · refine zk_iconst hc (nI 1) dX5_isForFirst_18 rfl ?_
    refine zk_goto hc 23 dX5_isForFirst_19 (by decide) ?_
    exact fin 0 0 _ _ _ _ (by decide) (by decide) dX5_isForFirst_23 rfl (⟨by rw [if_pos hd], rfl⟩)

set_option maxHeartbeats 4000000 in
set_option maxRecDepth 100000 in
theorem ct_X5_forFirstOn (g : GG) (l : Launch) (a : Nat → Nat) (u st ds le wg : Nat → Nat) (te : Nat → Int32) (ck mv mm tg gn wc g1 g2 g3 : Nat) (hY : YA u st ds le wg) (hG : GU u) (hN : GN u) (hl1 : u 12 ≠ 0) (t : Nat) (ht : t < u 4) : CtI g l yX5_forFirstOn cX5_forFirstOn 4 (some .int) (rmK 3 0 0) (YW g.2.1 a st ds le wg te (u 4) (u 5) ck mv mm tg gn wc (u 12) g1 g2 g3) [.ref (a 0), .int (nI t)] (fun r W1 => r = nI (bnt u t) ∧ W1 = YW g.2.1 a st ds le wg te (u 4) (u 5) ck mv mm tg gn wc (u 12) g1 g2 g3) := by
  refine CtI.go RX5 rfl (by decide +kernel) (Nat.le_of_ble_eq_true rfl) ?_
  intro p e s m args below meth c A H0 Q hc hnm fin
  obtain ⟨hK4, hC8, hv2, hg3, hm, hdk, h13, h12⟩ := id hG
  have hmt := hm t (by omega)
  show KW g p l e (rmK 3 0 0) s m args below meth c 4 A H0 0 0 Q (YW g.2.1 a st ds le wg te (u 4) (u 5) ck mv mm tg gn wc (u 12) g1 g2 g3) [(0, .ref (a 0)), (1, .int (nI t))] 0 []
  refine zk_iconst hc (nI 0) dX5_forFirstOn_0 rfl ?_
  refine zk_istore_n hc (lv2 := [(2, .int (nI 0)), (0, .ref (a 0)), (1, .int (nI t))]) dX5_forFirstOn_1 (by decide) rfl ?_
  refine zk_iconst hc (nI 0) dX5_forFirstOn_2 rfl ?_
  refine zk_istore_n hc (lv2 := [(3, .int (nI 0)), (2, .int (nI 0)), (0, .ref (a 0)), (1, .int (nI t))]) dX5_forFirstOn_3 (by decide) rfl ?_
  have loop4 : ∀ (N : Nat) (q : Nat) (x : Nat), mny u t - q < N → (q ≤ mny u t) → (x = bnd u t (u 13) q) → KW g p l e (rmK 3 0 0) s m args below meth c 4 A H0 0 0 Q (YW g.2.1 a st ds le wg te (u 4) (u 5) ck mv mm tg gn wc (u 12) g1 g2 g3) [(0, .ref (a 0)), (1, .int (nI t)), (2, .int (nI x)), (3, .int (nI q))] 4 [] := by
    intro N
    induction N with
    | zero => intro q x hm; exact absurd hm (Nat.not_lt_zero _)
    | succ N ih4 =>
      intro q x hm4 hq hx
      refine zk_iload_n hc dX5_forFirstOn_4 3 rfl ?_
      refine zk_aload_n hc dX5_forFirstOn_5 0 rfl ?_
      refine zk_get hc inlX5 (ci := 5) rfl 0 11 (by decide) mw_2_11 rfl rfl rfl dX5_forFirstOn_6 ?_
      refine zk_iload_n hc dX5_forFirstOn_9 1 rfl ?_
      refine zk_ialdN hc 3 rfl (by omega) (by decide) dX5_forFirstOn_10 ?_
      refine zk_top (y := nI (mny u t)) (yle hY (by omega)) ?_
      refine zk_icmp_geN hc 32 dX5_forFirstOn_11 (by decide) (by omega) (by omega) (fun h_1 => ?_) (fun h_1 => ?_)
      · refine zk_iload_n hc dX5_forFirstOn_32 2 rfl ?_
        refine fin 0 0 _ _ _ _ (by decide) (by decide) dX5_forFirstOn_33 (?_)
        exact ⟨by rw [hx, show q = mny u t by omega]; rfl, rfl⟩
      · refine zk_aload_n hc dX5_forFirstOn_14 0 rfl ?_
        refine zk_iload_n hc dX5_forFirstOn_15 1 rfl ?_
        refine zk_iload_n hc dX5_forFirstOn_16 3 rfl ?_
        refine zk_callVi hc (rest := []) (ct_X5_isForFirst g l a u st ds le wg te ck mv mm tg gn wc g1 g2 g3 hY hG hN hl1 t q (by omega) (by omega)) gg_X5_142 cd_X5_isForFirst ⟨Nat.le_of_ble_eq_true rfl, Nat.le_of_ble_eq_true rfl⟩ ⟨Nat.le_of_ble_eq_true rfl, Nat.le_of_ble_eq_true rfl⟩ ([]) ([]) rfl 0 rfl rfl rfl (Nat.le_of_ble_eq_true rfl) dX5_forFirstOn_17 (fun r W1 hp => ?_)
        obtain ⟨rfl, rfl⟩ := hp
        refine zk_ws (ws2 := YW g.2.1 a st ds le wg te (u 4) (u 5) ck mv mm tg gn wc (u 12) g1 g2 g3) rfl ?_
        by_cases hd : dst u t q = u 13
        · refine zk_top (y := nI 1) (if_pos hd) ?_
          refine zk_if_eqN hc 26 dX5_forFirstOn_20 (by decide) (by omega) (fun h_2 => ?_) (fun h_2 => ?_)
          · exact absurd h_2 (by decide)
          · refine zk_iinc hc (v := nI (x + 1)) (lv2 := [(2, .int (nI (x + 1))), (0, .ref (a 0)), (1, .int (nI t)), (3, .int (nI q))]) dX5_forFirstOn_23 2 rfl (nq_inc rfl) (by decide) rfl ?_
            refine zk_iinc hc (v := nI (q + 1)) (lv2 := [(3, .int (nI (q + 1))), (2, .int (nI (x + 1))), (0, .ref (a 0)), (1, .int (nI t))]) dX5_forFirstOn_26 3 rfl (nq_inc rfl) (by decide) rfl ?_
            refine zk_goto hc 4 dX5_forFirstOn_29 (by decide) ?_
            refine zk_lv [2, 3, 1, 0] (lv2 := [(0, .ref (a 0)), (1, .int (nI t)), (2, .int (nI (x + 1))), (3, .int (nI (q + 1)))]) rfl ?_
            exact ih4 (q + 1) (x + 1) (by omega) (by omega) (by unfold bnd; rw [hx, if_pos hd])
        · refine zk_top (y := nI 0) (if_neg hd) ?_
          refine zk_if_eqN hc 26 dX5_forFirstOn_20 (by decide) (by omega) (fun h_3 => ?_) (fun h_3 => ?_)
          · refine zk_iinc hc (v := nI (q + 1)) (lv2 := [(3, .int (nI (q + 1))), (0, .ref (a 0)), (1, .int (nI t)), (2, .int (nI x))]) dX5_forFirstOn_26 3 rfl (nq_inc rfl) (by decide) rfl ?_
            refine zk_goto hc 4 dX5_forFirstOn_29 (by decide) ?_
            refine zk_lv [1, 2, 3, 0] (lv2 := [(0, .ref (a 0)), (1, .int (nI t)), (2, .int (nI x)), (3, .int (nI (q + 1)))]) rfl ?_
            exact ih4 (q + 1) x (by omega) (by omega) (by unfold bnd; rw [hx, if_neg hd, Nat.add_zero])
          · exact absurd h_3 (by decide)
  refine zk_lv [2, 3, 1, 0] (lv2 := [(0, .ref (a 0)), (1, .int (nI t)), (2, .int (nI 0)), (3, .int (nI 0))]) rfl ?_
  exact loop4 ((mny u t - 0) + 1) 0 0 (Nat.lt_succ_self _) (Nat.zero_le _) rfl

set_option maxHeartbeats 4000000 in
set_option maxRecDepth 100000 in
theorem ct_X5_forFirstInYard (g : GG) (l : Launch) (a : Nat → Nat) (u st ds le wg : Nat → Nat) (te : Nat → Int32) (ck mv mm tg gn wc g1 g2 g3 : Nat) (hY : YA u st ds le wg) (hG : GU u) (hN : GN u) (hl1 : u 12 ≠ 0)  : CtI g l yX5_forFirstInYard cX5_forFirstInYard 3 (some .int) (rmK 4 0 0) (YW g.2.1 a st ds le wg te (u 4) (u 5) ck mv mm tg gn wc (u 12) g1 g2 g3) [.ref (a 0)] (fun r W1 => r = nI (fiy u (u 4)) ∧ W1 = YW g.2.1 a st ds le wg te (u 4) (u 5) ck mv mm tg gn wc (u 12) g1 g2 g3) := by
  refine CtI.go RX5 rfl (by decide +kernel) (Nat.le_of_ble_eq_true rfl) ?_
  intro p e s m args below meth c A H0 Q hc hnm fin
  obtain ⟨hK4, hC8, hv2, hg3, hm, hdk, h13, h12⟩ := id hG
  show KW g p l e (rmK 4 0 0) s m args below meth c 3 A H0 0 0 Q (YW g.2.1 a st ds le wg te (u 4) (u 5) ck mv mm tg gn wc (u 12) g1 g2 g3) [(0, .ref (a 0))] 0 []
  refine zk_iconst hc (nI 0) dX5_forFirstInYard_0 rfl ?_
  refine zk_istore_n hc (lv2 := [(1, .int (nI 0)), (0, .ref (a 0))]) dX5_forFirstInYard_1 (by decide) rfl ?_
  refine zk_iconst hc (nI 0) dX5_forFirstInYard_2 rfl ?_
  refine zk_istore_n hc (lv2 := [(2, .int (nI 0)), (1, .int (nI 0)), (0, .ref (a 0))]) dX5_forFirstInYard_3 (by decide) rfl ?_
  have loop4 : ∀ (N : Nat) (q : Nat) (x : Nat), u 4 - q < N → (q ≤ u 4) → (x = fiy u q) → KW g p l e (rmK 4 0 0) s m args below meth c 3 A H0 0 0 Q (YW g.2.1 a st ds le wg te (u 4) (u 5) ck mv mm tg gn wc (u 12) g1 g2 g3) [(0, .ref (a 0)), (1, .int (nI x)), (2, .int (nI q))] 4 [] := by
    intro N
    induction N with
    | zero => intro q x hm; exact absurd hm (Nat.not_lt_zero _)
    | succ N ih4 =>
      intro q x hm4 hq hx
      refine zk_iload_n hc dX5_forFirstInYard_4 2 rfl ?_
      refine zk_aload_n hc dX5_forFirstInYard_5 0 rfl ?_
      refine zk_get hc inlX5 (ci := 5) rfl 0 0 (by decide) mw_2_6 rfl rfl rfl dX5_forFirstInYard_6 ?_
      refine zk_icmp_geN hc 26 dX5_forFirstInYard_9 (by decide) (by omega) (by omega) (fun h_1 => ?_) (fun h_1 => ?_)
      · refine zk_iload_n hc dX5_forFirstInYard_26 1 rfl ?_
        refine fin 0 0 _ _ _ _ (by decide) (by decide) dX5_forFirstInYard_27 (?_)
        exact ⟨by rw [hx, show q = u 4 by omega], rfl⟩
      · refine zk_iload_n hc dX5_forFirstInYard_12 1 rfl ?_
        refine zk_aload_n hc dX5_forFirstInYard_13 0 rfl ?_
        refine zk_iload_n hc dX5_forFirstInYard_14 2 rfl ?_
        refine zk_callVi hc (rest := [.int (nI x)]) (ct_X5_forFirstOn g l a u st ds le wg te ck mv mm tg gn wc g1 g2 g3 hY hG hN hl1 q (by omega)) gg_X5_146 cd_X5_forFirstOn ⟨Nat.le_of_ble_eq_true rfl, Nat.le_of_ble_eq_true rfl⟩ ⟨Nat.le_of_ble_eq_true rfl, Nat.le_of_ble_eq_true rfl⟩ ([]) ([]) rfl 0 rfl rfl rfl (Nat.le_of_ble_eq_true rfl) dX5_forFirstInYard_15 (fun r W1 hp => ?_)
        obtain ⟨rfl, rfl⟩ := hp
        refine zk_ws (ws2 := YW g.2.1 a st ds le wg te (u 4) (u 5) ck mv mm tg gn wc (u 12) g1 g2 g3) rfl ?_
        refine zk_iaddN hc dX5_forFirstInYard_18 ?_
        refine zk_istore_n hc (lv2 := [(1, .int (nI (x + (bnt u q)))), (0, .ref (a 0)), (2, .int (nI q))]) dX5_forFirstInYard_19 (by decide) rfl ?_
        refine zk_iinc hc (v := nI (q + 1)) (lv2 := [(2, .int (nI (q + 1))), (1, .int (nI (x + (bnt u q)))), (0, .ref (a 0))]) dX5_forFirstInYard_20 2 rfl (nq_inc rfl) (by decide) rfl ?_
        refine zk_goto hc 4 dX5_forFirstInYard_23 (by decide) ?_
        refine zk_lv [2, 1, 0] (lv2 := [(0, .ref (a 0)), (1, .int (nI (x + (bnt u q)))), (2, .int (nI (q + 1)))]) rfl ?_
        exact ih4 (q + 1) (x + (bnt u q)) (by omega) (by omega) (by rw [hx]; rfl)
  refine zk_lv [2, 1, 0] (lv2 := [(0, .ref (a 0)), (1, .int (nI 0)), (2, .int (nI 0))]) rfl ?_
  exact loop4 ((u 4 - 0) + 1) 0 0 (Nat.lt_succ_self _) (Nat.zero_le _) rfl

set_option maxHeartbeats 4000000 in
set_option maxRecDepth 100000 in
theorem ct_X5_refusal (g : GG) (l : Launch) (a : Nat → Nat) (u st ds le wg : Nat → Nat) (te : Nat → Int32) (ck mv mm tg gn wc g1 g2 g3 : Nat) (hY : YA u st ds le wg) (hG : GU u) (hN : GN u) (t : Nat) (ht : t < u 4) (hck : ck = u 6) (hte : te t = if tst u t = 0 then -1 else nI (tat u t)) (h1 : u 1 ≤ 600) (h6 : u 6 < 1073741824) (hta : tat u t ≤ u 6) : CtI g l yX5_refusal cX5_refusal 2 (some .int) (rmK 5 0 0) (YW g.2.1 a st ds le wg te (u 4) (u 5) ck mv mm tg gn wc (u 12) g1 g2 g3) [.ref (a 0), .int (nI t)] (fun r W1 => r = nI (rea u t) ∧ ∃ g4 g5 g6, W1 = YW g.2.1 a st ds le wg te (u 4) (u 5) ck mv mm tg gn wc (u 12) g4 g5 g6) := by
  refine CtI.go RX5 rfl (by decide +kernel) (Nat.le_of_ble_eq_true rfl) ?_
  intro p e s m args below meth c A H0 Q hc hnm fin
  obtain ⟨hK4, hC8, hv2, hg3, hm, hdk, h13, h12⟩ := id hG
  have hmt := hm t (by omega)
  have hbt : bnt u t ≤ mny u t := bnd_le u t (u 13) (mny u t)
  show KW g p l e (rmK 5 0 0) s m args below meth c 2 A H0 0 0 Q (YW g.2.1 a st ds le wg te (u 4) (u 5) ck mv mm tg gn wc (u 12) g1 g2 g3) [(0, .ref (a 0)), (1, .int (nI t))] 0 []
  refine zk_aload_n hc dX5_refusal_0 0 rfl ?_
  refine zk_get hc inlX5 (ci := 5) rfl 0 8 (by decide) mw_7_1 rfl rfl rfl dX5_refusal_1 ?_
  refine zk_if_neN hc 9 dX5_refusal_4 (by decide) (by omega) (fun hl1 => ?_) (fun hl1 => ?_)
  · refine zk_aload_n hc dX5_refusal_9 0 rfl ?_
    refine zk_get hc inlX5 (ci := 5) rfl 0 11 (by decide) mw_2_11 rfl rfl rfl dX5_refusal_10 ?_
    refine zk_iload_n hc dX5_refusal_13 1 rfl ?_
    refine zk_ialdN hc 3 rfl (by omega) (by decide) dX5_refusal_14 ?_
    refine zk_top (y := nI (mny u t)) (yle hY (by omega)) ?_
    refine zk_if_neN hc 20 dX5_refusal_15 (by decide) (by omega) (fun h2 => ?_) (fun h2 => ?_)
    · refine zk_aload_n hc dX5_refusal_20 0 rfl ?_
      refine zk_iload_n hc dX5_refusal_21 1 rfl ?_
      refine zk_callVi hc (rest := []) (ct_X5_forFirstOn g l a u st ds le wg te ck mv mm tg gn wc g1 g2 g3 hY hG hN hl1 t (by omega)) gg_X5_146 cd_X5_forFirstOn ⟨Nat.le_of_ble_eq_true rfl, Nat.le_of_ble_eq_true rfl⟩ ⟨Nat.le_of_ble_eq_true rfl, Nat.le_of_ble_eq_true rfl⟩ ([]) ([]) rfl 0 rfl rfl rfl (Nat.le_of_ble_eq_true rfl) dX5_refusal_22 (fun r W1 hp => ?_)
      obtain ⟨rfl, rfl⟩ := hp
      refine zk_ws (ws2 := YW g.2.1 a st ds le wg te (u 4) (u 5) ck mv mm tg gn wc (u 12) g1 g2 g3) rfl ?_
      refine zk_aload_n hc dX5_refusal_25 0 rfl ?_
      refine zk_get hc inlX5 (ci := 5) rfl 0 11 (by decide) mw_2_11 rfl rfl rfl dX5_refusal_26 ?_
      refine zk_iload_n hc dX5_refusal_29 1 rfl ?_
      refine zk_ialdN hc 3 rfl (by omega) (by decide) dX5_refusal_30 ?_
      refine zk_top (y := nI (mny u t)) (yle hY (by omega)) ?_
      refine zk_icmp_geN hc 36 dX5_refusal_31 (by decide) (by omega) (by omega) (fun h3 => ?_) (fun h3 => ?_)
      · refine zk_aload_n hc dX5_refusal_36 0 rfl ?_
        refine zk_callVi hc (rest := []) (ct_X5_forFirstInYard g l a u st ds le wg te ck mv mm tg gn wc g1 g2 g3 hY hG hN hl1) gg_X5_149 cd_X5_forFirstInYard ⟨Nat.le_of_ble_eq_true rfl, Nat.le_of_ble_eq_true rfl⟩ ⟨Nat.le_of_ble_eq_true rfl, Nat.le_of_ble_eq_true rfl⟩ ([]) ([]) rfl 0 rfl rfl rfl (Nat.le_of_ble_eq_true rfl) dX5_refusal_37 (fun r W1 hp => ?_)
        obtain ⟨rfl, rfl⟩ := hp
        refine zk_ws (ws2 := YW g.2.1 a st ds le wg te (u 4) (u 5) ck mv mm tg gn wc (u 12) g1 g2 g3) rfl ?_
        have hfiy := fiy_le u hm (u 4) hK4
        refine zk_aload_n hc dX5_refusal_40 0 rfl ?_
        refine zk_get hc inlX5 (ci := 5) rfl 0 11 (by decide) mw_2_11 rfl rfl rfl dX5_refusal_41 ?_
        refine zk_iload_n hc dX5_refusal_44 1 rfl ?_
        refine zk_ialdN hc 3 rfl (by omega) (by decide) dX5_refusal_45 ?_
        refine zk_top (y := nI (mny u t)) (yle hY (by omega)) ?_
        refine zk_icmp_leN hc 51 dX5_refusal_46 (by decide) (by omega) (by omega) (fun h4 => ?_) (fun h4 => ?_)
        · refine zk_aload_n hc dX5_refusal_51 0 rfl ?_
          refine zk_iload_n hc dX5_refusal_52 1 rfl ?_
          refine zk_callVi hc (rest := []) (ct_X5_isSafe g l a u st ds le wg te ck mv mm tg gn wc g1 g2 g3 hY hG hN t (by omega)) gg_X5_118 cd_X5_isSafe ⟨Nat.le_of_ble_eq_true rfl, Nat.le_of_ble_eq_true rfl⟩ ⟨Nat.le_of_ble_eq_true rfl, Nat.le_of_ble_eq_true rfl⟩ ([]) ([]) rfl 0 rfl rfl rfl (Nat.le_of_ble_eq_true rfl) dX5_refusal_53 (fun r W1 hp => ?_)
          obtain ⟨rfl, g4z_1, g5z_1, g6z_1, rfl⟩ := hp
          refine zk_ws (ws2 := YW g.2.1 a st ds le wg te (u 4) (u 5) ck mv mm tg gn wc (u 12) g4z_1 g5z_1 g6z_1) rfl ?_
          by_cases hs : u 0 ≤ gap (kds u t (mny u t))
          · refine zk_top (y := nI 1) (if_pos hs) ?_
            refine zk_if_neN hc 61 dX5_refusal_56 (by decide) (by omega) (fun h_2 => ?_) (fun h_2 => ?_)
            · refine zk_aload_n hc dX5_refusal_61 0 rfl ?_
              refine zk_iload_n hc dX5_refusal_62 1 rfl ?_
              refine zk_callVi hc (rest := []) (ct_X5_testHoldsFor g l a u st ds le wg te ck mv mm tg gn wc g4z_1 g5z_1 g6z_1 hY hG hN t (by omega) hck hte h1 h6 hta) gg_X5_153 cd_X5_testHoldsFor ⟨Nat.le_of_ble_eq_true rfl, Nat.le_of_ble_eq_true rfl⟩ ⟨Nat.le_of_ble_eq_true rfl, Nat.le_of_ble_eq_true rfl⟩ ([]) ([]) rfl 0 rfl rfl rfl (Nat.le_of_ble_eq_true rfl) dX5_refusal_63 (fun r W1 hp => ?_)
              obtain ⟨rfl, rfl⟩ := hp
              refine zk_ws (ws2 := YW g.2.1 a st ds le wg te (u 4) (u 5) ck mv mm tg gn wc (u 12) g4z_1 g5z_1 g6z_1) rfl ?_
              refine zk_if_neN hc 74 dX5_refusal_66 (by decide) (by unfold hold; split <;> omega) (fun h8 => ?_) (fun h8 => ?_)
              · refine zk_iconst hc (nI 0) dX5_refusal_74 rfl ?_
                refine fin 0 0 _ _ _ _ (by decide) (by decide) dX5_refusal_75 (?_)
                exact ⟨congrArg nI (by unfold rea; rw [if_neg hl1, if_neg h2, if_neg (Nat.not_lt.mpr h3), if_neg (oth_le (by omega) (by omega) h4), if_neg (not_not_intro hs), if_neg h8]), _, _, _, rfl⟩
              · refine zk_bipush hc (nI 6) dX5_refusal_69 rfl ?_
                refine zk_goto hc 75 dX5_refusal_71 (by decide) ?_
                refine fin 0 0 _ _ _ _ (by decide) (by decide) dX5_refusal_75 (?_)
                exact ⟨congrArg nI (by unfold rea; rw [if_neg hl1, if_neg h2, if_neg (Nat.not_lt.mpr h3), if_neg (oth_le (by omega) (by omega) h4), if_neg (not_not_intro hs), if_pos h8]), _, _, _, rfl⟩
            · exact absurd h_2 (by decide)
          · refine zk_top (y := nI 0) (if_neg hs) ?_
            refine zk_if_neN hc 61 dX5_refusal_56 (by decide) (by omega) (fun h_3 => ?_) (fun h_3 => ?_)
            · exact absurd h_3 (by decide)
            · refine zk_iconst hc (nI 5) dX5_refusal_59 rfl ?_
              refine fin 0 0 _ _ _ _ (by decide) (by decide) dX5_refusal_60 (?_)
              exact ⟨congrArg nI (by unfold rea; rw [if_neg hl1, if_neg h2, if_neg (Nat.not_lt.mpr h3), if_neg (oth_le (by omega) (by omega) h4), if_pos hs]), _, _, _, rfl⟩
        · refine zk_iconst hc (nI 4) dX5_refusal_49 rfl ?_
          refine fin 0 0 _ _ _ _ (by decide) (by decide) dX5_refusal_50 (?_)
          exact ⟨congrArg nI (by unfold rea; rw [if_neg hl1, if_neg h2, if_neg (Nat.not_lt.mpr h3), if_pos (oth_gt (by omega) (by omega) h4)]), _, _, _, rfl⟩
      · refine zk_iconst hc (nI 3) dX5_refusal_34 rfl ?_
        refine fin 0 0 _ _ _ _ (by decide) (by decide) dX5_refusal_35 (?_)
        exact ⟨congrArg nI (by unfold rea; rw [if_neg hl1, if_neg h2, if_pos h3]), _, _, _, rfl⟩
    · refine zk_iconst hc (nI 2) dX5_refusal_18 rfl ?_
      refine fin 0 0 _ _ _ _ (by decide) (by decide) dX5_refusal_19 (?_)
      exact ⟨congrArg nI (by unfold rea; rw [if_neg hl1, if_pos h2]), _, _, _, rfl⟩
  · refine zk_iconst hc (nI 1) dX5_refusal_7 rfl ?_
    refine fin 0 0 _ _ _ _ (by decide) (by decide) dX5_refusal_8 (?_)
    exact ⟨congrArg nI (by unfold rea; rw [if_pos hl1]), _, _, _, rfl⟩

set_option maxHeartbeats 4000000 in
set_option maxRecDepth 100000 in
theorem ct_X5_madeUpTrack (g : GG) (l : Launch) (a : Nat → Nat) (u st ds le wg : Nat → Nat) (te : Nat → Int32) (ck mv mm tg gn wc g1 g2 g3 : Nat) (hY : YA u st ds le wg) (hG : GU u) (hN : GN u)  : CtI g l yX5_madeUpTrack cX5_madeUpTrack 2 (some .int) (rmK 5 0 0) (YW g.2.1 a st ds le wg te (u 4) (u 5) ck mv mm tg gn wc (u 12) g1 g2 g3) [.ref (a 0)] (fun r W1 => r = muf u ∧ W1 = YW g.2.1 a st ds le wg te (u 4) (u 5) ck mv mm tg gn wc (u 12) g1 g2 g3) := by
  refine CtI.go RX5 rfl (by decide +kernel) (Nat.le_of_ble_eq_true rfl) ?_
  intro p e s m args below meth c A H0 Q hc hnm fin
  obtain ⟨hK4, hC8, hv2, hg3, hm, hdk, h13, h12⟩ := id hG
  show KW g p l e (rmK 5 0 0) s m args below meth c 2 A H0 0 0 Q (YW g.2.1 a st ds le wg te (u 4) (u 5) ck mv mm tg gn wc (u 12) g1 g2 g3) [(0, .ref (a 0))] 0 []
  refine zk_aload_n hc dX5_madeUpTrack_0 0 rfl ?_
  refine zk_get hc inlX5 (ci := 5) rfl 0 8 (by decide) mw_7_1 rfl rfl rfl dX5_madeUpTrack_1 ?_
  refine zk_if_neN hc 10 dX5_madeUpTrack_4 (by decide) (by omega) (fun hl1 => ?_) (fun hl1 => ?_)
  · refine zk_iconst hc (nI 0) dX5_madeUpTrack_10 rfl ?_
    refine zk_istore_n hc (lv2 := [(1, .int (nI 0)), (0, .ref (a 0))]) dX5_madeUpTrack_11 (by decide) rfl ?_
    have loop12 : ∀ (N : Nat) (q : Nat), u 4 - q < N → (q ≤ u 4) → (∀ z, z < q → ¬ (0 < mny u z ∧ bnt u z = mny u z)) → KW g p l e (rmK 5 0 0) s m args below meth c 2 A H0 0 0 Q (YW g.2.1 a st ds le wg te (u 4) (u 5) ck mv mm tg gn wc (u 12) g1 g2 g3) [(0, .ref (a 0)), (1, .int (nI q))] 12 [] := by
      intro N
      induction N with
      | zero => intro q hm; exact absurd hm (Nat.not_lt_zero _)
      | succ N ih12 =>
        intro q hm12 hq hno
        refine zk_iload_n hc dX5_madeUpTrack_12 1 rfl ?_
        refine zk_aload_n hc dX5_madeUpTrack_13 0 rfl ?_
        refine zk_get hc inlX5 (ci := 5) rfl 0 0 (by decide) mw_2_6 rfl rfl rfl dX5_madeUpTrack_14 ?_
        refine zk_icmp_geN hc 69 dX5_madeUpTrack_17 (by decide) (by omega) (by omega) (fun h_1 => ?_) (fun h_1 => ?_)
        · refine zk_bipush hc ((-9)) dX5_madeUpTrack_69 rfl ?_
          refine fin 0 0 _ _ _ _ (by decide) (by decide) dX5_madeUpTrack_71 (?_)
          exact ⟨(muf_none hK4 hl1 (fun z hz => hno z (by omega))).symm, rfl⟩
        · refine zk_aload_n hc dX5_madeUpTrack_20 0 rfl ?_
          refine zk_get hc inlX5 (ci := 5) rfl 0 11 (by decide) mw_2_11 rfl rfl rfl dX5_madeUpTrack_21 ?_
          refine zk_iload_n hc dX5_madeUpTrack_24 1 rfl ?_
          refine zk_ialdN hc 3 rfl (by omega) (by decide) dX5_madeUpTrack_25 ?_
          refine zk_top (y := nI (mny u q)) (yle hY (by omega)) ?_
          refine zk_if_leN hc 63 dX5_madeUpTrack_26 (by decide) (by have := hm q (by omega); omega) (fun hp => ?_) (fun hp => ?_)
          · refine zk_iinc hc (v := nI (q + 1)) (lv2 := [(1, .int (nI (q + 1))), (0, .ref (a 0))]) dX5_madeUpTrack_63 1 rfl (nq_inc rfl) (by decide) rfl ?_
            refine zk_goto hc 12 dX5_madeUpTrack_66 (by decide) ?_
            refine zk_lv [1, 0] (lv2 := [(0, .ref (a 0)), (1, .int (nI (q + 1)))]) rfl ?_
            exact ih12 (q + 1) (by omega) (by omega) (fun z hz w => by rcases (show z < q ∨ z = q by omega) with y | y; exact hno z y w; subst y; exact absurd w.1 (by omega))
          · refine zk_aload_n hc dX5_madeUpTrack_29 0 rfl ?_
            refine zk_iload_n hc dX5_madeUpTrack_30 1 rfl ?_
            refine zk_callVi hc (rest := []) (ct_X5_forFirstOn g l a u st ds le wg te ck mv mm tg gn wc g1 g2 g3 hY hG hN hl1 q (by omega)) gg_X5_146 cd_X5_forFirstOn ⟨Nat.le_of_ble_eq_true rfl, Nat.le_of_ble_eq_true rfl⟩ ⟨Nat.le_of_ble_eq_true rfl, Nat.le_of_ble_eq_true rfl⟩ ([]) ([]) rfl 0 rfl rfl rfl (Nat.le_of_ble_eq_true rfl) dX5_madeUpTrack_31 (fun r W1 hp => ?_)
            obtain ⟨rfl, rfl⟩ := hp
            refine zk_ws (ws2 := YW g.2.1 a st ds le wg te (u 4) (u 5) ck mv mm tg gn wc (u 12) g1 g2 g3) rfl ?_
            refine zk_aload_n hc dX5_madeUpTrack_34 0 rfl ?_
            refine zk_get hc inlX5 (ci := 5) rfl 0 11 (by decide) mw_2_11 rfl rfl rfl dX5_madeUpTrack_35 ?_
            refine zk_iload_n hc dX5_madeUpTrack_38 1 rfl ?_
            refine zk_ialdN hc 3 rfl (by omega) (by decide) dX5_madeUpTrack_39 ?_
            refine zk_top (y := nI (mny u q)) (yle hY (by omega)) ?_
            refine zk_icmp_neN hc 63 dX5_madeUpTrack_40 (by decide) (by have := hm q (by omega); have : bnt u q ≤ mny u q := bnd_le u q (u 13) (mny u q); omega) (by have := hm q (by omega); have : bnt u q ≤ mny u q := bnd_le u q (u 13) (mny u q); omega) (fun he2 => ?_) (fun he2 => ?_)
            · refine zk_iinc hc (v := nI (q + 1)) (lv2 := [(1, .int (nI (q + 1))), (0, .ref (a 0))]) dX5_madeUpTrack_63 1 rfl (nq_inc rfl) (by decide) rfl ?_
              refine zk_goto hc 12 dX5_madeUpTrack_66 (by decide) ?_
              refine zk_lv [1, 0] (lv2 := [(0, .ref (a 0)), (1, .int (nI (q + 1)))]) rfl ?_
              exact ih12 (q + 1) (by omega) (by omega) (fun z hz w => by rcases (show z < q ∨ z = q by omega) with y | y; exact hno z y w; subst y; exact he2 w.2)
            · refine zk_aload_n hc dX5_madeUpTrack_43 0 rfl ?_
              refine zk_callVi hc (rest := []) (ct_X5_forFirstInYard g l a u st ds le wg te ck mv mm tg gn wc g1 g2 g3 hY hG hN hl1) gg_X5_149 cd_X5_forFirstInYard ⟨Nat.le_of_ble_eq_true rfl, Nat.le_of_ble_eq_true rfl⟩ ⟨Nat.le_of_ble_eq_true rfl, Nat.le_of_ble_eq_true rfl⟩ ([]) ([]) rfl 0 rfl rfl rfl (Nat.le_of_ble_eq_true rfl) dX5_madeUpTrack_44 (fun r W1 hp => ?_)
              obtain ⟨rfl, rfl⟩ := hp
              refine zk_ws (ws2 := YW g.2.1 a st ds le wg te (u 4) (u 5) ck mv mm tg gn wc (u 12) g1 g2 g3) rfl ?_
              have hfiy := fiy_le u hm (u 4) hK4
              refine zk_aload_n hc dX5_madeUpTrack_47 0 rfl ?_
              refine zk_get hc inlX5 (ci := 5) rfl 0 11 (by decide) mw_2_11 rfl rfl rfl dX5_madeUpTrack_48 ?_
              refine zk_iload_n hc dX5_madeUpTrack_51 1 rfl ?_
              refine zk_ialdN hc 3 rfl (by omega) (by decide) dX5_madeUpTrack_52 ?_
              refine zk_top (y := nI (mny u q)) (yle hY (by omega)) ?_
              refine zk_icmp_neN hc 60 dX5_madeUpTrack_53 (by decide) (by have := hm q (by omega); omega) (by have := hm q (by omega); omega) (fun hfy => ?_) (fun hfy => ?_)
              · refine zk_bipush hc ((-9)) dX5_madeUpTrack_60 rfl ?_
                refine fin 0 0 _ _ _ _ (by decide) (by decide) dX5_madeUpTrack_62 (?_)
                exact ⟨(muf_two hK4 hl1 (by omega) hp he2 (fun z => hfy z)).symm, rfl⟩
              · refine zk_iload_n hc dX5_madeUpTrack_56 1 rfl ?_
                refine zk_goto hc 62 dX5_madeUpTrack_57 (by decide) ?_
                refine fin 0 0 _ _ _ _ (by decide) (by decide) dX5_madeUpTrack_62 (?_)
                exact ⟨(muf_yes hK4 hl1 (by omega) hp he2 hfy).symm, rfl⟩
    refine zk_lv [1, 0] (lv2 := [(0, .ref (a 0)), (1, .int (nI 0))]) rfl ?_
    exact loop12 ((u 4 - 0) + 1) 0 (Nat.lt_succ_self _) (Nat.zero_le _) (fun z hz => absurd hz (Nat.not_lt_zero _))
  · refine zk_bipush hc ((-9)) dX5_madeUpTrack_7 rfl ?_
    refine fin 0 0 _ _ _ _ (by decide) (by decide) dX5_madeUpTrack_9 (?_)
    exact ⟨by unfold muf; rw [if_pos hl1], rfl⟩

set_option maxHeartbeats 4000000 in
set_option maxRecDepth 100000 in
theorem ct_X5_wagonsInYard (g : GG) (l : Launch) (a : Nat → Nat) (u st ds le wg : Nat → Nat) (te : Nat → Int32) (ck mv mm tg gn wc g1 g2 g3 : Nat) (hY : YA u st ds le wg) (hG : GU u) (hN : GN u)  : CtI g l yX5_wagonsInYard cX5_wagonsInYard 3 (some .int) (rmK 1 0 0) (YW g.2.1 a st ds le wg te (u 4) (u 5) ck mv mm tg gn wc (u 12) g1 g2 g3) [.ref (a 0)] (fun r W1 => r = nI (wgs u (u 4)) ∧ W1 = YW g.2.1 a st ds le wg te (u 4) (u 5) ck mv mm tg gn wc (u 12) g1 g2 g3) := by
  refine CtI.go RX5 rfl (by decide +kernel) (Nat.le_of_ble_eq_true rfl) ?_
  intro p e s m args below meth c A H0 Q hc hnm fin
  obtain ⟨hK4, hC8, hv2, hg3, hm, hdk, h13, h12⟩ := id hG
  show KW g p l e (rmK 1 0 0) s m args below meth c 3 A H0 0 0 Q (YW g.2.1 a st ds le wg te (u 4) (u 5) ck mv mm tg gn wc (u 12) g1 g2 g3) [(0, .ref (a 0))] 0 []
  refine zk_iconst hc (nI 0) dX5_wagonsInYard_0 rfl ?_
  refine zk_istore_n hc (lv2 := [(1, .int (nI 0)), (0, .ref (a 0))]) dX5_wagonsInYard_1 (by decide) rfl ?_
  refine zk_iconst hc (nI 0) dX5_wagonsInYard_2 rfl ?_
  refine zk_istore_n hc (lv2 := [(2, .int (nI 0)), (1, .int (nI 0)), (0, .ref (a 0))]) dX5_wagonsInYard_3 (by decide) rfl ?_
  have loop4 : ∀ (N : Nat) (q : Nat) (x : Nat), u 4 - q < N → (q ≤ u 4) → (x = wgs u q) → KW g p l e (rmK 1 0 0) s m args below meth c 3 A H0 0 0 Q (YW g.2.1 a st ds le wg te (u 4) (u 5) ck mv mm tg gn wc (u 12) g1 g2 g3) [(0, .ref (a 0)), (1, .int (nI x)), (2, .int (nI q))] 4 [] := by
    intro N
    induction N with
    | zero => intro q x hm; exact absurd hm (Nat.not_lt_zero _)
    | succ N ih4 =>
      intro q x hm4 hq hx
      refine zk_iload_n hc dX5_wagonsInYard_4 2 rfl ?_
      refine zk_aload_n hc dX5_wagonsInYard_5 0 rfl ?_
      refine zk_get hc inlX5 (ci := 5) rfl 0 0 (by decide) mw_2_6 rfl rfl rfl dX5_wagonsInYard_6 ?_
      refine zk_icmp_geN hc 27 dX5_wagonsInYard_9 (by decide) (by omega) (by omega) (fun h_1 => ?_) (fun h_1 => ?_)
      · refine zk_iload_n hc dX5_wagonsInYard_27 1 rfl ?_
        refine fin 0 0 _ _ _ _ (by decide) (by decide) dX5_wagonsInYard_28 (?_)
        exact ⟨by rw [hx, show q = u 4 by omega], rfl⟩
      · refine zk_iload_n hc dX5_wagonsInYard_12 1 rfl ?_
        refine zk_aload_n hc dX5_wagonsInYard_13 0 rfl ?_
        refine zk_get hc inlX5 (ci := 5) rfl 0 11 (by decide) mw_2_11 rfl rfl rfl dX5_wagonsInYard_14 ?_
        refine zk_iload_n hc dX5_wagonsInYard_17 2 rfl ?_
        refine zk_ialdN hc 3 rfl (by omega) (by decide) dX5_wagonsInYard_18 ?_
        refine zk_top (y := nI (mny u q)) (yle hY (by omega)) ?_
        refine zk_iaddN hc dX5_wagonsInYard_19 ?_
        refine zk_istore_n hc (lv2 := [(1, .int (nI (x + (mny u q)))), (0, .ref (a 0)), (2, .int (nI q))]) dX5_wagonsInYard_20 (by decide) rfl ?_
        refine zk_iinc hc (v := nI (q + 1)) (lv2 := [(2, .int (nI (q + 1))), (1, .int (nI (x + (mny u q)))), (0, .ref (a 0))]) dX5_wagonsInYard_21 2 rfl (nq_inc rfl) (by decide) rfl ?_
        refine zk_goto hc 4 dX5_wagonsInYard_24 (by decide) ?_
        refine zk_lv [2, 1, 0] (lv2 := [(0, .ref (a 0)), (1, .int (nI (x + (mny u q)))), (2, .int (nI (q + 1)))]) rfl ?_
        exact ih4 (q + 1) (x + (mny u q)) (by omega) (by omega) (by rw [hx]; rfl)
  refine zk_lv [2, 1, 0] (lv2 := [(0, .ref (a 0)), (1, .int (nI 0)), (2, .int (nI 0))]) rfl ?_
  exact loop4 ((u 4 - 0) + 1) 0 0 (Nat.lt_succ_self _) (Nat.zero_le _) rfl

set_option maxHeartbeats 4000000 in
set_option maxRecDepth 100000 in
theorem ct_X5_sendOff (g : GG) (l : Launch) (a : Nat → Nat) (u st ds le wg : Nat → Nat) (te : Nat → Int32) (ck mv mm tg gn wc g1 g2 g3 : Nat) (hY : YA u st ds le wg) (hG : GU u) (hN : GN u) (t : Nat) (ht : t < u 4) (hl1 : 1 ≤ u 12) : CtI g l yX5_sendOff cX5_sendOff 3 (some .int) (rmK 1 0 0) (YW g.2.1 a st ds le wg te (u 4) (u 5) ck mv mm tg gn wc (u 12) g1 g2 g3) [.ref (a 0), .int (nI t)] (fun r W1 => r = nI (mny u t) ∧ W1 = YW g.2.1 a st (va_cpy ds ds 1 0 (u 12 - 1)) (va_up le t 0) wg (upd te t (-1)) (u 4) (u 5) ck mv mm (tg + 1) (gn + mny u t) wc (u 12 - 1) g1 g2 g3) := by
  refine CtI.go RX5 rfl (by decide +kernel) (Nat.le_of_ble_eq_true rfl) ?_
  intro p e s m args below meth c A H0 Q hc hnm fin
  obtain ⟨hK4, hC8, hv2, hg3, hm, hdk, h13, h12⟩ := id hG
  show KW g p l e (rmK 1 0 0) s m args below meth c 3 A H0 0 0 Q (YW g.2.1 a st ds le wg te (u 4) (u 5) ck mv mm tg gn wc (u 12) g1 g2 g3) [(0, .ref (a 0)), (1, .int (nI t))] 0 []
  refine zk_aload_n hc dX5_sendOff_0 0 rfl ?_
  refine zk_get hc inlX5 (ci := 5) rfl 0 11 (by decide) mw_2_11 rfl rfl rfl dX5_sendOff_1 ?_
  refine zk_iload_n hc dX5_sendOff_4 1 rfl ?_
  refine zk_ialdN hc 3 rfl (by omega) (by decide) dX5_sendOff_5 ?_
  refine zk_top (y := nI (mny u t)) (yle hY (by omega)) ?_
  refine zk_istore_n hc (lv2 := [(2, .int (nI (mny u t))), (0, .ref (a 0)), (1, .int (nI t))]) dX5_sendOff_6 (by decide) rfl ?_
  refine zk_aload_n hc dX5_sendOff_7 1 rfl ?_
  refine zk_get hc inlX5 (ci := 5) rfl 0 11 (by decide) mw_2_11 rfl rfl rfl dX5_sendOff_8 ?_
  refine zk_iload_n hc dX5_sendOff_11 2 rfl ?_
  refine zk_iconst hc (nI 0) dX5_sendOff_12 rfl ?_
  refine zk_iastN hc 3 rfl (by omega) (by decide) (ws2 := YW g.2.1 a st ds (va_up le t 0) wg te (u 4) (u 5) ck mv mm tg gn wc (u 12) g1 g2 g3) rfl dX5_sendOff_13 ?_
  refine zk_aload_n hc dX5_sendOff_14 1 rfl ?_
  refine zk_get hc inlX5 (ci := 5) rfl 0 12 (by decide) mw_2_12 rfl rfl rfl dX5_sendOff_15 ?_
  refine zk_iload_n hc dX5_sendOff_18 2 rfl ?_
  refine zk_iconst hc ((-1)) dX5_sendOff_19 rfl ?_
  refine zk_iastR hc 4 rfl (by omega) (by decide) (ws2 := YW g.2.1 a st ds (va_up le t 0) wg (upd te t (-1)) (u 4) (u 5) ck mv mm tg gn wc (u 12) g1 g2 g3) rfl dX5_sendOff_20 ?_
  refine zk_aload_n hc dX5_sendOff_21 1 rfl ?_
  refine zk_dup hc dX5_sendOff_22 rfl ?_
  refine zk_get hc inlX5 (ci := 5) rfl 0 5 (by decide) mw_8_13 rfl rfl rfl dX5_sendOff_23 ?_
  refine zk_iconst hc (nI 1) dX5_sendOff_26 rfl ?_
  refine zk_iaddN hc dX5_sendOff_27 ?_
  refine zk_put hc inlX5 (ci := 5) rfl tyX5 tyX5_ok nmX5 0 5 (by decide) mw_8_13 rfl rfl rfl rfl rfl (Nat.le_of_ble_eq_true rfl) (ws2 := YW g.2.1 a st ds (va_up le t 0) wg (upd te t (-1)) (u 4) (u 5) ck mv mm (tg + 1) gn wc (u 12) g1 g2 g3) rfl dX5_sendOff_28 ?_
  refine zk_aload_n hc dX5_sendOff_31 1 rfl ?_
  refine zk_dup hc dX5_sendOff_32 rfl ?_
  refine zk_get hc inlX5 (ci := 5) rfl 0 6 (by decide) mw_8_14 rfl rfl rfl dX5_sendOff_33 ?_
  refine zk_iload_n hc dX5_sendOff_36 0 rfl ?_
  refine zk_iaddN hc dX5_sendOff_37 ?_
  refine zk_put hc inlX5 (ci := 5) rfl tyX5 tyX5_ok nmX5 0 6 (by decide) mw_8_14 rfl rfl rfl rfl rfl (Nat.le_of_ble_eq_true rfl) (ws2 := YW g.2.1 a st ds (va_up le t 0) wg (upd te t (-1)) (u 4) (u 5) ck mv mm (tg + 1) (gn + (mny u t)) wc (u 12) g1 g2 g3) rfl dX5_sendOff_38 ?_
  refine zk_aload_n hc dX5_sendOff_41 1 rfl ?_
  refine zk_dup hc dX5_sendOff_42 rfl ?_
  refine zk_get hc inlX5 (ci := 5) rfl 0 8 (by decide) mw_7_1 rfl rfl rfl dX5_sendOff_43 ?_
  refine zk_iconst hc (nI 1) dX5_sendOff_46 rfl ?_
  refine zk_isubN hc dX5_sendOff_47 (by omega) ?_
  refine zk_put hc inlX5 (ci := 5) rfl tyX5 tyX5_ok nmX5 0 8 (by decide) mw_7_1 rfl rfl rfl rfl rfl (Nat.le_of_ble_eq_true rfl) (ws2 := YW g.2.1 a st ds (va_up le t 0) wg (upd te t (-1)) (u 4) (u 5) ck mv mm (tg + 1) (gn + (mny u t)) wc ((u 12) - 1) g1 g2 g3) rfl dX5_sendOff_48 ?_
  refine zk_aload_n hc dX5_sendOff_51 1 rfl ?_
  refine zk_get hc inlX5 (ci := 5) rfl 0 10 (by decide) mw_2_10 rfl rfl rfl dX5_sendOff_52 ?_
  refine zk_iconst hc (nI 1) dX5_sendOff_55 rfl ?_
  refine zk_aload_n hc dX5_sendOff_56 1 rfl ?_
  refine zk_get hc inlX5 (ci := 5) rfl 0 10 (by decide) mw_2_10 rfl rfl rfl dX5_sendOff_57 ?_
  refine zk_iconst hc (nI 0) dX5_sendOff_60 rfl ?_
  refine zk_aload_n hc dX5_sendOff_61 1 rfl ?_
  refine zk_get hc inlX5 (ci := 5) rfl 0 8 (by decide) mw_7_1 rfl rfl rfl dX5_sendOff_62 ?_
  refine zk_copyN hc mw_8_16 mw_8_17 mw_8_18 mw_8_19 2 2 rfl rfl (by decide) (by decide) (by omega) (by omega) ⟨by decide, by decide⟩ (Nat.le_of_ble_eq_true rfl) (ws2 := YW g.2.1 a st (va_cpy ds ds 1 0 ((u 12) - 1)) (va_up le t 0) wg (upd te t (-1)) (u 4) (u 5) ck mv mm (tg + 1) (gn + (mny u t)) wc ((u 12) - 1) g1 g2 g3) rfl dX5_sendOff_65 ?_
  refine zk_iload_n hc dX5_sendOff_68 0 rfl ?_
  exact fin 0 0 _ _ _ _ (by decide) (by decide) dX5_sendOff_69 (⟨rfl, rfl⟩)

set_option maxHeartbeats 4000000 in
set_option maxRecDepth 100000 in
theorem ct_X5_spotOf (g : GG) (l : Launch) (a : Nat → Nat) (u st ds le wg : Nat → Nat) (te : Nat → Int32) (ck mv mm tg gn wc g1 g2 g3 : Nat) (hY : YA u st ds le wg) (hG : GU u) (hN : GN u) (v : Int32) : CtI g l yX5_spotOf cX5_spotOf 4 (some .int) (rmK 2 0 0) (YW g.2.1 a st ds le wg te (u 4) (u 5) ck mv mm tg gn wc (u 12) g1 g2 g3) [.ref (a 0), .int v] (fun r W1 => r = (match fnT u v (u 4) with | some z => nI (z.1 * 8 + z.2) | none => -9) ∧ W1 = YW g.2.1 a st ds le wg te (u 4) (u 5) ck mv mm tg gn wc (u 12) g1 g2 g3) := by
  refine CtI.go RX5 rfl (by decide +kernel) (Nat.le_of_ble_eq_true rfl) ?_
  intro p e s m args below meth c A H0 Q hc hnm fin
  obtain ⟨hK4, hC8, hv2, hg3, hm, hdk, h13, h12⟩ := id hG
  show KW g p l e (rmK 2 0 0) s m args below meth c 4 A H0 0 0 Q (YW g.2.1 a st ds le wg te (u 4) (u 5) ck mv mm tg gn wc (u 12) g1 g2 g3) [(0, .ref (a 0)), (1, .int v)] 0 []
  refine zk_iconst hc (nI 0) dX5_spotOf_0 rfl ?_
  refine zk_istore_n hc (lv2 := [(2, .int (nI 0)), (0, .ref (a 0)), (1, .int v)]) dX5_spotOf_1 (by decide) rfl ?_
  have loop2 : ∀ (N : Nat) (q : Nat), u 4 - q < N → (q ≤ u 4) → (fnT u v q = none) → KW g p l e (rmK 2 0 0) s m args below meth c 4 A H0 0 0 Q (YW g.2.1 a st ds le wg te (u 4) (u 5) ck mv mm tg gn wc (u 12) g1 g2 g3) [(0, .ref (a 0)), (1, .int v), (2, .int (nI q))] 2 [] := by
    intro N
    induction N with
    | zero => intro q hm; exact absurd hm (Nat.not_lt_zero _)
    | succ N ih2 =>
      intro q hm2 hq hfn
      refine zk_iload_n hc dX5_spotOf_2 2 rfl ?_
      refine zk_aload_n hc dX5_spotOf_3 0 rfl ?_
      refine zk_get hc inlX5 (ci := 5) rfl 0 0 (by decide) mw_2_6 rfl rfl rfl dX5_spotOf_4 ?_
      refine zk_icmp_geN hc 54 dX5_spotOf_7 (by decide) (by omega) (by omega) (fun h_1 => ?_) (fun h_1 => ?_)
      · refine zk_bipush hc ((-9)) dX5_spotOf_54 rfl ?_
        refine fin 0 0 _ _ _ _ (by decide) (by decide) dX5_spotOf_56 (?_)
        exact ⟨by rw [show u 4 = q by omega, hfn], rfl⟩
      · refine zk_iconst hc (nI 0) dX5_spotOf_10 rfl ?_
        refine zk_istore_n hc (lv2 := [(3, .int (nI 0)), (0, .ref (a 0)), (1, .int v), (2, .int (nI q))]) dX5_spotOf_11 (by decide) rfl ?_
        have loop12 : ∀ (N : Nat) (j : Nat), mny u q - j < N → (j ≤ mny u q) → (fnP u v q j = none) → KW g p l e (rmK 2 0 0) s m args below meth c 4 A H0 0 0 Q (YW g.2.1 a st ds le wg te (u 4) (u 5) ck mv mm tg gn wc (u 12) g1 g2 g3) [(0, .ref (a 0)), (1, .int v), (2, .int (nI q)), (3, .int (nI j))] 12 [] := by
          intro N
          induction N with
          | zero => intro j hm; exact absurd hm (Nat.not_lt_zero _)
          | succ N ih12 =>
            intro j hm12 hj hfp
            refine zk_iload_n hc dX5_spotOf_12 3 rfl ?_
            refine zk_aload_n hc dX5_spotOf_13 0 rfl ?_
            refine zk_get hc inlX5 (ci := 5) rfl 0 11 (by decide) mw_2_11 rfl rfl rfl dX5_spotOf_14 ?_
            refine zk_iload_n hc dX5_spotOf_17 2 rfl ?_
            refine zk_ialdN hc 3 rfl (by omega) (by decide) dX5_spotOf_18 ?_
            refine zk_top (y := nI (mny u q)) (yle hY (by omega)) ?_
            refine zk_icmp_geN hc 48 dX5_spotOf_19 (by decide) (by have := hm q (by omega); omega) (by have := hm q (by omega); omega) (fun h_2 => ?_) (fun h_2 => ?_)
            · refine zk_iinc hc (v := nI (q + 1)) (lv2 := [(2, .int (nI (q + 1))), (0, .ref (a 0)), (1, .int v), (3, .int (nI j))]) dX5_spotOf_48 2 rfl (nq_inc rfl) (by decide) rfl ?_
              refine zk_goto hc 2 dX5_spotOf_51 (by decide) ?_
              refine zk_lv [1, 2, 0] (lv2 := [(0, .ref (a 0)), (1, .int v), (2, .int (nI (q + 1)))]) rfl ?_
              exact ih2 (q + 1) (by omega) (by omega) (by unfold fnT; rw [hfn, show mny u q = j by omega, hfp])
            · refine zk_aload_n hc dX5_spotOf_22 0 rfl ?_
              refine zk_iload_n hc dX5_spotOf_23 2 rfl ?_
              refine zk_iload_n hc dX5_spotOf_24 3 rfl ?_
              refine zk_callVi hc (rest := []) (ct_X5_wagonAt g l a u st ds le wg te ck mv mm tg gn wc g1 g2 g3 q j (by have := hm q (by omega); omega)) gg_X5_78 cd_X5_wagonAt ⟨Nat.le_of_ble_eq_true rfl, Nat.le_of_ble_eq_true rfl⟩ ⟨Nat.le_of_ble_eq_true rfl, Nat.le_of_ble_eq_true rfl⟩ ([]) ([]) rfl 0 rfl rfl rfl (Nat.le_of_ble_eq_true rfl) dX5_spotOf_25 (fun r W1 hp => ?_)
              obtain ⟨rfl, rfl⟩ := hp
              refine zk_ws (ws2 := YW g.2.1 a st ds le wg te (u 4) (u 5) ck mv mm tg gn wc (u 12) g1 g2 g3) rfl ?_
              refine zk_top (y := nI (enc u q j)) (ywg hY (by omega) (by omega)) ?_
              refine zk_callNi hc (rest := []) (ct_X6_numberOf g l (enc u q j) (enc_b hG hN (by omega) (by have := hm q (by omega); omega)).1) (host := "ShuntYard") nl_X5_82 mw_19_18 mw_19_17 mw_1_2 cd_X6_numberOf ⟨Nat.le_of_ble_eq_true rfl, Nat.le_of_ble_eq_true rfl⟩ ⟨Nat.le_of_ble_eq_true rfl, Nat.le_of_ble_eq_true rfl⟩ ([]) (YW g.2.1 a st ds le wg te (u 4) (u 5) ck mv mm tg gn wc (u 12) g1 g2 g3) rfl rfl (Nat.le_of_ble_eq_true rfl) dX5_spotOf_28 (fun r W1 hp => ?_)
              obtain ⟨rfl, rfl⟩ := hp
              refine zk_ws (ws2 := YW g.2.1 a st ds le wg te (u 4) (u 5) ck mv mm tg gn wc (u 12) g1 g2 g3) rfl ?_
              refine zk_top (y := nI (num u q j)) (congrArg nI (enc_n (enc_b hG hN (by omega) (by have := hm q (by omega); omega)).2.1 (enc_b hG hN (by omega) (by have := hm q (by omega); omega)).2.2)) ?_
              refine zk_iload_n hc dX5_spotOf_31 1 rfl ?_
              refine zk_icmp_ne hc 42 dX5_spotOf_32 (by decide) (fun hx => ?_) (fun hx => ?_)
              · refine zk_iinc hc (v := nI (j + 1)) (lv2 := [(3, .int (nI (j + 1))), (0, .ref (a 0)), (1, .int v), (2, .int (nI q))]) dX5_spotOf_42 3 rfl (nq_inc rfl) (by decide) rfl ?_
                refine zk_goto hc 12 dX5_spotOf_45 (by decide) ?_
                refine zk_lv [1, 2, 3, 0] (lv2 := [(0, .ref (a 0)), (1, .int v), (2, .int (nI q)), (3, .int (nI (j + 1)))]) rfl ?_
                exact ih12 (j + 1) (by omega) (by omega) (by unfold fnP; rw [hfp]; simp [hx])
              · refine zk_iload_n hc dX5_spotOf_35 2 rfl ?_
                refine zk_bipush hc (nI 8) dX5_spotOf_36 rfl ?_
                refine zk_imulN hc dX5_spotOf_38 ?_
                refine zk_iload_n hc dX5_spotOf_39 3 rfl ?_
                refine zk_iaddN hc dX5_spotOf_40 ?_
                refine fin 0 0 _ _ _ _ (by decide) (by decide) dX5_spotOf_41 (?_)
                exact ⟨by rw [fnT_at (t := q) (j := j) (by omega) hfn (fnP_at (by omega) hfp hx)], rfl⟩
        refine zk_lv [1, 2, 3, 0] (lv2 := [(0, .ref (a 0)), (1, .int v), (2, .int (nI q)), (3, .int (nI 0))]) rfl ?_
        exact loop12 ((mny u q - 0) + 1) 0 (Nat.lt_succ_self _) (Nat.zero_le _) rfl
  refine zk_lv [1, 2, 0] (lv2 := [(0, .ref (a 0)), (1, .int v), (2, .int (nI 0))]) rfl ?_
  exact loop2 ((u 4 - 0) + 1) 0 (Nat.lt_succ_self _) (Nat.zero_le _) rfl
