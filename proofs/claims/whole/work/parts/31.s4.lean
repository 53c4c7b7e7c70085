set_option maxHeartbeats 4000000 in
set_option maxRecDepth 100000 in
theorem ct_X7_cheapest (g : GG) (l : Launch) (a : Nat → Nat) (u pa im tx rw rb rk rt he tr be sp : Nat → Nat) (pm fl ln rm rd bn : Nat) (fk fp rs wk wp bm : Int32) (cN : Nat) (hN : cN ≤ 512) (hW : Wf cN u)  (v w : Int32) : CtI g l yX7_cheapest cX7_cheapest 3 (some .int) (rmK 8 0 0) (MW g.2.1 a u pa im tx rw rb rk rt he tr be sp pm fl ln rm rd bn fk fp rs wk wp bm) [.ref (a 0), .int v, .int w] (fun r W1 => r = aChe u v w ∧ ∃ X, W1 = MSW g.2.1 a ((u, pa, pm, im, fl, tx, ln, fk, fp, rs)) X) := by
  refine CtI.go RX7 rfl (by decide +kernel) (Nat.le_of_ble_eq_true rfl) ?_
  intro p e s m args below meth c A H0 Q hc hnm fin
  obtain ⟨⟨hK2, hK4⟩, ⟨hC1, hC8⟩, hg, ⟨hh1, hh2⟩, ⟨hv1, hv2⟩, hs3, hl10, hld, htr, hmC, hwk, hbg⟩ := id hW
  have hm : ∀ t, t < 4 → mny u t ≤ 8 := fun t h => (htr t h).1
  have hm4 : ∀ t, t < u 4 → mny u t ≤ 8 := fun t h => (htr t (by omega)).1
  have hk : ∀ t j, t < 4 → j < 8 → knd u t j < 3 := fun t j h1 h2 => (hwk t j h1 h2).2
  have hd : ∀ t j, t < 4 → j < 8 → dst u t j < 6 := fun t j h1 h2 => (hwk t j h1 h2).1
  have h13 : u 13 < 6 := hld 0 (by omega)
  have h6 : u 6 ≤ 1000 * cN + 600 := hbg 6 (by omega)
  have hGU := wf_GU hW
  show KW g p l e (rmK 8 0 0) s m args below meth c 3 A H0 0 0 Q (MW g.2.1 a u pa im tx rw rb rk rt he tr be sp pm fl ln rm rd bn fk fp rs wk wp bm) [(0, .ref (a 0)), (1, .int v), (2, .int w)] 0 []
  refine zk_iload_n hc dX7_cheapest_0 1 rfl ?_
  refine zk_iconst hc (nI 0) dX7_cheapest_1 rfl ?_
  refine zk_iconst hc (nI 3) dX7_cheapest_2 rfl ?_
  refine zk_callSi hc (rest := []) (ct_X7_isIn g l v (nI 0) (nI 3)) gg_X7_59 cd_X7_isIn ⟨Nat.le_of_ble_eq_true rfl, Nat.le_of_ble_eq_true rfl⟩ ⟨Nat.le_of_ble_eq_true rfl, Nat.le_of_ble_eq_true rfl⟩ ([]) (MW g.2.1 a u pa im tx rw rb rk rt he tr be sp pm fl ln rm rd bn fk fp rs wk wp bm) rfl rfl (Nat.le_of_ble_eq_true rfl) dX7_cheapest_3 (fun r W1 hp => ?_)
  obtain ⟨rfl, rfl⟩ := hp
  refine zk_ws (ws2 := MW g.2.1 a u pa im tx rw rb rk rt he tr be sp pm fl ln rm rd bn fk fp rs wk wp bm) rfl ?_
  by_cases hi : nI 0 ≤ v ∧ v ≤ nI 3
  · refine zk_top (y := nI 1) (if_pos hi) ?_
    obtain ⟨mo, mo0, mo1, rfl⟩ := rngN (by omega) hi
    refine zk_if_eqN hc 18 dX7_cheapest_6 (by decide) (by omega) (fun h_1 => ?_) (fun h_1 => ?_)
    · exact absurd h_1 (by decide)
    · refine zk_iload_n hc dX7_cheapest_9 2 rfl ?_
      refine zk_iconst hc (nI 0) dX7_cheapest_10 rfl ?_
      refine zk_iconst hc (nI 4) dX7_cheapest_11 rfl ?_
      refine zk_callSi hc (rest := []) (ct_X7_isIn g l w (nI 0) (nI 4)) gg_X7_59 cd_X7_isIn ⟨Nat.le_of_ble_eq_true rfl, Nat.le_of_ble_eq_true rfl⟩ ⟨Nat.le_of_ble_eq_true rfl, Nat.le_of_ble_eq_true rfl⟩ ([]) (MW g.2.1 a u pa im tx rw rb rk rt he tr be sp pm fl ln rm rd bn fk fp rs wk wp bm) rfl rfl (Nat.le_of_ble_eq_true rfl) dX7_cheapest_12 (fun r W1 hp => ?_)
      obtain ⟨rfl, rfl⟩ := hp
      refine zk_ws (ws2 := MW g.2.1 a u pa im tx rw rb rk rt he tr be sp pm fl ln rm rd bn fk fp rs wk wp bm) rfl ?_
      by_cases hj : nI 0 ≤ w ∧ w ≤ nI 4
      · refine zk_top (y := nI 1) (if_pos hj) ?_
        obtain ⟨k, k0, k1, rfl⟩ := rngN (by omega) hj
        refine zk_if_neN hc 20 dX7_cheapest_15 (by decide) (by omega) (fun h_2 => ?_) (fun h_2 => ?_)
        · refine zk_aload_n hc dX7_cheapest_20 0 rfl ?_
          refine zk_iload_n hc dX7_cheapest_21 1 rfl ?_
          refine zk_callVv hc (rest := []) (ct_X7_search g l a u pa im tx rw rb rk rt he tr be sp pm fl ln rm rd bn fk fp rs wk wp bm mo (by omega) hGU hK2) gg_X7_190 cd_X7_search ⟨Nat.le_of_ble_eq_true rfl, Nat.le_of_ble_eq_true rfl⟩ ⟨Nat.le_of_ble_eq_true rfl, Nat.le_of_ble_eq_true rfl⟩ ([]) ([]) rfl 0 rfl rfl rfl (Nat.le_of_ble_eq_true rfl) dX7_cheapest_22 (fun W1 hp => ?_)
          by_cases hv : vis mo u [] 0 none = none
          · obtain ⟨rwy_3, hey_3, try_3, bey_3, spy_3, rmy_3, bny_3, bmy_3, rfl, hB⟩ := hp
            rw [hv] at hB
            obtain ⟨rfl, hbn⟩ := hB
            refine zk_ws (ws2 := MW g.2.1 a u pa im tx rwy_3 rb rk rt hey_3 try_3 bey_3 spy_3 pm fl ln rmy_3 rd bny_3 fk fp rs wk wp (-9)) rfl ?_
            refine zk_aload_n hc dX7_cheapest_25 0 rfl ?_
            refine zk_get hc inlX7 (ci := 7) rfl 0 21 (by decide) mw_23_3 rfl rfl rfl dX7_cheapest_26 ?_
            refine zk_bipush hc ((-9)) dX7_cheapest_29 rfl ?_
            refine zk_icmp_ne hc 37 dX7_cheapest_31 (by decide) (fun h9 => ?_) (fun h9 => ?_)
            · exact absurd rfl h9
            · refine zk_bipush hc ((-9)) dX7_cheapest_34 rfl ?_
              refine fin 0 0 _ _ _ _ (by decide) (by decide) dX7_cheapest_36 (?_)
              exact ⟨by unfold aChe; rw [if_pos ⟨hi, hj⟩, tOf_nI (by omega), tOf_nI (by omega), hv]; rfl, (rwy_3, rb, rk, rt, hey_3, try_3, bey_3, spy_3, rmy_3, rd, bny_3, wk, wp, (-9)), by rfl⟩
          · obtain ⟨rwy_3, hey_3, try_3, bey_3, spy_3, rmy_3, bny_3, bmy_3, rfl, hB⟩ := hp
            obtain ⟨z, hz⟩ := Option.ne_none_iff_exists'.mp hv
            rw [hz] at hB
            obtain ⟨rfl, rfl, hz1, hz2, hz3⟩ := hB
            have hzk := vis_ok hz
            refine zk_ws (ws2 := MW g.2.1 a u pa im tx rwy_3 rb rk rt hey_3 try_3 bey_3 spy_3 pm fl ln rmy_3 rd z.1 fk fp rs wk wp (nI z.2.length)) rfl ?_
            refine zk_aload_n hc dX7_cheapest_25 0 rfl ?_
            refine zk_get hc inlX7 (ci := 7) rfl 0 21 (by decide) mw_23_3 rfl rfl rfl dX7_cheapest_26 ?_
            refine zk_bipush hc ((-9)) dX7_cheapest_29 rfl ?_
            refine zk_icmp_ne hc 37 dX7_cheapest_31 (by decide) (fun h9 => ?_) (fun h9 => ?_)
            · refine zk_iload_n hc dX7_cheapest_37 2 rfl ?_
              refine zk_if_neN hc 48 dX7_cheapest_38 (by decide) (by omega) (fun hk0 => ?_) (fun hk0 => ?_)
              · refine zk_iload_n hc dX7_cheapest_48 2 rfl ?_
                refine zk_iconst hc (nI 1) dX7_cheapest_49 rfl ?_
                refine zk_icmp_neN hc 60 dX7_cheapest_50 (by decide) (by omega) (by omega) (fun hk1 => ?_) (fun hk1 => ?_)
                · refine zk_aload_n hc dX7_cheapest_60 0 rfl ?_
                  refine zk_get hc inlX7 (ci := 7) rfl 0 21 (by decide) mw_23_3 rfl rfl rfl dX7_cheapest_61 ?_
                  refine zk_top (y := nI z.2.length) rfl ?_
                  refine zk_if_neN hc 72 dX7_cheapest_64 (by decide) (by omega) (fun hl0 => ?_) (fun hl0 => ?_)
                  · refine zk_aload_n hc dX7_cheapest_72 0 rfl ?_
                    refine zk_get hc inlX7 (ci := 7) rfl 0 20 (by decide) mw_5_0 rfl rfl rfl dX7_cheapest_73 ?_
                    refine zk_iload_n hc dX7_cheapest_76 2 rfl ?_
                    refine zk_iconst hc (nI 2) dX7_cheapest_77 rfl ?_
                    refine zk_isubN hc dX7_cheapest_78 (by omega) ?_
                    refine zk_ialdN hc 11 rfl (by omega) (by decide) dX7_cheapest_79 ?_
                    refine fin 0 0 _ _ _ _ (by decide) (by decide) dX7_cheapest_80 (?_)
                    exact ⟨by unfold aChe; rw [if_pos ⟨hi, hj⟩, tOf_nI (by omega), tOf_nI (by omega), hz]; exact che_x hk0 hk1 hl0 hz3 (by omega), (rwy_3, rb, rk, rt, hey_3, try_3, bey_3, spy_3, rmy_3, rd, z.1, wk, wp, nI z.2.length), by rfl⟩
                  · refine zk_bipush hc ((-9)) dX7_cheapest_67 rfl ?_
                    refine zk_goto hc 80 dX7_cheapest_69 (by decide) ?_
                    refine fin 0 0 _ _ _ _ (by decide) (by decide) dX7_cheapest_80 (?_)
                    exact ⟨by unfold aChe; rw [if_pos ⟨hi, hj⟩, tOf_nI (by omega), tOf_nI (by omega), hz]; exact (che_0 hk0 hk1 hl0).symm, (rwy_3, rb, rk, rt, hey_3, try_3, bey_3, spy_3, rmy_3, rd, z.1, wk, wp, nI z.2.length), by rfl⟩
                · refine zk_aload_n hc dX7_cheapest_53 0 rfl ?_
                  refine zk_get hc inlX7 (ci := 7) rfl 0 21 (by decide) mw_23_3 rfl rfl rfl dX7_cheapest_54 ?_
                  refine zk_goto hc 80 dX7_cheapest_57 (by decide) ?_
                  refine fin 0 0 _ _ _ _ (by decide) (by decide) dX7_cheapest_80 (?_)
                  exact ⟨by unfold aChe; rw [if_pos ⟨hi, hj⟩, tOf_nI (by omega), tOf_nI (by omega), hz]; subst hk1; rfl, (rwy_3, rb, rk, rt, hey_3, try_3, bey_3, spy_3, rmy_3, rd, z.1, wk, wp, nI z.2.length), by rfl⟩
              · refine zk_aload_n hc dX7_cheapest_41 0 rfl ?_
                refine zk_get hc inlX7 (ci := 7) rfl 0 22 (by decide) mw_23_4 rfl rfl rfl dX7_cheapest_42 ?_
                refine zk_goto hc 80 dX7_cheapest_45 (by decide) ?_
                refine fin 0 0 _ _ _ _ (by decide) (by decide) dX7_cheapest_80 (?_)
                exact ⟨by unfold aChe; rw [if_pos ⟨hi, hj⟩, tOf_nI (by omega), tOf_nI (by omega), hz]; subst hk0; rfl, (rwy_3, rb, rk, rt, hey_3, try_3, bey_3, spy_3, rmy_3, rd, z.1, wk, wp, nI z.2.length), by rfl⟩
            · exact absurd h9 (nI_m9 (by omega))
        · exact absurd h_2 (by decide)
      · refine zk_top (y := nI 0) (if_neg hj) ?_
        refine zk_if_neN hc 20 dX7_cheapest_15 (by decide) (by omega) (fun h_4 => ?_) (fun h_4 => ?_)
        · exact absurd h_4 (by decide)
        · refine zk_iconst hc ((-1)) dX7_cheapest_18 rfl ?_
          refine fin 0 0 _ _ _ _ (by decide) (by decide) dX7_cheapest_19 (?_)
          exact ⟨by unfold aChe; rw [if_neg (fun z => hj z.2)], (rw, rb, rk, rt, he, tr, be, sp, rm, rd, bn, wk, wp, bm), by rfl⟩
  · refine zk_top (y := nI 0) (if_neg hi) ?_
    refine zk_if_eqN hc 18 dX7_cheapest_6 (by decide) (by omega) (fun h_5 => ?_) (fun h_5 => ?_)
    · refine zk_iconst hc ((-1)) dX7_cheapest_18 rfl ?_
      refine fin 0 0 _ _ _ _ (by decide) (by decide) dX7_cheapest_19 (?_)
      exact ⟨by unfold aChe; rw [if_neg (fun z => hi z.1)], (rw, rb, rk, rt, he, tr, be, sp, rm, rd, bn, wk, wp, bm), by rfl⟩
    · exact absurd h_5 (by decide)
set_option maxHeartbeats 4000000 in
set_option maxRecDepth 100000 in
theorem ct_X7_makeUp (g : GG) (l : Launch) (a : Nat → Nat) (u pa im tx rw rb rk rt he tr be sp : Nat → Nat) (pm fl ln rm rd bn : Nat) (fk fp rs wk wp bm : Int32) (cN : Nat) (hN : cN ≤ 512) (hW : Wf cN u) (hpm : pm ≤ 8) (v : Int32) : CtI g l yX7_makeUp cX7_makeUp 4 (some .int) (rmK 8 0 0) (MW g.2.1 a u pa im tx rw rb rk rt he tr be sp pm fl ln rm rd bn fk fp rs wk wp bm) [.ref (a 0), .int v] (fun r W1 => r = aMak u v ∧ ∃ X, W1 = MSW g.2.1 a (nMak (u, pa, pm, im, fl, tx, ln, fk, fp, rs) v) X) := by
  refine CtI.go RX7 rfl (by decide +kernel) (Nat.le_of_ble_eq_true rfl) ?_
  intro p e s m args below meth c A H0 Q hc hnm fin
  obtain ⟨⟨hK2, hK4⟩, ⟨hC1, hC8⟩, hg, ⟨hh1, hh2⟩, ⟨hv1, hv2⟩, hs3, hl10, hld, htr, hmC, hwk, hbg⟩ := id hW
  have hm : ∀ t, t < 4 → mny u t ≤ 8 := fun t h => (htr t h).1
  have hm4 : ∀ t, t < u 4 → mny u t ≤ 8 := fun t h => (htr t (by omega)).1
  have hk : ∀ t j, t < 4 → j < 8 → knd u t j < 3 := fun t j h1 h2 => (hwk t j h1 h2).2
  have hd : ∀ t j, t < 4 → j < 8 → dst u t j < 6 := fun t j h1 h2 => (hwk t j h1 h2).1
  have h13 : u 13 < 6 := hld 0 (by omega)
  have h6 : u 6 ≤ 1000 * cN + 600 := hbg 6 (by omega)
  have hGU := wf_GU hW
  show KW g p l e (rmK 8 0 0) s m args below meth c 4 A H0 0 0 Q (MW g.2.1 a u pa im tx rw rb rk rt he tr be sp pm fl ln rm rd bn fk fp rs wk wp bm) [(0, .ref (a 0)), (1, .int v)] 0 []
  refine zk_iload_n hc dX7_makeUp_0 1 rfl ?_
  refine zk_iconst hc (nI 0) dX7_makeUp_1 rfl ?_
  refine zk_iconst hc (nI 3) dX7_makeUp_2 rfl ?_
  refine zk_callSi hc (rest := []) (ct_X7_isIn g l v (nI 0) (nI 3)) gg_X7_59 cd_X7_isIn ⟨Nat.le_of_ble_eq_true rfl, Nat.le_of_ble_eq_true rfl⟩ ⟨Nat.le_of_ble_eq_true rfl, Nat.le_of_ble_eq_true rfl⟩ ([]) (MW g.2.1 a u pa im tx rw rb rk rt he tr be sp pm fl ln rm rd bn fk fp rs wk wp bm) rfl rfl (Nat.le_of_ble_eq_true rfl) dX7_makeUp_3 (fun r W1 hp => ?_)
  obtain ⟨rfl, rfl⟩ := hp
  refine zk_ws (ws2 := MW g.2.1 a u pa im tx rw rb rk rt he tr be sp pm fl ln rm rd bn fk fp rs wk wp bm) rfl ?_
  by_cases hi : nI 0 ≤ v ∧ v ≤ nI 3
  · refine zk_top (y := nI 1) (if_pos hi) ?_
    obtain ⟨mo, mo0, mo1, rfl⟩ := rngN (by omega) hi
    refine zk_if_neN hc 11 dX7_makeUp_6 (by decide) (by omega) (fun h_1 => ?_) (fun h_1 => ?_)
    · refine zk_aload_n hc dX7_makeUp_11 0 rfl ?_
      refine zk_iload_n hc dX7_makeUp_12 1 rfl ?_
      refine zk_callVv hc (rest := []) (ct_X7_search g l a u pa im tx rw rb rk rt he tr be sp pm fl ln rm rd bn fk fp rs wk wp bm mo (by omega) hGU hK2) gg_X7_190 cd_X7_search ⟨Nat.le_of_ble_eq_true rfl, Nat.le_of_ble_eq_true rfl⟩ ⟨Nat.le_of_ble_eq_true rfl, Nat.le_of_ble_eq_true rfl⟩ ([]) ([]) rfl 0 rfl rfl rfl (Nat.le_of_ble_eq_true rfl) dX7_makeUp_13 (fun W1 hp => ?_)
      by_cases hv : vis mo u [] 0 none = none
      · obtain ⟨rwy_2, hey_2, try_2, bey_2, spy_2, rmy_2, bny_2, bmy_2, rfl, hB⟩ := hp
        rw [hv] at hB
        obtain ⟨rfl, hbn⟩ := hB
        refine zk_ws (ws2 := MW g.2.1 a u pa im tx rwy_2 rb rk rt hey_2 try_2 bey_2 spy_2 pm fl ln rmy_2 rd bny_2 fk fp rs wk wp (-9)) rfl ?_
        refine zk_aload_n hc dX7_makeUp_16 0 rfl ?_
        refine zk_get hc inlX7 (ci := 7) rfl 0 21 (by decide) mw_23_3 rfl rfl rfl dX7_makeUp_17 ?_
        refine zk_bipush hc ((-9)) dX7_makeUp_20 rfl ?_
        refine zk_icmp_ne hc 28 dX7_makeUp_22 (by decide) (fun h9 => ?_) (fun h9 => ?_)
        · exact absurd rfl h9
        · refine zk_bipush hc ((-2)) dX7_makeUp_25 rfl ?_
          refine fin 0 0 _ _ _ _ (by decide) (by decide) dX7_makeUp_27 (?_)
          exact ⟨by unfold aMak; rw [if_pos hi, tOf_nI (by omega), hv]; rfl, (rwy_2, rb, rk, rt, hey_2, try_2, bey_2, spy_2, rmy_2, rd, bny_2, wk, wp, (-9)), by unfold nMak; rw [if_pos hi, tOf_nI (by omega), hv]; rfl⟩
      · obtain ⟨rwy_2, hey_2, try_2, bey_2, spy_2, rmy_2, bny_2, bmy_2, rfl, hB⟩ := hp
        obtain ⟨z, hz⟩ := Option.ne_none_iff_exists'.mp hv
        rw [hz] at hB
        obtain ⟨rfl, rfl, hz1, hz2, hz3⟩ := hB
        have hzk := vis_ok hz
        refine zk_ws (ws2 := MW g.2.1 a u pa im tx rwy_2 rb rk rt hey_2 try_2 bey_2 spy_2 pm fl ln rmy_2 rd z.1 fk fp rs wk wp (nI z.2.length)) rfl ?_
        refine zk_aload_n hc dX7_makeUp_16 0 rfl ?_
        refine zk_get hc inlX7 (ci := 7) rfl 0 21 (by decide) mw_23_3 rfl rfl rfl dX7_makeUp_17 ?_
        refine zk_bipush hc ((-9)) dX7_makeUp_20 rfl ?_
        refine zk_icmp_ne hc 28 dX7_makeUp_22 (by decide) (fun h9 => ?_) (fun h9 => ?_)
        · refine zk_aload_n hc dX7_makeUp_28 0 rfl ?_
          refine zk_callVv hc (rest := []) (ct_X7_remember g l a u pa im tx rwy_2 rb rk rt hey_2 try_2 bey_2 spy_2 pm fl ln rmy_2 rd z.1 fk fp rs wk wp (nI z.2.length) hpm) gg_X7_107 cd_X7_remember ⟨Nat.le_of_ble_eq_true rfl, Nat.le_of_ble_eq_true rfl⟩ ⟨Nat.le_of_ble_eq_true rfl, Nat.le_of_ble_eq_true rfl⟩ ([]) ([]) rfl 0 rfl rfl rfl (Nat.le_of_ble_eq_true rfl) dX7_makeUp_29 (fun W1 hp => ?_)
          obtain rfl := hp
          refine zk_ws (ws2 := MW g.2.1 a u (remP u pa pm) im tx rwy_2 rb rk rt hey_2 try_2 bey_2 spy_2 (remN pm) fl ln rmy_2 rd z.1 fk fp rs wk wp (nI z.2.length)) rfl ?_
          refine zk_iconst hc (nI 0) dX7_makeUp_32 rfl ?_
          refine zk_istore_n hc (lv2 := [(2, .int (nI 0)), (0, .ref (a 0)), (1, .int (nI mo))]) dX7_makeUp_33 (by decide) rfl ?_
          refine zk_ws (ws2 := MW g.2.1 a (rowU u (z.2.take 0)) (remP u pa pm) im tx rwy_2 rb rk rt hey_2 try_2 bey_2 spy_2 (remN pm) fl ln rmy_2 rd z.1 fk fp rs wk wp (nI z.2.length)) (congrArg (fun zz => MW g.2.1 a zz (remP u pa pm) im tx rwy_2 rb rk rt hey_2 try_2 bey_2 spy_2 (remN pm) fl ln rmy_2 rd z.1 fk fp rs wk wp (nI z.2.length)) (show u = rowU u (z.2.take 0) from rfl)) ?_
          have loop34 : ∀ (N : Nat) (q : Nat) (r1 : Nat → Nat) (n1 : Nat), z.2.length - q < N → (q ≤ z.2.length) → KW g p l e (rmK 8 0 0) s m args below meth c 4 A H0 0 0 Q (MW g.2.1 a (rowU u (z.2.take q)) (remP u pa pm) im tx r1 rb rk rt hey_2 try_2 bey_2 spy_2 (remN pm) fl ln n1 rd z.1 fk fp rs wk wp (nI z.2.length)) [(0, .ref (a 0)), (1, .int (nI mo)), (2, .int (nI q))] 34 [] := by
            intro N
            induction N with
            | zero => intro q r1 n1 hm; exact absurd hm (Nat.not_lt_zero _)
            | succ N ih34 =>
              intro q r1 n1 hm34 hq
              refine zk_iload_n hc dX7_makeUp_34 2 rfl ?_
              refine zk_aload_n hc dX7_makeUp_35 0 rfl ?_
              refine zk_get hc inlX7 (ci := 7) rfl 0 21 (by decide) mw_23_3 rfl rfl rfl dX7_makeUp_36 ?_
              refine zk_top (y := nI z.2.length) rfl ?_
              refine zk_icmp_geN hc 114 dX7_makeUp_39 (by decide) (by omega) (by omega) (fun hql => ?_) (fun hql => ?_)
              · refine zk_ws (ws2 := MW g.2.1 a (rowU u z.2) (remP u pa pm) im tx r1 rb rk rt hey_2 try_2 bey_2 spy_2 (remN pm) fl ln n1 rd z.1 fk fp rs wk wp (nI z.2.length)) (congrArg (fun zz => MW g.2.1 a zz (remP u pa pm) im tx r1 rb rk rt hey_2 try_2 bey_2 spy_2 (remN pm) fl ln n1 rd z.1 fk fp rs wk wp (nI z.2.length)) (show rowU u (z.2.take q) = rowU u z.2 from by rw [List.take_of_length_le (by omega)])) ?_
                refine zk_aload_n hc dX7_makeUp_114 0 rfl ?_
                refine zk_get hc inlX7 (ci := 7) rfl 0 22 (by decide) mw_23_4 rfl rfl rfl dX7_makeUp_115 ?_
                refine fin 0 0 _ _ _ _ (by decide) (by decide) dX7_makeUp_118 (?_)
                exact ⟨by unfold aMak; rw [if_pos hi, tOf_nI (by omega), hz]; rfl, (r1, rb, rk, rt, hey_2, try_2, bey_2, spy_2, n1, rd, z.1, wk, wp, nI z.2.length), by unfold nMak; rw [if_pos hi, tOf_nI (by omega), hz]; rfl⟩
              · obtain ⟨x, hx⟩ : ∃ x, z.2[q]? = some x := ⟨_, List.getElem?_eq_getElem hql⟩
                obtain ⟨hx1, hx2, hx3⟩ := hz3 q x hx
                obtain ⟨ho1, ho2, ho3⟩ := okRow_at hzk.1 hx
                have hGq := rowU_GU hGU ho1
                obtain ⟨w1, w2, w3, w4, w5, w6⟩ := id ho2
                have hq4 := hGq.1
                have hfit := okM_fit ho2
                have hq5 := hGq.2.1
                have hmf := hGq.2.2.2.2.1 x.1 (by omega)
                refine zk_aload_n hc dX7_makeUp_42 0 rfl ?_
                refine zk_aload_n hc dX7_makeUp_43 0 rfl ?_
                refine zk_get hc inlX7 (ci := 7) rfl 0 20 (by decide) mw_5_0 rfl rfl rfl dX7_makeUp_44 ?_
                refine zk_iconst hc (nI 3) dX7_makeUp_47 rfl ?_
                refine zk_iload_n hc dX7_makeUp_48 2 rfl ?_
                refine zk_imulN hc dX7_makeUp_49 ?_
                refine zk_ialdN hc 11 rfl (by omega) (by decide) dX7_makeUp_50 ?_
                refine zk_top (y := nI x.1) (congrArg nI hx1) ?_
                refine zk_aload_n hc dX7_makeUp_51 0 rfl ?_
                refine zk_get hc inlX7 (ci := 7) rfl 0 20 (by decide) mw_5_0 rfl rfl rfl dX7_makeUp_52 ?_
                refine zk_iconst hc (nI 3) dX7_makeUp_55 rfl ?_
                refine zk_iload_n hc dX7_makeUp_56 2 rfl ?_
                refine zk_imulN hc dX7_makeUp_57 ?_
                refine zk_iconst hc (nI 1) dX7_makeUp_58 rfl ?_
                refine zk_iaddN hc dX7_makeUp_59 ?_
                refine zk_ialdN hc 11 rfl (by omega) (by decide) dX7_makeUp_60 ?_
                refine zk_top (y := nI x.2.1) (congrArg nI hx2) ?_
                refine zk_aload_n hc dX7_makeUp_61 0 rfl ?_
                refine zk_get hc inlX7 (ci := 7) rfl 0 20 (by decide) mw_5_0 rfl rfl rfl dX7_makeUp_62 ?_
                refine zk_iconst hc (nI 3) dX7_makeUp_65 rfl ?_
                refine zk_iload_n hc dX7_makeUp_66 2 rfl ?_
                refine zk_imulN hc dX7_makeUp_67 ?_
                refine zk_iconst hc (nI 2) dX7_makeUp_68 rfl ?_
                refine zk_iaddN hc dX7_makeUp_69 ?_
                refine zk_ialdN hc 11 rfl (by omega) (by decide) dX7_makeUp_70 ?_
                refine zk_top (y := nI x.2.2) (congrArg nI hx3) ?_
                refine zk_callVi hc (rest := []) (ct_X7_costOf g l a (rowU u (z.2.take q)) (remP u pa pm) im tx r1 rb rk rt hey_2 try_2 bey_2 spy_2 (remN pm) fl ln n1 rd z.1 fk fp rs wk wp (nI z.2.length) x.1 x.2.1 x.2.2 (by omega) (by omega) (by omega) hmf (hGq.2.2.2.2.1 _ (by omega)) hq5 hGq.2.2.1 (fun t j a b => (hGq.2.2.2.2.2.1 t j a b).2) hGq.2.2.2.1) gg_X7_100 cd_X7_costOf ⟨Nat.le_of_ble_eq_true rfl, Nat.le_of_ble_eq_true rfl⟩ ⟨Nat.le_of_ble_eq_true rfl, Nat.le_of_ble_eq_true rfl⟩ ([]) ([]) rfl 0 rfl rfl rfl (Nat.le_of_ble_eq_true rfl) dX7_makeUp_71 (fun r W1 hp => ?_)
                obtain ⟨rfl, r_3, n_4, rfl⟩ := hp
                refine zk_ws (ws2 := MW g.2.1 a (rowU u (z.2.take q)) (remP u pa pm) im tx r_3 rb rk rt hey_2 try_2 bey_2 spy_2 (remN pm) fl ln n_4 rd z.1 fk fp rs wk wp (nI z.2.length)) rfl ?_
                refine zk_top (y := nI (mins (rowU u (z.2.take q)) x.1 x.2.1 x.2.2)) hfit.2 ?_
                refine zk_istore_n hc (lv2 := [(3, .int (nI (mins (rowU u (z.2.take q)) x.1 x.2.1 x.2.2))), (0, .ref (a 0)), (1, .int (nI mo)), (2, .int (nI q))]) dX7_makeUp_74 (by decide) rfl ?_
                refine zk_aload_n hc dX7_makeUp_75 1 rfl ?_
                refine zk_aload_n hc dX7_makeUp_76 1 rfl ?_
                refine zk_get hc inlX7 (ci := 7) rfl 0 20 (by decide) mw_5_0 rfl rfl rfl dX7_makeUp_77 ?_
                refine zk_iconst hc (nI 3) dX7_makeUp_80 rfl ?_
                refine zk_iload_n hc dX7_makeUp_81 3 rfl ?_
                refine zk_imulN hc dX7_makeUp_82 ?_
                refine zk_ialdN hc 11 rfl (by omega) (by decide) dX7_makeUp_83 ?_
                refine zk_top (y := nI x.1) (congrArg nI hx1) ?_
                refine zk_aload_n hc dX7_makeUp_84 1 rfl ?_
                refine zk_get hc inlX7 (ci := 7) rfl 0 20 (by decide) mw_5_0 rfl rfl rfl dX7_makeUp_85 ?_
                refine zk_iconst hc (nI 3) dX7_makeUp_88 rfl ?_
                refine zk_iload_n hc dX7_makeUp_89 3 rfl ?_
                refine zk_imulN hc dX7_makeUp_90 ?_
                refine zk_iconst hc (nI 1) dX7_makeUp_91 rfl ?_
                refine zk_iaddN hc dX7_makeUp_92 ?_
                refine zk_ialdN hc 11 rfl (by omega) (by decide) dX7_makeUp_93 ?_
                refine zk_top (y := nI x.2.1) (congrArg nI hx2) ?_
                refine zk_aload_n hc dX7_makeUp_94 1 rfl ?_
                refine zk_get hc inlX7 (ci := 7) rfl 0 20 (by decide) mw_5_0 rfl rfl rfl dX7_makeUp_95 ?_
                refine zk_iconst hc (nI 3) dX7_makeUp_98 rfl ?_
                refine zk_iload_n hc dX7_makeUp_99 3 rfl ?_
                refine zk_imulN hc dX7_makeUp_100 ?_
                refine zk_iconst hc (nI 2) dX7_makeUp_101 rfl ?_
                refine zk_iaddN hc dX7_makeUp_102 ?_
                refine zk_ialdN hc 11 rfl (by omega) (by decide) dX7_makeUp_103 ?_
                refine zk_top (y := nI x.2.2) (congrArg nI hx3) ?_
                refine zk_iload_n hc dX7_makeUp_104 0 rfl ?_
                refine zk_callVv hc (rest := []) (ct_X7_carry g l a (rowU u (z.2.take q)) (remP u pa pm) im tx r_3 rb rk rt hey_2 try_2 bey_2 spy_2 (remN pm) fl ln n_4 rd z.1 fk fp rs wk wp (nI z.2.length) x.1 x.2.1 x.2.2 (mins (rowU u (z.2.take q)) x.1 x.2.1 x.2.2) (by omega) (by omega) w3 w5 hmf (by omega)) gg_X7_110 cd_X7_carry ⟨Nat.le_of_ble_eq_true rfl, Nat.le_of_ble_eq_true rfl⟩ ⟨Nat.le_of_ble_eq_true rfl, Nat.le_of_ble_eq_true rfl⟩ ([]) ([]) rfl 0 rfl rfl rfl (Nat.le_of_ble_eq_true rfl) dX7_makeUp_105 (fun W1 hp => ?_)
                obtain rfl := hp
                refine zk_ws (ws2 := MW g.2.1 a (carU (rowU u (z.2.take q)) x.1 x.2.1 x.2.2 (mins (rowU u (z.2.take q)) x.1 x.2.1 x.2.2)) (remP u pa pm) im tx r_3 rb rk rt hey_2 try_2 bey_2 spy_2 (remN pm) fl ln n_4 rd z.1 fk fp rs wk wp (nI z.2.length)) rfl ?_
                refine zk_ws (ws2 := MW g.2.1 a (rowU u (z.2.take (q + 1))) (remP u pa pm) im tx r_3 rb rk rt hey_2 try_2 bey_2 spy_2 (remN pm) fl ln n_4 rd z.1 fk fp rs wk wp (nI z.2.length)) (congrArg (fun zz => MW g.2.1 a zz (remP u pa pm) im tx r_3 rb rk rt hey_2 try_2 bey_2 spy_2 (remN pm) fl ln n_4 rd z.1 fk fp rs wk wp (nI z.2.length)) (show carU (rowU u (z.2.take q)) x.1 x.2.1 x.2.2 (mins (rowU u (z.2.take q)) x.1 x.2.1 x.2.2) = rowU u (z.2.take (q + 1)) from ho3.symm)) ?_
                refine zk_iinc hc (v := nI (q + 1)) (lv2 := [(2, .int (nI (q + 1))), (3, .int (nI (mins (rowU u (z.2.take q)) x.1 x.2.1 x.2.2))), (0, .ref (a 0)), (1, .int (nI mo))]) dX7_makeUp_108 3 rfl (nq_inc rfl) (by decide) rfl ?_
                refine zk_goto hc 34 dX7_makeUp_111 (by decide) ?_
                refine zk_lv [2, 3, 0] (lv2 := [(0, .ref (a 0)), (1, .int (nI mo)), (2, .int (nI (q + 1)))]) rfl ?_
                exact ih34 (q + 1) r_3 n_4 (by omega) (by omega)
          refine zk_lv [1, 2, 0] (lv2 := [(0, .ref (a 0)), (1, .int (nI mo)), (2, .int (nI 0))]) rfl ?_
          exact loop34 ((z.2.length - 0) + 1) 0 rwy_2 rmy_2 (Nat.lt_succ_self _) (Nat.zero_le _)
        · exact absurd h9 (nI_m9 (by omega))
    · exact absurd h_1 (by decide)
  · refine zk_top (y := nI 0) (if_neg hi) ?_
    refine zk_if_neN hc 11 dX7_makeUp_6 (by decide) (by omega) (fun h_5 => ?_) (fun h_5 => ?_)
    · exact absurd h_5 (by decide)
    · refine zk_iconst hc ((-1)) dX7_makeUp_9 rfl ?_
      refine fin 0 0 _ _ _ _ (by decide) (by decide) dX7_makeUp_10 (?_)
      exact ⟨by unfold aMak; rw [if_neg hi], (rw, rb, rk, rt, he, tr, be, sp, rm, rd, bn, wk, wp, bm), by unfold nMak; rw [if_neg hi]; rfl⟩
