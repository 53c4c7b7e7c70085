set_option maxHeartbeats 4000000 in
set_option maxRecDepth 100000 in
theorem ct_X7_find (g : GG) (l : Launch) (a : Nat → Nat) (u pa im tx rw rb rk rt he tr be sp : Nat → Nat) (pm fl ln rm rd bn : Nat) (fk fp rs wk wp bm : Int32) (cN : Nat) (hN : cN ≤ 512) (hW : Wf cN u)  (v w : Int32) : CtI g l yX7_find cX7_find 5 (some .int) (rmK 2 0 0) (MW g.2.1 a u pa im tx rw rb rk rt he tr be sp pm fl ln rm rd bn fk fp rs wk wp bm) [.ref (a 0), .int v, .int w] (fun r W1 => r = aFin u v w ∧ ∃ X, W1 = MSW g.2.1 a ((u, pa, pm, im, fl, tx, ln, fk, fp, rs)) X) := by
  refine CtI.go RX7 rfl (by decide +kernel) (Nat.le_of_ble_eq_true rfl) ?_
  intro p e s m args below meth c A H0 Q hc hnm fin
  obtain ⟨⟨hK2, hK4⟩, ⟨hC1, hC8⟩, hg, ⟨hh1, hh2⟩, ⟨hv1, hv2⟩, hs3, hl10, hld, htr, hmC, hwk, hbg⟩ := id hW
  have hm : ∀ t, t < 4 → mny u t ≤ 8 := fun t h => (htr t h).1
  have hm4 : ∀ t, t < u 4 → mny u t ≤ 8 := fun t h => (htr t (by omega)).1
  have hk : ∀ t j, t < 4 → j < 8 → knd u t j < 3 := fun t j h1 h2 => (hwk t j h1 h2).2
  have hd : ∀ t j, t < 4 → j < 8 → dst u t j < 6 := fun t j h1 h2 => (hwk t j h1 h2).1
  have h13 : u 13 < 6 := hld 0 (by omega)
  have h6 : u 6 ≤ 1000 * cN + 600 := hbg 6 (by omega)
  show KW g p l e (rmK 2 0 0) s m args below meth c 5 A H0 0 0 Q (MW g.2.1 a u pa im tx rw rb rk rt he tr be sp pm fl ln rm rd bn fk fp rs wk wp bm) [(0, .ref (a 0)), (1, .int v), (2, .int w)] 0 []
  refine zk_iload_n hc dX7_find_0 1 rfl ?_
  refine zk_if_lt hc 13 dX7_find_1 (by decide) (fun h0 => ?_) (fun h0 => ?_)
  · refine zk_iconst hc ((-1)) dX7_find_13 rfl ?_
    refine fin 0 0 _ _ _ _ (by decide) (by decide) dX7_find_14 (?_)
    exact ⟨by unfold aFin; rw [if_neg (fun z => z.1 h0)], (rw, rb, rk, rt, he, tr, be, sp, rm, rd, bn, wk, wp, bm), by rfl⟩
  · refine zk_iload_n hc dX7_find_4 2 rfl ?_
    refine zk_iconst hc (nI 0) dX7_find_5 rfl ?_
    refine zk_iconst hc (nI 1) dX7_find_6 rfl ?_
    refine zk_callSi hc (rest := []) (ct_X7_isIn g l w (nI 0) (nI 1)) gg_X7_59 cd_X7_isIn ⟨Nat.le_of_ble_eq_true rfl, Nat.le_of_ble_eq_true rfl⟩ ⟨Nat.le_of_ble_eq_true rfl, Nat.le_of_ble_eq_true rfl⟩ ([]) (MW g.2.1 a u pa im tx rw rb rk rt he tr be sp pm fl ln rm rd bn fk fp rs wk wp bm) rfl rfl (Nat.le_of_ble_eq_true rfl) dX7_find_7 (fun r W1 hp => ?_)
    obtain ⟨rfl, rfl⟩ := hp
    refine zk_ws (ws2 := MW g.2.1 a u pa im tx rw rb rk rt he tr be sp pm fl ln rm rd bn fk fp rs wk wp bm) rfl ?_
    by_cases hi : nI 0 ≤ w ∧ w ≤ nI 1
    · refine zk_top (y := nI 1) (if_pos hi) ?_
      obtain ⟨k, k0, k1, rfl⟩ := rngN (by omega) hi
      refine zk_if_neN hc 15 dX7_find_10 (by decide) (by omega) (fun h_1 => ?_) (fun h_1 => ?_)
      · refine zk_iconst hc (nI 0) dX7_find_15 rfl ?_
        refine zk_istore_n hc (lv2 := [(3, .int (nI 0)), (0, .ref (a 0)), (1, .int v), (2, .int (nI k))]) dX7_find_16 (by decide) rfl ?_
        have loop17 : ∀ (N : Nat) (q : Nat), u 4 - q < N → (q ≤ u 4) → (fnT u v q = none) → KW g p l e (rmK 2 0 0) s m args below meth c 5 A H0 0 0 Q (MW g.2.1 a u pa im tx rw rb rk rt he tr be sp pm fl ln rm rd bn fk fp rs wk wp bm) [(0, .ref (a 0)), (1, .int v), (2, .int (nI k)), (3, .int (nI q))] 17 [] := by
          intro N
          induction N with
          | zero => intro q hm; exact absurd hm (Nat.not_lt_zero _)
          | succ N ih17 =>
            intro q hm17 hq hfn
            refine zk_iload_n hc dX7_find_17 3 rfl ?_
            refine zk_aload_n hc dX7_find_18 0 rfl ?_
            refine zk_get hc inlX7 (ci := 7) rfl 0 0 (by decide) mw_4_11 rfl rfl rfl dX7_find_19 ?_
            refine zk_iconst hc (nI 4) dX7_find_22 rfl ?_
            refine zk_ialdN hc 1 rfl (by omega) (by decide) dX7_find_23 ?_
            refine zk_icmp_geN hc 79 dX7_find_24 (by decide) (by omega) (by omega) (fun h_2 => ?_) (fun h_2 => ?_)
            · refine zk_bipush hc ((-9)) dX7_find_79 rfl ?_
              refine fin 0 0 _ _ _ _ (by decide) (by decide) dX7_find_81 (?_)
              exact ⟨by unfold aFin; rw [if_pos ⟨h0, hi⟩, show u 4 = q by omega, hfn], (rw, rb, rk, rt, he, tr, be, sp, rm, rd, bn, wk, wp, bm), by rfl⟩
            · refine zk_iconst hc (nI 0) dX7_find_27 rfl ?_
              refine zk_istore hc (lv2 := [(4, .int (nI 0)), (0, .ref (a 0)), (1, .int v), (2, .int (nI k)), (3, .int (nI q))]) dX7_find_28 (by decide) rfl ?_
              have loop30 : ∀ (N : Nat) (j : Nat), mny u q - j < N → (j ≤ mny u q) → (fnP u v q j = none) → KW g p l e (rmK 2 0 0) s m args below meth c 5 A H0 0 0 Q (MW g.2.1 a u pa im tx rw rb rk rt he tr be sp pm fl ln rm rd bn fk fp rs wk wp bm) [(0, .ref (a 0)), (1, .int v), (2, .int (nI k)), (3, .int (nI q)), (4, .int (nI j))] 30 [] := by
                intro N
                induction N with
                | zero => intro j hm; exact absurd hm (Nat.not_lt_zero _)
                | succ N ih30 =>
                  intro j hm30 hj hfp
                  refine zk_iload hc dX7_find_30 4 rfl ?_
                  refine zk_aload_n hc dX7_find_32 0 rfl ?_
                  refine zk_iload_n hc dX7_find_33 3 rfl ?_
                  refine zk_iconst hc (nI 0) dX7_find_34 rfl ?_
                  refine zk_callVi hc (rest := [.int (nI j)]) (ct_X7_of g l a u pa im tx rw rb rk rt he tr be sp pm fl ln rm rd bn fk fp rs wk wp bm q 0 (by omega)) gg_X7_63 cd_X7_of ⟨Nat.le_of_ble_eq_true rfl, Nat.le_of_ble_eq_true rfl⟩ ⟨Nat.le_of_ble_eq_true rfl, Nat.le_of_ble_eq_true rfl⟩ ([]) ([]) rfl 0 rfl rfl rfl (Nat.le_of_ble_eq_true rfl) dX7_find_35 (fun r W1 hp => ?_)
                  obtain ⟨rfl, rfl⟩ := hp
                  refine zk_ws (ws2 := MW g.2.1 a u pa im tx rw rb rk rt he tr be sp pm fl ln rm rd bn fk fp rs wk wp bm) rfl ?_
                  refine zk_top (y := nI (mny u q)) rfl ?_
                  refine zk_icmp_geN hc 73 dX7_find_38 (by decide) (by have := hm q (by omega); omega) (by have := hm q (by omega); omega) (fun h_3 => ?_) (fun h_3 => ?_)
                  · refine zk_iinc hc (v := nI (q + 1)) (lv2 := [(3, .int (nI (q + 1))), (0, .ref (a 0)), (1, .int v), (2, .int (nI k)), (4, .int (nI j))]) dX7_find_73 3 rfl (nq_inc rfl) (by decide) rfl ?_
                    refine zk_goto hc 17 dX7_find_76 (by decide) ?_
                    refine zk_lv [1, 2, 3, 0] (lv2 := [(0, .ref (a 0)), (1, .int v), (2, .int (nI k)), (3, .int (nI (q + 1)))]) rfl ?_
                    exact ih17 (q + 1) (by omega) (by omega) (by unfold fnT; rw [hfn, show mny u q = j by omega, hfp])
                  · refine zk_aload_n hc dX7_find_41 0 rfl ?_
                    refine zk_iload_n hc dX7_find_42 3 rfl ?_
                    refine zk_iconst hc (nI 3) dX7_find_43 rfl ?_
                    refine zk_iconst hc (nI 3) dX7_find_44 rfl ?_
                    refine zk_iload hc dX7_find_45 4 rfl ?_
                    refine zk_imulN hc dX7_find_47 ?_
                    refine zk_iaddN hc dX7_find_48 ?_
                    refine zk_callVi hc (rest := []) (ct_X7_of g l a u pa im tx rw rb rk rt he tr be sp pm fl ln rm rd bn fk fp rs wk wp bm q (3 + (3 * j)) (by have := hm q (by omega); omega)) gg_X7_63 cd_X7_of ⟨Nat.le_of_ble_eq_true rfl, Nat.le_of_ble_eq_true rfl⟩ ⟨Nat.le_of_ble_eq_true rfl, Nat.le_of_ble_eq_true rfl⟩ ([]) ([]) rfl 0 rfl rfl rfl (Nat.le_of_ble_eq_true rfl) dX7_find_49 (fun r W1 hp => ?_)
                    obtain ⟨rfl, rfl⟩ := hp
                    refine zk_ws (ws2 := MW g.2.1 a u pa im tx rw rb rk rt he tr be sp pm fl ln rm rd bn fk fp rs wk wp bm) rfl ?_
                    refine zk_top (y := nI (num u q j)) rfl ?_
                    refine zk_iload_n hc dX7_find_52 1 rfl ?_
                    refine zk_icmp_ne hc 67 dX7_find_53 (by decide) (fun hx => ?_) (fun hx => ?_)
                    · refine zk_iinc hc (v := nI (j + 1)) (lv2 := [(4, .int (nI (j + 1))), (0, .ref (a 0)), (1, .int v), (2, .int (nI k)), (3, .int (nI q))]) dX7_find_67 4 rfl (nq_inc rfl) (by decide) rfl ?_
                      refine zk_goto hc 30 dX7_find_70 (by decide) ?_
                      refine zk_lv [1, 2, 3, 4, 0] (lv2 := [(0, .ref (a 0)), (1, .int v), (2, .int (nI k)), (3, .int (nI q)), (4, .int (nI (j + 1)))]) rfl ?_
                      exact ih30 (j + 1) (by omega) (by omega) (by unfold fnP; rw [hfp]; simp [hx])
                    · refine zk_iload_n hc dX7_find_56 2 rfl ?_
                      refine zk_if_neN hc 64 dX7_find_57 (by decide) (by omega) (fun hk0 => ?_) (fun hk0 => ?_)
                      · refine zk_iload hc dX7_find_64 4 rfl ?_
                        refine fin 0 0 _ _ _ _ (by decide) (by decide) dX7_find_66 (?_)
                        exact ⟨by unfold aFin; rw [if_pos ⟨h0, hi⟩, fnT_at (t := q) (j := j) (by omega) hfn (fnP_at (by omega) hfp hx)]; show _ = if nI k = 0 then nI q else nI j; rw [if_neg (fun z => hk0 ((nq_eq0 (by omega)).mp z))], (rw, rb, rk, rt, he, tr, be, sp, rm, rd, bn, wk, wp, bm), by rfl⟩
                      · refine zk_iload_n hc dX7_find_60 3 rfl ?_
                        refine zk_goto hc 66 dX7_find_61 (by decide) ?_
                        refine fin 0 0 _ _ _ _ (by decide) (by decide) dX7_find_66 (?_)
                        exact ⟨by unfold aFin; rw [if_pos ⟨h0, hi⟩, fnT_at (t := q) (j := j) (by omega) hfn (fnP_at (by omega) hfp hx)]; show _ = if nI k = 0 then nI q else nI j; rw [if_pos (by rw [hk0]; rfl)], (rw, rb, rk, rt, he, tr, be, sp, rm, rd, bn, wk, wp, bm), by rfl⟩
              refine zk_lv [1, 2, 3, 4, 0] (lv2 := [(0, .ref (a 0)), (1, .int v), (2, .int (nI k)), (3, .int (nI q)), (4, .int (nI 0))]) rfl ?_
              exact loop30 ((mny u q - 0) + 1) 0 (Nat.lt_succ_self _) (Nat.zero_le _) rfl
        refine zk_lv [1, 2, 3, 0] (lv2 := [(0, .ref (a 0)), (1, .int v), (2, .int (nI k)), (3, .int (nI 0))]) rfl ?_
        exact loop17 ((u 4 - 0) + 1) 0 (Nat.lt_succ_self _) (Nat.zero_le _) rfl
      · exact absurd h_1 (by decide)
    · refine zk_top (y := nI 0) (if_neg hi) ?_
      refine zk_if_neN hc 15 dX7_find_10 (by decide) (by omega) (fun h_4 => ?_) (fun h_4 => ?_)
      · exact absurd h_4 (by decide)
      · refine zk_iconst hc ((-1)) dX7_find_13 rfl ?_
        refine fin 0 0 _ _ _ _ (by decide) (by decide) dX7_find_14 (?_)
        exact ⟨by unfold aFin; rw [if_neg (fun z => hi z.2)], (rw, rb, rk, rt, he, tr, be, sp, rm, rd, bn, wk, wp, bm), by rfl⟩
