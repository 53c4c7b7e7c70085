set_option maxHeartbeats 4000000 in
set_option maxRecDepth 100000 in
theorem ct_X7_arrive (g : GG) (l : Launch) (a : Nat → Nat) (u pa im tx rw rb rk rt he tr be sp : Nat → Nat) (pm fl ln rm rd bn : Nat) (fk fp rs wk wp bm : Int32) (cN : Nat) (hN : cN ≤ 512) (hW : Wf cN u) (hpm : pm ≤ 8) (hln : ln ≤ 60) (htx : ∀ j, j < ln → tx j < 128) (v : Int32) : CtI g l yX7_arrive cX7_arrive 4 (some .int) (rmK 5 0 0) (MW g.2.1 a u pa im tx rw rb rk rt he tr be sp pm fl ln rm rd bn fk fp rs wk wp bm) [.ref (a 0), .int v] (fun r W1 => r = aArr u tx ln v ∧ ∃ X, W1 = MSW g.2.1 a (nArr (u, pa, pm, im, fl, tx, ln, fk, fp, rs) v) X) := by
  refine CtI.go RX7 rfl (by decide +kernel) (Nat.le_of_ble_eq_true rfl) ?_
  intro p e s m args below meth c A H0 Q hc hnm fin
  obtain ⟨⟨hK2, hK4⟩, ⟨hC1, hC8⟩, hg, ⟨hh1, hh2⟩, ⟨hv1, hv2⟩, hs3, hl10, hld, htr, hmC, hwk, hbg⟩ := id hW
  have hm : ∀ t, t < 4 → mny u t ≤ 8 := fun t h => (htr t h).1
  have hm4 : ∀ t, t < u 4 → mny u t ≤ 8 := fun t h => (htr t (by omega)).1
  have hk : ∀ t j, t < 4 → j < 8 → knd u t j < 3 := fun t j h1 h2 => (hwk t j h1 h2).2
  have hd : ∀ t j, t < 4 → j < 8 → dst u t j < 6 := fun t j h1 h2 => (hwk t j h1 h2).1
  have h13 : u 13 < 6 := hld 0 (by omega)
  have h6 : u 6 ≤ 1000 * cN + 600 := hbg 6 (by omega)
  show KW g p l e (rmK 5 0 0) s m args below meth c 4 A H0 0 0 Q (MW g.2.1 a u pa im tx rw rb rk rt he tr be sp pm fl ln rm rd bn fk fp rs wk wp bm) [(0, .ref (a 0)), (1, .int v)] 0 []
  refine zk_aload_n hc dX7_arrive_0 0 rfl ?_
  refine zk_iload_n hc dX7_arrive_1 1 rfl ?_
  refine zk_callVi hc (rest := []) (ct_X7_isTrack g l a u pa im tx rw rb rk rt he tr be sp pm fl ln rm rd bn fk fp rs wk wp bm v (by omega)) gg_X7_89 cd_X7_isTrack ⟨Nat.le_of_ble_eq_true rfl, Nat.le_of_ble_eq_true rfl⟩ ⟨Nat.le_of_ble_eq_true rfl, Nat.le_of_ble_eq_true rfl⟩ ([]) ([]) rfl 0 rfl rfl rfl (Nat.le_of_ble_eq_true rfl) dX7_arrive_2 (fun r W1 hp => ?_)
  obtain ⟨rfl, rfl⟩ := hp
  refine zk_ws (ws2 := MW g.2.1 a u pa im tx rw rb rk rt he tr be sp pm fl ln rm rd bn fk fp rs wk wp bm) rfl ?_
  by_cases hi : nI 0 ≤ v ∧ v ≤ nI (u 4 - 1)
  · refine zk_top (y := nI 1) (if_pos hi) ?_
    obtain ⟨t, t0, t1, rfl⟩ := rngN (by omega) hi
    refine zk_if_neN hc 10 dX7_arrive_5 (by decide) (by omega) (fun h_1 => ?_) (fun h_1 => ?_)
    · refine zk_aload_n hc dX7_arrive_10 0 rfl ?_
      refine zk_callVv hc (rest := []) (ct_X7_readWagons g l a u pa im tx rw rb rk rt he tr be sp pm fl ln rm rd bn fk fp rs wk wp bm hln htx) gg_X7_148 cd_X7_readWagons ⟨Nat.le_of_ble_eq_true rfl, Nat.le_of_ble_eq_true rfl⟩ ⟨Nat.le_of_ble_eq_true rfl, Nat.le_of_ble_eq_true rfl⟩ ([]) ([]) rfl 0 rfl rfl rfl (Nat.le_of_ble_eq_true rfl) dX7_arrive_11 (fun W1 hp => ?_)
      obtain ⟨nq_2, bq_2, kq_2, vq_2, wq_2, rfl, hq_2⟩ := hp
      obtain ⟨hn1, hBK, hn8, hv1, hw1⟩ := hq_2
      subst hn1
      subst hv1
      subst hw1
      refine zk_ws (ws2 := MW g.2.1 a u pa im tx rw bq_2 kq_2 rt he tr be sp pm fl ln rm (rdN tx ln) bn fk fp rs (wkE (rdE tx ln)) (wpE (rdE tx ln) (rdP tx ln)) bm) rfl ?_
      refine zk_aload_n hc dX7_arrive_14 0 rfl ?_
      refine zk_callVi hc (rest := []) (ct_X7_hasFault g l a u pa im tx rw bq_2 kq_2 rt he tr be sp pm fl ln rm (rdN tx ln) bn fk fp rs (wkE (rdE tx ln)) (wpE (rdE tx ln) (rdP tx ln)) bm) gg_X7_151 cd_X7_hasFault ⟨Nat.le_of_ble_eq_true rfl, Nat.le_of_ble_eq_true rfl⟩ ⟨Nat.le_of_ble_eq_true rfl, Nat.le_of_ble_eq_true rfl⟩ ([]) ([]) rfl 0 rfl rfl rfl (Nat.le_of_ble_eq_true rfl) dX7_arrive_15 (fun r W1 hp => ?_)
      obtain ⟨rfl, rfl⟩ := hp
      refine zk_ws (ws2 := MW g.2.1 a u pa im tx rw bq_2 kq_2 rt he tr be sp pm fl ln rm (rdN tx ln) bn (if ¬ wkE (rdE tx ln) = -9 then wkE (rdE tx ln) else fk) (if ¬ wkE (rdE tx ln) = -9 then wpE (rdE tx ln) (rdP tx ln) else fp) rs (wkE (rdE tx ln)) (wpE (rdE tx ln) (rdP tx ln)) bm) rfl ?_
      by_cases hE : ¬ wkE (rdE tx ln) = -9
      · refine zk_top (y := nI 1) (if_pos hE) ?_
        have hE0 : rdE tx ln ≠ 0 := fun z => hE ((wkE_9 (rd_b tx ln).1).mpr z)
        refine zk_ws (ws2 := MW g.2.1 a u pa im tx rw bq_2 kq_2 rt he tr be sp pm fl ln rm (rdN tx ln) bn (nI (rdE tx ln)) (nI (rdP tx ln)) rs (wkE (rdE tx ln)) (wpE (rdE tx ln) (rdP tx ln)) bm) (by rw [if_pos hE, if_pos hE, wkE_ne hE0, wpE_ne hE0]) ?_
        refine zk_if_eqN hc 24 dX7_arrive_18 (by decide) (by omega) (fun h_3 => ?_) (fun h_3 => ?_)
        · exact absurd h_3 (by decide)
        · refine zk_bipush hc ((-2)) dX7_arrive_21 rfl ?_
          refine fin 0 0 _ _ _ _ (by decide) (by decide) dX7_arrive_23 (?_)
          exact ⟨by unfold aArr; rw [if_pos hi, tOf_nI (by omega), if_pos hE0], (rw, bq_2, kq_2, rt, he, tr, be, sp, rm, rdN tx ln, bn, wkE (rdE tx ln), wpE (rdE tx ln) (rdP tx ln), bm), by unfold nArr; rw [if_pos hi, tOf_nI (by omega)]; dsimp only; rw [if_pos hE0]; rfl⟩
      · refine zk_top (y := nI 0) (if_neg hE) ?_
        have hE0 : rdE tx ln = 0 := (wkE_9 (rd_b tx ln).1).mp (by rcases Classical.em (wkE (rdE tx ln) = -9) with z | z; exact z; exact absurd z hE)
        refine zk_ws (ws2 := MW g.2.1 a u pa im tx rw bq_2 kq_2 rt he tr be sp pm fl ln rm (rdN tx ln) bn fk fp rs (wkE (rdE tx ln)) (wpE (rdE tx ln) (rdP tx ln)) bm) (by rw [if_neg hE, if_neg hE]) ?_
        have hmt := hm t (by omega)
        have hrd := (rd_b tx ln).2
        refine zk_if_eqN hc 24 dX7_arrive_18 (by decide) (by omega) (fun h_4 => ?_) (fun h_4 => ?_)
        · refine zk_aload_n hc dX7_arrive_24 0 rfl ?_
          refine zk_iload_n hc dX7_arrive_25 1 rfl ?_
          refine zk_aload_n hc dX7_arrive_26 0 rfl ?_
          refine zk_iload_n hc dX7_arrive_27 1 rfl ?_
          refine zk_iconst hc (nI 0) dX7_arrive_28 rfl ?_
          refine zk_callVi hc (rest := [.int (nI t), .ref (a 0)]) (ct_X7_of g l a u pa im tx rw bq_2 kq_2 rt he tr be sp pm fl ln rm (rdN tx ln) bn fk fp rs (wkE (rdE tx ln)) (wpE (rdE tx ln) (rdP tx ln)) bm t 0 (by omega)) gg_X7_63 cd_X7_of ⟨Nat.le_of_ble_eq_true rfl, Nat.le_of_ble_eq_true rfl⟩ ⟨Nat.le_of_ble_eq_true rfl, Nat.le_of_ble_eq_true rfl⟩ ([]) ([]) rfl 0 rfl rfl rfl (Nat.le_of_ble_eq_true rfl) dX7_arrive_29 (fun r W1 hp => ?_)
          obtain ⟨rfl, rfl⟩ := hp
          refine zk_ws (ws2 := MW g.2.1 a u pa im tx rw bq_2 kq_2 rt he tr be sp pm fl ln rm (rdN tx ln) bn fk fp rs (wkE (rdE tx ln)) (wpE (rdE tx ln) (rdP tx ln)) bm) rfl ?_
          refine zk_top (y := nI (mny u t)) rfl ?_
          refine zk_callVv hc (rest := []) (ct_X7_beginRow g l a u pa im tx rw bq_2 kq_2 rt he tr be sp pm fl ln rm (rdN tx ln) bn fk fp rs (wkE (rdE tx ln)) (wpE (rdE tx ln) (rdP tx ln)) bm t (mny u t) (by omega) (hm t (by omega))) gg_X7_81 cd_X7_beginRow ⟨Nat.le_of_ble_eq_true rfl, Nat.le_of_ble_eq_true rfl⟩ ⟨Nat.le_of_ble_eq_true rfl, Nat.le_of_ble_eq_true rfl⟩ ([]) ([]) rfl 0 rfl rfl rfl (Nat.le_of_ble_eq_true rfl) dX7_arrive_32 (fun W1 hp => ?_)
          obtain ⟨r_5, rfl, hr_6⟩ := hp
          refine zk_ws (ws2 := MW g.2.1 a u pa im tx r_5 bq_2 kq_2 rt he tr be sp pm fl ln (mny u t) (rdN tx ln) bn fk fp rs (wkE (rdE tx ln)) (wpE (rdE tx ln) (rdP tx ln)) bm) rfl ?_
          refine zk_iconst hc (nI 0) dX7_arrive_35 rfl ?_
          refine zk_istore_n hc (lv2 := [(2, .int (nI 0)), (0, .ref (a 0)), (1, .int (nI t))]) dX7_arrive_36 (by decide) rfl ?_
          have loop37 : ∀ (N : Nat) (q : Nat) (r : Nat → Nat), rdN tx ln - q < N → (q ≤ rdN tx ln) → (rowL r (mny u t + q) = kds u t (mny u t) ++ rowL (rdK tx ln) q) → KW g p l e (rmK 5 0 0) s m args below meth c 4 A H0 0 0 Q (MW g.2.1 a u pa im tx r bq_2 kq_2 rt he tr be sp pm fl ln (mny u t + q) (rdN tx ln) bn fk fp rs (wkE (rdE tx ln)) (wpE (rdE tx ln) (rdP tx ln)) bm) [(0, .ref (a 0)), (1, .int (nI t)), (2, .int (nI q))] 37 [] := by
            intro N
            induction N with
            | zero => intro q r hm; exact absurd hm (Nat.not_lt_zero _)
            | succ N ih37 =>
              intro q r hm37 hq hrr
              refine zk_iload_n hc dX7_arrive_37 2 rfl ?_
              refine zk_aload_n hc dX7_arrive_38 0 rfl ?_
              refine zk_get hc inlX7 (ci := 7) rfl 0 12 (by decide) mw_11_9 rfl rfl rfl dX7_arrive_39 ?_
              refine zk_icmp_geN hc 61 dX7_arrive_42 (by decide) (by omega) (by omega) (fun h_7 => ?_) (fun h_7 => ?_)
              · have eq : q = rdN tx ln := by omega
                have hrq : rowL r (mny u t + rdN tx ln) = kds u t (mny u t) ++ rowL (rdK tx ln) (rdN tx ln) := eq ▸ hrr
                refine zk_ws (ws2 := MW g.2.1 a u pa im tx r bq_2 kq_2 rt he tr be sp pm fl ln (mny u t + rdN tx ln) (rdN tx ln) bn fk fp rs (wkE (rdE tx ln)) (wpE (rdE tx ln) (rdP tx ln)) bm) (congrArg (fun zz => MW g.2.1 a u pa im tx r bq_2 kq_2 rt he tr be sp pm fl ln zz (rdN tx ln) bn fk fp rs (wkE (rdE tx ln)) (wpE (rdE tx ln) (rdP tx ln)) bm) (show mny u t + q = mny u t + rdN tx ln from by omega)) ?_
                refine zk_aload_n hc dX7_arrive_61 0 rfl ?_
                refine zk_callVi hc (rest := []) (ct_X7_isSafeRow g l a u pa im tx r bq_2 kq_2 rt he tr be sp pm fl ln (mny u t + rdN tx ln) (rdN tx ln) bn fk fp rs (wkE (rdE tx ln)) (wpE (rdE tx ln) (rdP tx ln)) bm (by omega) (fun j hj => rowL_all hrq (arr_all (fun z hz => hk t z (by omega) (by omega)) (fun j hj => (hrd j hj).1)) hj) hg) gg_X7_85 cd_X7_isSafeRow ⟨Nat.le_of_ble_eq_true rfl, Nat.le_of_ble_eq_true rfl⟩ ⟨Nat.le_of_ble_eq_true rfl, Nat.le_of_ble_eq_true rfl⟩ ([]) ([]) rfl 0 rfl rfl rfl (Nat.le_of_ble_eq_true rfl) dX7_arrive_62 (fun r W1 hp => ?_)
                obtain ⟨rfl, rfl⟩ := hp
                refine zk_ws (ws2 := MW g.2.1 a u pa im tx r bq_2 kq_2 rt he tr be sp pm fl ln (mny u t + rdN tx ln) (rdN tx ln) bn fk fp rs (wkE (rdE tx ln)) (wpE (rdE tx ln) (rdP tx ln)) bm) rfl ?_
                by_cases hs : u 0 ≤ gap (rowL r (mny u t + rdN tx ln))
                · refine zk_top (y := nI 1) (if_pos hs) ?_
                  refine zk_if_neN hc 71 dX7_arrive_65 (by decide) (by omega) (fun h_8 => ?_) (fun h_8 => ?_)
                  · refine zk_aload_n hc dX7_arrive_71 0 rfl ?_
                    refine zk_iload_n hc dX7_arrive_72 1 rfl ?_
                    refine zk_iconst hc (nI 0) dX7_arrive_73 rfl ?_
                    refine zk_callVi hc (rest := []) (ct_X7_of g l a u pa im tx r bq_2 kq_2 rt he tr be sp pm fl ln (mny u t + rdN tx ln) (rdN tx ln) bn fk fp rs (wkE (rdE tx ln)) (wpE (rdE tx ln) (rdP tx ln)) bm t 0 (by omega)) gg_X7_63 cd_X7_of ⟨Nat.le_of_ble_eq_true rfl, Nat.le_of_ble_eq_true rfl⟩ ⟨Nat.le_of_ble_eq_true rfl, Nat.le_of_ble_eq_true rfl⟩ ([]) ([]) rfl 0 rfl rfl rfl (Nat.le_of_ble_eq_true rfl) dX7_arrive_74 (fun r W1 hp => ?_)
                    obtain ⟨rfl, rfl⟩ := hp
                    refine zk_ws (ws2 := MW g.2.1 a u pa im tx r bq_2 kq_2 rt he tr be sp pm fl ln (mny u t + rdN tx ln) (rdN tx ln) bn fk fp rs (wkE (rdE tx ln)) (wpE (rdE tx ln) (rdP tx ln)) bm) rfl ?_
                    refine zk_top (y := nI (mny u t)) rfl ?_
                    refine zk_aload_n hc dX7_arrive_77 0 rfl ?_
                    refine zk_get hc inlX7 (ci := 7) rfl 0 12 (by decide) mw_11_9 rfl rfl rfl dX7_arrive_78 ?_
                    refine zk_iaddN hc dX7_arrive_81 ?_
                    refine zk_aload_n hc dX7_arrive_82 0 rfl ?_
                    refine zk_get hc inlX7 (ci := 7) rfl 0 0 (by decide) mw_4_11 rfl rfl rfl dX7_arrive_83 ?_
                    refine zk_iconst hc (nI 5) dX7_arrive_86 rfl ?_
                    refine zk_ialdN hc 1 rfl (by omega) (by decide) dX7_arrive_87 ?_
                    refine zk_icmp_leN hc 94 dX7_arrive_88 (by decide) (by omega) (by omega) (fun hf => ?_) (fun hf => ?_)
                    · refine zk_aload_n hc dX7_arrive_94 0 rfl ?_
                      refine zk_callVv hc (rest := []) (ct_X7_remember g l a u pa im tx r bq_2 kq_2 rt he tr be sp pm fl ln (mny u t + rdN tx ln) (rdN tx ln) bn fk fp rs (wkE (rdE tx ln)) (wpE (rdE tx ln) (rdP tx ln)) bm hpm) gg_X7_107 cd_X7_remember ⟨Nat.le_of_ble_eq_true rfl, Nat.le_of_ble_eq_true rfl⟩ ⟨Nat.le_of_ble_eq_true rfl, Nat.le_of_ble_eq_true rfl⟩ ([]) ([]) rfl 0 rfl rfl rfl (Nat.le_of_ble_eq_true rfl) dX7_arrive_95 (fun W1 hp => ?_)
                      obtain rfl := hp
                      refine zk_ws (ws2 := MW g.2.1 a u (remP u pa pm) im tx r bq_2 kq_2 rt he tr be sp (remN pm) fl ln (mny u t + rdN tx ln) (rdN tx ln) bn fk fp rs (wkE (rdE tx ln)) (wpE (rdE tx ln) (rdP tx ln)) bm) rfl ?_
                      refine zk_iconst hc (nI 0) dX7_arrive_98 rfl ?_
                      refine zk_istore_n hc (lv2 := [(2, .int (nI 0)), (0, .ref (a 0)), (1, .int (nI t))]) dX7_arrive_99 (by decide) rfl ?_
                      refine zk_ws (ws2 := MW g.2.1 a (arrS u t bq_2 kq_2 0) (remP u pa pm) im tx r bq_2 kq_2 rt he tr be sp (remN pm) fl ln (mny u t + rdN tx ln) (rdN tx ln) bn fk fp rs (wkE (rdE tx ln)) (wpE (rdE tx ln) (rdP tx ln)) bm) (congrArg (fun zz => MW g.2.1 a zz (remP u pa pm) im tx r bq_2 kq_2 rt he tr be sp (remN pm) fl ln (mny u t + rdN tx ln) (rdN tx ln) bn fk fp rs (wkE (rdE tx ln)) (wpE (rdE tx ln) (rdP tx ln)) bm) (show u = arrS u t bq_2 kq_2 0 from rfl)) ?_
                      have loop100 : ∀ (N : Nat) (q : Nat), rdN tx ln - q < N → (q ≤ rdN tx ln) → KW g p l e (rmK 5 0 0) s m args below meth c 4 A H0 0 0 Q (MW g.2.1 a (arrS u t bq_2 kq_2 q) (remP u pa pm) im tx r bq_2 kq_2 rt he tr be sp (remN pm) fl ln (mny u t + rdN tx ln) (rdN tx ln) bn fk fp rs (wkE (rdE tx ln)) (wpE (rdE tx ln) (rdP tx ln)) bm) [(0, .ref (a 0)), (1, .int (nI t)), (2, .int (nI q))] 100 [] := by
                        intro N
                        induction N with
                        | zero => intro q hm; exact absurd hm (Nat.not_lt_zero _)
                        | succ N ih100 =>
                          intro q hm100 hq
                          refine zk_iload_n hc dX7_arrive_100 2 rfl ?_
                          refine zk_aload_n hc dX7_arrive_101 0 rfl ?_
                          refine zk_get hc inlX7 (ci := 7) rfl 0 12 (by decide) mw_11_9 rfl rfl rfl dX7_arrive_102 ?_
                          refine zk_icmp_geN hc 198 dX7_arrive_105 (by decide) (by omega) (by omega) (fun h_9 => ?_) (fun h_9 => ?_)
                          · refine zk_ws (ws2 := MW g.2.1 a (arrS u t bq_2 kq_2 (rdN tx ln)) (remP u pa pm) im tx r bq_2 kq_2 rt he tr be sp (remN pm) fl ln (mny u t + rdN tx ln) (rdN tx ln) bn fk fp rs (wkE (rdE tx ln)) (wpE (rdE tx ln) (rdP tx ln)) bm) (congrArg (fun zz => MW g.2.1 a zz (remP u pa pm) im tx r bq_2 kq_2 rt he tr be sp (remN pm) fl ln (mny u t + rdN tx ln) (rdN tx ln) bn fk fp rs (wkE (rdE tx ln)) (wpE (rdE tx ln) (rdP tx ln)) bm) (show arrS u t bq_2 kq_2 q = arrS u t bq_2 kq_2 (rdN tx ln) from congrArg (arrS u t bq_2 kq_2) (by omega))) ?_
                            refine zk_ws (ws2 := MW g.2.1 a (arrS u t (rdB tx ln) (rdK tx ln) (rdN tx ln)) (remP u pa pm) im tx r bq_2 kq_2 rt he tr be sp (remN pm) fl ln (mny u t + rdN tx ln) (rdN tx ln) bn fk fp rs (wkE (rdE tx ln)) (wpE (rdE tx ln) (rdP tx ln)) bm) (congrArg (fun zz => MW g.2.1 a zz (remP u pa pm) im tx r bq_2 kq_2 rt he tr be sp (remN pm) fl ln (mny u t + rdN tx ln) (rdN tx ln) bn fk fp rs (wkE (rdE tx ln)) (wpE (rdE tx ln) (rdP tx ln)) bm) (show arrS u t bq_2 kq_2 (rdN tx ln) = arrS u t (rdB tx ln) (rdK tx ln) (rdN tx ln) from arrS_congr hBK)) ?_
                            refine zk_aload_n hc dX7_arrive_198 0 rfl ?_
                            refine zk_iload_n hc dX7_arrive_199 1 rfl ?_
                            refine zk_iconst hc (nI 0) dX7_arrive_200 rfl ?_
                            refine zk_callVi hc (rest := []) (ct_X7_of g l a (arrS u t (rdB tx ln) (rdK tx ln) (rdN tx ln)) (remP u pa pm) im tx r bq_2 kq_2 rt he tr be sp (remN pm) fl ln (mny u t + rdN tx ln) (rdN tx ln) bn fk fp rs (wkE (rdE tx ln)) (wpE (rdE tx ln) (rdP tx ln)) bm t 0 (by omega)) gg_X7_63 cd_X7_of ⟨Nat.le_of_ble_eq_true rfl, Nat.le_of_ble_eq_true rfl⟩ ⟨Nat.le_of_ble_eq_true rfl, Nat.le_of_ble_eq_true rfl⟩ ([]) ([]) rfl 0 rfl rfl rfl (Nat.le_of_ble_eq_true rfl) dX7_arrive_201 (fun r W1 hp => ?_)
                            obtain ⟨rfl, rfl⟩ := hp
                            refine zk_ws (ws2 := MW g.2.1 a (arrS u t (rdB tx ln) (rdK tx ln) (rdN tx ln)) (remP u pa pm) im tx r bq_2 kq_2 rt he tr be sp (remN pm) fl ln (mny u t + rdN tx ln) (rdN tx ln) bn fk fp rs (wkE (rdE tx ln)) (wpE (rdE tx ln) (rdP tx ln)) bm) rfl ?_
                            refine zk_top (y := nI (mny (arrS u t (rdB tx ln) (rdK tx ln) (rdN tx ln)) t)) rfl ?_
                            refine zk_top (y := nI (mny u t + rdN tx ln)) (congrArg nI (arrS_at _).1) ?_
                            refine fin 0 0 _ _ _ _ (by decide) (by decide) dX7_arrive_204 (?_)
                            exact ⟨by unfold aArr; rw [if_pos hi, tOf_nI (by omega), if_neg (not_not_intro hE0), if_neg (not_not_intro (show u 0 ≤ gap (kds u t (mny u t) ++ rdL tx ln) by unfold rdL; rw [← hrq]; exact hs)), if_neg (Nat.not_lt.mpr hf)], (r, bq_2, kq_2, rt, he, tr, be, sp, mny u t + rdN tx ln, rdN tx ln, bn, wkE (rdE tx ln), wpE (rdE tx ln) (rdP tx ln), bm), by unfold nArr; rw [if_pos hi, tOf_nI (by omega)]; dsimp only; rw [if_neg (not_not_intro hE0), if_neg (not_not_intro (show u 0 ≤ gap (kds u t (mny u t) ++ rdL tx ln) by unfold rdL; rw [← hrq]; exact hs)), if_neg (Nat.not_lt.mpr hf)]; rfl⟩
                          · refine zk_iconst hc (nI 3) dX7_arrive_108 rfl ?_
                            refine zk_iconst hc (nI 3) dX7_arrive_109 rfl ?_
                            refine zk_aload_n hc dX7_arrive_110 0 rfl ?_
                            refine zk_iload_n hc dX7_arrive_111 1 rfl ?_
                            refine zk_iconst hc (nI 0) dX7_arrive_112 rfl ?_
                            refine zk_callVi hc (rest := [.int (nI 3), .int (nI 3)]) (ct_X7_of g l a (arrS u t bq_2 kq_2 q) (remP u pa pm) im tx r bq_2 kq_2 rt he tr be sp (remN pm) fl ln (mny u t + rdN tx ln) (rdN tx ln) bn fk fp rs (wkE (rdE tx ln)) (wpE (rdE tx ln) (rdP tx ln)) bm t 0 (by omega)) gg_X7_63 cd_X7_of ⟨Nat.le_of_ble_eq_true rfl, Nat.le_of_ble_eq_true rfl⟩ ⟨Nat.le_of_ble_eq_true rfl, Nat.le_of_ble_eq_true rfl⟩ ([]) ([]) rfl 0 rfl rfl rfl (Nat.le_of_ble_eq_true rfl) dX7_arrive_113 (fun r W1 hp => ?_)
                            obtain ⟨rfl, rfl⟩ := hp
                            refine zk_ws (ws2 := MW g.2.1 a (arrS u t bq_2 kq_2 q) (remP u pa pm) im tx r bq_2 kq_2 rt he tr be sp (remN pm) fl ln (mny u t + rdN tx ln) (rdN tx ln) bn fk fp rs (wkE (rdE tx ln)) (wpE (rdE tx ln) (rdP tx ln)) bm) rfl ?_
                            refine zk_top (y := nI (mny (arrS u t bq_2 kq_2 q) t)) rfl ?_
                            refine zk_top (y := nI (mny u t + q)) (congrArg nI (arrS_at q).1) ?_
                            refine zk_imulN hc dX7_arrive_116 ?_
                            refine zk_iaddN hc dX7_arrive_117 ?_
                            refine zk_istore_n hc (lv2 := [(3, .int (nI (3 + (3 * (mny u t + q))))), (0, .ref (a 0)), (1, .int (nI t)), (2, .int (nI q))]) dX7_arrive_118 (by decide) rfl ?_
                            refine zk_aload_n hc dX7_arrive_119 1 rfl ?_
                            refine zk_iload_n hc dX7_arrive_120 2 rfl ?_
                            refine zk_iload_n hc dX7_arrive_121 0 rfl ?_
                            refine zk_aload_n hc dX7_arrive_122 1 rfl ?_
                            refine zk_get hc inlX7 (ci := 7) rfl 0 0 (by decide) mw_4_11 rfl rfl rfl dX7_arrive_123 ?_
                            refine zk_bipush hc (nI 7) dX7_arrive_126 rfl ?_
                            refine zk_ialdN hc 1 rfl (by omega) (by decide) dX7_arrive_128 ?_
                            refine zk_top (y := nI (u 7 + q)) (congrArg nI (arrS_at q).2.1) ?_
                            refine zk_callVv hc (rest := []) (ct_X7_put g l a (arrS u t bq_2 kq_2 q) (remP u pa pm) im tx r bq_2 kq_2 rt he tr be sp (remN pm) fl ln (mny u t + rdN tx ln) (rdN tx ln) bn fk fp rs (wkE (rdE tx ln)) (wpE (rdE tx ln) (rdP tx ln)) bm t (3 + (3 * (mny u t + q))) (u 7 + q) (by omega)) gg_X7_93 cd_X7_put ⟨Nat.le_of_ble_eq_true rfl, Nat.le_of_ble_eq_true rfl⟩ ⟨Nat.le_of_ble_eq_true rfl, Nat.le_of_ble_eq_true rfl⟩ ([]) ([]) rfl 0 rfl rfl rfl (Nat.le_of_ble_eq_true rfl) dX7_arrive_129 (fun W1 hp => ?_)
                            obtain rfl := hp
                            refine zk_ws (ws2 := MW g.2.1 a (va_up (arrS u t bq_2 kq_2 q) (23 + 27 * t + (3 + (3 * (mny u t + q)))) (u 7 + q)) (remP u pa pm) im tx r bq_2 kq_2 rt he tr be sp (remN pm) fl ln (mny u t + rdN tx ln) (rdN tx ln) bn fk fp rs (wkE (rdE tx ln)) (wpE (rdE tx ln) (rdP tx ln)) bm) rfl ?_
                            refine zk_aload_n hc dX7_arrive_132 1 rfl ?_
                            refine zk_iload_n hc dX7_arrive_133 2 rfl ?_
                            refine zk_iload_n hc dX7_arrive_134 0 rfl ?_
                            refine zk_iconst hc (nI 1) dX7_arrive_135 rfl ?_
                            refine zk_iaddN hc dX7_arrive_136 ?_
                            refine zk_aload_n hc dX7_arrive_137 1 rfl ?_
                            refine zk_get hc inlX7 (ci := 7) rfl 0 13 (by decide) mw_4_19 rfl rfl rfl dX7_arrive_138 ?_
                            refine zk_iload_n hc dX7_arrive_141 3 rfl ?_
                            refine zk_ialdN hc 6 rfl (by omega) (by decide) dX7_arrive_142 ?_
                            refine zk_callVv hc (rest := []) (ct_X7_put g l a (va_up (arrS u t bq_2 kq_2 q) (23 + 27 * t + (3 + (3 * (mny u t + q)))) (u 7 + q)) (remP u pa pm) im tx r bq_2 kq_2 rt he tr be sp (remN pm) fl ln (mny u t + rdN tx ln) (rdN tx ln) bn fk fp rs (wkE (rdE tx ln)) (wpE (rdE tx ln) (rdP tx ln)) bm t ((3 + (3 * (mny u t + q))) + 1) (bq_2 q) (by omega)) gg_X7_93 cd_X7_put ⟨Nat.le_of_ble_eq_true rfl, Nat.le_of_ble_eq_true rfl⟩ ⟨Nat.le_of_ble_eq_true rfl, Nat.le_of_ble_eq_true rfl⟩ ([]) ([]) rfl 0 rfl rfl rfl (Nat.le_of_ble_eq_true rfl) dX7_arrive_143 (fun W1 hp => ?_)
                            obtain rfl := hp
                            refine zk_ws (ws2 := MW g.2.1 a (va_up (va_up (arrS u t bq_2 kq_2 q) (23 + 27 * t + (3 + (3 * (mny u t + q)))) (u 7 + q)) (23 + 27 * t + ((3 + (3 * (mny u t + q))) + 1)) (bq_2 q)) (remP u pa pm) im tx r bq_2 kq_2 rt he tr be sp (remN pm) fl ln (mny u t + rdN tx ln) (rdN tx ln) bn fk fp rs (wkE (rdE tx ln)) (wpE (rdE tx ln) (rdP tx ln)) bm) rfl ?_
                            refine zk_aload_n hc dX7_arrive_146 1 rfl ?_
                            refine zk_iload_n hc dX7_arrive_147 2 rfl ?_
                            refine zk_iload_n hc dX7_arrive_148 0 rfl ?_
                            refine zk_iconst hc (nI 2) dX7_arrive_149 rfl ?_
                            refine zk_iaddN hc dX7_arrive_150 ?_
                            refine zk_aload_n hc dX7_arrive_151 1 rfl ?_
                            refine zk_get hc inlX7 (ci := 7) rfl 0 14 (by decide) mw_4_20 rfl rfl rfl dX7_arrive_152 ?_
                            refine zk_iload_n hc dX7_arrive_155 3 rfl ?_
                            refine zk_ialdN hc 7 rfl (by omega) (by decide) dX7_arrive_156 ?_
                            refine zk_callVv hc (rest := []) (ct_X7_put g l a (va_up (va_up (arrS u t bq_2 kq_2 q) (23 + 27 * t + (3 + (3 * (mny u t + q)))) (u 7 + q)) (23 + 27 * t + ((3 + (3 * (mny u t + q))) + 1)) (bq_2 q)) (remP u pa pm) im tx r bq_2 kq_2 rt he tr be sp (remN pm) fl ln (mny u t + rdN tx ln) (rdN tx ln) bn fk fp rs (wkE (rdE tx ln)) (wpE (rdE tx ln) (rdP tx ln)) bm t ((3 + (3 * (mny u t + q))) + 2) (kq_2 q) (by omega)) gg_X7_93 cd_X7_put ⟨Nat.le_of_ble_eq_true rfl, Nat.le_of_ble_eq_true rfl⟩ ⟨Nat.le_of_ble_eq_true rfl, Nat.le_of_ble_eq_true rfl⟩ ([]) ([]) rfl 0 rfl rfl rfl (Nat.le_of_ble_eq_true rfl) dX7_arrive_157 (fun W1 hp => ?_)
                            obtain rfl := hp
                            refine zk_ws (ws2 := MW g.2.1 a (va_up (va_up (va_up (arrS u t bq_2 kq_2 q) (23 + 27 * t + (3 + (3 * (mny u t + q)))) (u 7 + q)) (23 + 27 * t + ((3 + (3 * (mny u t + q))) + 1)) (bq_2 q)) (23 + 27 * t + ((3 + (3 * (mny u t + q))) + 2)) (kq_2 q)) (remP u pa pm) im tx r bq_2 kq_2 rt he tr be sp (remN pm) fl ln (mny u t + rdN tx ln) (rdN tx ln) bn fk fp rs (wkE (rdE tx ln)) (wpE (rdE tx ln) (rdP tx ln)) bm) rfl ?_
                            refine zk_aload_n hc dX7_arrive_160 1 rfl ?_
                            refine zk_iload_n hc dX7_arrive_161 2 rfl ?_
                            refine zk_iconst hc (nI 0) dX7_arrive_162 rfl ?_
                            refine zk_aload_n hc dX7_arrive_163 1 rfl ?_
                            refine zk_iload_n hc dX7_arrive_164 2 rfl ?_
                            refine zk_iconst hc (nI 0) dX7_arrive_165 rfl ?_
                            refine zk_callVi hc (rest := [.int (nI 0), .int (nI t), .ref (a 0)]) (ct_X7_of g l a (va_up (va_up (va_up (arrS u t bq_2 kq_2 q) (23 + 27 * t + (3 + (3 * (mny u t + q)))) (u 7 + q)) (23 + 27 * t + ((3 + (3 * (mny u t + q))) + 1)) (bq_2 q)) (23 + 27 * t + ((3 + (3 * (mny u t + q))) + 2)) (kq_2 q)) (remP u pa pm) im tx r bq_2 kq_2 rt he tr be sp (remN pm) fl ln (mny u t + rdN tx ln) (rdN tx ln) bn fk fp rs (wkE (rdE tx ln)) (wpE (rdE tx ln) (rdP tx ln)) bm t 0 (by omega)) gg_X7_63 cd_X7_of ⟨Nat.le_of_ble_eq_true rfl, Nat.le_of_ble_eq_true rfl⟩ ⟨Nat.le_of_ble_eq_true rfl, Nat.le_of_ble_eq_true rfl⟩ ([]) ([]) rfl 0 rfl rfl rfl (Nat.le_of_ble_eq_true rfl) dX7_arrive_166 (fun r W1 hp => ?_)
                            obtain ⟨rfl, rfl⟩ := hp
                            refine zk_ws (ws2 := MW g.2.1 a (va_up (va_up (va_up (arrS u t bq_2 kq_2 q) (23 + 27 * t + (3 + (3 * (mny u t + q)))) (u 7 + q)) (23 + 27 * t + ((3 + (3 * (mny u t + q))) + 1)) (bq_2 q)) (23 + 27 * t + ((3 + (3 * (mny u t + q))) + 2)) (kq_2 q)) (remP u pa pm) im tx r bq_2 kq_2 rt he tr be sp (remN pm) fl ln (mny u t + rdN tx ln) (rdN tx ln) bn fk fp rs (wkE (rdE tx ln)) (wpE (rdE tx ln) (rdP tx ln)) bm) rfl ?_
                            refine zk_top (y := nI (mny (va_up (va_up (va_up (arrS u t bq_2 kq_2 q) (23 + 27 * t + (3 + (3 * (mny u t + q)))) (u 7 + q)) (23 + 27 * t + ((3 + (3 * (mny u t + q))) + 1)) (bq_2 q)) (23 + 27 * t + ((3 + (3 * (mny u t + q))) + 2)) (kq_2 q)) t)) rfl ?_
                            refine zk_top (y := nI (mny u t + q)) (congrArg nI (by unfold mny va_up; rw [if_neg (by omega), if_neg (by omega), if_neg (by omega)]; exact (arrS_at q).1)) ?_
                            refine zk_iconst hc (nI 1) dX7_arrive_169 rfl ?_
                            refine zk_iaddN hc dX7_arrive_170 ?_
                            refine zk_callVv hc (rest := []) (ct_X7_put g l a (va_up (va_up (va_up (arrS u t bq_2 kq_2 q) (23 + 27 * t + (3 + (3 * (mny u t + q)))) (u 7 + q)) (23 + 27 * t + ((3 + (3 * (mny u t + q))) + 1)) (bq_2 q)) (23 + 27 * t + ((3 + (3 * (mny u t + q))) + 2)) (kq_2 q)) (remP u pa pm) im tx r bq_2 kq_2 rt he tr be sp (remN pm) fl ln (mny u t + rdN tx ln) (rdN tx ln) bn fk fp rs (wkE (rdE tx ln)) (wpE (rdE tx ln) (rdP tx ln)) bm t 0 ((mny u t + q) + 1) (by omega)) gg_X7_93 cd_X7_put ⟨Nat.le_of_ble_eq_true rfl, Nat.le_of_ble_eq_true rfl⟩ ⟨Nat.le_of_ble_eq_true rfl, Nat.le_of_ble_eq_true rfl⟩ ([]) ([]) rfl 0 rfl rfl rfl (Nat.le_of_ble_eq_true rfl) dX7_arrive_171 (fun W1 hp => ?_)
                            obtain rfl := hp
                            refine zk_ws (ws2 := MW g.2.1 a (va_up (va_up (va_up (va_up (arrS u t bq_2 kq_2 q) (23 + 27 * t + (3 + (3 * (mny u t + q)))) (u 7 + q)) (23 + 27 * t + ((3 + (3 * (mny u t + q))) + 1)) (bq_2 q)) (23 + 27 * t + ((3 + (3 * (mny u t + q))) + 2)) (kq_2 q)) (23 + 27 * t + 0) ((mny u t + q) + 1)) (remP u pa pm) im tx r bq_2 kq_2 rt he tr be sp (remN pm) fl ln (mny u t + rdN tx ln) (rdN tx ln) bn fk fp rs (wkE (rdE tx ln)) (wpE (rdE tx ln) (rdP tx ln)) bm) rfl ?_
                            refine zk_aload_n hc dX7_arrive_174 1 rfl ?_
                            refine zk_iload_n hc dX7_arrive_175 2 rfl ?_
                            refine zk_iconst hc (nI 1) dX7_arrive_176 rfl ?_
                            refine zk_iconst hc (nI 0) dX7_arrive_177 rfl ?_
                            refine zk_callVv hc (rest := []) (ct_X7_put g l a (va_up (va_up (va_up (va_up (arrS u t bq_2 kq_2 q) (23 + 27 * t + (3 + (3 * (mny u t + q)))) (u 7 + q)) (23 + 27 * t + ((3 + (3 * (mny u t + q))) + 1)) (bq_2 q)) (23 + 27 * t + ((3 + (3 * (mny u t + q))) + 2)) (kq_2 q)) (23 + 27 * t + 0) ((mny u t + q) + 1)) (remP u pa pm) im tx r bq_2 kq_2 rt he tr be sp (remN pm) fl ln (mny u t + rdN tx ln) (rdN tx ln) bn fk fp rs (wkE (rdE tx ln)) (wpE (rdE tx ln) (rdP tx ln)) bm t 1 0 (by omega)) gg_X7_93 cd_X7_put ⟨Nat.le_of_ble_eq_true rfl, Nat.le_of_ble_eq_true rfl⟩ ⟨Nat.le_of_ble_eq_true rfl, Nat.le_of_ble_eq_true rfl⟩ ([]) ([]) rfl 0 rfl rfl rfl (Nat.le_of_ble_eq_true rfl) dX7_arrive_178 (fun W1 hp => ?_)
                            obtain rfl := hp
                            refine zk_ws (ws2 := MW g.2.1 a (va_up (va_up (va_up (va_up (va_up (arrS u t bq_2 kq_2 q) (23 + 27 * t + (3 + (3 * (mny u t + q)))) (u 7 + q)) (23 + 27 * t + ((3 + (3 * (mny u t + q))) + 1)) (bq_2 q)) (23 + 27 * t + ((3 + (3 * (mny u t + q))) + 2)) (kq_2 q)) (23 + 27 * t + 0) ((mny u t + q) + 1)) (23 + 27 * t + 1) 0) (remP u pa pm) im tx r bq_2 kq_2 rt he tr be sp (remN pm) fl ln (mny u t + rdN tx ln) (rdN tx ln) bn fk fp rs (wkE (rdE tx ln)) (wpE (rdE tx ln) (rdP tx ln)) bm) rfl ?_
                            refine zk_aload_n hc dX7_arrive_181 1 rfl ?_
                            refine zk_get hc inlX7 (ci := 7) rfl 0 0 (by decide) mw_4_11 rfl rfl rfl dX7_arrive_182 ?_
                            refine zk_bipush hc (nI 7) dX7_arrive_185 rfl ?_
                            refine zk_dup2 hc dX7_arrive_187 rfl rfl ?_
                            refine zk_ialdN hc 1 rfl (by omega) (by decide) dX7_arrive_188 ?_
                            refine zk_top (y := nI (u 7 + q)) (congrArg nI (by unfold va_up; rw [if_neg (by omega), if_neg (by omega), if_neg (by omega), if_neg (by omega), if_neg (by omega)]; exact (arrS_at q).2.1)) ?_
                            refine zk_iconst hc (nI 1) dX7_arrive_189 rfl ?_
                            refine zk_iaddN hc dX7_arrive_190 ?_
                            refine zk_iastN hc 1 rfl (by omega) (by decide) (ws2 := MW g.2.1 a (va_up (va_up (va_up (va_up (va_up (va_up (arrS u t bq_2 kq_2 q) (23 + 27 * t + (3 + (3 * (mny u t + q)))) (u 7 + q)) (23 + 27 * t + ((3 + (3 * (mny u t + q))) + 1)) (bq_2 q)) (23 + 27 * t + ((3 + (3 * (mny u t + q))) + 2)) (kq_2 q)) (23 + 27 * t + 0) ((mny u t + q) + 1)) (23 + 27 * t + 1) 0) 7 ((u 7 + q) + 1)) (remP u pa pm) im tx r bq_2 kq_2 rt he tr be sp (remN pm) fl ln (mny u t + rdN tx ln) (rdN tx ln) bn fk fp rs (wkE (rdE tx ln)) (wpE (rdE tx ln) (rdP tx ln)) bm) rfl dX7_arrive_191 ?_
                            refine zk_ws (ws2 := MW g.2.1 a (arrS u t bq_2 kq_2 (q + 1)) (remP u pa pm) im tx r bq_2 kq_2 rt he tr be sp (remN pm) fl ln (mny u t + rdN tx ln) (rdN tx ln) bn fk fp rs (wkE (rdE tx ln)) (wpE (rdE tx ln) (rdP tx ln)) bm) (congrArg (fun zz => MW g.2.1 a zz (remP u pa pm) im tx r bq_2 kq_2 rt he tr be sp (remN pm) fl ln (mny u t + rdN tx ln) (rdN tx ln) bn fk fp rs (wkE (rdE tx ln)) (wpE (rdE tx ln) (rdP tx ln)) bm) (show va_up (va_up (va_up (va_up (va_up (va_up (arrS u t bq_2 kq_2 q) (23 + 27 * t + (3 + (3 * (mny u t + q)))) (u 7 + q)) (23 + 27 * t + ((3 + (3 * (mny u t + q))) + 1)) (bq_2 q)) (23 + 27 * t + ((3 + (3 * (mny u t + q))) + 2)) (kq_2 q)) (23 + 27 * t + 0) ((mny u t + q) + 1)) (23 + 27 * t + 1) 0) 7 ((u 7 + q) + 1) = arrS u t bq_2 kq_2 (q + 1) from rfl)) ?_
                            refine zk_iinc hc (v := nI (q + 1)) (lv2 := [(2, .int (nI (q + 1))), (3, .int (nI (3 + (3 * (mny u t + q))))), (0, .ref (a 0)), (1, .int (nI t))]) dX7_arrive_192 3 rfl (nq_inc rfl) (by decide) rfl ?_
                            refine zk_goto hc 100 dX7_arrive_195 (by decide) ?_
                            refine zk_lv [2, 3, 0] (lv2 := [(0, .ref (a 0)), (1, .int (nI t)), (2, .int (nI (q + 1)))]) rfl ?_
                            exact ih100 (q + 1) (by omega) (by omega)
                      refine zk_lv [1, 2, 0] (lv2 := [(0, .ref (a 0)), (1, .int (nI t)), (2, .int (nI 0))]) rfl ?_
                      exact loop100 ((rdN tx ln - 0) + 1) 0 (Nat.lt_succ_self _) (Nat.zero_le _)
                    · refine zk_bipush hc ((-3)) dX7_arrive_91 rfl ?_
                      refine fin 0 0 _ _ _ _ (by decide) (by decide) dX7_arrive_93 (?_)
                      exact ⟨by unfold aArr; rw [if_pos hi, tOf_nI (by omega), if_neg (not_not_intro hE0), if_neg (not_not_intro (show u 0 ≤ gap (kds u t (mny u t) ++ rdL tx ln) by unfold rdL; rw [← hrq]; exact hs)), if_pos hf], (r, bq_2, kq_2, rt, he, tr, be, sp, mny u t + rdN tx ln, rdN tx ln, bn, wkE (rdE tx ln), wpE (rdE tx ln) (rdP tx ln), bm), by unfold nArr; rw [if_pos hi, tOf_nI (by omega)]; dsimp only; rw [if_neg (not_not_intro hE0), if_neg (not_not_intro (show u 0 ≤ gap (kds u t (mny u t) ++ rdL tx ln) by unfold rdL; rw [← hrq]; exact hs)), if_pos hf]; rfl⟩
                  · exact absurd h_8 (by decide)
                · refine zk_top (y := nI 0) (if_neg hs) ?_
                  refine zk_if_neN hc 71 dX7_arrive_65 (by decide) (by omega) (fun h_10 => ?_) (fun h_10 => ?_)
                  · exact absurd h_10 (by decide)
                  · refine zk_bipush hc ((-2)) dX7_arrive_68 rfl ?_
                    refine fin 0 0 _ _ _ _ (by decide) (by decide) dX7_arrive_70 (?_)
                    exact ⟨by unfold aArr; rw [if_pos hi, tOf_nI (by omega), if_neg (not_not_intro hE0), if_pos (show ¬ u 0 ≤ gap (kds u t (mny u t) ++ rdL tx ln) by unfold rdL; rw [← hrq]; exact hs)], (r, bq_2, kq_2, rt, he, tr, be, sp, mny u t + rdN tx ln, rdN tx ln, bn, wkE (rdE tx ln), wpE (rdE tx ln) (rdP tx ln), bm), by unfold nArr; rw [if_pos hi, tOf_nI (by omega)]; dsimp only; rw [if_neg (not_not_intro hE0), if_pos (show ¬ u 0 ≤ gap (kds u t (mny u t) ++ rdL tx ln) by unfold rdL; rw [← hrq]; exact hs)]; rfl⟩
              · refine zk_aload_n hc dX7_arrive_45 0 rfl ?_
                refine zk_aload_n hc dX7_arrive_46 0 rfl ?_
                refine zk_get hc inlX7 (ci := 7) rfl 0 14 (by decide) mw_4_20 rfl rfl rfl dX7_arrive_47 ?_
                refine zk_iload_n hc dX7_arrive_50 2 rfl ?_
                refine zk_ialdN hc 7 rfl (by omega) (by decide) dX7_arrive_51 ?_
                refine zk_callVv hc (rest := []) (ct_X7_appendKind g l a u pa im tx r bq_2 kq_2 rt he tr be sp pm fl ln (mny u t + q) (rdN tx ln) bn fk fp rs (wkE (rdE tx ln)) (wpE (rdE tx ln) (rdP tx ln)) bm (kq_2 q) (by omega)) gg_X7_73 cd_X7_appendKind ⟨Nat.le_of_ble_eq_true rfl, Nat.le_of_ble_eq_true rfl⟩ ⟨Nat.le_of_ble_eq_true rfl, Nat.le_of_ble_eq_true rfl⟩ ([]) ([]) rfl 0 rfl rfl rfl (Nat.le_of_ble_eq_true rfl) dX7_arrive_52 (fun W1 hp => ?_)
                obtain rfl := hp
                refine zk_ws (ws2 := MW g.2.1 a u pa im tx (va_up r (mny u t + q) (kq_2 q)) bq_2 kq_2 rt he tr be sp pm fl ln (mny u t + q + 1) (rdN tx ln) bn fk fp rs (wkE (rdE tx ln)) (wpE (rdE tx ln) (rdP tx ln)) bm) rfl ?_
                refine zk_iinc hc (v := nI (q + 1)) (lv2 := [(2, .int (nI (q + 1))), (0, .ref (a 0)), (1, .int (nI t))]) dX7_arrive_55 2 rfl (nq_inc rfl) (by decide) rfl ?_
                refine zk_goto hc 37 dX7_arrive_58 (by decide) ?_
                refine zk_lv [1, 2, 0] (lv2 := [(0, .ref (a 0)), (1, .int (nI t)), (2, .int (nI (q + 1)))]) rfl ?_
                exact ih37 (q + 1) (va_up r (mny u t + q) (kq_2 q)) (by omega) (by omega) (by rw [show mny u t + (q + 1) = mny u t + q + 1 by omega, rowL_up, rowL_succ, hrr, (hBK q (by omega)).2, List.append_assoc])
          refine zk_lv [1, 2, 0] (lv2 := [(0, .ref (a 0)), (1, .int (nI t)), (2, .int (nI 0))]) rfl ?_
          exact loop37 ((rdN tx ln - 0) + 1) 0 r_5 (Nat.lt_succ_self _) (Nat.zero_le _) (by rw [show rowL (rdK tx ln) 0 = [] from rfl, List.append_nil]; exact hr_6)
        · exact absurd h_4 (by decide)
    · exact absurd h_1 (by decide)
  · refine zk_top (y := nI 0) (if_neg hi) ?_
    refine zk_if_neN hc 10 dX7_arrive_5 (by decide) (by omega) (fun h_11 => ?_) (fun h_11 => ?_)
    · exact absurd h_11 (by decide)
    · refine zk_iconst hc ((-1)) dX7_arrive_8 rfl ?_
      refine fin 0 0 _ _ _ _ (by decide) (by decide) dX7_arrive_9 (?_)
      exact ⟨by unfold aArr; rw [if_neg hi], (rw, rb, rk, rt, he, tr, be, sp, rm, rd, bn, wk, wp, bm), by unfold nArr; rw [if_neg hi]; rfl⟩

set_option maxHeartbeats 4000000 in
set_option maxRecDepth 100000 in
theorem ct_X7_list (g : GG) (l : Launch) (a : Nat → Nat) (u pa im tx rw rb rk rt he tr be sp : Nat → Nat) (pm fl ln rm rd bn : Nat) (fk fp rs wk wp bm : Int32) (hpm : pm ≤ 8) (hln : ln ≤ 60) (htx : ∀ j, j < ln → tx j < 128) : CtI g l yX7_list cX7_list 2 (some .int) (rmK 4 0 0) (MW g.2.1 a u pa im tx rw rb rk rt he tr be sp pm fl ln rm rd bn fk fp rs wk wp bm) [.ref (a 0)] (fun r W1 => r = aLis tx ln ∧ ∃ X, W1 = MSW g.2.1 a (nLis (u, pa, pm, im, fl, tx, ln, fk, fp, rs) ) X) := by
  refine CtI.go RX7 rfl (by decide +kernel) (Nat.le_of_ble_eq_true rfl) ?_
  intro p e s m args below meth c A H0 Q hc hnm fin
  show KW g p l e (rmK 4 0 0) s m args below meth c 2 A H0 0 0 Q (MW g.2.1 a u pa im tx rw rb rk rt he tr be sp pm fl ln rm rd bn fk fp rs wk wp bm) [(0, .ref (a 0))] 0 []
  refine zk_aload_n hc dX7_list_0 0 rfl ?_
  refine zk_callVv hc (rest := []) (ct_X7_readList g l a u pa im tx rw rb rk rt he tr be sp pm fl ln rm rd bn fk fp rs wk wp bm hln htx) gg_X7_154 cd_X7_readList ⟨Nat.le_of_ble_eq_true rfl, Nat.le_of_ble_eq_true rfl⟩ ⟨Nat.le_of_ble_eq_true rfl, Nat.le_of_ble_eq_true rfl⟩ ([]) ([]) rfl 0 rfl rfl rfl (Nat.le_of_ble_eq_true rfl) dX7_list_1 (fun W1 hp => ?_)
  obtain ⟨nq_1, tq_1, vq_1, wq_1, rfl, hq_1⟩ := hp
  obtain ⟨hn1, hLj, hn8, hE1, hv1, hw1⟩ := rlI_end hq_1
  subst hn1
  subst hv1
  subst hw1
  refine zk_ws (ws2 := MW g.2.1 a u pa im tx rw rb rk tq_1 he tr be sp pm fl ln rm (rlN tx ln) bn fk fp rs (wkE (rlE tx ln)) (wpE (rlE tx ln) (rlP tx ln)) bm) rfl ?_
  refine zk_aload_n hc dX7_list_4 0 rfl ?_
  refine zk_callVi hc (rest := []) (ct_X7_hasFault g l a u pa im tx rw rb rk tq_1 he tr be sp pm fl ln rm (rlN tx ln) bn fk fp rs (wkE (rlE tx ln)) (wpE (rlE tx ln) (rlP tx ln)) bm) gg_X7_151 cd_X7_hasFault ⟨Nat.le_of_ble_eq_true rfl, Nat.le_of_ble_eq_true rfl⟩ ⟨Nat.le_of_ble_eq_true rfl, Nat.le_of_ble_eq_true rfl⟩ ([]) ([]) rfl 0 rfl rfl rfl (Nat.le_of_ble_eq_true rfl) dX7_list_5 (fun r W1 hp => ?_)
  obtain ⟨rfl, rfl⟩ := hp
  refine zk_ws (ws2 := MW g.2.1 a u pa im tx rw rb rk tq_1 he tr be sp pm fl ln rm (rlN tx ln) bn (if ¬ wkE (rlE tx ln) = -9 then wkE (rlE tx ln) else fk) (if ¬ wkE (rlE tx ln) = -9 then wpE (rlE tx ln) (rlP tx ln) else fp) rs (wkE (rlE tx ln)) (wpE (rlE tx ln) (rlP tx ln)) bm) rfl ?_
  by_cases hE : ¬ wkE (rlE tx ln) = -9
  · refine zk_top (y := nI 1) (if_pos hE) ?_
    have hE0 : rlE tx ln ≠ 0 := fun z => hE ((wkE_9 hE1).mpr z)
    refine zk_ws (ws2 := MW g.2.1 a u pa im tx rw rb rk tq_1 he tr be sp pm fl ln rm (rlN tx ln) bn (nI (rlE tx ln)) (nI (rlP tx ln)) rs (wkE (rlE tx ln)) (wpE (rlE tx ln) (rlP tx ln)) bm) (by rw [if_pos hE, if_pos hE, wkE_ne hE0, wpE_ne hE0]) ?_
    refine zk_if_eqN hc 14 dX7_list_8 (by decide) (by omega) (fun h_2 => ?_) (fun h_2 => ?_)
    · exact absurd h_2 (by decide)
    · refine zk_bipush hc ((-2)) dX7_list_11 rfl ?_
      refine fin 0 0 _ _ _ _ (by decide) (by decide) dX7_list_13 (?_)
      exact ⟨by unfold aLis; rw [if_pos hE0], (rw, rb, rk, tq_1, he, tr, be, sp, rm, rlN tx ln, bn, wkE (rlE tx ln), wpE (rlE tx ln) (rlP tx ln), bm), by unfold nLis; dsimp only; rw [if_pos hE0]; rfl⟩
  · refine zk_top (y := nI 0) (if_neg hE) ?_
    have hE0 : rlE tx ln = 0 := (wkE_9 hE1).mp (by rcases Classical.em (wkE (rlE tx ln) = -9) with z | z; exact z; exact absurd z hE)
    refine zk_ws (ws2 := MW g.2.1 a u pa im tx rw rb rk tq_1 he tr be sp pm fl ln rm (rlN tx ln) bn fk fp rs (wkE (rlE tx ln)) (wpE (rlE tx ln) (rlP tx ln)) bm) (by rw [if_neg hE, if_neg hE]) ?_
    refine zk_if_eqN hc 14 dX7_list_8 (by decide) (by omega) (fun h_3 => ?_) (fun h_3 => ?_)
    · refine zk_aload_n hc dX7_list_14 0 rfl ?_
      refine zk_callVv hc (rest := []) (ct_X7_remember g l a u pa im tx rw rb rk tq_1 he tr be sp pm fl ln rm (rlN tx ln) bn fk fp rs (wkE (rlE tx ln)) (wpE (rlE tx ln) (rlP tx ln)) bm hpm) gg_X7_107 cd_X7_remember ⟨Nat.le_of_ble_eq_true rfl, Nat.le_of_ble_eq_true rfl⟩ ⟨Nat.le_of_ble_eq_true rfl, Nat.le_of_ble_eq_true rfl⟩ ([]) ([]) rfl 0 rfl rfl rfl (Nat.le_of_ble_eq_true rfl) dX7_list_15 (fun W1 hp => ?_)
      obtain rfl := hp
      refine zk_ws (ws2 := MW g.2.1 a u (remP u pa pm) im tx rw rb rk tq_1 he tr be sp (remN pm) fl ln rm (rlN tx ln) bn fk fp rs (wkE (rlE tx ln)) (wpE (rlE tx ln) (rlP tx ln)) bm) rfl ?_
      refine zk_aload_n hc dX7_list_18 0 rfl ?_
      refine zk_get hc inlX7 (ci := 7) rfl 0 0 (by decide) mw_4_11 rfl rfl rfl dX7_list_19 ?_
      refine zk_bipush hc (nI 12) dX7_list_22 rfl ?_
      refine zk_aload_n hc dX7_list_24 0 rfl ?_
      refine zk_get hc inlX7 (ci := 7) rfl 0 12 (by decide) mw_11_9 rfl rfl rfl dX7_list_25 ?_
      refine zk_iastN hc 1 rfl (by omega) (by decide) (ws2 := MW g.2.1 a (va_up u 12 (rlN tx ln)) (remP u pa pm) im tx rw rb rk tq_1 he tr be sp (remN pm) fl ln rm (rlN tx ln) bn fk fp rs (wkE (rlE tx ln)) (wpE (rlE tx ln) (rlP tx ln)) bm) rfl dX7_list_28 ?_
      refine zk_iconst hc (nI 0) dX7_list_29 rfl ?_
      refine zk_istore_n hc (lv2 := [(1, .int (nI 0)), (0, .ref (a 0))]) dX7_list_30 (by decide) rfl ?_
      refine zk_ws (ws2 := MW g.2.1 a (lisF u tq_1 (rlN tx ln) 0) (remP u pa pm) im tx rw rb rk tq_1 he tr be sp (remN pm) fl ln rm (rlN tx ln) bn fk fp rs (wkE (rlE tx ln)) (wpE (rlE tx ln) (rlP tx ln)) bm) (congrArg (fun zz => MW g.2.1 a zz (remP u pa pm) im tx rw rb rk tq_1 he tr be sp (remN pm) fl ln rm (rlN tx ln) bn fk fp rs (wkE (rlE tx ln)) (wpE (rlE tx ln) (rlP tx ln)) bm) (show va_up u 12 (rlN tx ln) = lisF u tq_1 (rlN tx ln) 0 from cpy_zero _ _ _ _)) ?_
      have loop31 : ∀ (N : Nat) (q : Nat), rlN tx ln - q < N → (q ≤ rlN tx ln) → KW g p l e (rmK 4 0 0) s m args below meth c 2 A H0 0 0 Q (MW g.2.1 a (lisF u tq_1 (rlN tx ln) q) (remP u pa pm) im tx rw rb rk tq_1 he tr be sp (remN pm) fl ln rm (rlN tx ln) bn fk fp rs (wkE (rlE tx ln)) (wpE (rlE tx ln) (rlP tx ln)) bm) [(0, .ref (a 0)), (1, .int (nI q))] 31 [] := by
        intro N
        induction N with
        | zero => intro q hm; exact absurd hm (Nat.not_lt_zero _)
        | succ N ih31 =>
          intro q hm31 hq
          refine zk_iload_n hc dX7_list_31 1 rfl ?_
          refine zk_aload_n hc dX7_list_32 0 rfl ?_
          refine zk_get hc inlX7 (ci := 7) rfl 0 12 (by decide) mw_11_9 rfl rfl rfl dX7_list_33 ?_
          refine zk_icmp_geN hc 60 dX7_list_36 (by decide) (by omega) (by omega) (fun h_4 => ?_) (fun h_4 => ?_)
          · refine zk_ws (ws2 := MW g.2.1 a (lisF u tq_1 (rlN tx ln) (rlN tx ln)) (remP u pa pm) im tx rw rb rk tq_1 he tr be sp (remN pm) fl ln rm (rlN tx ln) bn fk fp rs (wkE (rlE tx ln)) (wpE (rlE tx ln) (rlP tx ln)) bm) (congrArg (fun zz => MW g.2.1 a zz (remP u pa pm) im tx rw rb rk tq_1 he tr be sp (remN pm) fl ln rm (rlN tx ln) bn fk fp rs (wkE (rlE tx ln)) (wpE (rlE tx ln) (rlP tx ln)) bm) (show lisF u tq_1 (rlN tx ln) q = lisF u tq_1 (rlN tx ln) (rlN tx ln) from congrArg (lisF u tq_1 (rlN tx ln)) (by omega))) ?_
            refine zk_ws (ws2 := MW g.2.1 a (lisF u (rlL tx ln) (rlN tx ln) (rlN tx ln)) (remP u pa pm) im tx rw rb rk tq_1 he tr be sp (remN pm) fl ln rm (rlN tx ln) bn fk fp rs (wkE (rlE tx ln)) (wpE (rlE tx ln) (rlP tx ln)) bm) (congrArg (fun zz => MW g.2.1 a zz (remP u pa pm) im tx rw rb rk tq_1 he tr be sp (remN pm) fl ln rm (rlN tx ln) bn fk fp rs (wkE (rlE tx ln)) (wpE (rlE tx ln) (rlP tx ln)) bm) (show lisF u tq_1 (rlN tx ln) (rlN tx ln) = lisF u (rlL tx ln) (rlN tx ln) (rlN tx ln) from cpy_congr hLj)) ?_
            refine zk_aload_n hc dX7_list_60 0 rfl ?_
            refine zk_get hc inlX7 (ci := 7) rfl 0 12 (by decide) mw_11_9 rfl rfl rfl dX7_list_61 ?_
            refine fin 0 0 _ _ _ _ (by decide) (by decide) dX7_list_64 (?_)
            exact ⟨by unfold aLis; rw [if_neg (not_not_intro hE0)], (rw, rb, rk, tq_1, he, tr, be, sp, rm, rlN tx ln, bn, wkE (rlE tx ln), wpE (rlE tx ln) (rlP tx ln), bm), by unfold nLis; dsimp only; rw [if_neg (not_not_intro hE0)]; rfl⟩
          · refine zk_aload_n hc dX7_list_39 0 rfl ?_
            refine zk_get hc inlX7 (ci := 7) rfl 0 0 (by decide) mw_4_11 rfl rfl rfl dX7_list_40 ?_
            refine zk_bipush hc (nI 13) dX7_list_43 rfl ?_
            refine zk_iload_n hc dX7_list_45 1 rfl ?_
            refine zk_iaddN hc dX7_list_46 ?_
            refine zk_aload_n hc dX7_list_47 0 rfl ?_
            refine zk_get hc inlX7 (ci := 7) rfl 0 15 (by decide) mw_4_21 rfl rfl rfl dX7_list_48 ?_
            refine zk_iload_n hc dX7_list_51 1 rfl ?_
            refine zk_ialdN hc 8 rfl (by omega) (by decide) dX7_list_52 ?_
            refine zk_iastN hc 1 rfl (by omega) (by decide) (ws2 := MW g.2.1 a (va_up (lisF u tq_1 (rlN tx ln) q) (13 + q) (tq_1 q)) (remP u pa pm) im tx rw rb rk tq_1 he tr be sp (remN pm) fl ln rm (rlN tx ln) bn fk fp rs (wkE (rlE tx ln)) (wpE (rlE tx ln) (rlP tx ln)) bm) rfl dX7_list_53 ?_
            refine zk_ws (ws2 := MW g.2.1 a (lisF u tq_1 (rlN tx ln) (q + 1)) (remP u pa pm) im tx rw rb rk tq_1 he tr be sp (remN pm) fl ln rm (rlN tx ln) bn fk fp rs (wkE (rlE tx ln)) (wpE (rlE tx ln) (rlP tx ln)) bm) (congrArg (fun zz => MW g.2.1 a zz (remP u pa pm) im tx rw rb rk tq_1 he tr be sp (remN pm) fl ln rm (rlN tx ln) bn fk fp rs (wkE (rlE tx ln)) (wpE (rlE tx ln) (rlP tx ln)) bm) (show va_up (lisF u tq_1 (rlN tx ln) q) (13 + q) (tq_1 q) = lisF u tq_1 (rlN tx ln) (q + 1) from cpy_step (by omega) (by rw [Nat.zero_add]))) ?_
            refine zk_iinc hc (v := nI (q + 1)) (lv2 := [(1, .int (nI (q + 1))), (0, .ref (a 0))]) dX7_list_54 1 rfl (nq_inc rfl) (by decide) rfl ?_
            refine zk_goto hc 31 dX7_list_57 (by decide) ?_
            refine zk_lv [1, 0] (lv2 := [(0, .ref (a 0)), (1, .int (nI (q + 1)))]) rfl ?_
            exact ih31 (q + 1) (by omega) (by omega)
      refine zk_lv [1, 0] (lv2 := [(0, .ref (a 0)), (1, .int (nI 0))]) rfl ?_
      exact loop31 ((rlN tx ln - 0) + 1) 0 (Nat.lt_succ_self _) (Nat.zero_le _)
    · exact absurd h_3 (by decide)
