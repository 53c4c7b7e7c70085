set_option maxHeartbeats 4000000 in
set_option maxRecDepth 100000 in
theorem ct_X7_track (g : GG) (l : Launch) (a : Nat → Nat) (u pa im tx rw rb rk rt he tr be sp : Nat → Nat) (pm fl ln rm rd bn : Nat) (fk fp rs wk wp bm : Int32) (cN : Nat) (hN : cN ≤ 512) (hW : Wf cN u)  (v w : Int32) : CtI g l yX7_track cX7_track 3 (some .int) (rmK 6 0 0) (MW g.2.1 a u pa im tx rw rb rk rt he tr be sp pm fl ln rm rd bn fk fp rs wk wp bm) [.ref (a 0), .int v, .int w] (fun r W1 => r = aTrk u v w ∧ ∃ X, W1 = MSW g.2.1 a ((u, pa, pm, im, fl, tx, ln, fk, fp, rs)) X) := by
  refine CtI.go RX7 rfl (by decide +kernel) (Nat.le_of_ble_eq_true rfl) ?_
  intro p e s m args below meth c A H0 Q hc hnm fin
  obtain ⟨⟨hK2, hK4⟩, ⟨hC1, hC8⟩, hg, ⟨hh1, hh2⟩, ⟨hv1, hv2⟩, hs3, hl10, hld, htr, hmC, hwk, hbg⟩ := id hW
  have hm : ∀ t, t < 4 → mny u t ≤ 8 := fun t h => (htr t h).1
  have hm4 : ∀ t, t < u 4 → mny u t ≤ 8 := fun t h => (htr t (by omega)).1
  have hk : ∀ t j, t < 4 → j < 8 → knd u t j < 3 := fun t j h1 h2 => (hwk t j h1 h2).2
  have hd : ∀ t j, t < 4 → j < 8 → dst u t j < 6 := fun t j h1 h2 => (hwk t j h1 h2).1
  have h13 : u 13 < 6 := hld 0 (by omega)
  have h6 : u 6 ≤ 1000 * cN + 600 := hbg 6 (by omega)
  show KW g p l e (rmK 6 0 0) s m args below meth c 3 A H0 0 0 Q (MW g.2.1 a u pa im tx rw rb rk rt he tr be sp pm fl ln rm rd bn fk fp rs wk wp bm) [(0, .ref (a 0)), (1, .int v), (2, .int w)] 0 []
  refine zk_aload_n hc dX7_track_0 0 rfl ?_
  refine zk_iload_n hc dX7_track_1 1 rfl ?_
  refine zk_callVi hc (rest := []) (ct_X7_isTrack g l a u pa im tx rw rb rk rt he tr be sp pm fl ln rm rd bn fk fp rs wk wp bm v (by omega)) gg_X7_89 cd_X7_isTrack ⟨Nat.le_of_ble_eq_true rfl, Nat.le_of_ble_eq_true rfl⟩ ⟨Nat.le_of_ble_eq_true rfl, Nat.le_of_ble_eq_true rfl⟩ ([]) ([]) rfl 0 rfl rfl rfl (Nat.le_of_ble_eq_true rfl) dX7_track_2 (fun r W1 hp => ?_)
  obtain ⟨rfl, rfl⟩ := hp
  refine zk_ws (ws2 := MW g.2.1 a u pa im tx rw rb rk rt he tr be sp pm fl ln rm rd bn fk fp rs wk wp bm) rfl ?_
  by_cases hi : nI 0 ≤ v ∧ v ≤ nI (u 4 - 1)
  · refine zk_top (y := nI 1) (if_pos hi) ?_
    obtain ⟨t, t0, t1, rfl⟩ := rngN (by omega) hi
    refine zk_if_neN hc 10 dX7_track_5 (by decide) (by omega) (fun h_1 => ?_) (fun h_1 => ?_)
    · refine zk_iload_n hc dX7_track_10 2 rfl ?_
      by_cases hsw : nI 0 ≤ w ∧ w ≤ nI 4
      · obtain ⟨k, hk0, hk1, rfl⟩ := rngN (by omega) hsw
        rcases (show k = 0 ∨ k = 1 ∨ k = 2 ∨ k = 3 ∨ k = 4 by omega) with rfl | rfl | rfl | rfl | rfl
        · refine zk_tableIn hc 44 dX7_track_11 (by decide) (by decide) rfl (by decide) ?_
          refine zk_aload_n hc dX7_track_44 0 rfl ?_
          refine zk_iload_n hc dX7_track_45 1 rfl ?_
          refine zk_iconst hc (nI 0) dX7_track_46 rfl ?_
          refine zk_callVi hc (rest := []) (ct_X7_of g l a u pa im tx rw rb rk rt he tr be sp pm fl ln rm rd bn fk fp rs wk wp bm t 0 (by omega)) gg_X7_63 cd_X7_of ⟨Nat.le_of_ble_eq_true rfl, Nat.le_of_ble_eq_true rfl⟩ ⟨Nat.le_of_ble_eq_true rfl, Nat.le_of_ble_eq_true rfl⟩ ([]) ([]) rfl 0 rfl rfl rfl (Nat.le_of_ble_eq_true rfl) dX7_track_47 (fun r W1 hp => ?_)
          obtain ⟨rfl, rfl⟩ := hp
          refine zk_ws (ws2 := MW g.2.1 a u pa im tx rw rb rk rt he tr be sp pm fl ln rm rd bn fk fp rs wk wp bm) rfl ?_
          refine zk_top (y := nI (mny u t)) rfl ?_
          refine fin 0 0 _ _ _ _ (by decide) (by decide) dX7_track_50 (?_)
          exact ⟨by unfold aTrk; rw [if_pos ⟨hi, hsw⟩, tOf_nI (by omega)]; show nI (mny u t) = nI (mny u t); rfl, (rw, rb, rk, rt, he, tr, be, sp, rm, rd, bn, wk, wp, bm), by rfl⟩
        · refine zk_tableIn hc 51 dX7_track_11 (by decide) (by decide) rfl (by decide) ?_
          refine zk_aload_n hc dX7_track_51 0 rfl ?_
          refine zk_iload_n hc dX7_track_52 1 rfl ?_
          refine zk_callVi hc (rest := []) (ct_X7_isSafe g l a u pa im tx rw rb rk rt he tr be sp pm fl ln rm rd bn fk fp rs wk wp bm t (by omega) (hm t (by omega)) hk hg) gg_X7_120 cd_X7_isSafe ⟨Nat.le_of_ble_eq_true rfl, Nat.le_of_ble_eq_true rfl⟩ ⟨Nat.le_of_ble_eq_true rfl, Nat.le_of_ble_eq_true rfl⟩ ([]) ([]) rfl 0 rfl rfl rfl (Nat.le_of_ble_eq_true rfl) dX7_track_53 (fun r W1 hp => ?_)
          obtain ⟨rfl, r_2, n_3, rfl⟩ := hp
          refine zk_ws (ws2 := MW g.2.1 a u pa im tx r_2 rb rk rt he tr be sp pm fl ln n_3 rd bn fk fp rs wk wp bm) rfl ?_
          by_cases hs : u 0 ≤ gap (kds u t (mny u t))
          · refine zk_top (y := nI 1) (if_pos hs) ?_
            refine zk_if_eqN hc 63 dX7_track_56 (by decide) (by omega) (fun h_4 => ?_) (fun h_4 => ?_)
            · exact absurd h_4 (by decide)
            · refine zk_iconst hc (nI 1) dX7_track_59 rfl ?_
              refine zk_goto hc 64 dX7_track_60 (by decide) ?_
              refine fin 0 0 _ _ _ _ (by decide) (by decide) dX7_track_64 (?_)
              exact ⟨by unfold aTrk; rw [if_pos ⟨hi, hsw⟩, tOf_nI (by omega)]; show _ = if u 0 ≤ gap (kds u t (mny u t)) then nI 1 else nI 0; rw [if_pos hs], (r_2, rb, rk, rt, he, tr, be, sp, n_3, rd, bn, wk, wp, bm), by rfl⟩
          · refine zk_top (y := nI 0) (if_neg hs) ?_
            refine zk_if_eqN hc 63 dX7_track_56 (by decide) (by omega) (fun h_5 => ?_) (fun h_5 => ?_)
            · refine zk_iconst hc (nI 0) dX7_track_63 rfl ?_
              refine fin 0 0 _ _ _ _ (by decide) (by decide) dX7_track_64 (?_)
              exact ⟨by unfold aTrk; rw [if_pos ⟨hi, hsw⟩, tOf_nI (by omega)]; show _ = if u 0 ≤ gap (kds u t (mny u t)) then nI 1 else nI 0; rw [if_neg hs], (r_2, rb, rk, rt, he, tr, be, sp, n_3, rd, bn, wk, wp, bm), by rfl⟩
            · exact absurd h_5 (by decide)
        · refine zk_tableIn hc 65 dX7_track_11 (by decide) (by decide) rfl (by decide) ?_
          refine zk_aload_n hc dX7_track_65 0 rfl ?_
          refine zk_iload_n hc dX7_track_66 1 rfl ?_
          refine zk_callVi hc (rest := []) (ct_X7_stillHolds g l a u pa im tx rw rb rk rt he tr be sp pm fl ln rm rd bn fk fp rs wk wp bm t (by omega) hh2 (by omega) (fun _ => (htr t (by omega)).2.2) (by have := (htr t (by omega)).2.1; omega)) gg_X7_123 cd_X7_stillHolds ⟨Nat.le_of_ble_eq_true rfl, Nat.le_of_ble_eq_true rfl⟩ ⟨Nat.le_of_ble_eq_true rfl, Nat.le_of_ble_eq_true rfl⟩ ([]) ([]) rfl 0 rfl rfl rfl (Nat.le_of_ble_eq_true rfl) dX7_track_67 (fun r W1 hp => ?_)
          obtain ⟨rfl, rfl⟩ := hp
          refine zk_ws (ws2 := MW g.2.1 a u pa im tx rw rb rk rt he tr be sp pm fl ln rm rd bn fk fp rs wk wp bm) rfl ?_
          refine fin 0 0 _ _ _ _ (by decide) (by decide) dX7_track_70 (?_)
          exact ⟨by unfold aTrk; rw [if_pos ⟨hi, hsw⟩, tOf_nI (by omega)]; show nI (hold u t) = nI (hold u t); rfl, (rw, rb, rk, rt, he, tr, be, sp, rm, rd, bn, wk, wp, bm), by rfl⟩
        · refine zk_tableIn hc 71 dX7_track_11 (by decide) (by decide) rfl (by decide) ?_
          refine zk_aload_n hc dX7_track_71 0 rfl ?_
          refine zk_iload_n hc dX7_track_72 1 rfl ?_
          refine zk_aload_n hc dX7_track_73 0 rfl ?_
          refine zk_iload_n hc dX7_track_74 1 rfl ?_
          refine zk_iconst hc (nI 0) dX7_track_75 rfl ?_
          refine zk_callVi hc (rest := [.int (nI t), .ref (a 0)]) (ct_X7_of g l a u pa im tx rw rb rk rt he tr be sp pm fl ln rm rd bn fk fp rs wk wp bm t 0 (by omega)) gg_X7_63 cd_X7_of ⟨Nat.le_of_ble_eq_true rfl, Nat.le_of_ble_eq_true rfl⟩ ⟨Nat.le_of_ble_eq_true rfl, Nat.le_of_ble_eq_true rfl⟩ ([]) ([]) rfl 0 rfl rfl rfl (Nat.le_of_ble_eq_true rfl) dX7_track_76 (fun r W1 hp => ?_)
          obtain ⟨rfl, rfl⟩ := hp
          refine zk_ws (ws2 := MW g.2.1 a u pa im tx rw rb rk rt he tr be sp pm fl ln rm rd bn fk fp rs wk wp bm) rfl ?_
          refine zk_top (y := nI (mny u t)) rfl ?_
          refine zk_callVv hc (rest := []) (ct_X7_beginRow g l a u pa im tx rw rb rk rt he tr be sp pm fl ln rm rd bn fk fp rs wk wp bm t (mny u t) (by omega) (hm t (by omega))) gg_X7_81 cd_X7_beginRow ⟨Nat.le_of_ble_eq_true rfl, Nat.le_of_ble_eq_true rfl⟩ ⟨Nat.le_of_ble_eq_true rfl, Nat.le_of_ble_eq_true rfl⟩ ([]) ([]) rfl 0 rfl rfl rfl (Nat.le_of_ble_eq_true rfl) dX7_track_79 (fun W1 hp => ?_)
          obtain ⟨r_6, rfl, hr_7⟩ := hp
          refine zk_ws (ws2 := MW g.2.1 a u pa im tx r_6 rb rk rt he tr be sp pm fl ln (mny u t) rd bn fk fp rs wk wp bm) rfl ?_
          refine zk_aload_n hc dX7_track_82 0 rfl ?_
          refine zk_callVi hc (rest := []) (ct_X7_leastGap g l a u pa im tx r_6 rb rk rt he tr be sp pm fl ln (mny u t) rd bn fk fp rs wk wp bm (by have := hm t (by omega); omega) (fun j hj => rowL_lt hr_7 (fun z hz => hk t z (by omega) (by have := hm t (by omega); omega)) hj)) gg_X7_77 cd_X7_leastGap ⟨Nat.le_of_ble_eq_true rfl, Nat.le_of_ble_eq_true rfl⟩ ⟨Nat.le_of_ble_eq_true rfl, Nat.le_of_ble_eq_true rfl⟩ ([]) ([]) rfl 0 rfl rfl rfl (Nat.le_of_ble_eq_true rfl) dX7_track_83 (fun r W1 hp => ?_)
          obtain ⟨rfl, rfl⟩ := hp
          refine zk_ws (ws2 := MW g.2.1 a u pa im tx r_6 rb rk rt he tr be sp pm fl ln (mny u t) rd bn fk fp rs wk wp bm) rfl ?_
          refine fin 0 0 _ _ _ _ (by decide) (by decide) dX7_track_86 (?_)
          exact ⟨by unfold aTrk; rw [if_pos ⟨hi, hsw⟩, tOf_nI (by omega)]; show encG (gap _) = encG (gap _); rw [hr_7], (r_6, rb, rk, rt, he, tr, be, sp, mny u t, rd, bn, wk, wp, bm), by rfl⟩
        · refine zk_tableIn hc 87 dX7_track_11 (by decide) (by decide) rfl (by decide) ?_
          refine zk_aload_n hc dX7_track_87 0 rfl ?_
          refine zk_iload_n hc dX7_track_88 1 rfl ?_
          refine zk_callVi hc (rest := []) (ct_X7_reasonAgainst g l a u pa im tx rw rb rk rt he tr be sp pm fl ln rm rd bn fk fp rs wk wp bm t (by omega) hK4 hm4 hd h13 hk hl10 hg hh2 (by omega) (fun _ => (htr t (by omega)).2.2) (by have := (htr t (by omega)).2.1; omega)) gg_X7_127 cd_X7_reasonAgainst ⟨Nat.le_of_ble_eq_true rfl, Nat.le_of_ble_eq_true rfl⟩ ⟨Nat.le_of_ble_eq_true rfl, Nat.le_of_ble_eq_true rfl⟩ ([]) ([]) rfl 0 rfl rfl rfl (Nat.le_of_ble_eq_true rfl) dX7_track_89 (fun r W1 hp => ?_)
          obtain ⟨rfl, r_8, n_9, rfl⟩ := hp
          refine zk_ws (ws2 := MW g.2.1 a u pa im tx r_8 rb rk rt he tr be sp pm fl ln n_9 rd bn fk fp rs wk wp bm) rfl ?_
          refine fin 0 0 _ _ _ _ (by decide) (by decide) dX7_track_92 (?_)
          exact ⟨by unfold aTrk; rw [if_pos ⟨hi, hsw⟩, tOf_nI (by omega)]; show nI (rea u t) = nI (rea u t); rfl, (r_8, rb, rk, rt, he, tr, be, sp, n_9, rd, bn, wk, wp, bm), by rfl⟩
      · refine zk_tableOut hc 93 dX7_track_11 (tab_out (hi := 4) (by decide) hsw) (by decide) ?_
        refine zk_iconst hc ((-1)) dX7_track_93 rfl ?_
        refine fin 0 0 _ _ _ _ (by decide) (by decide) dX7_track_94 (?_)
        exact ⟨by unfold aTrk; rw [if_neg (fun z => hsw z.2)], (rw, rb, rk, rt, he, tr, be, sp, rm, rd, bn, wk, wp, bm), by rfl⟩
    · exact absurd h_1 (by decide)
  · refine zk_top (y := nI 0) (if_neg hi) ?_
    refine zk_if_neN hc 10 dX7_track_5 (by decide) (by omega) (fun h_10 => ?_) (fun h_10 => ?_)
    · exact absurd h_10 (by decide)
    · refine zk_iconst hc ((-1)) dX7_track_8 rfl ?_
      refine fin 0 0 _ _ _ _ (by decide) (by decide) dX7_track_9 (?_)
      exact ⟨by unfold aTrk; rw [if_neg (fun z => hi z.1)], (rw, rb, rk, rt, he, tr, be, sp, rm, rd, bn, wk, wp, bm), by rfl⟩
