set_option maxHeartbeats 4000000 in
set_option maxRecDepth 100000 in
theorem ct_X7_isSafeRow (g : GG) (l : Launch) (a : Nat → Nat) (u pa im tx rw rb rk rt he tr be sp : Nat → Nat) (pm fl ln rm rd bn : Nat) (fk fp rs wk wp bm : Int32) (hm : rm ≤ 24) (hk : ∀ j, j < rm → rw j < 3) (hg : u 0 ≤ 3) : CtI g l yX7_isSafeRow cX7_isSafeRow 2 (some .boolean) (rmK 3 0 0) (MW g.2.1 a u pa im tx rw rb rk rt he tr be sp pm fl ln rm rd bn fk fp rs wk wp bm) [.ref (a 0)] (fun r W1 => r = (if u 0 ≤ gap (rowL rw rm) then nI 1 else nI 0) ∧ W1 = MW g.2.1 a u pa im tx rw rb rk rt he tr be sp pm fl ln rm rd bn fk fp rs wk wp bm) := by
  refine CtZ.go RX7 rfl (by decide +kernel) (Nat.le_of_ble_eq_true rfl) ?_
  intro p e s m args below meth c A H0 Q hc hnm fin
  show KW g p l e (rmK 3 0 0) s m args below meth c 2 A H0 0 0 Q (MW g.2.1 a u pa im tx rw rb rk rt he tr be sp pm fl ln rm rd bn fk fp rs wk wp bm) [(0, .ref (a 0))] 0 []
  refine zk_aload_n hc dX7_isSafeRow_0 0 rfl ?_
  refine zk_callVi hc (rest := []) (ct_X7_leastGap g l a u pa im tx rw rb rk rt he tr be sp pm fl ln rm rd bn fk fp rs wk wp bm (by omega) hk) gg_X7_77 cd_X7_leastGap ⟨Nat.le_of_ble_eq_true rfl, Nat.le_of_ble_eq_true rfl⟩ ⟨Nat.le_of_ble_eq_true rfl, Nat.le_of_ble_eq_true rfl⟩ ([]) ([]) rfl 0 rfl rfl rfl (Nat.le_of_ble_eq_true rfl) dX7_isSafeRow_1 (fun r W1 hp => ?_)
  obtain ⟨rfl, rfl⟩ := hp
  refine zk_ws (ws2 := MW g.2.1 a u pa im tx rw rb rk rt he tr be sp pm fl ln rm rd bn fk fp rs wk wp bm) rfl ?_
  refine zk_istore_n hc (lv2 := [(1, .int (encG (gap (rowL rw rm)))), (0, .ref (a 0))]) dX7_isSafeRow_4 (by decide) rfl ?_
  refine zk_iload_n hc dX7_isSafeRow_5 0 rfl ?_
  refine zk_bipush hc ((-9)) dX7_isSafeRow_6 rfl ?_
  refine zk_icmp_eq hc 21 dX7_isSafeRow_8 (by decide) (fun he => ?_) (fun he => ?_)
  · refine zk_iconst hc (nI 1) dX7_isSafeRow_21 rfl ?_
    refine zk_goto hc 26 dX7_isSafeRow_22 (by decide) ?_
    refine fin 0 0 _ _ _ _ (by decide) (by decide) dX7_isSafeRow_26 rfl (?_)
    have h99 := encG_eq (gap_le _) he
    exact ⟨by rw [if_pos (by omega)], rfl⟩
  · rw [encG_ne he]
    have hgl := gap_le (rowL rw rm)
    refine zk_iload_n hc dX7_isSafeRow_11 0 rfl ?_
    refine zk_aload_n hc dX7_isSafeRow_12 1 rfl ?_
    refine zk_get hc inlX7 (ci := 7) rfl 0 0 (by decide) mw_4_11 rfl rfl rfl dX7_isSafeRow_13 ?_
    refine zk_iconst hc (nI 0) dX7_isSafeRow_16 rfl ?_
    refine zk_ialdN hc 1 rfl (by omega) (by decide) dX7_isSafeRow_17 ?_
    refine zk_icmp_ltN hc 25 dX7_isSafeRow_18 (by decide) (by omega) (by omega) (fun hb => ?_) (fun hb => ?_)
    · refine zk_iconst hc (nI 0) dX7_isSafeRow_25 rfl ?_
      refine fin 0 0 _ _ _ _ (by decide) (by decide) dX7_isSafeRow_26 rfl (?_)
      exact ⟨by rw [if_neg (by omega)], rfl⟩
    · refine zk_iconst hc (nI 1) dX7_isSafeRow_21 rfl ?_
      refine zk_goto hc 26 dX7_isSafeRow_22 (by decide) ?_
      refine fin 0 0 _ _ _ _ (by decide) (by decide) dX7_isSafeRow_26 rfl (?_)
      exact ⟨by rw [if_pos (by omega)], rfl⟩

set_option maxHeartbeats 4000000 in
set_option maxRecDepth 100000 in
theorem ct_X7_isSafe (g : GG) (l : Launch) (a : Nat → Nat) (u pa im tx rw rb rk rt he tr be sp : Nat → Nat) (pm fl ln rm rd bn : Nat) (fk fp rs wk wp bm : Int32) (t : Nat) (ht : t < 4) (hm : mny u t ≤ 8) (hk : ∀ t j, t < 4 → j < 8 → knd u t j < 3) (hg : u 0 ≤ 3) : CtI g l yX7_isSafe cX7_isSafe 2 (some .boolean) (rmK 4 0 0) (MW g.2.1 a u pa im tx rw rb rk rt he tr be sp pm fl ln rm rd bn fk fp rs wk wp bm) [.ref (a 0), .int (nI t)] (fun r W1 => r = (if u 0 ≤ gap (kds u t (mny u t)) then nI 1 else nI 0) ∧ ∃ r2 n2, W1 = MW g.2.1 a u pa im tx r2 rb rk rt he tr be sp pm fl ln n2 rd bn fk fp rs wk wp bm) := by
  refine CtZ.go RX7 rfl (by decide +kernel) (Nat.le_of_ble_eq_true rfl) ?_
  intro p e s m args below meth c A H0 Q hc hnm fin
  show KW g p l e (rmK 4 0 0) s m args below meth c 2 A H0 0 0 Q (MW g.2.1 a u pa im tx rw rb rk rt he tr be sp pm fl ln rm rd bn fk fp rs wk wp bm) [(0, .ref (a 0)), (1, .int (nI t))] 0 []
  refine zk_aload_n hc dX7_isSafe_0 0 rfl ?_
  refine zk_iload_n hc dX7_isSafe_1 1 rfl ?_
  refine zk_aload_n hc dX7_isSafe_2 0 rfl ?_
  refine zk_iload_n hc dX7_isSafe_3 1 rfl ?_
  refine zk_iconst hc (nI 0) dX7_isSafe_4 rfl ?_
  refine zk_callVi hc (rest := [.int (nI t), .ref (a 0)]) (ct_X7_of g l a u pa im tx rw rb rk rt he tr be sp pm fl ln rm rd bn fk fp rs wk wp bm t 0 (by omega)) gg_X7_63 cd_X7_of ⟨Nat.le_of_ble_eq_true rfl, Nat.le_of_ble_eq_true rfl⟩ ⟨Nat.le_of_ble_eq_true rfl, Nat.le_of_ble_eq_true rfl⟩ ([]) ([]) rfl 0 rfl rfl rfl (Nat.le_of_ble_eq_true rfl) dX7_isSafe_5 (fun r W1 hp => ?_)
  obtain ⟨rfl, rfl⟩ := hp
  refine zk_ws (ws2 := MW g.2.1 a u pa im tx rw rb rk rt he tr be sp pm fl ln rm rd bn fk fp rs wk wp bm) rfl ?_
  refine zk_top (y := nI (mny u t)) rfl ?_
  refine zk_callVv hc (rest := []) (ct_X7_beginRow g l a u pa im tx rw rb rk rt he tr be sp pm fl ln rm rd bn fk fp rs wk wp bm t (mny u t) (by omega) (by omega)) gg_X7_81 cd_X7_beginRow ⟨Nat.le_of_ble_eq_true rfl, Nat.le_of_ble_eq_true rfl⟩ ⟨Nat.le_of_ble_eq_true rfl, Nat.le_of_ble_eq_true rfl⟩ ([]) ([]) rfl 0 rfl rfl rfl (Nat.le_of_ble_eq_true rfl) dX7_isSafe_8 (fun W1 hp => ?_)
  obtain ⟨r_1, rfl, hr_2⟩ := hp
  refine zk_ws (ws2 := MW g.2.1 a u pa im tx r_1 rb rk rt he tr be sp pm fl ln (mny u t) rd bn fk fp rs wk wp bm) rfl ?_
  refine zk_aload_n hc dX7_isSafe_11 0 rfl ?_
  refine zk_callVi hc (rest := []) (ct_X7_isSafeRow g l a u pa im tx r_1 rb rk rt he tr be sp pm fl ln (mny u t) rd bn fk fp rs wk wp bm (by omega) (fun j hj => rowL_lt hr_2 (fun z hz => hk t z ht (by omega)) hj) hg) gg_X7_85 cd_X7_isSafeRow ⟨Nat.le_of_ble_eq_true rfl, Nat.le_of_ble_eq_true rfl⟩ ⟨Nat.le_of_ble_eq_true rfl, Nat.le_of_ble_eq_true rfl⟩ ([]) ([]) rfl 0 rfl rfl rfl (Nat.le_of_ble_eq_true rfl) dX7_isSafe_12 (fun r W1 hp => ?_)
  obtain ⟨rfl, rfl⟩ := hp
  refine zk_ws (ws2 := MW g.2.1 a u pa im tx r_1 rb rk rt he tr be sp pm fl ln (mny u t) rd bn fk fp rs wk wp bm) rfl ?_
  by_cases hs : u 0 ≤ gap (rowL r_1 (mny u t))
  · refine zk_top (y := nI 1) (if_pos hs) ?_
    refine fin 0 0 _ _ _ _ (by decide) (by decide) dX7_isSafe_15 rfl (?_)
    exact ⟨by rw [if_pos (hr_2 ▸ hs)], _, _, rfl⟩
  · refine zk_top (y := nI 0) (if_neg hs) ?_
    refine fin 0 0 _ _ _ _ (by decide) (by decide) dX7_isSafe_15 rfl (?_)
    exact ⟨by rw [if_neg (hr_2 ▸ hs)], _, _, rfl⟩

set_option maxHeartbeats 4000000 in
set_option maxRecDepth 100000 in
theorem ct_X7_isTrack (g : GG) (l : Launch) (a : Nat → Nat) (u pa im tx rw rb rk rt he tr be sp : Nat → Nat) (pm fl ln rm rd bn : Nat) (fk fp rs wk wp bm : Int32) (v : Int32) (h4 : 1 ≤ u 4) : CtI g l yX7_isTrack cX7_isTrack 2 (some .boolean) (rmK 2 0 0) (MW g.2.1 a u pa im tx rw rb rk rt he tr be sp pm fl ln rm rd bn fk fp rs wk wp bm) [.ref (a 0), .int v] (fun r W1 => r = (if nI 0 ≤ v ∧ v ≤ nI (u 4 - 1) then nI 1 else nI 0) ∧ W1 = MW g.2.1 a u pa im tx rw rb rk rt he tr be sp pm fl ln rm rd bn fk fp rs wk wp bm) := by
  refine CtZ.go RX7 rfl (by decide +kernel) (Nat.le_of_ble_eq_true rfl) ?_
  intro p e s m args below meth c A H0 Q hc hnm fin
  show KW g p l e (rmK 2 0 0) s m args below meth c 2 A H0 0 0 Q (MW g.2.1 a u pa im tx rw rb rk rt he tr be sp pm fl ln rm rd bn fk fp rs wk wp bm) [(0, .ref (a 0)), (1, .int v)] 0 []
  refine zk_iload_n hc dX7_isTrack_0 1 rfl ?_
  refine zk_iconst hc (nI 0) dX7_isTrack_1 rfl ?_
  refine zk_aload_n hc dX7_isTrack_2 0 rfl ?_
  refine zk_get hc inlX7 (ci := 7) rfl 0 0 (by decide) mw_4_11 rfl rfl rfl dX7_isTrack_3 ?_
  refine zk_iconst hc (nI 4) dX7_isTrack_6 rfl ?_
  refine zk_ialdN hc 1 rfl (by omega) (by decide) dX7_isTrack_7 ?_
  refine zk_iconst hc (nI 1) dX7_isTrack_8 rfl ?_
  refine zk_isubN hc dX7_isTrack_9 (by omega) ?_
  refine zk_callSi hc (rest := []) (ct_X7_isIn g l v (nI 0) (nI ((u 4) - 1))) gg_X7_59 cd_X7_isIn ⟨Nat.le_of_ble_eq_true rfl, Nat.le_of_ble_eq_true rfl⟩ ⟨Nat.le_of_ble_eq_true rfl, Nat.le_of_ble_eq_true rfl⟩ ([]) (MW g.2.1 a u pa im tx rw rb rk rt he tr be sp pm fl ln rm rd bn fk fp rs wk wp bm) rfl rfl (Nat.le_of_ble_eq_true rfl) dX7_isTrack_10 (fun r W1 hp => ?_)
  obtain ⟨rfl, rfl⟩ := hp
  refine zk_ws (ws2 := MW g.2.1 a u pa im tx rw rb rk rt he tr be sp pm fl ln rm rd bn fk fp rs wk wp bm) rfl ?_
  by_cases hi : nI 0 ≤ v ∧ v ≤ nI ((u 4) - 1)
  · refine zk_top (y := nI 1) (if_pos hi) ?_
    exact fin 0 0 _ _ _ _ (by decide) (by decide) dX7_isTrack_13 rfl (⟨by rw [if_pos hi], rfl⟩)
  · refine zk_top (y := nI 0) (if_neg hi) ?_
    exact fin 0 0 _ _ _ _ (by decide) (by decide) dX7_isTrack_13 rfl (⟨by rw [if_neg hi], rfl⟩)

set_option maxHeartbeats 4000000 in
set_option maxRecDepth 100000 in
theorem ct_X7_areTracks (g : GG) (l : Launch) (a : Nat → Nat) (u pa im tx rw rb rk rt he tr be sp : Nat → Nat) (pm fl ln rm rd bn : Nat) (fk fp rs wk wp bm : Int32) (f t n : Int32) (hK : 1 ≤ u 4) : CtI g l yX7_areTracks cX7_areTracks 4 (some .boolean) (rmK 3 0 0) (MW g.2.1 a u pa im tx rw rb rk rt he tr be sp pm fl ln rm rd bn fk fp rs wk wp bm) [.ref (a 0), .int f, .int t, .int n] (fun r W1 => r = (if ((nI 0 ≤ f ∧ f ≤ nI (u 4 - 1)) ∧ (nI 0 ≤ t ∧ t ≤ nI (u 4 - 1)) ∧ f ≠ t ∧ nI 1 ≤ n ∧ n ≤ nI 8) then nI 1 else nI 0) ∧ W1 = MW g.2.1 a u pa im tx rw rb rk rt he tr be sp pm fl ln rm rd bn fk fp rs wk wp bm) := by
  refine CtZ.go RX7 rfl (by decide +kernel) (Nat.le_of_ble_eq_true rfl) ?_
  intro p e s m args below meth c A H0 Q hc hnm fin
  show KW g p l e (rmK 3 0 0) s m args below meth c 4 A H0 0 0 Q (MW g.2.1 a u pa im tx rw rb rk rt he tr be sp pm fl ln rm rd bn fk fp rs wk wp bm) [(0, .ref (a 0)), (1, .int f), (2, .int t), (3, .int n)] 0 []
  refine zk_aload_n hc dX7_areTracks_0 0 rfl ?_
  refine zk_iload_n hc dX7_areTracks_1 1 rfl ?_
  refine zk_callVi hc (rest := []) (ct_X7_isTrack g l a u pa im tx rw rb rk rt he tr be sp pm fl ln rm rd bn fk fp rs wk wp bm f (by omega)) gg_X7_89 cd_X7_isTrack ⟨Nat.le_of_ble_eq_true rfl, Nat.le_of_ble_eq_true rfl⟩ ⟨Nat.le_of_ble_eq_true rfl, Nat.le_of_ble_eq_true rfl⟩ ([]) ([]) rfl 0 rfl rfl rfl (Nat.le_of_ble_eq_true rfl) dX7_areTracks_2 (fun r W1 hp => ?_)
  obtain ⟨rfl, rfl⟩ := hp
  refine zk_ws (ws2 := MW g.2.1 a u pa im tx rw rb rk rt he tr be sp pm fl ln rm rd bn fk fp rs wk wp bm) rfl ?_
  by_cases h1 : nI 0 ≤ f ∧ f ≤ nI (u 4 - 1)
  · refine zk_top (y := nI 1) (if_pos h1) ?_
    refine zk_if_eqN hc 35 dX7_areTracks_5 (by decide) (by omega) (fun h_1 => ?_) (fun h_1 => ?_)
    · exact absurd h_1 (by decide)
    · refine zk_aload_n hc dX7_areTracks_8 0 rfl ?_
      refine zk_iload_n hc dX7_areTracks_9 2 rfl ?_
      refine zk_callVi hc (rest := []) (ct_X7_isTrack g l a u pa im tx rw rb rk rt he tr be sp pm fl ln rm rd bn fk fp rs wk wp bm t (by omega)) gg_X7_89 cd_X7_isTrack ⟨Nat.le_of_ble_eq_true rfl, Nat.le_of_ble_eq_true rfl⟩ ⟨Nat.le_of_ble_eq_true rfl, Nat.le_of_ble_eq_true rfl⟩ ([]) ([]) rfl 0 rfl rfl rfl (Nat.le_of_ble_eq_true rfl) dX7_areTracks_10 (fun r W1 hp => ?_)
      obtain ⟨rfl, rfl⟩ := hp
      refine zk_ws (ws2 := MW g.2.1 a u pa im tx rw rb rk rt he tr be sp pm fl ln rm rd bn fk fp rs wk wp bm) rfl ?_
      by_cases h2 : nI 0 ≤ t ∧ t ≤ nI (u 4 - 1)
      · refine zk_top (y := nI 1) (if_pos h2) ?_
        refine zk_if_eqN hc 35 dX7_areTracks_13 (by decide) (by omega) (fun h_2 => ?_) (fun h_2 => ?_)
        · exact absurd h_2 (by decide)
        · refine zk_iload_n hc dX7_areTracks_16 1 rfl ?_
          refine zk_iload_n hc dX7_areTracks_17 2 rfl ?_
          refine zk_icmp_eq hc 35 dX7_areTracks_18 (by decide) (fun h3 => ?_) (fun h3 => ?_)
          · refine zk_iconst hc (nI 0) dX7_areTracks_35 rfl ?_
            exact fin 0 0 _ _ _ _ (by decide) (by decide) dX7_areTracks_36 rfl (⟨by rw [if_neg (fun z => z.2.2.1 h3)], rfl⟩)
          · refine zk_iload_n hc dX7_areTracks_21 3 rfl ?_
            refine zk_iconst hc (nI 1) dX7_areTracks_22 rfl ?_
            refine zk_bipush hc (nI 8) dX7_areTracks_23 rfl ?_
            refine zk_callSi hc (rest := []) (ct_X7_isIn g l n (nI 1) (nI 8)) gg_X7_59 cd_X7_isIn ⟨Nat.le_of_ble_eq_true rfl, Nat.le_of_ble_eq_true rfl⟩ ⟨Nat.le_of_ble_eq_true rfl, Nat.le_of_ble_eq_true rfl⟩ ([]) (MW g.2.1 a u pa im tx rw rb rk rt he tr be sp pm fl ln rm rd bn fk fp rs wk wp bm) rfl rfl (Nat.le_of_ble_eq_true rfl) dX7_areTracks_25 (fun r W1 hp => ?_)
            obtain ⟨rfl, rfl⟩ := hp
            refine zk_ws (ws2 := MW g.2.1 a u pa im tx rw rb rk rt he tr be sp pm fl ln rm rd bn fk fp rs wk wp bm) rfl ?_
            by_cases h4 : nI 1 ≤ n ∧ n ≤ nI 8
            · refine zk_top (y := nI 1) (if_pos h4) ?_
              refine zk_if_eqN hc 35 dX7_areTracks_28 (by decide) (by omega) (fun h_3 => ?_) (fun h_3 => ?_)
              · exact absurd h_3 (by decide)
              · refine zk_iconst hc (nI 1) dX7_areTracks_31 rfl ?_
                refine zk_goto hc 36 dX7_areTracks_32 (by decide) ?_
                exact fin 0 0 _ _ _ _ (by decide) (by decide) dX7_areTracks_36 rfl (⟨by rw [if_pos ⟨h1, h2, h3, h4.1, h4.2⟩], rfl⟩)
            · refine zk_top (y := nI 0) (if_neg h4) ?_
              refine zk_if_eqN hc 35 dX7_areTracks_28 (by decide) (by omega) (fun h_4 => ?_) (fun h_4 => ?_)
              · refine zk_iconst hc (nI 0) dX7_areTracks_35 rfl ?_
                exact fin 0 0 _ _ _ _ (by decide) (by decide) dX7_areTracks_36 rfl (⟨by rw [if_neg (fun z => h4 ⟨z.2.2.2.1, z.2.2.2.2⟩)], rfl⟩)
              · exact absurd h_4 (by decide)
      · refine zk_top (y := nI 0) (if_neg h2) ?_
        refine zk_if_eqN hc 35 dX7_areTracks_13 (by decide) (by omega) (fun h_5 => ?_) (fun h_5 => ?_)
        · refine zk_iconst hc (nI 0) dX7_areTracks_35 rfl ?_
          exact fin 0 0 _ _ _ _ (by decide) (by decide) dX7_areTracks_36 rfl (⟨by rw [if_neg (fun z => h2 z.2.1)], rfl⟩)
        · exact absurd h_5 (by decide)
  · refine zk_top (y := nI 0) (if_neg h1) ?_
    refine zk_if_eqN hc 35 dX7_areTracks_5 (by decide) (by omega) (fun h_6 => ?_) (fun h_6 => ?_)
    · refine zk_iconst hc (nI 0) dX7_areTracks_35 rfl ?_
      exact fin 0 0 _ _ _ _ (by decide) (by decide) dX7_areTracks_36 rfl (⟨by rw [if_neg (fun z => h1 z.1)], rfl⟩)
    · exact absurd h_6 (by decide)

set_option maxHeartbeats 4000000 in
set_option maxRecDepth 100000 in
theorem ct_X7_costOf (g : GG) (l : Launch) (a : Nat → Nat) (u pa im tx rw rb rk rt he tr be sp : Nat → Nat) (pm fl ln rm rd bn : Nat) (fk fp rs wk wp bm : Int32) (f t n : Nat) (hf : f < 4) (ht : t < 4) (hn : n ≤ 8) (hmf : mny u f ≤ 8) (hmt : mny u t ≤ 8) (h5 : u 5 ≤ 8) (hb2 : u 2 ≤ 20) (hk : ∀ t j, t < 4 → j < 8 → knd u t j < 3) (hg : u 0 ≤ 3) : CtI g l yX7_costOf cX7_costOf 7 (some .int) (rmK 4 0 0) (MW g.2.1 a u pa im tx rw rb rk rt he tr be sp pm fl ln rm rd bn fk fp rs wk wp bm) [.ref (a 0), .int (nI f), .int (nI t), .int (nI n)] (fun r W1 => r = costI u f t n ∧ ∃ r2 n2, W1 = MW g.2.1 a u pa im tx r2 rb rk rt he tr be sp pm fl ln n2 rd bn fk fp rs wk wp bm) := by
  refine CtI.go RX7 rfl (by decide +kernel) (Nat.le_of_ble_eq_true rfl) ?_
  intro p e s m args below meth c A H0 Q hc hnm fin
  show KW g p l e (rmK 4 0 0) s m args below meth c 7 A H0 0 0 Q (MW g.2.1 a u pa im tx rw rb rk rt he tr be sp pm fl ln rm rd bn fk fp rs wk wp bm) [(0, .ref (a 0)), (1, .int (nI f)), (2, .int (nI t)), (3, .int (nI n))] 0 []
  refine zk_aload_n hc dX7_costOf_0 0 rfl ?_
  refine zk_iload_n hc dX7_costOf_1 1 rfl ?_
  refine zk_iconst hc (nI 0) dX7_costOf_2 rfl ?_
  refine zk_callVi hc (rest := []) (ct_X7_of g l a u pa im tx rw rb rk rt he tr be sp pm fl ln rm rd bn fk fp rs wk wp bm f 0 (by omega)) gg_X7_63 cd_X7_of ⟨Nat.le_of_ble_eq_true rfl, Nat.le_of_ble_eq_true rfl⟩ ⟨Nat.le_of_ble_eq_true rfl, Nat.le_of_ble_eq_true rfl⟩ ([]) ([]) rfl 0 rfl rfl rfl (Nat.le_of_ble_eq_true rfl) dX7_costOf_3 (fun r W1 hp => ?_)
  obtain ⟨rfl, rfl⟩ := hp
  refine zk_ws (ws2 := MW g.2.1 a u pa im tx rw rb rk rt he tr be sp pm fl ln rm rd bn fk fp rs wk wp bm) rfl ?_
  refine zk_top (y := nI (mny u f)) rfl ?_
  refine zk_istore hc (lv2 := [(4, .int (nI (mny u f))), (0, .ref (a 0)), (1, .int (nI f)), (2, .int (nI t)), (3, .int (nI n))]) dX7_costOf_6 (by decide) rfl ?_
  refine zk_iload_n hc dX7_costOf_8 4 rfl ?_
  refine zk_iload hc dX7_costOf_9 0 rfl ?_
  refine zk_icmp_leN hc 17 dX7_costOf_11 (by decide) (by omega) (by omega) (fun hle => ?_) (fun hle => ?_)
  · refine zk_aload_n hc dX7_costOf_17 1 rfl ?_
    refine zk_iload_n hc dX7_costOf_18 2 rfl ?_
    refine zk_iload hc dX7_costOf_19 0 rfl ?_
    refine zk_iload_n hc dX7_costOf_21 4 rfl ?_
    refine zk_isubN hc dX7_costOf_22 (by omega) ?_
    refine zk_callVv hc (rest := []) (ct_X7_beginRow g l a u pa im tx rw rb rk rt he tr be sp pm fl ln rm rd bn fk fp rs wk wp bm f ((mny u f) - n) (by omega) (by omega)) gg_X7_81 cd_X7_beginRow ⟨Nat.le_of_ble_eq_true rfl, Nat.le_of_ble_eq_true rfl⟩ ⟨Nat.le_of_ble_eq_true rfl, Nat.le_of_ble_eq_true rfl⟩ ([]) ([]) rfl 0 rfl rfl rfl (Nat.le_of_ble_eq_true rfl) dX7_costOf_23 (fun W1 hp => ?_)
    obtain ⟨r_1, rfl, hr_2⟩ := hp
    refine zk_ws (ws2 := MW g.2.1 a u pa im tx r_1 rb rk rt he tr be sp pm fl ln ((mny u f) - n) rd bn fk fp rs wk wp bm) rfl ?_
    refine zk_aload_n hc dX7_costOf_26 1 rfl ?_
    refine zk_callVi hc (rest := []) (ct_X7_isSafeRow g l a u pa im tx r_1 rb rk rt he tr be sp pm fl ln ((mny u f) - n) rd bn fk fp rs wk wp bm (by omega) (fun j hj => rowL_lt hr_2 (fun z hz => hk f z hf (by omega)) hj) hg) gg_X7_85 cd_X7_isSafeRow ⟨Nat.le_of_ble_eq_true rfl, Nat.le_of_ble_eq_true rfl⟩ ⟨Nat.le_of_ble_eq_true rfl, Nat.le_of_ble_eq_true rfl⟩ ([]) ([]) rfl 0 rfl rfl rfl (Nat.le_of_ble_eq_true rfl) dX7_costOf_27 (fun r W1 hp => ?_)
    obtain ⟨rfl, rfl⟩ := hp
    refine zk_ws (ws2 := MW g.2.1 a u pa im tx r_1 rb rk rt he tr be sp pm fl ln ((mny u f) - n) rd bn fk fp rs wk wp bm) rfl ?_
    by_cases hs1 : u 0 ≤ gap (rowL r_1 ((mny u f) - n))
    · refine zk_top (y := nI 1) (if_pos hs1) ?_
      refine zk_if_neN hc 36 dX7_costOf_30 (by decide) (by omega) (fun h_3 => ?_) (fun h_3 => ?_)
      · refine zk_aload_n hc dX7_costOf_36 1 rfl ?_
        refine zk_iload_n hc dX7_costOf_37 3 rfl ?_
        refine zk_aload_n hc dX7_costOf_38 1 rfl ?_
        refine zk_iload_n hc dX7_costOf_39 3 rfl ?_
        refine zk_iconst hc (nI 0) dX7_costOf_40 rfl ?_
        refine zk_callVi hc (rest := [.int (nI t), .ref (a 0)]) (ct_X7_of g l a u pa im tx r_1 rb rk rt he tr be sp pm fl ln ((mny u f) - n) rd bn fk fp rs wk wp bm t 0 (by omega)) gg_X7_63 cd_X7_of ⟨Nat.le_of_ble_eq_true rfl, Nat.le_of_ble_eq_true rfl⟩ ⟨Nat.le_of_ble_eq_true rfl, Nat.le_of_ble_eq_true rfl⟩ ([]) ([]) rfl 0 rfl rfl rfl (Nat.le_of_ble_eq_true rfl) dX7_costOf_41 (fun r W1 hp => ?_)
        obtain ⟨rfl, rfl⟩ := hp
        refine zk_ws (ws2 := MW g.2.1 a u pa im tx r_1 rb rk rt he tr be sp pm fl ln ((mny u f) - n) rd bn fk fp rs wk wp bm) rfl ?_
        refine zk_top (y := nI (mny u t)) rfl ?_
        refine zk_callVv hc (rest := []) (ct_X7_beginRow g l a u pa im tx r_1 rb rk rt he tr be sp pm fl ln ((mny u f) - n) rd bn fk fp rs wk wp bm t (mny u t) (by omega) (by omega)) gg_X7_81 cd_X7_beginRow ⟨Nat.le_of_ble_eq_true rfl, Nat.le_of_ble_eq_true rfl⟩ ⟨Nat.le_of_ble_eq_true rfl, Nat.le_of_ble_eq_true rfl⟩ ([]) ([]) rfl 0 rfl rfl rfl (Nat.le_of_ble_eq_true rfl) dX7_costOf_44 (fun W1 hp => ?_)
        obtain ⟨r_4, rfl, hr_5⟩ := hp
        refine zk_ws (ws2 := MW g.2.1 a u pa im tx r_4 rb rk rt he tr be sp pm fl ln (mny u t) rd bn fk fp rs wk wp bm) rfl ?_
        refine zk_iconst hc (nI 0) dX7_costOf_47 rfl ?_
        refine zk_istore hc (lv2 := [(5, .int (nI 0)), (4, .int (nI (mny u f))), (0, .ref (a 0)), (1, .int (nI f)), (2, .int (nI t)), (3, .int (nI n))]) dX7_costOf_48 (by decide) rfl ?_
        refine zk_iload hc dX7_costOf_50 1 rfl ?_
        refine zk_iload_n hc dX7_costOf_52 5 rfl ?_
        refine zk_isubN hc dX7_costOf_53 (by omega) ?_
        refine zk_istore hc (lv2 := [(6, .int (nI ((mny u f) - n))), (5, .int (nI 0)), (4, .int (nI (mny u f))), (0, .ref (a 0)), (1, .int (nI f)), (2, .int (nI t)), (3, .int (nI n))]) dX7_costOf_54 (by decide) rfl ?_
        have loop56 : ∀ (N : Nat) (q : Nat) (r : Nat → Nat) (x : Nat), n - q < N → (q ≤ n) → (rowL r (mny u t + q) = kds u t (mny u t) ++ kdf u f (mny u f - n) q) → (x = if 2 ∈ kdf u f (mny u f - n) q then 1 else 0) → (x < 2) → KW g p l e (rmK 4 0 0) s m args below meth c 7 A H0 0 0 Q (MW g.2.1 a u pa im tx r rb rk rt he tr be sp pm fl ln (mny u t + q) rd bn fk fp rs wk wp bm) [(0, .ref (a 0)), (1, .int (nI f)), (2, .int (nI t)), (3, .int (nI n)), (4, .int (nI (mny u f))), (5, .int (nI x)), (6, .int (nI (mny u f - n + q)))] 56 [] := by
          intro N
          induction N with
          | zero => intro q r x hm; exact absurd hm (Nat.not_lt_zero _)
          | succ N ih56 =>
            intro q r x hm56 hq hrr hx hx1
            refine zk_iload hc dX7_costOf_56 6 rfl ?_
            refine zk_iload hc dX7_costOf_58 4 rfl ?_
            refine zk_icmp_geN hc 101 dX7_costOf_60 (by decide) (by omega) (by omega) (fun h_6 => ?_) (fun h_6 => ?_)
            · refine zk_aload_n hc dX7_costOf_101 0 rfl ?_
              have eq : q = n := by omega
              subst eq
              refine zk_callVi hc (rest := []) (ct_X7_isSafeRow g l a u pa im tx r rb rk rt he tr be sp pm fl ln (mny u t + q) rd bn fk fp rs wk wp bm (by omega) (fun j hj => rowL_lt2 hrr (fun z hz => hk t z ht (by omega)) (fun z hz => hk f _ hf (by omega)) hj) hg) gg_X7_85 cd_X7_isSafeRow ⟨Nat.le_of_ble_eq_true rfl, Nat.le_of_ble_eq_true rfl⟩ ⟨Nat.le_of_ble_eq_true rfl, Nat.le_of_ble_eq_true rfl⟩ ([]) ([]) rfl 0 rfl rfl rfl (Nat.le_of_ble_eq_true rfl) dX7_costOf_102 (fun r W1 hp => ?_)
              obtain ⟨rfl, rfl⟩ := hp
              refine zk_ws (ws2 := MW g.2.1 a u pa im tx r rb rk rt he tr be sp pm fl ln (mny u t + q) rd bn fk fp rs wk wp bm) rfl ?_
              by_cases hs2 : u 0 ≤ gap (rowL r (mny u t + q))
              · refine zk_top (y := nI 1) (if_pos hs2) ?_
                refine zk_if_neN hc 111 dX7_costOf_105 (by decide) (by omega) (fun h_7 => ?_) (fun h_7 => ?_)
                · refine zk_aload_n hc dX7_costOf_111 0 rfl ?_
                  refine zk_iload_n hc dX7_costOf_112 2 rfl ?_
                  refine zk_iconst hc (nI 0) dX7_costOf_113 rfl ?_
                  refine zk_callVi hc (rest := []) (ct_X7_of g l a u pa im tx r rb rk rt he tr be sp pm fl ln (mny u t + q) rd bn fk fp rs wk wp bm t 0 (by omega)) gg_X7_63 cd_X7_of ⟨Nat.le_of_ble_eq_true rfl, Nat.le_of_ble_eq_true rfl⟩ ⟨Nat.le_of_ble_eq_true rfl, Nat.le_of_ble_eq_true rfl⟩ ([]) ([]) rfl 0 rfl rfl rfl (Nat.le_of_ble_eq_true rfl) dX7_costOf_114 (fun r W1 hp => ?_)
                  obtain ⟨rfl, rfl⟩ := hp
                  refine zk_ws (ws2 := MW g.2.1 a u pa im tx r rb rk rt he tr be sp pm fl ln (mny u t + q) rd bn fk fp rs wk wp bm) rfl ?_
                  refine zk_top (y := nI (mny u t)) rfl ?_
                  refine zk_iload_n hc dX7_costOf_117 3 rfl ?_
                  refine zk_iaddN hc dX7_costOf_118 ?_
                  refine zk_aload_n hc dX7_costOf_119 0 rfl ?_
                  refine zk_get hc inlX7 (ci := 7) rfl 0 0 (by decide) mw_4_11 rfl rfl rfl dX7_costOf_120 ?_
                  refine zk_iconst hc (nI 5) dX7_costOf_123 rfl ?_
                  refine zk_ialdN hc 1 rfl (by omega) (by decide) dX7_costOf_124 ?_
                  refine zk_icmp_leN hc 131 dX7_costOf_125 (by decide) (by omega) (by omega) (fun hful => ?_) (fun hful => ?_)
                  · refine zk_aload_n hc dX7_costOf_131 0 rfl ?_
                    refine zk_get hc inlX7 (ci := 7) rfl 0 0 (by decide) mw_4_11 rfl rfl rfl dX7_costOf_132 ?_
                    refine zk_iconst hc (nI 2) dX7_costOf_135 rfl ?_
                    refine zk_ialdN hc 1 rfl (by omega) (by decide) dX7_costOf_136 ?_
                    refine zk_iload_n hc dX7_costOf_137 3 rfl ?_
                    refine zk_iaddN hc dX7_costOf_138 ?_
                    refine zk_iconst hc (nI 2) dX7_costOf_139 rfl ?_
                    refine zk_iload_n hc dX7_costOf_140 1 rfl ?_
                    refine zk_iload_n hc dX7_costOf_141 2 rfl ?_
                    refine zk_icmp_leN hc 151 dX7_costOf_142 (by decide) (by omega) (by omega) (fun hgt => ?_) (fun hgt => ?_)
                    · refine zk_iload_n hc dX7_costOf_151 2 rfl ?_
                      refine zk_iload_n hc dX7_costOf_152 1 rfl ?_
                      refine zk_isubN hc dX7_costOf_153 (by omega) ?_
                      refine zk_imulN hc dX7_costOf_154 ?_
                      refine zk_iaddN hc dX7_costOf_155 ?_
                      refine zk_iload hc dX7_costOf_156 5 rfl ?_
                      refine zk_if_eqN hc 165 dX7_costOf_158 (by decide) (by omega) (fun hxx => ?_) (fun hxx => ?_)
                      · have hex : ¬ 2 ∈ kdf u f (mny u f - q) q := fun z => by rw [if_pos z] at hx; omega
                        refine zk_iconst hc (nI 0) dX7_costOf_165 rfl ?_
                        refine zk_iaddN hc dX7_costOf_166 ?_
                        refine fin 0 0 _ _ _ _ (by decide) (by decide) dX7_costOf_167 (?_)
                        exact ⟨by unfold costI; rw [if_neg (by omega), if_neg (not_not_intro (hr_2 ▸ hs1)), if_neg (not_not_intro (by rw [← hrr]; exact hs2)), if_neg (by omega)]; unfold mins; rw [if_neg (by omega), if_neg hex], _, _, rfl⟩
                      · have hex : 2 ∈ kdf u f (mny u f - q) q := by rcases Classical.em (2 ∈ kdf u f (mny u f - q) q) with z | z; exact z; rw [if_neg z] at hx; omega
                        refine zk_iconst hc (nI 5) dX7_costOf_161 rfl ?_
                        refine zk_goto hc 166 dX7_costOf_162 (by decide) ?_
                        refine zk_iaddN hc dX7_costOf_166 ?_
                        refine fin 0 0 _ _ _ _ (by decide) (by decide) dX7_costOf_167 (?_)
                        exact ⟨by unfold costI; rw [if_neg (by omega), if_neg (not_not_intro (hr_2 ▸ hs1)), if_neg (not_not_intro (by rw [← hrr]; exact hs2)), if_neg (by omega)]; unfold mins; rw [if_neg (by omega), if_pos hex], _, _, rfl⟩
                    · refine zk_iload_n hc dX7_costOf_145 1 rfl ?_
                      refine zk_iload_n hc dX7_costOf_146 2 rfl ?_
                      refine zk_isubN hc dX7_costOf_147 (by omega) ?_
                      refine zk_goto hc 154 dX7_costOf_148 (by decide) ?_
                      refine zk_imulN hc dX7_costOf_154 ?_
                      refine zk_iaddN hc dX7_costOf_155 ?_
                      refine zk_iload hc dX7_costOf_156 5 rfl ?_
                      refine zk_if_eqN hc 165 dX7_costOf_158 (by decide) (by omega) (fun hxx => ?_) (fun hxx => ?_)
                      · have hex : ¬ 2 ∈ kdf u f (mny u f - q) q := fun z => by rw [if_pos z] at hx; omega
                        refine zk_iconst hc (nI 0) dX7_costOf_165 rfl ?_
                        refine zk_iaddN hc dX7_costOf_166 ?_
                        refine fin 0 0 _ _ _ _ (by decide) (by decide) dX7_costOf_167 (?_)
                        exact ⟨by unfold costI; rw [if_neg (by omega), if_neg (not_not_intro (hr_2 ▸ hs1)), if_neg (not_not_intro (by rw [← hrr]; exact hs2)), if_neg (by omega)]; unfold mins; rw [if_pos (by omega), if_neg hex], _, _, rfl⟩
                      · have hex : 2 ∈ kdf u f (mny u f - q) q := by rcases Classical.em (2 ∈ kdf u f (mny u f - q) q) with z | z; exact z; rw [if_neg z] at hx; omega
                        refine zk_iconst hc (nI 5) dX7_costOf_161 rfl ?_
                        refine zk_goto hc 166 dX7_costOf_162 (by decide) ?_
                        refine zk_iaddN hc dX7_costOf_166 ?_
                        refine fin 0 0 _ _ _ _ (by decide) (by decide) dX7_costOf_167 (?_)
                        exact ⟨by unfold costI; rw [if_neg (by omega), if_neg (not_not_intro (hr_2 ▸ hs1)), if_neg (not_not_intro (by rw [← hrr]; exact hs2)), if_neg (by omega)]; unfold mins; rw [if_pos (by omega), if_pos hex], _, _, rfl⟩
                  · refine zk_bipush hc ((-3)) dX7_costOf_128 rfl ?_
                    refine fin 0 0 _ _ _ _ (by decide) (by decide) dX7_costOf_130 (?_)
                    exact ⟨by unfold costI; rw [if_neg (by omega), if_neg (not_not_intro (hr_2 ▸ hs1)), if_neg (not_not_intro (by rw [← hrr]; exact hs2)), if_pos (by omega)], _, _, rfl⟩
                · exact absurd h_7 (by decide)
              · refine zk_top (y := nI 0) (if_neg hs2) ?_
                refine zk_if_neN hc 111 dX7_costOf_105 (by decide) (by omega) (fun h_8 => ?_) (fun h_8 => ?_)
                · exact absurd h_8 (by decide)
                · refine zk_bipush hc ((-2)) dX7_costOf_108 rfl ?_
                  refine fin 0 0 _ _ _ _ (by decide) (by decide) dX7_costOf_110 (?_)
                  exact ⟨by unfold costI; rw [if_neg (by omega), if_neg (not_not_intro (hr_2 ▸ hs1)), if_pos (by rw [← hrr]; exact hs2)], _, _, rfl⟩
            · refine zk_aload_n hc dX7_costOf_63 0 rfl ?_
              refine zk_aload_n hc dX7_costOf_64 0 rfl ?_
              refine zk_iload_n hc dX7_costOf_65 1 rfl ?_
              refine zk_iload hc dX7_costOf_66 6 rfl ?_
              refine zk_callVi hc (rest := [.ref (a 0)]) (ct_X7_kindAt g l a u pa im tx r rb rk rt he tr be sp pm fl ln (mny u t + q) rd bn fk fp rs wk wp bm f (mny u f - n + q) (by omega)) gg_X7_70 cd_X7_kindAt ⟨Nat.le_of_ble_eq_true rfl, Nat.le_of_ble_eq_true rfl⟩ ⟨Nat.le_of_ble_eq_true rfl, Nat.le_of_ble_eq_true rfl⟩ ([]) ([]) rfl 0 rfl rfl rfl (Nat.le_of_ble_eq_true rfl) dX7_costOf_68 (fun r W1 hp => ?_)
              obtain ⟨rfl, rfl⟩ := hp
              refine zk_ws (ws2 := MW g.2.1 a u pa im tx r rb rk rt he tr be sp pm fl ln (mny u t + q) rd bn fk fp rs wk wp bm) rfl ?_
              refine zk_callVv hc (rest := []) (ct_X7_appendKind g l a u pa im tx r rb rk rt he tr be sp pm fl ln (mny u t + q) rd bn fk fp rs wk wp bm (knd u f (mny u f - n + q)) (by omega)) gg_X7_73 cd_X7_appendKind ⟨Nat.le_of_ble_eq_true rfl, Nat.le_of_ble_eq_true rfl⟩ ⟨Nat.le_of_ble_eq_true rfl, Nat.le_of_ble_eq_true rfl⟩ ([]) ([]) rfl 0 rfl rfl rfl (Nat.le_of_ble_eq_true rfl) dX7_costOf_71 (fun W1 hp => ?_)
              obtain rfl := hp
              refine zk_ws (ws2 := MW g.2.1 a u pa im tx (va_up r (mny u t + q) (knd u f (mny u f - n + q))) rb rk rt he tr be sp pm fl ln (mny u t + q + 1) rd bn fk fp rs wk wp bm) rfl ?_
              refine zk_iload hc dX7_costOf_74 5 rfl ?_
              refine zk_aload_n hc dX7_costOf_76 0 rfl ?_
              refine zk_iload_n hc dX7_costOf_77 1 rfl ?_
              refine zk_iload hc dX7_costOf_78 6 rfl ?_
              refine zk_callVi hc (rest := [.int (nI x)]) (ct_X7_kindAt g l a u pa im tx (va_up r (mny u t + q) (knd u f (mny u f - n + q))) rb rk rt he tr be sp pm fl ln (mny u t + q + 1) rd bn fk fp rs wk wp bm f (mny u f - n + q) (by omega)) gg_X7_70 cd_X7_kindAt ⟨Nat.le_of_ble_eq_true rfl, Nat.le_of_ble_eq_true rfl⟩ ⟨Nat.le_of_ble_eq_true rfl, Nat.le_of_ble_eq_true rfl⟩ ([]) ([]) rfl 0 rfl rfl rfl (Nat.le_of_ble_eq_true rfl) dX7_costOf_80 (fun r W1 hp => ?_)
              obtain ⟨rfl, rfl⟩ := hp
              refine zk_ws (ws2 := MW g.2.1 a u pa im tx (va_up r (mny u t + q) (knd u f (mny u f - n + q))) rb rk rt he tr be sp pm fl ln (mny u t + q + 1) rd bn fk fp rs wk wp bm) rfl ?_
              refine zk_iconst hc (nI 2) dX7_costOf_83 rfl ?_
              refine zk_icmp_neN hc 91 dX7_costOf_84 (by decide) (by have := hk f (mny u f - n + q) hf (by omega); omega) (by have := hk f (mny u f - n + q) hf (by omega); omega) (fun h2 => ?_) (fun h2 => ?_)
              · refine zk_iconst hc (nI 0) dX7_costOf_91 rfl ?_
                refine zk_ior hc dX7_costOf_92 ?_
                refine zk_top (y := nI x) (ior_0 (by omega)) ?_
                refine zk_istore hc (lv2 := [(5, .int (nI x)), (0, .ref (a 0)), (1, .int (nI f)), (2, .int (nI t)), (3, .int (nI n)), (4, .int (nI (mny u f))), (6, .int (nI (mny u f - n + q)))]) dX7_costOf_93 (by decide) rfl ?_
                refine zk_iinc hc (v := nI (mny u f - n + q + 1)) (lv2 := [(6, .int (nI (mny u f - n + q + 1))), (5, .int (nI x)), (0, .ref (a 0)), (1, .int (nI f)), (2, .int (nI t)), (3, .int (nI n)), (4, .int (nI (mny u f)))]) dX7_costOf_95 6 rfl (nq_inc rfl) (by decide) rfl ?_
                refine zk_goto hc 56 dX7_costOf_98 (by decide) ?_
                refine zk_lv [2, 3, 4, 5, 6, 1, 0] (lv2 := [(0, .ref (a 0)), (1, .int (nI f)), (2, .int (nI t)), (3, .int (nI n)), (4, .int (nI (mny u f))), (5, .int (nI x)), (6, .int (nI (mny u f - n + q + 1)))]) rfl ?_
                exact ih56 (q + 1) (va_up r (mny u t + q) (knd u f (mny u f - n + q))) x (by omega) (by omega) (by rw [show mny u t + (q + 1) = mny u t + q + 1 by omega, rowL_up, kdf_succ, hrr, List.append_assoc]) (by rw [kdf_succ]; rw [hx]; simp [Ne.symm h2]) (by omega)
              · refine zk_iconst hc (nI 1) dX7_costOf_87 rfl ?_
                refine zk_goto hc 92 dX7_costOf_88 (by decide) ?_
                refine zk_ior hc dX7_costOf_92 ?_
                refine zk_top (y := nI 1) (ior_1 (by omega)) ?_
                refine zk_istore hc (lv2 := [(5, .int (nI 1)), (0, .ref (a 0)), (1, .int (nI f)), (2, .int (nI t)), (3, .int (nI n)), (4, .int (nI (mny u f))), (6, .int (nI (mny u f - n + q)))]) dX7_costOf_93 (by decide) rfl ?_
                refine zk_iinc hc (v := nI (mny u f - n + q + 1)) (lv2 := [(6, .int (nI (mny u f - n + q + 1))), (5, .int (nI 1)), (0, .ref (a 0)), (1, .int (nI f)), (2, .int (nI t)), (3, .int (nI n)), (4, .int (nI (mny u f)))]) dX7_costOf_95 6 rfl (nq_inc rfl) (by decide) rfl ?_
                refine zk_goto hc 56 dX7_costOf_98 (by decide) ?_
                refine zk_lv [2, 3, 4, 5, 6, 1, 0] (lv2 := [(0, .ref (a 0)), (1, .int (nI f)), (2, .int (nI t)), (3, .int (nI n)), (4, .int (nI (mny u f))), (5, .int (nI 1)), (6, .int (nI (mny u f - n + q + 1)))]) rfl ?_
                exact ih56 (q + 1) (va_up r (mny u t + q) (knd u f (mny u f - n + q))) 1 (by omega) (by omega) (by rw [show mny u t + (q + 1) = mny u t + q + 1 by omega, rowL_up, kdf_succ, hrr, List.append_assoc]) (by rw [kdf_succ]; rw [if_pos (List.mem_append_right _ (by rw [h2]; exact List.mem_cons_self))]) (by omega)
        refine zk_lv [3, 4, 5, 6, 2, 1, 0] (lv2 := [(0, .ref (a 0)), (1, .int (nI f)), (2, .int (nI t)), (3, .int (nI n)), (4, .int (nI (mny u f))), (5, .int (nI 0)), (6, .int (nI ((mny u f) - n)))]) rfl ?_
        exact loop56 ((n - 0) + 1) 0 r_4 0 (Nat.lt_succ_self _) (Nat.zero_le _) (by simpa [kdf] using hr_5) (by simp [kdf]) (by decide)
      · exact absurd h_3 (by decide)
    · refine zk_top (y := nI 0) (if_neg hs1) ?_
      refine zk_if_neN hc 36 dX7_costOf_30 (by decide) (by omega) (fun h_9 => ?_) (fun h_9 => ?_)
      · exact absurd h_9 (by decide)
      · refine zk_bipush hc ((-2)) dX7_costOf_33 rfl ?_
        refine fin 0 0 _ _ _ _ (by decide) (by decide) dX7_costOf_35 (?_)
        exact ⟨by unfold costI; rw [if_neg (by omega), if_pos (hr_2 ▸ hs1)], _, _, rfl⟩
  · refine zk_bipush hc ((-2)) dX7_costOf_14 rfl ?_
    refine fin 0 0 _ _ _ _ (by decide) (by decide) dX7_costOf_16 (?_)
    exact ⟨by unfold costI; rw [if_pos (by omega)], _, _, rfl⟩
