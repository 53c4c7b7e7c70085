set_option maxHeartbeats 4000000 in
set_option maxRecDepth 100000 in
theorem ct_X7_told (g : GG) (l : Launch) (a : Nat → Nat) (u pa im tx rw rb rk rt he tr be sp : Nat → Nat) (pm fl ln rm rd bn : Nat) (fk fp rs wk wp bm : Int32) (cN : Nat) (hN : cN ≤ 512) (hW : Wf cN u)  (v : Int32) : CtI g l yX7_told cX7_told 2 (some .int) (rmK 6 0 0) (MW g.2.1 a u pa im tx rw rb rk rt he tr be sp pm fl ln rm rd bn fk fp rs wk wp bm) [.ref (a 0), .int v] (fun r W1 => r = aTol (u, pa, pm, im, fl, tx, ln, fk, fp, rs) v ∧ ∃ X, W1 = MSW g.2.1 a ((u, pa, pm, im, fl, tx, ln, fk, fp, rs)) X) := by
  refine CtI.go RX7 rfl (by decide +kernel) (Nat.le_of_ble_eq_true rfl) ?_
  intro p e s m args below meth c A H0 Q hc hnm fin
  obtain ⟨⟨hK2, hK4⟩, ⟨hC1, hC8⟩, hg, ⟨hh1, hh2⟩, ⟨hv1, hv2⟩, hs3, hl10, hld, htr, hmC, hwk, hbg⟩ := id hW
  have hm : ∀ t, t < 4 → mny u t ≤ 8 := fun t h => (htr t h).1
  have hm4 : ∀ t, t < u 4 → mny u t ≤ 8 := fun t h => (htr t (by omega)).1
  have hk : ∀ t j, t < 4 → j < 8 → knd u t j < 3 := fun t j h1 h2 => (hwk t j h1 h2).2
  have hd : ∀ t j, t < 4 → j < 8 → dst u t j < 6 := fun t j h1 h2 => (hwk t j h1 h2).1
  have h13 : u 13 < 6 := hld 0 (by omega)
  have h6 : u 6 ≤ 1000 * cN + 600 := hbg 6 (by omega)
  show KW g p l e (rmK 6 0 0) s m args below meth c 2 A H0 0 0 Q (MW g.2.1 a u pa im tx rw rb rk rt he tr be sp pm fl ln rm rd bn fk fp rs wk wp bm) [(0, .ref (a 0)), (1, .int v)] 0 []
  refine zk_iload_n hc dX7_told_0 1 rfl ?_
  by_cases hsw : nI 0 ≤ v ∧ v ≤ nI 14
  · obtain ⟨k, hk0, hk1, rfl⟩ := rngN (by omega) hsw
    rcases (show k = 0 ∨ k = 1 ∨ k = 2 ∨ k = 3 ∨ k = 4 ∨ k = 5 ∨ k = 6 ∨ k = 7 ∨ k = 8 ∨ k = 9 ∨ k = 10 ∨ k = 11 ∨ k = 12 ∨ k = 13 ∨ k = 14 by omega) with rfl | rfl | rfl | rfl | rfl | rfl | rfl | rfl | rfl | rfl | rfl | rfl | rfl | rfl | rfl
    · refine zk_tableIn hc 76 dX7_told_1 (by decide) (by decide) rfl (by decide) ?_
      refine zk_aload_n hc dX7_told_76 0 rfl ?_
      refine zk_get hc inlX7 (ci := 7) rfl 0 0 (by decide) mw_4_11 rfl rfl rfl dX7_told_77 ?_
      refine zk_iconst hc (nI 4) dX7_told_80 rfl ?_
      refine zk_ialdN hc 1 rfl (by omega) (by decide) dX7_told_81 ?_
      refine fin 0 0 _ _ _ _ (by decide) (by decide) dX7_told_82 (?_)
      exact ⟨by unfold aTol; rw [if_pos hsw]; rfl, (rw, rb, rk, rt, he, tr, be, sp, rm, rd, bn, wk, wp, bm), by rfl⟩
    · refine zk_tableIn hc 83 dX7_told_1 (by decide) (by decide) rfl (by decide) ?_
      refine zk_aload_n hc dX7_told_83 0 rfl ?_
      refine zk_get hc inlX7 (ci := 7) rfl 0 0 (by decide) mw_4_11 rfl rfl rfl dX7_told_84 ?_
      refine zk_iconst hc (nI 5) dX7_told_87 rfl ?_
      refine zk_ialdN hc 1 rfl (by omega) (by decide) dX7_told_88 ?_
      refine fin 0 0 _ _ _ _ (by decide) (by decide) dX7_told_89 (?_)
      exact ⟨by unfold aTol; rw [if_pos hsw]; rfl, (rw, rb, rk, rt, he, tr, be, sp, rm, rd, bn, wk, wp, bm), by rfl⟩
    · refine zk_tableIn hc 90 dX7_told_1 (by decide) (by decide) rfl (by decide) ?_
      refine zk_aload_n hc dX7_told_90 0 rfl ?_
      refine zk_get hc inlX7 (ci := 7) rfl 0 0 (by decide) mw_4_11 rfl rfl rfl dX7_told_91 ?_
      refine zk_bipush hc (nI 6) dX7_told_94 rfl ?_
      refine zk_ialdN hc 1 rfl (by omega) (by decide) dX7_told_96 ?_
      refine fin 0 0 _ _ _ _ (by decide) (by decide) dX7_told_97 (?_)
      exact ⟨by unfold aTol; rw [if_pos hsw]; rfl, (rw, rb, rk, rt, he, tr, be, sp, rm, rd, bn, wk, wp, bm), by rfl⟩
    · refine zk_tableIn hc 98 dX7_told_1 (by decide) (by decide) rfl (by decide) ?_
      refine zk_aload_n hc dX7_told_98 0 rfl ?_
      refine zk_callVi hc (rest := []) (ct_X7_wagons g l a u pa im tx rw rb rk rt he tr be sp pm fl ln rm rd bn fk fp rs wk wp bm hK4 hm4) gg_X7_193 cd_X7_wagons ⟨Nat.le_of_ble_eq_true rfl, Nat.le_of_ble_eq_true rfl⟩ ⟨Nat.le_of_ble_eq_true rfl, Nat.le_of_ble_eq_true rfl⟩ ([]) ([]) rfl 0 rfl rfl rfl (Nat.le_of_ble_eq_true rfl) dX7_told_99 (fun r W1 hp => ?_)
      obtain ⟨rfl, rfl⟩ := hp
      refine zk_ws (ws2 := MW g.2.1 a u pa im tx rw rb rk rt he tr be sp pm fl ln rm rd bn fk fp rs wk wp bm) rfl ?_
      refine fin 0 0 _ _ _ _ (by decide) (by decide) dX7_told_102 (?_)
      exact ⟨by unfold aTol; rw [if_pos hsw]; rfl, (rw, rb, rk, rt, he, tr, be, sp, rm, rd, bn, wk, wp, bm), by rfl⟩
    · refine zk_tableIn hc 103 dX7_told_1 (by decide) (by decide) rfl (by decide) ?_
      refine zk_aload_n hc dX7_told_103 0 rfl ?_
      refine zk_get hc inlX7 (ci := 7) rfl 0 0 (by decide) mw_4_11 rfl rfl rfl dX7_told_104 ?_
      refine zk_bipush hc (nI 12) dX7_told_107 rfl ?_
      refine zk_ialdN hc 1 rfl (by omega) (by decide) dX7_told_109 ?_
      refine fin 0 0 _ _ _ _ (by decide) (by decide) dX7_told_110 (?_)
      exact ⟨by unfold aTol; rw [if_pos hsw]; rfl, (rw, rb, rk, rt, he, tr, be, sp, rm, rd, bn, wk, wp, bm), by rfl⟩
    · refine zk_tableIn hc 111 dX7_told_1 (by decide) (by decide) rfl (by decide) ?_
      refine zk_aload_n hc dX7_told_111 0 rfl ?_
      refine zk_callVi hc (rest := []) (ct_X7_unsafeTracks g l a u pa im tx rw rb rk rt he tr be sp pm fl ln rm rd bn fk fp rs wk wp bm hK4 hm hk hg) gg_X7_200 cd_X7_unsafeTracks ⟨Nat.le_of_ble_eq_true rfl, Nat.le_of_ble_eq_true rfl⟩ ⟨Nat.le_of_ble_eq_true rfl, Nat.le_of_ble_eq_true rfl⟩ ([]) ([]) rfl 0 rfl rfl rfl (Nat.le_of_ble_eq_true rfl) dX7_told_112 (fun r W1 hp => ?_)
      obtain ⟨rfl, r_1, n_2, rfl⟩ := hp
      refine zk_ws (ws2 := MW g.2.1 a u pa im tx r_1 rb rk rt he tr be sp pm fl ln n_2 rd bn fk fp rs wk wp bm) rfl ?_
      refine fin 0 0 _ _ _ _ (by decide) (by decide) dX7_told_115 (?_)
      exact ⟨by unfold aTol; rw [if_pos hsw]; rfl, (r_1, rb, rk, rt, he, tr, be, sp, n_2, rd, bn, wk, wp, bm), by rfl⟩
    · refine zk_tableIn hc 116 dX7_told_1 (by decide) (by decide) rfl (by decide) ?_
      refine zk_aload_n hc dX7_told_116 0 rfl ?_
      refine zk_get hc inlX7 (ci := 7) rfl 0 0 (by decide) mw_4_11 rfl rfl rfl dX7_told_117 ?_
      refine zk_bipush hc (nI 8) dX7_told_120 rfl ?_
      refine zk_ialdN hc 1 rfl (by omega) (by decide) dX7_told_122 ?_
      refine fin 0 0 _ _ _ _ (by decide) (by decide) dX7_told_123 (?_)
      exact ⟨by unfold aTol; rw [if_pos hsw]; rfl, (rw, rb, rk, rt, he, tr, be, sp, rm, rd, bn, wk, wp, bm), by rfl⟩
    · refine zk_tableIn hc 124 dX7_told_1 (by decide) (by decide) rfl (by decide) ?_
      refine zk_aload_n hc dX7_told_124 0 rfl ?_
      refine zk_get hc inlX7 (ci := 7) rfl 0 0 (by decide) mw_4_11 rfl rfl rfl dX7_told_125 ?_
      refine zk_bipush hc (nI 9) dX7_told_128 rfl ?_
      refine zk_ialdN hc 1 rfl (by omega) (by decide) dX7_told_130 ?_
      refine fin 0 0 _ _ _ _ (by decide) (by decide) dX7_told_131 (?_)
      exact ⟨by unfold aTol; rw [if_pos hsw]; rfl, (rw, rb, rk, rt, he, tr, be, sp, rm, rd, bn, wk, wp, bm), by rfl⟩
    · refine zk_tableIn hc 132 dX7_told_1 (by decide) (by decide) rfl (by decide) ?_
      refine zk_aload_n hc dX7_told_132 0 rfl ?_
      refine zk_get hc inlX7 (ci := 7) rfl 0 0 (by decide) mw_4_11 rfl rfl rfl dX7_told_133 ?_
      refine zk_bipush hc (nI 10) dX7_told_136 rfl ?_
      refine zk_ialdN hc 1 rfl (by omega) (by decide) dX7_told_138 ?_
      refine fin 0 0 _ _ _ _ (by decide) (by decide) dX7_told_139 (?_)
      exact ⟨by unfold aTol; rw [if_pos hsw]; rfl, (rw, rb, rk, rt, he, tr, be, sp, rm, rd, bn, wk, wp, bm), by rfl⟩
    · refine zk_tableIn hc 140 dX7_told_1 (by decide) (by decide) rfl (by decide) ?_
      refine zk_aload_n hc dX7_told_140 0 rfl ?_
      refine zk_get hc inlX7 (ci := 7) rfl 0 0 (by decide) mw_4_11 rfl rfl rfl dX7_told_141 ?_
      refine zk_bipush hc (nI 11) dX7_told_144 rfl ?_
      refine zk_ialdN hc 1 rfl (by omega) (by decide) dX7_told_146 ?_
      refine fin 0 0 _ _ _ _ (by decide) (by decide) dX7_told_147 (?_)
      exact ⟨by unfold aTol; rw [if_pos hsw]; rfl, (rw, rb, rk, rt, he, tr, be, sp, rm, rd, bn, wk, wp, bm), by rfl⟩
    · refine zk_tableIn hc 148 dX7_told_1 (by decide) (by decide) rfl (by decide) ?_
      refine zk_aload_n hc dX7_told_148 0 rfl ?_
      refine zk_get hc inlX7 (ci := 7) rfl 0 0 (by decide) mw_4_11 rfl rfl rfl dX7_told_149 ?_
      refine zk_bipush hc (nI 7) dX7_told_152 rfl ?_
      refine zk_ialdN hc 1 rfl (by omega) (by decide) dX7_told_154 ?_
      refine fin 0 0 _ _ _ _ (by decide) (by decide) dX7_told_155 (?_)
      exact ⟨by unfold aTol; rw [if_pos hsw]; rfl, (rw, rb, rk, rt, he, tr, be, sp, rm, rd, bn, wk, wp, bm), by rfl⟩
    · refine zk_tableIn hc 156 dX7_told_1 (by decide) (by decide) rfl (by decide) ?_
      refine zk_aload_n hc dX7_told_156 0 rfl ?_
      refine zk_get hc inlX7 (ci := 7) rfl 0 9 (by decide) mw_4_17 rfl rfl rfl dX7_told_157 ?_
      refine fin 0 0 _ _ _ _ (by decide) (by decide) dX7_told_160 (?_)
      exact ⟨by unfold aTol; rw [if_pos hsw]; rfl, (rw, rb, rk, rt, he, tr, be, sp, rm, rd, bn, wk, wp, bm), by rfl⟩
    · refine zk_tableIn hc 161 dX7_told_1 (by decide) (by decide) rfl (by decide) ?_
      refine zk_aload_n hc dX7_told_161 0 rfl ?_
      refine zk_callVi hc (rest := []) (ct_X7_madeUp g l a u pa im tx rw rb rk rt he tr be sp pm fl ln rm rd bn fk fp rs wk wp bm hK4 hm hd h13 hl10) gg_X7_163 cd_X7_madeUp ⟨Nat.le_of_ble_eq_true rfl, Nat.le_of_ble_eq_true rfl⟩ ⟨Nat.le_of_ble_eq_true rfl, Nat.le_of_ble_eq_true rfl⟩ ([]) ([]) rfl 0 rfl rfl rfl (Nat.le_of_ble_eq_true rfl) dX7_told_162 (fun r W1 hp => ?_)
      obtain ⟨rfl, rfl⟩ := hp
      refine zk_ws (ws2 := MW g.2.1 a u pa im tx rw rb rk rt he tr be sp pm fl ln rm rd bn fk fp rs wk wp bm) rfl ?_
      refine fin 0 0 _ _ _ _ (by decide) (by decide) dX7_told_165 (?_)
      exact ⟨by unfold aTol; rw [if_pos hsw]; rfl, (rw, rb, rk, rt, he, tr, be, sp, rm, rd, bn, wk, wp, bm), by rfl⟩
    · refine zk_tableIn hc 166 dX7_told_1 (by decide) (by decide) rfl (by decide) ?_
      refine zk_aload_n hc dX7_told_166 0 rfl ?_
      refine zk_get hc inlX7 (ci := 7) rfl 0 6 (by decide) mw_11_18 rfl rfl rfl dX7_told_167 ?_
      refine fin 0 0 _ _ _ _ (by decide) (by decide) dX7_told_170 (?_)
      exact ⟨by unfold aTol; rw [if_pos hsw]; rfl, (rw, rb, rk, rt, he, tr, be, sp, rm, rd, bn, wk, wp, bm), by rfl⟩
    · refine zk_tableIn hc 171 dX7_told_1 (by decide) (by decide) rfl (by decide) ?_
      refine zk_aload_n hc dX7_told_171 0 rfl ?_
      refine zk_get hc inlX7 (ci := 7) rfl 0 2 (by decide) mw_7_9 rfl rfl rfl dX7_told_172 ?_
      refine fin 0 0 _ _ _ _ (by decide) (by decide) dX7_told_175 (?_)
      exact ⟨by unfold aTol; rw [if_pos hsw]; rfl, (rw, rb, rk, rt, he, tr, be, sp, rm, rd, bn, wk, wp, bm), by rfl⟩
  · refine zk_tableOut hc 176 dX7_told_1 (tab_out (hi := 14) (by decide) hsw) (by decide) ?_
    refine zk_iconst hc ((-1)) dX7_told_176 rfl ?_
    refine fin 0 0 _ _ _ _ (by decide) (by decide) dX7_told_177 (?_)
    exact ⟨by unfold aTol; rw [if_neg hsw], (rw, rb, rk, rt, he, tr, be, sp, rm, rd, bn, wk, wp, bm), by rfl⟩
