set_option maxHeartbeats 4000000 in
set_option maxRecDepth 100000 in
theorem seg_search {g : GG} {p : Program} {l : Launch} {e : Env} {s : State} {m : MethodId} {args : Array Value} {below : List Frame} {meth : Method} {c : Code} {A : Nat → Prop} {H0 : Heap} {Q : State → Prop} (hc : KC g p s m args c cX7_search 4 RX7 A H0 meth) (a : Nat → Nat) (u pa im tx rw rb rk rt he tr be sp : Nat → Nat) (pm fl ln rm rd bn : Nat) (fk fp rs wk wp bm : Int32) (mo lv mi f0 t0 n0 f t n : Nat) (U : Nat → Nat) (hlv : lv < 3) (hmo : lv + 1 ≤ mo) (hmo3 : mo ≤ 3) (hU : va_cpy he u (131 * lv) 0 131 = U) (htf : tr (3 * lv) = f0) (htt : tr (3 * lv + 1) = t0) (htn : tr (3 * lv + 2) = n0) (hf0 : f0 < U 4) (ht0 : t0 < U 4) (hn0 : n0 ≤ 8) (hK4 : U 4 ≤ 4) (hm8 : ∀ t, t < 4 → mny U t ≤ 8) (e1 : nxF (U 4) (mny U f0) f0 t0 n0 = f) (e2 : nxT (U 4) (mny U f0) t0 n0 = t) (e3 : nxN (mny U f0) n0 = n) (ht : t < U 4) (hn : n ≤ 8) (hsp : sp lv = mi) (hmi : mi < 500) (hbn : bn < 1000) (h5 : U 5 ≤ 8) (hb2 : U 2 ≤ 20) (hk : ∀ t j, t < 4 → j < 8 → knd U t j < 3) (hg : U 0 ≤ 3) (hch : f < U 4 → f ≠ t → ¬ (skpC U f t n bm bn mi) → BPs (nxU U f t n)) (KA : ∀ tr2, (∀ j, j < 3 * lv → tr2 j = tr j) → ¬ f < U 4 → KW g p l e (rmK 7 0 0) s m args below meth c 4 A H0 0 0 Q (MW g.2.1 a U pa im tx rw rb rk rt he tr2 be sp pm fl ln rm rd bn fk fp rs wk wp bm) [(0, .ref (a 0)), (1, .int (nI mo)), (2, .int (nI lv - 1))] 64 []) (KB : ∀ tr2 r2 n2, (∀ j, j < 3 * lv → tr2 j = tr j) → tr2 (3 * lv) = f → tr2 (3 * lv + 1) = t → tr2 (3 * lv + 2) = n → f < U 4 → (f = t ∨ (skpC U f t n bm bn mi)) → KW g p l e (rmK 7 0 0) s m args below meth c 4 A H0 0 0 Q (MW g.2.1 a U pa im tx r2 rb rk rt he tr2 be sp pm fl ln n2 rd bn fk fp rs wk wp bm) [(0, .ref (a 0)), (1, .int (nI mo)), (2, .int (nI lv))] 64 []) (KC1 : ∀ tr2 r2 n2 be2 bm2 bn2, (∀ j, j < 3 * lv → tr2 j = tr j) → tr2 (3 * lv) = f → tr2 (3 * lv + 1) = t → tr2 (3 * lv + 2) = n → f < U 4 → f ≠ t → ¬ (skpC U f t n bm bn mi) → noted (nxU U f t n) (lv + 1) (mi + mins U f t n) tr2 be bm bn be2 bm2 bn2 → ¬ wiC (nxU U f t n) (mo - lv - 1) → KW g p l e (rmK 7 0 0) s m args below meth c 4 A H0 0 0 Q (MW g.2.1 a (nxU U f t n) pa im tx r2 rb rk rt he tr2 be2 sp pm fl ln n2 rd bn2 fk fp rs wk wp bm2) [(0, .ref (a 0)), (1, .int (nI mo)), (2, .int (nI lv))] 64 []) (KD : ∀ tr2 r2 n2 be2 bm2 bn2, (∀ j, j < 3 * lv → tr2 j = tr j) → tr2 (3 * lv) = f → tr2 (3 * lv + 1) = t → tr2 (3 * lv + 2) = n → f < U 4 → f ≠ t → ¬ (skpC U f t n bm bn mi) → noted (nxU U f t n) (lv + 1) (mi + mins U f t n) tr2 be bm bn be2 bm2 bn2 → wiC (nxU U f t n) (mo - lv - 1) → KW g p l e (rmK 7 0 0) s m args below meth c 4 A H0 0 0 Q (MW g.2.1 a (nxU U f t n) pa im tx r2 rb rk rt (va_cpy (nxU U f t n) he 0 (131 * (lv + 1)) 131) (va_up (va_up (va_up tr2 (3 * (lv + 1)) 0) (3 * (lv + 1) + 1) 0) (3 * (lv + 1) + 2) 0) be2 (va_up sp (lv + 1) (mi + mins U f t n)) pm fl ln n2 rd bn2 fk fp rs wk wp bm2) [(0, .ref (a 0)), (1, .int (nI mo)), (2, .int (nI (lv + 1)))] 64 []) : KW g p l e (rmK 7 0 0) s m args below meth c 4 A H0 0 0 Q (MW g.2.1 a u pa im tx rw rb rk rt he tr be sp pm fl ln rm rd bn fk fp rs wk wp bm) [(0, .ref (a 0)), (1, .int (nI mo)), (2, .int (nI lv))] 64 [] := by
  have hb2x := hb2
  refine zk_iload_n hc dX7_search_64 2 rfl ?_
  refine zk_if_lt hc 178 dX7_search_65 (by decide) (fun h_1 => ?_) (fun h_1 => ?_)
  · exact absurd h_1 (nI_pos (by omega))
  · refine zk_aload_n hc dX7_search_68 0 rfl ?_
    refine zk_iload_n hc dX7_search_69 2 rfl ?_
    refine zk_callVv hc (rest := []) (ct_X7_release g l a u pa im tx rw rb rk rt he tr be sp pm fl ln rm rd bn fk fp rs wk wp bm lv (by omega)) gg_X7_181 cd_X7_release ⟨Nat.le_of_ble_eq_true rfl, Nat.le_of_ble_eq_true rfl⟩ ⟨Nat.le_of_ble_eq_true rfl, Nat.le_of_ble_eq_true rfl⟩ ([]) ([]) rfl 0 rfl rfl rfl (Nat.le_of_ble_eq_true rfl) dX7_search_70 (fun W1 hp => ?_)
    obtain rfl := hp
    refine zk_ws (ws2 := MW g.2.1 a (va_cpy he u (131 * lv) 0 131) pa im tx rw rb rk rt he tr be sp pm fl ln rm rd bn fk fp rs wk wp bm) rfl ?_
    refine zk_ws (ws2 := MW g.2.1 a U pa im tx rw rb rk rt he tr be sp pm fl ln rm rd bn fk fp rs wk wp bm) (congrArg (fun zz => MW g.2.1 a zz pa im tx rw rb rk rt he tr be sp pm fl ln rm rd bn fk fp rs wk wp bm) (show va_cpy he u (131 * lv) 0 131 = U from hU)) ?_
    refine zk_aload_n hc dX7_search_73 0 rfl ?_
    refine zk_iload_n hc dX7_search_74 2 rfl ?_
    refine zk_callVi hc (rest := []) (ct_X7_next g l a U pa im tx rw rb rk rt he tr be sp pm fl ln rm rd bn fk fp rs wk wp bm lv 0 f0 t0 n0 hlv htf htt htn hf0 hK4 ht0 hn0 (hm8 f0 (by omega))) gg_X7_184 cd_X7_next ⟨Nat.le_of_ble_eq_true rfl, Nat.le_of_ble_eq_true rfl⟩ ⟨Nat.le_of_ble_eq_true rfl, Nat.le_of_ble_eq_true rfl⟩ ([]) ([]) rfl 0 rfl rfl rfl (Nat.le_of_ble_eq_true rfl) dX7_search_75 (fun r W1 hp => ?_)
    obtain ⟨tr2, rfl, ha, hb1, hb2, hb3, rfl⟩ := hp
    refine zk_ws (ws2 := MW g.2.1 a U pa im tx rw rb rk rt he tr2 be sp pm fl ln rm rd bn fk fp rs wk wp bm) rfl ?_
    by_cases hnf : nxF (U 4) (mny U f0) f0 t0 n0 < U 4
    · refine zk_top (y := nI 1) (if_pos hnf) ?_
      rw [e1] at hb1 hnf
      rw [e2] at hb2
      rw [e3] at hb3
      refine zk_if_neN hc 87 dX7_search_78 (by decide) (by omega) (fun h_2 => ?_) (fun h_2 => ?_)
      · refine zk_aload_n hc dX7_search_87 0 rfl ?_
        refine zk_get hc inlX7 (ci := 7) rfl 0 19 (by decide) mw_4_23 rfl rfl rfl dX7_search_88 ?_
        refine zk_iconst hc (nI 3) dX7_search_91 rfl ?_
        refine zk_iload_n hc dX7_search_92 2 rfl ?_
        refine zk_imulN hc dX7_search_93 ?_
        refine zk_ialdN hc 10 rfl (by omega) (by decide) dX7_search_94 ?_
        refine zk_top (y := nI f) (congrArg nI hb1) ?_
        refine zk_aload_n hc dX7_search_95 0 rfl ?_
        refine zk_get hc inlX7 (ci := 7) rfl 0 19 (by decide) mw_4_23 rfl rfl rfl dX7_search_96 ?_
        refine zk_iconst hc (nI 3) dX7_search_99 rfl ?_
        refine zk_iload_n hc dX7_search_100 2 rfl ?_
        refine zk_imulN hc dX7_search_101 ?_
        refine zk_iconst hc (nI 1) dX7_search_102 rfl ?_
        refine zk_iaddN hc dX7_search_103 ?_
        refine zk_ialdN hc 10 rfl (by omega) (by decide) dX7_search_104 ?_
        refine zk_top (y := nI t) (congrArg nI hb2) ?_
        refine zk_icmp_eqN hc 64 dX7_search_105 (by decide) (by omega) (by omega) (fun hne => ?_) (fun hne => ?_)
        · exact KB tr2 _ _ ha hb1 hb2 hb3 hnf (Or.inl hne)
        · refine zk_aload_n hc dX7_search_108 0 rfl ?_
          refine zk_iload_n hc dX7_search_109 2 rfl ?_
          refine zk_aload_n hc dX7_search_110 0 rfl ?_
          refine zk_get hc inlX7 (ci := 7) rfl 0 23 (by decide) mw_5_1 rfl rfl rfl dX7_search_111 ?_
          refine zk_iload_n hc dX7_search_114 2 rfl ?_
          refine zk_ialdN hc 12 rfl (by omega) (by decide) dX7_search_115 ?_
          refine zk_top (y := nI mi) (congrArg nI hsp) ?_
          refine zk_callVi hc (rest := []) (ct_X7_tryMove g l a U pa im tx rw rb rk rt he tr2 be sp pm fl ln rm rd bn fk fp rs wk wp bm lv mi f t n hlv hb1 hb2 hb3 (by omega) (by omega) hne hn (hm8 f (by omega)) (hm8 t (by omega)) h5 hb2x hk hg (by omega) hbn) gg_X7_187 cd_X7_tryMove ⟨Nat.le_of_ble_eq_true rfl, Nat.le_of_ble_eq_true rfl⟩ ⟨Nat.le_of_ble_eq_true rfl, Nat.le_of_ble_eq_true rfl⟩ ([]) ([]) rfl 0 rfl rfl rfl (Nat.le_of_ble_eq_true rfl) dX7_search_116 (fun r W1 hp => ?_)
          by_cases hS : (skpC U f t n bm bn mi)
          · obtain ⟨rfl, r_3, n_4, rfl⟩ := (hp.1 hS)
            refine zk_ws (ws2 := MW g.2.1 a U pa im tx r_3 rb rk rt he tr2 be sp pm fl ln n_4 rd bn fk fp rs wk wp bm) rfl ?_
            refine zk_istore_n hc (lv2 := [(3, .int (-9)), (0, .ref (a 0)), (1, .int (nI mo)), (2, .int (nI lv))]) dX7_search_119 (by decide) rfl ?_
            refine zk_iload_n hc dX7_search_120 0 rfl ?_
            refine zk_if_lt hc 175 dX7_search_121 (by decide) (fun hz9 => ?_) (fun hz9 => ?_)
            · refine zk_goto hc 64 dX7_search_175 (by decide) ?_
              refine zk_lv [1, 2, 3] (lv2 := [(0, .ref (a 0)), (1, .int (nI mo)), (2, .int (nI lv))]) rfl ?_
              exact KB tr2 _ _ ha hb1 hb2 hb3 hnf (Or.inr hS)
            · exact absurd (show (-9 : Int32) < 0 by decide) hz9
          · obtain ⟨rfl, r_3, n_4, rfl⟩ := (hp.2 hS)
            refine zk_ws (ws2 := MW g.2.1 a (nxU U f t n) pa im tx r_3 rb rk rt he tr2 be sp pm fl ln n_4 rd bn fk fp rs wk wp bm) rfl ?_
            have hC0 := hch hnf hne hS
            have hmm := mins_le (n := n) hb2x (show f < 4 by omega) (show t < 4 by omega) hn
            refine zk_istore_n hc (lv2 := [(3, .int (nI (mins U f t n))), (0, .ref (a 0)), (1, .int (nI mo)), (2, .int (nI lv))]) dX7_search_119 (by decide) rfl ?_
            refine zk_iload_n hc dX7_search_120 0 rfl ?_
            refine zk_if_lt hc 175 dX7_search_121 (by decide) (fun hz9 => ?_) (fun hz9 => ?_)
            · exact absurd hz9 (nI_pos (by omega))
            · refine zk_aload_n hc dX7_search_124 1 rfl ?_
              refine zk_iload_n hc dX7_search_125 3 rfl ?_
              refine zk_iconst hc (nI 1) dX7_search_126 rfl ?_
              refine zk_iaddN hc dX7_search_127 ?_
              refine zk_aload_n hc dX7_search_128 1 rfl ?_
              refine zk_get hc inlX7 (ci := 7) rfl 0 23 (by decide) mw_5_1 rfl rfl rfl dX7_search_129 ?_
              refine zk_iload_n hc dX7_search_132 3 rfl ?_
              refine zk_ialdN hc 12 rfl (by omega) (by decide) dX7_search_133 ?_
              refine zk_top (y := nI mi) (congrArg nI hsp) ?_
              refine zk_iload_n hc dX7_search_134 0 rfl ?_
              refine zk_iaddN hc dX7_search_135 ?_
              refine zk_callVv hc (rest := []) (ct_X7_note g l a (nxU U f t n) pa im tx r_3 rb rk rt he tr2 be sp pm fl ln n_4 rd bn fk fp rs wk wp bm (lv + 1) (mi + (mins U f t n)) (by omega) (by omega) hbn hC0.1 hC0.2.1 hC0.2.2.1 hC0.2.2.2.1 hC0.2.2.2.2) gg_X7_172 cd_X7_note ⟨Nat.le_of_ble_eq_true rfl, Nat.le_of_ble_eq_true rfl⟩ ⟨Nat.le_of_ble_eq_true rfl, Nat.le_of_ble_eq_true rfl⟩ ([]) ([]) rfl 0 rfl rfl rfl (Nat.le_of_ble_eq_true rfl) dX7_search_136 (fun W1 hp => ?_)
              by_cases hN : noteC bm bn (lv + 1) (mi + (mins U f t n)) ∧ ¬ muf (nxU U f t n) = -9
              · obtain rfl := (hp.1 hN)
                refine zk_ws (ws2 := MW g.2.1 a (nxU U f t n) pa im tx r_3 rb rk rt he tr2 (va_cpy tr2 be 0 0 9) sp pm fl ln n_4 rd (mi + (mins U f t n)) fk fp rs wk wp (nI (lv + 1))) rfl ?_
                refine zk_aload_n hc dX7_search_139 1 rfl ?_
                refine zk_iload_n hc dX7_search_140 2 rfl ?_
                refine zk_iload_n hc dX7_search_141 3 rfl ?_
                refine zk_isubN hc dX7_search_142 (by omega) ?_
                refine zk_iconst hc (nI 1) dX7_search_143 rfl ?_
                refine zk_isubN hc dX7_search_144 (by omega) ?_
                refine zk_callVi hc (rest := []) (ct_X7_isWorthIt g l a (nxU U f t n) pa im tx r_3 rb rk rt he tr2 (va_cpy tr2 be 0 0 9) sp pm fl ln n_4 rd (mi + (mins U f t n)) fk fp rs wk wp (nI (lv + 1)) ((mo - lv) - 1) (by omega) hC0.1 hC0.2.1 hC0.2.2.1 hC0.2.2.2.1 hC0.2.2.2.2) gg_X7_175 cd_X7_isWorthIt ⟨Nat.le_of_ble_eq_true rfl, Nat.le_of_ble_eq_true rfl⟩ ⟨Nat.le_of_ble_eq_true rfl, Nat.le_of_ble_eq_true rfl⟩ ([]) ([]) rfl 0 rfl rfl rfl (Nat.le_of_ble_eq_true rfl) dX7_search_145 (fun r W1 hp => ?_)
                obtain ⟨rfl, rfl⟩ := hp
                refine zk_ws (ws2 := MW g.2.1 a (nxU U f t n) pa im tx r_3 rb rk rt he tr2 (va_cpy tr2 be 0 0 9) sp pm fl ln n_4 rd (mi + (mins U f t n)) fk fp rs wk wp (nI (lv + 1))) rfl ?_
                by_cases hwi : 0 < ((mo - lv) - 1) ∧ spr (nxU U f t n) ((nxU U f t n) 4) - 1 ≤ ((mo - lv) - 1) ∧ muf (nxU U f t n) = -9
                · refine zk_top (y := nI 1) (if_pos hwi) ?_
                  refine zk_if_eqN hc 175 dX7_search_148 (by decide) (by omega) (fun h_5 => ?_) (fun h_5 => ?_)
                  · exact absurd h_5 (by decide)
                  · refine zk_iinc hc (v := nI (lv + 1)) (lv2 := [(2, .int (nI (lv + 1))), (3, .int (nI (mins U f t n))), (0, .ref (a 0)), (1, .int (nI mo))]) dX7_search_151 3 rfl (nq_inc rfl) (by decide) rfl ?_
                    refine zk_aload_n hc dX7_search_154 2 rfl ?_
                    refine zk_get hc inlX7 (ci := 7) rfl 0 23 (by decide) mw_5_1 rfl rfl rfl dX7_search_155 ?_
                    refine zk_iload_n hc dX7_search_158 0 rfl ?_
                    refine zk_aload_n hc dX7_search_159 2 rfl ?_
                    refine zk_get hc inlX7 (ci := 7) rfl 0 23 (by decide) mw_5_1 rfl rfl rfl dX7_search_160 ?_
                    refine zk_iload_n hc dX7_search_163 0 rfl ?_
                    refine zk_iconst hc (nI 1) dX7_search_164 rfl ?_
                    refine zk_isubN hc dX7_search_165 (by omega) ?_
                    refine zk_ialdX (i2 := lv) (by omega) ?_
                    refine zk_ialdN hc 12 rfl (by omega) (by decide) dX7_search_166 ?_
                    refine zk_top (y := nI mi) (congrArg nI hsp) ?_
                    refine zk_iload_n hc dX7_search_167 1 rfl ?_
                    refine zk_iaddN hc dX7_search_168 ?_
                    refine zk_iastN hc 12 rfl (by omega) (by decide) (ws2 := MW g.2.1 a (nxU U f t n) pa im tx r_3 rb rk rt he tr2 (va_cpy tr2 be 0 0 9) (va_up sp (lv + 1) (mi + (mins U f t n))) pm fl ln n_4 rd (mi + (mins U f t n)) fk fp rs wk wp (nI (lv + 1))) rfl dX7_search_169 ?_
                    refine zk_aload_n hc dX7_search_170 2 rfl ?_
                    refine zk_iload_n hc dX7_search_171 0 rfl ?_
                    refine zk_callVv hc (rest := []) (ct_X7_enter g l a (nxU U f t n) pa im tx r_3 rb rk rt he tr2 (va_cpy tr2 be 0 0 9) (va_up sp (lv + 1) (mi + (mins U f t n))) pm fl ln n_4 rd (mi + (mins U f t n)) fk fp rs wk wp (nI (lv + 1)) (lv + 1) (by omega)) gg_X7_178 cd_X7_enter ⟨Nat.le_of_ble_eq_true rfl, Nat.le_of_ble_eq_true rfl⟩ ⟨Nat.le_of_ble_eq_true rfl, Nat.le_of_ble_eq_true rfl⟩ ([]) ([]) rfl 0 rfl rfl rfl (Nat.le_of_ble_eq_true rfl) dX7_search_172 (fun W1 hp => ?_)
                    obtain rfl := hp
                    refine zk_ws (ws2 := MW g.2.1 a (nxU U f t n) pa im tx r_3 rb rk rt (va_cpy (nxU U f t n) he 0 (131 * (lv + 1)) 131) (va_up (va_up (va_up tr2 (3 * (lv + 1)) 0) (3 * (lv + 1) + 1) 0) (3 * (lv + 1) + 2) 0) (va_cpy tr2 be 0 0 9) (va_up sp (lv + 1) (mi + (mins U f t n))) pm fl ln n_4 rd (mi + (mins U f t n)) fk fp rs wk wp (nI (lv + 1))) rfl ?_
                    refine zk_goto hc 64 dX7_search_175 (by decide) ?_
                    refine zk_lv [2, 3, 0] (lv2 := [(0, .ref (a 0)), (1, .int (nI mo)), (2, .int (nI (lv + 1)))]) rfl ?_
                    exact KD tr2 _ _ _ _ _ ha hb1 hb2 hb3 hnf hne hS ⟨fun _ => ⟨rfl, rfl, rfl⟩, fun z => absurd hN z⟩ hwi
                · refine zk_top (y := nI 0) (if_neg hwi) ?_
                  refine zk_if_eqN hc 175 dX7_search_148 (by decide) (by omega) (fun h_6 => ?_) (fun h_6 => ?_)
                  · refine zk_goto hc 64 dX7_search_175 (by decide) ?_
                    refine zk_lv [1, 2, 3] (lv2 := [(0, .ref (a 0)), (1, .int (nI mo)), (2, .int (nI lv))]) rfl ?_
                    exact KC1 tr2 _ _ _ _ _ ha hb1 hb2 hb3 hnf hne hS ⟨fun _ => ⟨rfl, rfl, rfl⟩, fun z => absurd hN z⟩ hwi
                  · exact absurd h_6 (by decide)
              · obtain rfl := (hp.2 hN)
                refine zk_ws (ws2 := MW g.2.1 a (nxU U f t n) pa im tx r_3 rb rk rt he tr2 be sp pm fl ln n_4 rd bn fk fp rs wk wp bm) rfl ?_
                refine zk_aload_n hc dX7_search_139 1 rfl ?_
                refine zk_iload_n hc dX7_search_140 2 rfl ?_
                refine zk_iload_n hc dX7_search_141 3 rfl ?_
                refine zk_isubN hc dX7_search_142 (by omega) ?_
                refine zk_iconst hc (nI 1) dX7_search_143 rfl ?_
                refine zk_isubN hc dX7_search_144 (by omega) ?_
                refine zk_callVi hc (rest := []) (ct_X7_isWorthIt g l a (nxU U f t n) pa im tx r_3 rb rk rt he tr2 be sp pm fl ln n_4 rd bn fk fp rs wk wp bm ((mo - lv) - 1) (by omega) hC0.1 hC0.2.1 hC0.2.2.1 hC0.2.2.2.1 hC0.2.2.2.2) gg_X7_175 cd_X7_isWorthIt ⟨Nat.le_of_ble_eq_true rfl, Nat.le_of_ble_eq_true rfl⟩ ⟨Nat.le_of_ble_eq_true rfl, Nat.le_of_ble_eq_true rfl⟩ ([]) ([]) rfl 0 rfl rfl rfl (Nat.le_of_ble_eq_true rfl) dX7_search_145 (fun r W1 hp => ?_)
                obtain ⟨rfl, rfl⟩ := hp
                refine zk_ws (ws2 := MW g.2.1 a (nxU U f t n) pa im tx r_3 rb rk rt he tr2 be sp pm fl ln n_4 rd bn fk fp rs wk wp bm) rfl ?_
                by_cases hwi : 0 < ((mo - lv) - 1) ∧ spr (nxU U f t n) ((nxU U f t n) 4) - 1 ≤ ((mo - lv) - 1) ∧ muf (nxU U f t n) = -9
                · refine zk_top (y := nI 1) (if_pos hwi) ?_
                  refine zk_if_eqN hc 175 dX7_search_148 (by decide) (by omega) (fun h_7 => ?_) (fun h_7 => ?_)
                  · exact absurd h_7 (by decide)
                  · refine zk_iinc hc (v := nI (lv + 1)) (lv2 := [(2, .int (nI (lv + 1))), (3, .int (nI (mins U f t n))), (0, .ref (a 0)), (1, .int (nI mo))]) dX7_search_151 3 rfl (nq_inc rfl) (by decide) rfl ?_
                    refine zk_aload_n hc dX7_search_154 2 rfl ?_
                    refine zk_get hc inlX7 (ci := 7) rfl 0 23 (by decide) mw_5_1 rfl rfl rfl dX7_search_155 ?_
                    refine zk_iload_n hc dX7_search_158 0 rfl ?_
                    refine zk_aload_n hc dX7_search_159 2 rfl ?_
                    refine zk_get hc inlX7 (ci := 7) rfl 0 23 (by decide) mw_5_1 rfl rfl rfl dX7_search_160 ?_
                    refine zk_iload_n hc dX7_search_163 0 rfl ?_
                    refine zk_iconst hc (nI 1) dX7_search_164 rfl ?_
                    refine zk_isubN hc dX7_search_165 (by omega) ?_
                    refine zk_ialdX (i2 := lv) (by omega) ?_
                    refine zk_ialdN hc 12 rfl (by omega) (by decide) dX7_search_166 ?_
                    refine zk_top (y := nI mi) (congrArg nI hsp) ?_
                    refine zk_iload_n hc dX7_search_167 1 rfl ?_
                    refine zk_iaddN hc dX7_search_168 ?_
                    refine zk_iastN hc 12 rfl (by omega) (by decide) (ws2 := MW g.2.1 a (nxU U f t n) pa im tx r_3 rb rk rt he tr2 be (va_up sp (lv + 1) (mi + (mins U f t n))) pm fl ln n_4 rd bn fk fp rs wk wp bm) rfl dX7_search_169 ?_
                    refine zk_aload_n hc dX7_search_170 2 rfl ?_
                    refine zk_iload_n hc dX7_search_171 0 rfl ?_
                    refine zk_callVv hc (rest := []) (ct_X7_enter g l a (nxU U f t n) pa im tx r_3 rb rk rt he tr2 be (va_up sp (lv + 1) (mi + (mins U f t n))) pm fl ln n_4 rd bn fk fp rs wk wp bm (lv + 1) (by omega)) gg_X7_178 cd_X7_enter ⟨Nat.le_of_ble_eq_true rfl, Nat.le_of_ble_eq_true rfl⟩ ⟨Nat.le_of_ble_eq_true rfl, Nat.le_of_ble_eq_true rfl⟩ ([]) ([]) rfl 0 rfl rfl rfl (Nat.le_of_ble_eq_true rfl) dX7_search_172 (fun W1 hp => ?_)
                    obtain rfl := hp
                    refine zk_ws (ws2 := MW g.2.1 a (nxU U f t n) pa im tx r_3 rb rk rt (va_cpy (nxU U f t n) he 0 (131 * (lv + 1)) 131) (va_up (va_up (va_up tr2 (3 * (lv + 1)) 0) (3 * (lv + 1) + 1) 0) (3 * (lv + 1) + 2) 0) be (va_up sp (lv + 1) (mi + (mins U f t n))) pm fl ln n_4 rd bn fk fp rs wk wp bm) rfl ?_
                    refine zk_goto hc 64 dX7_search_175 (by decide) ?_
                    refine zk_lv [2, 3, 0] (lv2 := [(0, .ref (a 0)), (1, .int (nI mo)), (2, .int (nI (lv + 1)))]) rfl ?_
                    exact KD tr2 _ _ _ _ _ ha hb1 hb2 hb3 hnf hne hS ⟨fun z => absurd z hN, fun _ => ⟨rfl, rfl, rfl⟩⟩ hwi
                · refine zk_top (y := nI 0) (if_neg hwi) ?_
                  refine zk_if_eqN hc 175 dX7_search_148 (by decide) (by omega) (fun h_8 => ?_) (fun h_8 => ?_)
                  · refine zk_goto hc 64 dX7_search_175 (by decide) ?_
                    refine zk_lv [1, 2, 3] (lv2 := [(0, .ref (a 0)), (1, .int (nI mo)), (2, .int (nI lv))]) rfl ?_
                    exact KC1 tr2 _ _ _ _ _ ha hb1 hb2 hb3 hnf hne hS ⟨fun z => absurd z hN, fun _ => ⟨rfl, rfl, rfl⟩⟩ hwi
                  · exact absurd h_8 (by decide)
      · exact absurd h_2 (by decide)
    · refine zk_top (y := nI 0) (if_neg hnf) ?_
      rw [e1] at hnf
      refine zk_if_neN hc 87 dX7_search_78 (by decide) (by omega) (fun h_9 => ?_) (fun h_9 => ?_)
      · exact absurd h_9 (by decide)
      · refine zk_iinc hc (v := (nI lv - 1)) (lv2 := [(2, .int (nI lv - 1)), (0, .ref (a 0)), (1, .int (nI mo))]) dX7_search_81 2 rfl (nq_decZ rfl) (by decide) rfl ?_
        refine zk_goto hc 64 dX7_search_84 (by decide) ?_
        refine zk_lv [1, 2, 0] (lv2 := [(0, .ref (a 0)), (1, .int (nI mo)), (2, .int (nI lv - 1))]) rfl ?_
        exact KA tr2 ha hnf
