set_option maxHeartbeats 4000000 in
set_option maxRecDepth 100000 in
theorem ct_X4_readWagons (g : GG) (l : Launch) (a : Nat → Nat) (tx rd : Nat → Nat) (ln fn : Nat) (fk fp : Int32) (hln : ln ≤ 60) (htx : ∀ j, j < ln → tx j < 128) : CtI g l yX4_readWagons cX4_readWagons 6 (some .boolean) (rmK 3 0 0) (TXW g.2.1 a tx rd ln fn fk fp) [.ref (a 0)] (fun r W1 => ∃ (n2 : Nat) (rd2 : Nat → Nat) (v2 w2 : Int32), W1 = TXW g.2.1 a tx rd2 ln n2 v2 w2 ∧ cwE tx ln r n2 rd2 v2 w2 fk fp) := by
  refine CtZ.go RX4 rfl (by decide +kernel) (Nat.le_of_ble_eq_true rfl) ?_
  intro p e s m args below meth c A H0 Q hc hnm fin
  show KW g p l e (rmK 3 0 0) s m args below meth c 6 A H0 0 0 Q (TXW g.2.1 a tx rd ln fn fk fp) [(0, .ref (a 0))] 0 []
  refine zk_aload_n hc dX4_readWagons_0 0 rfl ?_
  refine zk_iconst hc (nI 0) dX4_readWagons_1 rfl ?_
  refine zk_put hc inlX4 (ci := 4) rfl tyX4 tyX4_ok nmX4 0 3 (by decide) mw_10_18 rfl rfl rfl rfl rfl (Nat.le_of_ble_eq_true rfl) (ws2 := TXW g.2.1 a tx rd ln 0 fk fp) rfl dX4_readWagons_2 ?_
  refine zk_iconst hc (nI 0) dX4_readWagons_5 rfl ?_
  refine zk_istore_n hc (lv2 := [(1, .int (nI 0)), (0, .ref (a 0))]) dX4_readWagons_6 (by decide) rfl ?_
  refine zk_iconst hc (nI 1) dX4_readWagons_7 rfl ?_
  refine zk_istore_n hc (lv2 := [(2, .int (nI 1)), (1, .int (nI 0)), (0, .ref (a 0))]) dX4_readWagons_8 (by decide) rfl ?_
  refine zk_iconst hc (nI 0) dX4_readWagons_9 rfl ?_
  refine zk_istore_n hc (lv2 := [(3, .int (nI 0)), (2, .int (nI 1)), (1, .int (nI 0)), (0, .ref (a 0))]) dX4_readWagons_10 (by decide) rfl ?_
  refine zk_iconst hc (nI 0) dX4_readWagons_11 rfl ?_
  refine zk_istore hc (lv2 := [(4, .int (nI 0)), (3, .int (nI 0)), (2, .int (nI 1)), (1, .int (nI 0)), (0, .ref (a 0))]) dX4_readWagons_12 (by decide) rfl ?_
  have loop14 : ∀ (N : Nat) (k : Nat) (s1 : Nat) (cm : Nat) (d : Nat) (n : Nat) (rd1 : Nat → Nat), ln - k < N → (k ≤ ln) → (cxI tx k s1 cm d n rd1) → KW g p l e (rmK 3 0 0) s m args below meth c 6 A H0 0 0 Q (TXW g.2.1 a tx rd1 ln n fk fp) [(0, .ref (a 0)), (1, .int (nI s1)), (2, .int (nI cm)), (3, .int (nI d)), (4, .int (nI k))] 14 [] := by
    intro N
    induction N with
    | zero => intro k s1 cm d n rd1 hm; exact absurd hm (Nat.not_lt_zero _)
    | succ N ih14 =>
      intro k s1 cm d n rd1 hm14 hkl hI
      have hb := cw_b hI
      refine zk_iload hc dX4_readWagons_14 4 rfl ?_
      refine zk_aload_n hc dX4_readWagons_16 0 rfl ?_
      refine zk_get hc inlX4 (ci := 4) rfl 0 1 (by decide) mw_10_9 rfl rfl rfl dX4_readWagons_17 ?_
      refine zk_icmp_geN hc 210 dX4_readWagons_20 (by decide) (by omega) (by omega) (fun h_1 => ?_) (fun h_1 => ?_)
      · refine zk_iload_n hc dX4_readWagons_210 1 rfl ?_
        refine zk_iconst hc (nI 1) dX4_readWagons_211 rfl ?_
        refine zk_icmp_neN hc 227 dX4_readWagons_212 (by decide) (by omega) (by omega) (fun h1 => ?_) (fun h1 => ?_)
        · refine zk_iconst hc (nI 1) dX4_readWagons_227 rfl ?_
          refine zk_goto hc 232 dX4_readWagons_228 (by decide) ?_
          refine fin 0 0 _ _ _ _ (by decide) (by decide) dX4_readWagons_232 rfl (?_)
          exact ⟨_, _, _, _, rfl, (show k = ln by omega) ▸ cw_ok hI h1⟩
        · subst h1
          refine zk_aload_n hc dX4_readWagons_215 0 rfl ?_
          refine zk_iconst hc (nI 2) dX4_readWagons_216 rfl ?_
          refine zk_aload_n hc dX4_readWagons_217 0 rfl ?_
          refine zk_get hc inlX4 (ci := 4) rfl 0 1 (by decide) mw_10_9 rfl rfl rfl dX4_readWagons_218 ?_
          refine zk_callVi hc (rest := []) (ct_X4_foundFault g l a tx rd1 ln n fk fp (nI 2) (nI ln)) gg_X4_35 cd_X4_foundFault ⟨Nat.le_of_ble_eq_true rfl, Nat.le_of_ble_eq_true rfl⟩ ⟨Nat.le_of_ble_eq_true rfl, Nat.le_of_ble_eq_true rfl⟩ ([]) ([]) rfl 0 rfl rfl rfl (Nat.le_of_ble_eq_true rfl) dX4_readWagons_221 (fun r W1 hp => ?_)
          obtain ⟨rfl, rfl⟩ := hp
          refine zk_ws (ws2 := TXW g.2.1 a tx rd1 ln n (nI 2) (nI ln)) rfl ?_
          refine zk_if_eqN hc 231 dX4_readWagons_224 (by decide) (by omega) (fun h_2 => ?_) (fun h_2 => ?_)
          · refine zk_iconst hc (nI 0) dX4_readWagons_231 rfl ?_
            refine fin 0 0 _ _ _ _ (by decide) (by decide) dX4_readWagons_232 rfl (?_)
            exact ⟨_, _, _, _, rfl, (show k = ln by omega) ▸ cw_end1 hI⟩
          · exact absurd h_2 (by decide)
      · refine zk_aload_n hc dX4_readWagons_23 0 rfl ?_
        refine zk_get hc inlX4 (ci := 4) rfl 0 0 (by decide) mw_3_5 rfl rfl rfl dX4_readWagons_24 ?_
        refine zk_iload hc dX4_readWagons_27 4 rfl ?_
        refine zk_ialdN hc 1 rfl (by omega) (by decide) dX4_readWagons_29 ?_
        refine zk_istore hc (lv2 := [(5, .int (nI (tx k))), (0, .ref (a 0)), (1, .int (nI s1)), (2, .int (nI cm)), (3, .int (nI d)), (4, .int (nI k))]) dX4_readWagons_30 (by decide) rfl ?_
        refine zk_iload hc dX4_readWagons_32 0 rfl ?_
        refine zk_bipush hc (nI 32) dX4_readWagons_34 rfl ?_
        refine zk_icmp_neN hc 51 dX4_readWagons_36 (by decide) (by have := htx k (by omega); omega) (by have := htx k (by omega); omega) (fun hbl => ?_) (fun hbl => ?_)
        · refine zk_iload hc dX4_readWagons_51 0 rfl ?_
          refine zk_bipush hc (nI 49) dX4_readWagons_53 rfl ?_
          refine zk_bipush hc (nI 56) dX4_readWagons_55 rfl ?_
          refine zk_callNi hc (rest := []) (ct_X6_within g l (nI (tx k)) (nI 49) (nI 56)) (host := "ShuntYard") nl_X4_31 mw_7_22 mw_7_21 mw_1_2 cd_X6_within ⟨Nat.le_of_ble_eq_true rfl, Nat.le_of_ble_eq_true rfl⟩ ⟨Nat.le_of_ble_eq_true rfl, Nat.le_of_ble_eq_true rfl⟩ ([]) (TXW g.2.1 a tx rd1 ln n fk fp) rfl rfl (Nat.le_of_ble_eq_true rfl) dX4_readWagons_57 (fun r W1 hp => ?_)
          obtain ⟨rfl, rfl⟩ := hp
          refine zk_ws (ws2 := TXW g.2.1 a tx rd1 ln n fk fp) rfl ?_
          by_cases rhD : nI 49 ≤ nI (tx k) ∧ nI (tx k) ≤ nI 56
          · refine zk_top (y := nI 1) (if_pos rhD) ?_
            have hD := (inN (by omega) (by have := htx k (by omega); omega) (by omega)).mp rhD
            refine zk_if_eqN hc 78 dX4_readWagons_60 (by decide) (by omega) (fun h_3 => ?_) (fun h_3 => ?_)
            · exact absurd h_3 (by decide)
            · refine zk_iload_n hc dX4_readWagons_63 2 rfl ?_
              refine zk_if_neN hc 78 dX4_readWagons_64 (by decide) (by omega) (fun hs0 => ?_) (fun hs0 => ?_)
              · refine zk_iload hc dX4_readWagons_78 0 rfl ?_
                refine zk_bipush hc (nI 65) dX4_readWagons_80 rfl ?_
                refine zk_bipush hc (nI 70) dX4_readWagons_82 rfl ?_
                refine zk_callNi hc (rest := []) (ct_X6_within g l (nI (tx k)) (nI 65) (nI 70)) (host := "ShuntYard") nl_X4_31 mw_7_22 mw_7_21 mw_1_2 cd_X6_within ⟨Nat.le_of_ble_eq_true rfl, Nat.le_of_ble_eq_true rfl⟩ ⟨Nat.le_of_ble_eq_true rfl, Nat.le_of_ble_eq_true rfl⟩ ([]) (TXW g.2.1 a tx rd1 ln n fk fp) rfl rfl (Nat.le_of_ble_eq_true rfl) dX4_readWagons_84 (fun r W1 hp => ?_)
                obtain ⟨rfl, rfl⟩ := hp
                refine zk_ws (ws2 := TXW g.2.1 a tx rd1 ln n fk fp) rfl ?_
                by_cases rhL : nI 65 ≤ nI (tx k) ∧ nI (tx k) ≤ nI 70
                · refine zk_top (y := nI 1) (if_pos rhL) ?_
                  have hL := (inN (by omega) (by have := htx k (by omega); omega) (by omega)).mp rhL
                  refine zk_if_eqN hc 150 dX4_readWagons_87 (by decide) (by omega) (fun h_4 => ?_) (fun h_4 => ?_)
                  · exact absurd h_4 (by decide)
                  · refine zk_iload_n hc dX4_readWagons_90 2 rfl ?_
                    refine zk_if_eqN hc 99 dX4_readWagons_91 (by decide) (by omega) (fun hs2 => ?_) (fun hs2 => ?_)
                    · refine zk_aload_n hc dX4_readWagons_99 1 rfl ?_
                      refine zk_get hc inlX4 (ci := 4) rfl 0 3 (by decide) mw_10_18 rfl rfl rfl dX4_readWagons_100 ?_
                      refine zk_iload_n hc dX4_readWagons_103 3 rfl ?_
                      refine zk_iaddN hc dX4_readWagons_104 ?_
                      refine zk_bipush hc (nI 8) dX4_readWagons_105 rfl ?_
                      refine zk_icmp_leN hc 118 dX4_readWagons_107 (by decide) (by omega) (by omega) (fun h8 => ?_) (fun h8 => ?_)
                      · refine zk_iconst hc (nI 2) dX4_readWagons_118 rfl ?_
                        refine zk_istore_n hc (lv2 := [(1, .int (nI 2)), (5, .int (nI (tx k))), (0, .ref (a 0)), (2, .int (nI cm)), (3, .int (nI d)), (4, .int (nI k))]) dX4_readWagons_119 (by decide) rfl ?_
                        refine zk_iload hc dX4_readWagons_120 1 rfl ?_
                        refine zk_bipush hc (nI 65) dX4_readWagons_122 rfl ?_
                        refine zk_isubN hc dX4_readWagons_124 (by omega) ?_
                        refine zk_istore_n hc (lv2 := [(3, .int (nI ((tx k) - 65))), (1, .int (nI 2)), (5, .int (nI (tx k))), (0, .ref (a 0)), (2, .int (nI cm)), (4, .int (nI k))]) dX4_readWagons_125 (by decide) rfl ?_
                        refine zk_aload_n hc dX4_readWagons_126 3 rfl ?_
                        refine zk_dup hc dX4_readWagons_127 rfl ?_
                        refine zk_get hc inlX4 (ci := 4) rfl 0 3 (by decide) mw_10_18 rfl rfl rfl dX4_readWagons_128 ?_
                        refine zk_iload_n hc dX4_readWagons_131 4 rfl ?_
                        refine zk_iaddN hc dX4_readWagons_132 ?_
                        refine zk_put hc inlX4 (ci := 4) rfl tyX4 tyX4_ok nmX4 0 3 (by decide) mw_10_18 rfl rfl rfl rfl rfl (Nat.le_of_ble_eq_true rfl) (ws2 := TXW g.2.1 a tx rd1 ln (n + cm) fk fp) rfl dX4_readWagons_133 ?_
                        refine zk_aload_n hc dX4_readWagons_136 3 rfl ?_
                        refine zk_iload_n hc dX4_readWagons_137 4 rfl ?_
                        refine zk_iconst hc (nI 0) dX4_readWagons_138 rfl ?_
                        refine zk_iload_n hc dX4_readWagons_139 0 rfl ?_
                        refine zk_iconst hc (nI 0) dX4_readWagons_140 rfl ?_
                        refine zk_callNi hc (rest := [.int (nI cm), .ref (a 0)]) (ct_X6_wagonOf g l 0 ((tx k) - 65) 0) (host := "ShuntYard") nl_X4_39 mw_11_23 mw_11_22 mw_1_2 cd_X6_wagonOf ⟨Nat.le_of_ble_eq_true rfl, Nat.le_of_ble_eq_true rfl⟩ ⟨Nat.le_of_ble_eq_true rfl, Nat.le_of_ble_eq_true rfl⟩ ([]) (TXW g.2.1 a tx rd1 ln (n + cm) fk fp) rfl rfl (Nat.le_of_ble_eq_true rfl) dX4_readWagons_141 (fun r W1 hp => ?_)
                        obtain ⟨rfl, rfl⟩ := hp
                        refine zk_ws (ws2 := TXW g.2.1 a tx rd1 ln (n + cm) fk fp) rfl ?_
                        refine zk_callVv hc (rest := []) (ct_X4_fillLatest g l a tx rd1 ln (n + cm) fk fp cm ((0 * 6 + ((tx k) - 65)) * 3 + 0) (by omega) (by omega)) gg_X4_43 cd_X4_fillLatest ⟨Nat.le_of_ble_eq_true rfl, Nat.le_of_ble_eq_true rfl⟩ ⟨Nat.le_of_ble_eq_true rfl, Nat.le_of_ble_eq_true rfl⟩ ([]) ([]) rfl 0 rfl rfl rfl (Nat.le_of_ble_eq_true rfl) dX4_readWagons_144 (fun W1 hp => ?_)
                        obtain rfl := hp
                        refine zk_ws (ws2 := TXW g.2.1 a tx (va_cpy (fun _ => ((0 * 6 + ((tx k) - 65)) * 3 + 0)) rd1 0 ((n + cm) - cm) cm) ln (n + cm) fk fp) rfl ?_
                        refine zk_goto hc 204 dX4_readWagons_147 (by decide) ?_
                        refine zk_iinc hc (v := nI (k + 1)) (lv2 := [(4, .int (nI (k + 1))), (3, .int (nI ((tx k) - 65))), (1, .int (nI 2)), (5, .int (nI (tx k))), (0, .ref (a 0)), (2, .int (nI cm))]) dX4_readWagons_204 5 rfl (nq_inc rfl) (by decide) rfl ?_
                        refine zk_goto hc 14 dX4_readWagons_207 (by decide) ?_
                        refine zk_lv [4, 2, 5, 1, 0] (lv2 := [(0, .ref (a 0)), (1, .int (nI 2)), (2, .int (nI cm)), (3, .int (nI ((tx k) - 65))), (4, .int (nI (k + 1)))]) rfl ?_
                        exact ih14 (k + 1) 2 cm ((tx k) - 65) (n + cm) (va_cpy (fun _ => ((0 * 6 + ((tx k) - 65)) * 3 + 0)) rd1 0 ((n + cm) - cm) cm) (by omega) (by omega) (cw_letter hI (by omega) hL h8)
                      · refine zk_aload_n hc dX4_readWagons_110 1 rfl ?_
                        refine zk_iconst hc (nI 3) dX4_readWagons_111 rfl ?_
                        refine zk_iload hc dX4_readWagons_112 5 rfl ?_
                        refine zk_callVi hc (rest := []) (ct_X4_foundFault g l a tx rd1 ln n fk fp (nI 3) (nI k)) gg_X4_35 cd_X4_foundFault ⟨Nat.le_of_ble_eq_true rfl, Nat.le_of_ble_eq_true rfl⟩ ⟨Nat.le_of_ble_eq_true rfl, Nat.le_of_ble_eq_true rfl⟩ ([]) ([]) rfl 0 rfl rfl rfl (Nat.le_of_ble_eq_true rfl) dX4_readWagons_114 (fun r W1 hp => ?_)
                        obtain ⟨rfl, rfl⟩ := hp
                        refine zk_ws (ws2 := TXW g.2.1 a tx rd1 ln n (nI 3) (nI k)) rfl ?_
                        refine fin 0 0 _ _ _ _ (by decide) (by decide) dX4_readWagons_117 rfl (?_)
                        exact ⟨_, _, _, _, rfl, cw_many hI (by omega) hL (by omega) (by omega)⟩
                    · refine zk_iload_n hc dX4_readWagons_94 2 rfl ?_
                      refine zk_iconst hc (nI 1) dX4_readWagons_95 rfl ?_
                      refine zk_icmp_neN hc 150 dX4_readWagons_96 (by decide) (by omega) (by omega) (fun hs3 => ?_) (fun hs3 => ?_)
                      · refine zk_iload hc dX4_readWagons_150 0 rfl ?_
                        refine zk_bipush hc (nI 102) dX4_readWagons_152 rfl ?_
                        refine zk_icmp_eqN hc 164 dX4_readWagons_154 (by decide) (by have := htx k (by omega); omega) (by have := htx k (by omega); omega) (fun hf => ?_) (fun hf => ?_)
                        · refine zk_iload_n hc dX4_readWagons_164 2 rfl ?_
                          refine zk_iconst hc (nI 2) dX4_readWagons_165 rfl ?_
                          refine zk_icmp_neN hc 196 dX4_readWagons_166 (by decide) (by omega) (by omega) (fun hs2 => ?_) (fun hs2 => ?_)
                          · refine zk_aload_n hc dX4_readWagons_196 1 rfl ?_
                            refine zk_iconst hc (nI 1) dX4_readWagons_197 rfl ?_
                            refine zk_iload hc dX4_readWagons_198 5 rfl ?_
                            refine zk_callVi hc (rest := []) (ct_X4_foundFault g l a tx rd1 ln n fk fp (nI 1) (nI k)) gg_X4_35 cd_X4_foundFault ⟨Nat.le_of_ble_eq_true rfl, Nat.le_of_ble_eq_true rfl⟩ ⟨Nat.le_of_ble_eq_true rfl, Nat.le_of_ble_eq_true rfl⟩ ([]) ([]) rfl 0 rfl rfl rfl (Nat.le_of_ble_eq_true rfl) dX4_readWagons_200 (fun r W1 hp => ?_)
                            obtain ⟨rfl, rfl⟩ := hp
                            refine zk_ws (ws2 := TXW g.2.1 a tx rd1 ln n (nI 1) (nI k)) rfl ?_
                            refine fin 0 0 _ _ _ _ (by decide) (by decide) dX4_readWagons_203 rfl (?_)
                            exact ⟨_, _, _, _, rfl, cw_bad hI (by omega) (by omega) (by omega) (by omega) (by omega)⟩
                          · subst hs2
                            refine zk_iconst hc (nI 3) dX4_readWagons_169 rfl ?_
                            refine zk_istore_n hc (lv2 := [(1, .int (nI 3)), (5, .int (nI (tx k))), (0, .ref (a 0)), (2, .int (nI cm)), (3, .int (nI d)), (4, .int (nI k))]) dX4_readWagons_170 (by decide) rfl ?_
                            refine zk_aload_n hc dX4_readWagons_171 2 rfl ?_
                            refine zk_iload_n hc dX4_readWagons_172 3 rfl ?_
                            refine zk_iconst hc (nI 0) dX4_readWagons_173 rfl ?_
                            refine zk_iload_n hc dX4_readWagons_174 4 rfl ?_
                            refine zk_iload hc dX4_readWagons_175 1 rfl ?_
                            refine zk_bipush hc (nI 102) dX4_readWagons_177 rfl ?_
                            refine zk_icmp_neN hc 186 dX4_readWagons_179 (by decide) (by have := htx k (by omega); omega) (by have := htx k (by omega); omega) (fun hz => ?_) (fun hz => ?_)
                            · exact absurd hz (by omega)
                            · refine zk_iconst hc (nI 1) dX4_readWagons_182 rfl ?_
                              refine zk_goto hc 187 dX4_readWagons_183 (by decide) ?_
                              refine zk_callNi hc (rest := [.int (nI cm), .ref (a 0)]) (ct_X6_wagonOf g l 0 d 1) (host := "ShuntYard") nl_X4_39 mw_11_23 mw_11_22 mw_1_2 cd_X6_wagonOf ⟨Nat.le_of_ble_eq_true rfl, Nat.le_of_ble_eq_true rfl⟩ ⟨Nat.le_of_ble_eq_true rfl, Nat.le_of_ble_eq_true rfl⟩ ([]) (TXW g.2.1 a tx rd1 ln n fk fp) rfl rfl (Nat.le_of_ble_eq_true rfl) dX4_readWagons_187 (fun r W1 hp => ?_)
                              obtain ⟨rfl, rfl⟩ := hp
                              refine zk_ws (ws2 := TXW g.2.1 a tx rd1 ln n fk fp) rfl ?_
                              refine zk_callVv hc (rest := []) (ct_X4_fillLatest g l a tx rd1 ln n fk fp cm ((0 * 6 + d) * 3 + 1) (by omega) (by omega)) gg_X4_43 cd_X4_fillLatest ⟨Nat.le_of_ble_eq_true rfl, Nat.le_of_ble_eq_true rfl⟩ ⟨Nat.le_of_ble_eq_true rfl, Nat.le_of_ble_eq_true rfl⟩ ([]) ([]) rfl 0 rfl rfl rfl (Nat.le_of_ble_eq_true rfl) dX4_readWagons_190 (fun W1 hp => ?_)
                              obtain rfl := hp
                              refine zk_ws (ws2 := TXW g.2.1 a tx (va_cpy (fun _ => ((0 * 6 + d) * 3 + 1)) rd1 0 (n - cm) cm) ln n fk fp) rfl ?_
                              refine zk_goto hc 204 dX4_readWagons_193 (by decide) ?_
                              refine zk_iinc hc (v := nI (k + 1)) (lv2 := [(4, .int (nI (k + 1))), (1, .int (nI 3)), (5, .int (nI (tx k))), (0, .ref (a 0)), (2, .int (nI cm)), (3, .int (nI d))]) dX4_readWagons_204 5 rfl (nq_inc rfl) (by decide) rfl ?_
                              refine zk_goto hc 14 dX4_readWagons_207 (by decide) ?_
                              refine zk_lv [3, 1, 4, 5, 0] (lv2 := [(0, .ref (a 0)), (1, .int (nI 3)), (2, .int (nI cm)), (3, .int (nI d)), (4, .int (nI (k + 1)))]) rfl ?_
                              exact ih14 (k + 1) 3 cm d n (va_cpy (fun _ => ((0 * 6 + d) * 3 + 1)) rd1 0 (n - cm) cm) (by omega) (by omega) (cw_kind hI (Or.inl hf) (if_pos hf).symm)
                        · refine zk_iload hc dX4_readWagons_157 0 rfl ?_
                          refine zk_bipush hc (nI 120) dX4_readWagons_159 rfl ?_
                          refine zk_icmp_neN hc 196 dX4_readWagons_161 (by decide) (by have := htx k (by omega); omega) (by have := htx k (by omega); omega) (fun hx => ?_) (fun hx => ?_)
                          · refine zk_aload_n hc dX4_readWagons_196 1 rfl ?_
                            refine zk_iconst hc (nI 1) dX4_readWagons_197 rfl ?_
                            refine zk_iload hc dX4_readWagons_198 5 rfl ?_
                            refine zk_callVi hc (rest := []) (ct_X4_foundFault g l a tx rd1 ln n fk fp (nI 1) (nI k)) gg_X4_35 cd_X4_foundFault ⟨Nat.le_of_ble_eq_true rfl, Nat.le_of_ble_eq_true rfl⟩ ⟨Nat.le_of_ble_eq_true rfl, Nat.le_of_ble_eq_true rfl⟩ ([]) ([]) rfl 0 rfl rfl rfl (Nat.le_of_ble_eq_true rfl) dX4_readWagons_200 (fun r W1 hp => ?_)
                            obtain ⟨rfl, rfl⟩ := hp
                            refine zk_ws (ws2 := TXW g.2.1 a tx rd1 ln n (nI 1) (nI k)) rfl ?_
                            refine fin 0 0 _ _ _ _ (by decide) (by decide) dX4_readWagons_203 rfl (?_)
                            exact ⟨_, _, _, _, rfl, cw_bad hI (by omega) (by omega) (by omega) (by omega) (by omega)⟩
                          · refine zk_iload_n hc dX4_readWagons_164 2 rfl ?_
                            refine zk_iconst hc (nI 2) dX4_readWagons_165 rfl ?_
                            refine zk_icmp_neN hc 196 dX4_readWagons_166 (by decide) (by omega) (by omega) (fun hs2 => ?_) (fun hs2 => ?_)
                            · refine zk_aload_n hc dX4_readWagons_196 1 rfl ?_
                              refine zk_iconst hc (nI 1) dX4_readWagons_197 rfl ?_
                              refine zk_iload hc dX4_readWagons_198 5 rfl ?_
                              refine zk_callVi hc (rest := []) (ct_X4_foundFault g l a tx rd1 ln n fk fp (nI 1) (nI k)) gg_X4_35 cd_X4_foundFault ⟨Nat.le_of_ble_eq_true rfl, Nat.le_of_ble_eq_true rfl⟩ ⟨Nat.le_of_ble_eq_true rfl, Nat.le_of_ble_eq_true rfl⟩ ([]) ([]) rfl 0 rfl rfl rfl (Nat.le_of_ble_eq_true rfl) dX4_readWagons_200 (fun r W1 hp => ?_)
                              obtain ⟨rfl, rfl⟩ := hp
                              refine zk_ws (ws2 := TXW g.2.1 a tx rd1 ln n (nI 1) (nI k)) rfl ?_
                              refine fin 0 0 _ _ _ _ (by decide) (by decide) dX4_readWagons_203 rfl (?_)
                              exact ⟨_, _, _, _, rfl, cw_bad hI (by omega) (by omega) (by omega) (by omega) (by omega)⟩
                            · subst hs2
                              refine zk_iconst hc (nI 3) dX4_readWagons_169 rfl ?_
                              refine zk_istore_n hc (lv2 := [(1, .int (nI 3)), (5, .int (nI (tx k))), (0, .ref (a 0)), (2, .int (nI cm)), (3, .int (nI d)), (4, .int (nI k))]) dX4_readWagons_170 (by decide) rfl ?_
                              refine zk_aload_n hc dX4_readWagons_171 2 rfl ?_
                              refine zk_iload_n hc dX4_readWagons_172 3 rfl ?_
                              refine zk_iconst hc (nI 0) dX4_readWagons_173 rfl ?_
                              refine zk_iload_n hc dX4_readWagons_174 4 rfl ?_
                              refine zk_iload hc dX4_readWagons_175 1 rfl ?_
                              refine zk_bipush hc (nI 102) dX4_readWagons_177 rfl ?_
                              refine zk_icmp_neN hc 186 dX4_readWagons_179 (by decide) (by have := htx k (by omega); omega) (by have := htx k (by omega); omega) (fun hz => ?_) (fun hz => ?_)
                              · refine zk_iconst hc (nI 2) dX4_readWagons_186 rfl ?_
                                refine zk_callNi hc (rest := [.int (nI cm), .ref (a 0)]) (ct_X6_wagonOf g l 0 d 2) (host := "ShuntYard") nl_X4_39 mw_11_23 mw_11_22 mw_1_2 cd_X6_wagonOf ⟨Nat.le_of_ble_eq_true rfl, Nat.le_of_ble_eq_true rfl⟩ ⟨Nat.le_of_ble_eq_true rfl, Nat.le_of_ble_eq_true rfl⟩ ([]) (TXW g.2.1 a tx rd1 ln n fk fp) rfl rfl (Nat.le_of_ble_eq_true rfl) dX4_readWagons_187 (fun r W1 hp => ?_)
                                obtain ⟨rfl, rfl⟩ := hp
                                refine zk_ws (ws2 := TXW g.2.1 a tx rd1 ln n fk fp) rfl ?_
                                refine zk_callVv hc (rest := []) (ct_X4_fillLatest g l a tx rd1 ln n fk fp cm ((0 * 6 + d) * 3 + 2) (by omega) (by omega)) gg_X4_43 cd_X4_fillLatest ⟨Nat.le_of_ble_eq_true rfl, Nat.le_of_ble_eq_true rfl⟩ ⟨Nat.le_of_ble_eq_true rfl, Nat.le_of_ble_eq_true rfl⟩ ([]) ([]) rfl 0 rfl rfl rfl (Nat.le_of_ble_eq_true rfl) dX4_readWagons_190 (fun W1 hp => ?_)
                                obtain rfl := hp
                                refine zk_ws (ws2 := TXW g.2.1 a tx (va_cpy (fun _ => ((0 * 6 + d) * 3 + 2)) rd1 0 (n - cm) cm) ln n fk fp) rfl ?_
                                refine zk_goto hc 204 dX4_readWagons_193 (by decide) ?_
                                refine zk_iinc hc (v := nI (k + 1)) (lv2 := [(4, .int (nI (k + 1))), (1, .int (nI 3)), (5, .int (nI (tx k))), (0, .ref (a 0)), (2, .int (nI cm)), (3, .int (nI d))]) dX4_readWagons_204 5 rfl (nq_inc rfl) (by decide) rfl ?_
                                refine zk_goto hc 14 dX4_readWagons_207 (by decide) ?_
                                refine zk_lv [3, 1, 4, 5, 0] (lv2 := [(0, .ref (a 0)), (1, .int (nI 3)), (2, .int (nI cm)), (3, .int (nI d)), (4, .int (nI (k + 1)))]) rfl ?_
                                exact ih14 (k + 1) 3 cm d n (va_cpy (fun _ => ((0 * 6 + d) * 3 + 2)) rd1 0 (n - cm) cm) (by omega) (by omega) (cw_kind hI (Or.inr hx) (if_neg (by omega)).symm)
                              · exact absurd hz (by omega)
                      · refine zk_aload_n hc dX4_readWagons_99 1 rfl ?_
                        refine zk_get hc inlX4 (ci := 4) rfl 0 3 (by decide) mw_10_18 rfl rfl rfl dX4_readWagons_100 ?_
                        refine zk_iload_n hc dX4_readWagons_103 3 rfl ?_
                        refine zk_iaddN hc dX4_readWagons_104 ?_
                        refine zk_bipush hc (nI 8) dX4_readWagons_105 rfl ?_
                        refine zk_icmp_leN hc 118 dX4_readWagons_107 (by decide) (by omega) (by omega) (fun h8 => ?_) (fun h8 => ?_)
                        · refine zk_iconst hc (nI 2) dX4_readWagons_118 rfl ?_
                          refine zk_istore_n hc (lv2 := [(1, .int (nI 2)), (5, .int (nI (tx k))), (0, .ref (a 0)), (2, .int (nI cm)), (3, .int (nI d)), (4, .int (nI k))]) dX4_readWagons_119 (by decide) rfl ?_
                          refine zk_iload hc dX4_readWagons_120 1 rfl ?_
                          refine zk_bipush hc (nI 65) dX4_readWagons_122 rfl ?_
                          refine zk_isubN hc dX4_readWagons_124 (by omega) ?_
                          refine zk_istore_n hc (lv2 := [(3, .int (nI ((tx k) - 65))), (1, .int (nI 2)), (5, .int (nI (tx k))), (0, .ref (a 0)), (2, .int (nI cm)), (4, .int (nI k))]) dX4_readWagons_125 (by decide) rfl ?_
                          refine zk_aload_n hc dX4_readWagons_126 3 rfl ?_
                          refine zk_dup hc dX4_readWagons_127 rfl ?_
                          refine zk_get hc inlX4 (ci := 4) rfl 0 3 (by decide) mw_10_18 rfl rfl rfl dX4_readWagons_128 ?_
                          refine zk_iload_n hc dX4_readWagons_131 4 rfl ?_
                          refine zk_iaddN hc dX4_readWagons_132 ?_
                          refine zk_put hc inlX4 (ci := 4) rfl tyX4 tyX4_ok nmX4 0 3 (by decide) mw_10_18 rfl rfl rfl rfl rfl (Nat.le_of_ble_eq_true rfl) (ws2 := TXW g.2.1 a tx rd1 ln (n + cm) fk fp) rfl dX4_readWagons_133 ?_
                          refine zk_aload_n hc dX4_readWagons_136 3 rfl ?_
                          refine zk_iload_n hc dX4_readWagons_137 4 rfl ?_
                          refine zk_iconst hc (nI 0) dX4_readWagons_138 rfl ?_
                          refine zk_iload_n hc dX4_readWagons_139 0 rfl ?_
                          refine zk_iconst hc (nI 0) dX4_readWagons_140 rfl ?_
                          refine zk_callNi hc (rest := [.int (nI cm), .ref (a 0)]) (ct_X6_wagonOf g l 0 ((tx k) - 65) 0) (host := "ShuntYard") nl_X4_39 mw_11_23 mw_11_22 mw_1_2 cd_X6_wagonOf ⟨Nat.le_of_ble_eq_true rfl, Nat.le_of_ble_eq_true rfl⟩ ⟨Nat.le_of_ble_eq_true rfl, Nat.le_of_ble_eq_true rfl⟩ ([]) (TXW g.2.1 a tx rd1 ln (n + cm) fk fp) rfl rfl (Nat.le_of_ble_eq_true rfl) dX4_readWagons_141 (fun r W1 hp => ?_)
                          obtain ⟨rfl, rfl⟩ := hp
                          refine zk_ws (ws2 := TXW g.2.1 a tx rd1 ln (n + cm) fk fp) rfl ?_
                          refine zk_callVv hc (rest := []) (ct_X4_fillLatest g l a tx rd1 ln (n + cm) fk fp cm ((0 * 6 + ((tx k) - 65)) * 3 + 0) (by omega) (by omega)) gg_X4_43 cd_X4_fillLatest ⟨Nat.le_of_ble_eq_true rfl, Nat.le_of_ble_eq_true rfl⟩ ⟨Nat.le_of_ble_eq_true rfl, Nat.le_of_ble_eq_true rfl⟩ ([]) ([]) rfl 0 rfl rfl rfl (Nat.le_of_ble_eq_true rfl) dX4_readWagons_144 (fun W1 hp => ?_)
                          obtain rfl := hp
                          refine zk_ws (ws2 := TXW g.2.1 a tx (va_cpy (fun _ => ((0 * 6 + ((tx k) - 65)) * 3 + 0)) rd1 0 ((n + cm) - cm) cm) ln (n + cm) fk fp) rfl ?_
                          refine zk_goto hc 204 dX4_readWagons_147 (by decide) ?_
                          refine zk_iinc hc (v := nI (k + 1)) (lv2 := [(4, .int (nI (k + 1))), (3, .int (nI ((tx k) - 65))), (1, .int (nI 2)), (5, .int (nI (tx k))), (0, .ref (a 0)), (2, .int (nI cm))]) dX4_readWagons_204 5 rfl (nq_inc rfl) (by decide) rfl ?_
                          refine zk_goto hc 14 dX4_readWagons_207 (by decide) ?_
                          refine zk_lv [4, 2, 5, 1, 0] (lv2 := [(0, .ref (a 0)), (1, .int (nI 2)), (2, .int (nI cm)), (3, .int (nI ((tx k) - 65))), (4, .int (nI (k + 1)))]) rfl ?_
                          exact ih14 (k + 1) 2 cm ((tx k) - 65) (n + cm) (va_cpy (fun _ => ((0 * 6 + ((tx k) - 65)) * 3 + 0)) rd1 0 ((n + cm) - cm) cm) (by omega) (by omega) (cw_letter hI (by omega) hL h8)
                        · refine zk_aload_n hc dX4_readWagons_110 1 rfl ?_
                          refine zk_iconst hc (nI 3) dX4_readWagons_111 rfl ?_
                          refine zk_iload hc dX4_readWagons_112 5 rfl ?_
                          refine zk_callVi hc (rest := []) (ct_X4_foundFault g l a tx rd1 ln n fk fp (nI 3) (nI k)) gg_X4_35 cd_X4_foundFault ⟨Nat.le_of_ble_eq_true rfl, Nat.le_of_ble_eq_true rfl⟩ ⟨Nat.le_of_ble_eq_true rfl, Nat.le_of_ble_eq_true rfl⟩ ([]) ([]) rfl 0 rfl rfl rfl (Nat.le_of_ble_eq_true rfl) dX4_readWagons_114 (fun r W1 hp => ?_)
                          obtain ⟨rfl, rfl⟩ := hp
                          refine zk_ws (ws2 := TXW g.2.1 a tx rd1 ln n (nI 3) (nI k)) rfl ?_
                          refine fin 0 0 _ _ _ _ (by decide) (by decide) dX4_readWagons_117 rfl (?_)
                          exact ⟨_, _, _, _, rfl, cw_many hI (by omega) hL (by omega) (by omega)⟩
                · refine zk_top (y := nI 0) (if_neg rhL) ?_
                  have hL : ¬ (65 ≤ tx k ∧ tx k ≤ 70) := fun z => rhL ((inN (by omega) (by have := htx k (by omega); omega) (by omega)).mpr z)
                  refine zk_if_eqN hc 150 dX4_readWagons_87 (by decide) (by omega) (fun h_5 => ?_) (fun h_5 => ?_)
                  · refine zk_iload hc dX4_readWagons_150 0 rfl ?_
                    refine zk_bipush hc (nI 102) dX4_readWagons_152 rfl ?_
                    refine zk_icmp_eqN hc 164 dX4_readWagons_154 (by decide) (by have := htx k (by omega); omega) (by have := htx k (by omega); omega) (fun hf => ?_) (fun hf => ?_)
                    · refine zk_iload_n hc dX4_readWagons_164 2 rfl ?_
                      refine zk_iconst hc (nI 2) dX4_readWagons_165 rfl ?_
                      refine zk_icmp_neN hc 196 dX4_readWagons_166 (by decide) (by omega) (by omega) (fun hs2 => ?_) (fun hs2 => ?_)
                      · refine zk_aload_n hc dX4_readWagons_196 1 rfl ?_
                        refine zk_iconst hc (nI 1) dX4_readWagons_197 rfl ?_
                        refine zk_iload hc dX4_readWagons_198 5 rfl ?_
                        refine zk_callVi hc (rest := []) (ct_X4_foundFault g l a tx rd1 ln n fk fp (nI 1) (nI k)) gg_X4_35 cd_X4_foundFault ⟨Nat.le_of_ble_eq_true rfl, Nat.le_of_ble_eq_true rfl⟩ ⟨Nat.le_of_ble_eq_true rfl, Nat.le_of_ble_eq_true rfl⟩ ([]) ([]) rfl 0 rfl rfl rfl (Nat.le_of_ble_eq_true rfl) dX4_readWagons_200 (fun r W1 hp => ?_)
                        obtain ⟨rfl, rfl⟩ := hp
                        refine zk_ws (ws2 := TXW g.2.1 a tx rd1 ln n (nI 1) (nI k)) rfl ?_
                        refine fin 0 0 _ _ _ _ (by decide) (by decide) dX4_readWagons_203 rfl (?_)
                        exact ⟨_, _, _, _, rfl, cw_bad hI (by omega) (by omega) (by omega) (by omega) (by omega)⟩
                      · subst hs2
                        refine zk_iconst hc (nI 3) dX4_readWagons_169 rfl ?_
                        refine zk_istore_n hc (lv2 := [(1, .int (nI 3)), (5, .int (nI (tx k))), (0, .ref (a 0)), (2, .int (nI cm)), (3, .int (nI d)), (4, .int (nI k))]) dX4_readWagons_170 (by decide) rfl ?_
                        refine zk_aload_n hc dX4_readWagons_171 2 rfl ?_
                        refine zk_iload_n hc dX4_readWagons_172 3 rfl ?_
                        refine zk_iconst hc (nI 0) dX4_readWagons_173 rfl ?_
                        refine zk_iload_n hc dX4_readWagons_174 4 rfl ?_
                        refine zk_iload hc dX4_readWagons_175 1 rfl ?_
                        refine zk_bipush hc (nI 102) dX4_readWagons_177 rfl ?_
                        refine zk_icmp_neN hc 186 dX4_readWagons_179 (by decide) (by have := htx k (by omega); omega) (by have := htx k (by omega); omega) (fun hz => ?_) (fun hz => ?_)
                        · exact absurd hz (by omega)
                        · refine zk_iconst hc (nI 1) dX4_readWagons_182 rfl ?_
                          refine zk_goto hc 187 dX4_readWagons_183 (by decide) ?_
                          refine zk_callNi hc (rest := [.int (nI cm), .ref (a 0)]) (ct_X6_wagonOf g l 0 d 1) (host := "ShuntYard") nl_X4_39 mw_11_23 mw_11_22 mw_1_2 cd_X6_wagonOf ⟨Nat.le_of_ble_eq_true rfl, Nat.le_of_ble_eq_true rfl⟩ ⟨Nat.le_of_ble_eq_true rfl, Nat.le_of_ble_eq_true rfl⟩ ([]) (TXW g.2.1 a tx rd1 ln n fk fp) rfl rfl (Nat.le_of_ble_eq_true rfl) dX4_readWagons_187 (fun r W1 hp => ?_)
                          obtain ⟨rfl, rfl⟩ := hp
                          refine zk_ws (ws2 := TXW g.2.1 a tx rd1 ln n fk fp) rfl ?_
                          refine zk_callVv hc (rest := []) (ct_X4_fillLatest g l a tx rd1 ln n fk fp cm ((0 * 6 + d) * 3 + 1) (by omega) (by omega)) gg_X4_43 cd_X4_fillLatest ⟨Nat.le_of_ble_eq_true rfl, Nat.le_of_ble_eq_true rfl⟩ ⟨Nat.le_of_ble_eq_true rfl, Nat.le_of_ble_eq_true rfl⟩ ([]) ([]) rfl 0 rfl rfl rfl (Nat.le_of_ble_eq_true rfl) dX4_readWagons_190 (fun W1 hp => ?_)
                          obtain rfl := hp
                          refine zk_ws (ws2 := TXW g.2.1 a tx (va_cpy (fun _ => ((0 * 6 + d) * 3 + 1)) rd1 0 (n - cm) cm) ln n fk fp) rfl ?_
                          refine zk_goto hc 204 dX4_readWagons_193 (by decide) ?_
                          refine zk_iinc hc (v := nI (k + 1)) (lv2 := [(4, .int (nI (k + 1))), (1, .int (nI 3)), (5, .int (nI (tx k))), (0, .ref (a 0)), (2, .int (nI cm)), (3, .int (nI d))]) dX4_readWagons_204 5 rfl (nq_inc rfl) (by decide) rfl ?_
                          refine zk_goto hc 14 dX4_readWagons_207 (by decide) ?_
                          refine zk_lv [3, 1, 4, 5, 0] (lv2 := [(0, .ref (a 0)), (1, .int (nI 3)), (2, .int (nI cm)), (3, .int (nI d)), (4, .int (nI (k + 1)))]) rfl ?_
                          exact ih14 (k + 1) 3 cm d n (va_cpy (fun _ => ((0 * 6 + d) * 3 + 1)) rd1 0 (n - cm) cm) (by omega) (by omega) (cw_kind hI (Or.inl hf) (if_pos hf).symm)
                    · refine zk_iload hc dX4_readWagons_157 0 rfl ?_
                      refine zk_bipush hc (nI 120) dX4_readWagons_159 rfl ?_
                      refine zk_icmp_neN hc 196 dX4_readWagons_161 (by decide) (by have := htx k (by omega); omega) (by have := htx k (by omega); omega) (fun hx => ?_) (fun hx => ?_)
                      · refine zk_aload_n hc dX4_readWagons_196 1 rfl ?_
                        refine zk_iconst hc (nI 1) dX4_readWagons_197 rfl ?_
                        refine zk_iload hc dX4_readWagons_198 5 rfl ?_
                        refine zk_callVi hc (rest := []) (ct_X4_foundFault g l a tx rd1 ln n fk fp (nI 1) (nI k)) gg_X4_35 cd_X4_foundFault ⟨Nat.le_of_ble_eq_true rfl, Nat.le_of_ble_eq_true rfl⟩ ⟨Nat.le_of_ble_eq_true rfl, Nat.le_of_ble_eq_true rfl⟩ ([]) ([]) rfl 0 rfl rfl rfl (Nat.le_of_ble_eq_true rfl) dX4_readWagons_200 (fun r W1 hp => ?_)
                        obtain ⟨rfl, rfl⟩ := hp
                        refine zk_ws (ws2 := TXW g.2.1 a tx rd1 ln n (nI 1) (nI k)) rfl ?_
                        refine fin 0 0 _ _ _ _ (by decide) (by decide) dX4_readWagons_203 rfl (?_)
                        exact ⟨_, _, _, _, rfl, cw_bad hI (by omega) (by omega) (by omega) (by omega) (by omega)⟩
                      · refine zk_iload_n hc dX4_readWagons_164 2 rfl ?_
                        refine zk_iconst hc (nI 2) dX4_readWagons_165 rfl ?_
                        refine zk_icmp_neN hc 196 dX4_readWagons_166 (by decide) (by omega) (by omega) (fun hs2 => ?_) (fun hs2 => ?_)
                        · refine zk_aload_n hc dX4_readWagons_196 1 rfl ?_
                          refine zk_iconst hc (nI 1) dX4_readWagons_197 rfl ?_
                          refine zk_iload hc dX4_readWagons_198 5 rfl ?_
                          refine zk_callVi hc (rest := []) (ct_X4_foundFault g l a tx rd1 ln n fk fp (nI 1) (nI k)) gg_X4_35 cd_X4_foundFault ⟨Nat.le_of_ble_eq_true rfl, Nat.le_of_ble_eq_true rfl⟩ ⟨Nat.le_of_ble_eq_true rfl, Nat.le_of_ble_eq_true rfl⟩ ([]) ([]) rfl 0 rfl rfl rfl (Nat.le_of_ble_eq_true rfl) dX4_readWagons_200 (fun r W1 hp => ?_)
                          obtain ⟨rfl, rfl⟩ := hp
                          refine zk_ws (ws2 := TXW g.2.1 a tx rd1 ln n (nI 1) (nI k)) rfl ?_
                          refine fin 0 0 _ _ _ _ (by decide) (by decide) dX4_readWagons_203 rfl (?_)
                          exact ⟨_, _, _, _, rfl, cw_bad hI (by omega) (by omega) (by omega) (by omega) (by omega)⟩
                        · subst hs2
                          refine zk_iconst hc (nI 3) dX4_readWagons_169 rfl ?_
                          refine zk_istore_n hc (lv2 := [(1, .int (nI 3)), (5, .int (nI (tx k))), (0, .ref (a 0)), (2, .int (nI cm)), (3, .int (nI d)), (4, .int (nI k))]) dX4_readWagons_170 (by decide) rfl ?_
                          refine zk_aload_n hc dX4_readWagons_171 2 rfl ?_
                          refine zk_iload_n hc dX4_readWagons_172 3 rfl ?_
                          refine zk_iconst hc (nI 0) dX4_readWagons_173 rfl ?_
                          refine zk_iload_n hc dX4_readWagons_174 4 rfl ?_
                          refine zk_iload hc dX4_readWagons_175 1 rfl ?_
                          refine zk_bipush hc (nI 102) dX4_readWagons_177 rfl ?_
                          refine zk_icmp_neN hc 186 dX4_readWagons_179 (by decide) (by have := htx k (by omega); omega) (by have := htx k (by omega); omega) (fun hz => ?_) (fun hz => ?_)
                          · refine zk_iconst hc (nI 2) dX4_readWagons_186 rfl ?_
                            refine zk_callNi hc (rest := [.int (nI cm), .ref (a 0)]) (ct_X6_wagonOf g l 0 d 2) (host := "ShuntYard") nl_X4_39 mw_11_23 mw_11_22 mw_1_2 cd_X6_wagonOf ⟨Nat.le_of_ble_eq_true rfl, Nat.le_of_ble_eq_true rfl⟩ ⟨Nat.le_of_ble_eq_true rfl, Nat.le_of_ble_eq_true rfl⟩ ([]) (TXW g.2.1 a tx rd1 ln n fk fp) rfl rfl (Nat.le_of_ble_eq_true rfl) dX4_readWagons_187 (fun r W1 hp => ?_)
                            obtain ⟨rfl, rfl⟩ := hp
                            refine zk_ws (ws2 := TXW g.2.1 a tx rd1 ln n fk fp) rfl ?_
                            refine zk_callVv hc (rest := []) (ct_X4_fillLatest g l a tx rd1 ln n fk fp cm ((0 * 6 + d) * 3 + 2) (by omega) (by omega)) gg_X4_43 cd_X4_fillLatest ⟨Nat.le_of_ble_eq_true rfl, Nat.le_of_ble_eq_true rfl⟩ ⟨Nat.le_of_ble_eq_true rfl, Nat.le_of_ble_eq_true rfl⟩ ([]) ([]) rfl 0 rfl rfl rfl (Nat.le_of_ble_eq_true rfl) dX4_readWagons_190 (fun W1 hp => ?_)
                            obtain rfl := hp
                            refine zk_ws (ws2 := TXW g.2.1 a tx (va_cpy (fun _ => ((0 * 6 + d) * 3 + 2)) rd1 0 (n - cm) cm) ln n fk fp) rfl ?_
                            refine zk_goto hc 204 dX4_readWagons_193 (by decide) ?_
                            refine zk_iinc hc (v := nI (k + 1)) (lv2 := [(4, .int (nI (k + 1))), (1, .int (nI 3)), (5, .int (nI (tx k))), (0, .ref (a 0)), (2, .int (nI cm)), (3, .int (nI d))]) dX4_readWagons_204 5 rfl (nq_inc rfl) (by decide) rfl ?_
                            refine zk_goto hc 14 dX4_readWagons_207 (by decide) ?_
                            refine zk_lv [3, 1, 4, 5, 0] (lv2 := [(0, .ref (a 0)), (1, .int (nI 3)), (2, .int (nI cm)), (3, .int (nI d)), (4, .int (nI (k + 1)))]) rfl ?_
                            exact ih14 (k + 1) 3 cm d n (va_cpy (fun _ => ((0 * 6 + d) * 3 + 2)) rd1 0 (n - cm) cm) (by omega) (by omega) (cw_kind hI (Or.inr hx) (if_neg (by omega)).symm)
                          · exact absurd hz (by omega)
                  · exact absurd h_5 (by decide)
              · subst hs0
                refine zk_iconst hc (nI 1) dX4_readWagons_67 rfl ?_
                refine zk_istore_n hc (lv2 := [(1, .int (nI 1)), (5, .int (nI (tx k))), (0, .ref (a 0)), (2, .int (nI cm)), (3, .int (nI d)), (4, .int (nI k))]) dX4_readWagons_68 (by decide) rfl ?_
                refine zk_iload hc dX4_readWagons_69 1 rfl ?_
                refine zk_bipush hc (nI 48) dX4_readWagons_71 rfl ?_
                refine zk_isubN hc dX4_readWagons_73 (by omega) ?_
                refine zk_istore_n hc (lv2 := [(2, .int (nI ((tx k) - 48))), (1, .int (nI 1)), (5, .int (nI (tx k))), (0, .ref (a 0)), (3, .int (nI d)), (4, .int (nI k))]) dX4_readWagons_74 (by decide) rfl ?_
                refine zk_goto hc 204 dX4_readWagons_75 (by decide) ?_
                refine zk_iinc hc (v := nI (k + 1)) (lv2 := [(4, .int (nI (k + 1))), (2, .int (nI ((tx k) - 48))), (1, .int (nI 1)), (5, .int (nI (tx k))), (0, .ref (a 0)), (3, .int (nI d))]) dX4_readWagons_204 5 rfl (nq_inc rfl) (by decide) rfl ?_
                refine zk_goto hc 14 dX4_readWagons_207 (by decide) ?_
                refine zk_lv [4, 2, 1, 5, 0] (lv2 := [(0, .ref (a 0)), (1, .int (nI 1)), (2, .int (nI ((tx k) - 48))), (3, .int (nI d)), (4, .int (nI (k + 1)))]) rfl ?_
                exact ih14 (k + 1) 1 ((tx k) - 48) d n rd1 (by omega) (by omega) (cw_digit hI hD)
          · refine zk_top (y := nI 0) (if_neg rhD) ?_
            have hD : ¬ (49 ≤ tx k ∧ tx k ≤ 56) := fun z => rhD ((inN (by omega) (by have := htx k (by omega); omega) (by omega)).mpr z)
            refine zk_if_eqN hc 78 dX4_readWagons_60 (by decide) (by omega) (fun h_6 => ?_) (fun h_6 => ?_)
            · refine zk_iload hc dX4_readWagons_78 0 rfl ?_
              refine zk_bipush hc (nI 65) dX4_readWagons_80 rfl ?_
              refine zk_bipush hc (nI 70) dX4_readWagons_82 rfl ?_
              refine zk_callNi hc (rest := []) (ct_X6_within g l (nI (tx k)) (nI 65) (nI 70)) (host := "ShuntYard") nl_X4_31 mw_7_22 mw_7_21 mw_1_2 cd_X6_within ⟨Nat.le_of_ble_eq_true rfl, Nat.le_of_ble_eq_true rfl⟩ ⟨Nat.le_of_ble_eq_true rfl, Nat.le_of_ble_eq_true rfl⟩ ([]) (TXW g.2.1 a tx rd1 ln n fk fp) rfl rfl (Nat.le_of_ble_eq_true rfl) dX4_readWagons_84 (fun r W1 hp => ?_)
              obtain ⟨rfl, rfl⟩ := hp
              refine zk_ws (ws2 := TXW g.2.1 a tx rd1 ln n fk fp) rfl ?_
              by_cases rhL : nI 65 ≤ nI (tx k) ∧ nI (tx k) ≤ nI 70
              · refine zk_top (y := nI 1) (if_pos rhL) ?_
                have hL := (inN (by omega) (by have := htx k (by omega); omega) (by omega)).mp rhL
                refine zk_if_eqN hc 150 dX4_readWagons_87 (by decide) (by omega) (fun h_7 => ?_) (fun h_7 => ?_)
                · exact absurd h_7 (by decide)
                · refine zk_iload_n hc dX4_readWagons_90 2 rfl ?_
                  refine zk_if_eqN hc 99 dX4_readWagons_91 (by decide) (by omega) (fun hs2 => ?_) (fun hs2 => ?_)
                  · refine zk_aload_n hc dX4_readWagons_99 1 rfl ?_
                    refine zk_get hc inlX4 (ci := 4) rfl 0 3 (by decide) mw_10_18 rfl rfl rfl dX4_readWagons_100 ?_
                    refine zk_iload_n hc dX4_readWagons_103 3 rfl ?_
                    refine zk_iaddN hc dX4_readWagons_104 ?_
                    refine zk_bipush hc (nI 8) dX4_readWagons_105 rfl ?_
                    refine zk_icmp_leN hc 118 dX4_readWagons_107 (by decide) (by omega) (by omega) (fun h8 => ?_) (fun h8 => ?_)
                    · refine zk_iconst hc (nI 2) dX4_readWagons_118 rfl ?_
                      refine zk_istore_n hc (lv2 := [(1, .int (nI 2)), (5, .int (nI (tx k))), (0, .ref (a 0)), (2, .int (nI cm)), (3, .int (nI d)), (4, .int (nI k))]) dX4_readWagons_119 (by decide) rfl ?_
                      refine zk_iload hc dX4_readWagons_120 1 rfl ?_
                      refine zk_bipush hc (nI 65) dX4_readWagons_122 rfl ?_
                      refine zk_isubN hc dX4_readWagons_124 (by omega) ?_
                      refine zk_istore_n hc (lv2 := [(3, .int (nI ((tx k) - 65))), (1, .int (nI 2)), (5, .int (nI (tx k))), (0, .ref (a 0)), (2, .int (nI cm)), (4, .int (nI k))]) dX4_readWagons_125 (by decide) rfl ?_
                      refine zk_aload_n hc dX4_readWagons_126 3 rfl ?_
                      refine zk_dup hc dX4_readWagons_127 rfl ?_
                      refine zk_get hc inlX4 (ci := 4) rfl 0 3 (by decide) mw_10_18 rfl rfl rfl dX4_readWagons_128 ?_
                      refine zk_iload_n hc dX4_readWagons_131 4 rfl ?_
                      refine zk_iaddN hc dX4_readWagons_132 ?_
                      refine zk_put hc inlX4 (ci := 4) rfl tyX4 tyX4_ok nmX4 0 3 (by decide) mw_10_18 rfl rfl rfl rfl rfl (Nat.le_of_ble_eq_true rfl) (ws2 := TXW g.2.1 a tx rd1 ln (n + cm) fk fp) rfl dX4_readWagons_133 ?_
                      refine zk_aload_n hc dX4_readWagons_136 3 rfl ?_
                      refine zk_iload_n hc dX4_readWagons_137 4 rfl ?_
                      refine zk_iconst hc (nI 0) dX4_readWagons_138 rfl ?_
                      refine zk_iload_n hc dX4_readWagons_139 0 rfl ?_
                      refine zk_iconst hc (nI 0) dX4_readWagons_140 rfl ?_
                      refine zk_callNi hc (rest := [.int (nI cm), .ref (a 0)]) (ct_X6_wagonOf g l 0 ((tx k) - 65) 0) (host := "ShuntYard") nl_X4_39 mw_11_23 mw_11_22 mw_1_2 cd_X6_wagonOf ⟨Nat.le_of_ble_eq_true rfl, Nat.le_of_ble_eq_true rfl⟩ ⟨Nat.le_of_ble_eq_true rfl, Nat.le_of_ble_eq_true rfl⟩ ([]) (TXW g.2.1 a tx rd1 ln (n + cm) fk fp) rfl rfl (Nat.le_of_ble_eq_true rfl) dX4_readWagons_141 (fun r W1 hp => ?_)
                      obtain ⟨rfl, rfl⟩ := hp
                      refine zk_ws (ws2 := TXW g.2.1 a tx rd1 ln (n + cm) fk fp) rfl ?_
                      refine zk_callVv hc (rest := []) (ct_X4_fillLatest g l a tx rd1 ln (n + cm) fk fp cm ((0 * 6 + ((tx k) - 65)) * 3 + 0) (by omega) (by omega)) gg_X4_43 cd_X4_fillLatest ⟨Nat.le_of_ble_eq_true rfl, Nat.le_of_ble_eq_true rfl⟩ ⟨Nat.le_of_ble_eq_true rfl, Nat.le_of_ble_eq_true rfl⟩ ([]) ([]) rfl 0 rfl rfl rfl (Nat.le_of_ble_eq_true rfl) dX4_readWagons_144 (fun W1 hp => ?_)
                      obtain rfl := hp
                      refine zk_ws (ws2 := TXW g.2.1 a tx (va_cpy (fun _ => ((0 * 6 + ((tx k) - 65)) * 3 + 0)) rd1 0 ((n + cm) - cm) cm) ln (n + cm) fk fp) rfl ?_
                      refine zk_goto hc 204 dX4_readWagons_147 (by decide) ?_
                      refine zk_iinc hc (v := nI (k + 1)) (lv2 := [(4, .int (nI (k + 1))), (3, .int (nI ((tx k) - 65))), (1, .int (nI 2)), (5, .int (nI (tx k))), (0, .ref (a 0)), (2, .int (nI cm))]) dX4_readWagons_204 5 rfl (nq_inc rfl) (by decide) rfl ?_
                      refine zk_goto hc 14 dX4_readWagons_207 (by decide) ?_
                      refine zk_lv [4, 2, 5, 1, 0] (lv2 := [(0, .ref (a 0)), (1, .int (nI 2)), (2, .int (nI cm)), (3, .int (nI ((tx k) - 65))), (4, .int (nI (k + 1)))]) rfl ?_
                      exact ih14 (k + 1) 2 cm ((tx k) - 65) (n + cm) (va_cpy (fun _ => ((0 * 6 + ((tx k) - 65)) * 3 + 0)) rd1 0 ((n + cm) - cm) cm) (by omega) (by omega) (cw_letter hI (by omega) hL h8)
                    · refine zk_aload_n hc dX4_readWagons_110 1 rfl ?_
                      refine zk_iconst hc (nI 3) dX4_readWagons_111 rfl ?_
                      refine zk_iload hc dX4_readWagons_112 5 rfl ?_
                      refine zk_callVi hc (rest := []) (ct_X4_foundFault g l a tx rd1 ln n fk fp (nI 3) (nI k)) gg_X4_35 cd_X4_foundFault ⟨Nat.le_of_ble_eq_true rfl, Nat.le_of_ble_eq_true rfl⟩ ⟨Nat.le_of_ble_eq_true rfl, Nat.le_of_ble_eq_true rfl⟩ ([]) ([]) rfl 0 rfl rfl rfl (Nat.le_of_ble_eq_true rfl) dX4_readWagons_114 (fun r W1 hp => ?_)
                      obtain ⟨rfl, rfl⟩ := hp
                      refine zk_ws (ws2 := TXW g.2.1 a tx rd1 ln n (nI 3) (nI k)) rfl ?_
                      refine fin 0 0 _ _ _ _ (by decide) (by decide) dX4_readWagons_117 rfl (?_)
                      exact ⟨_, _, _, _, rfl, cw_many hI (by omega) hL (by omega) (by omega)⟩
                  · refine zk_iload_n hc dX4_readWagons_94 2 rfl ?_
                    refine zk_iconst hc (nI 1) dX4_readWagons_95 rfl ?_
                    refine zk_icmp_neN hc 150 dX4_readWagons_96 (by decide) (by omega) (by omega) (fun hs3 => ?_) (fun hs3 => ?_)
                    · refine zk_iload hc dX4_readWagons_150 0 rfl ?_
                      refine zk_bipush hc (nI 102) dX4_readWagons_152 rfl ?_
                      refine zk_icmp_eqN hc 164 dX4_readWagons_154 (by decide) (by have := htx k (by omega); omega) (by have := htx k (by omega); omega) (fun hf => ?_) (fun hf => ?_)
                      · refine zk_iload_n hc dX4_readWagons_164 2 rfl ?_
                        refine zk_iconst hc (nI 2) dX4_readWagons_165 rfl ?_
                        refine zk_icmp_neN hc 196 dX4_readWagons_166 (by decide) (by omega) (by omega) (fun hs2 => ?_) (fun hs2 => ?_)
                        · refine zk_aload_n hc dX4_readWagons_196 1 rfl ?_
                          refine zk_iconst hc (nI 1) dX4_readWagons_197 rfl ?_
                          refine zk_iload hc dX4_readWagons_198 5 rfl ?_
                          refine zk_callVi hc (rest := []) (ct_X4_foundFault g l a tx rd1 ln n fk fp (nI 1) (nI k)) gg_X4_35 cd_X4_foundFault ⟨Nat.le_of_ble_eq_true rfl, Nat.le_of_ble_eq_true rfl⟩ ⟨Nat.le_of_ble_eq_true rfl, Nat.le_of_ble_eq_true rfl⟩ ([]) ([]) rfl 0 rfl rfl rfl (Nat.le_of_ble_eq_true rfl) dX4_readWagons_200 (fun r W1 hp => ?_)
                          obtain ⟨rfl, rfl⟩ := hp
                          refine zk_ws (ws2 := TXW g.2.1 a tx rd1 ln n (nI 1) (nI k)) rfl ?_
                          refine fin 0 0 _ _ _ _ (by decide) (by decide) dX4_readWagons_203 rfl (?_)
                          exact ⟨_, _, _, _, rfl, cw_bad hI (by omega) (by omega) (by omega) (by omega) (by omega)⟩
                        · subst hs2
                          refine zk_iconst hc (nI 3) dX4_readWagons_169 rfl ?_
                          refine zk_istore_n hc (lv2 := [(1, .int (nI 3)), (5, .int (nI (tx k))), (0, .ref (a 0)), (2, .int (nI cm)), (3, .int (nI d)), (4, .int (nI k))]) dX4_readWagons_170 (by decide) rfl ?_
                          refine zk_aload_n hc dX4_readWagons_171 2 rfl ?_
                          refine zk_iload_n hc dX4_readWagons_172 3 rfl ?_
                          refine zk_iconst hc (nI 0) dX4_readWagons_173 rfl ?_
                          refine zk_iload_n hc dX4_readWagons_174 4 rfl ?_
                          refine zk_iload hc dX4_readWagons_175 1 rfl ?_
                          refine zk_bipush hc (nI 102) dX4_readWagons_177 rfl ?_
                          refine zk_icmp_neN hc 186 dX4_readWagons_179 (by decide) (by have := htx k (by omega); omega) (by have := htx k (by omega); omega) (fun hz => ?_) (fun hz => ?_)
                          · exact absurd hz (by omega)
                          · refine zk_iconst hc (nI 1) dX4_readWagons_182 rfl ?_
                            refine zk_goto hc 187 dX4_readWagons_183 (by decide) ?_
                            refine zk_callNi hc (rest := [.int (nI cm), .ref (a 0)]) (ct_X6_wagonOf g l 0 d 1) (host := "ShuntYard") nl_X4_39 mw_11_23 mw_11_22 mw_1_2 cd_X6_wagonOf ⟨Nat.le_of_ble_eq_true rfl, Nat.le_of_ble_eq_true rfl⟩ ⟨Nat.le_of_ble_eq_true rfl, Nat.le_of_ble_eq_true rfl⟩ ([]) (TXW g.2.1 a tx rd1 ln n fk fp) rfl rfl (Nat.le_of_ble_eq_true rfl) dX4_readWagons_187 (fun r W1 hp => ?_)
                            obtain ⟨rfl, rfl⟩ := hp
                            refine zk_ws (ws2 := TXW g.2.1 a tx rd1 ln n fk fp) rfl ?_
                            refine zk_callVv hc (rest := []) (ct_X4_fillLatest g l a tx rd1 ln n fk fp cm ((0 * 6 + d) * 3 + 1) (by omega) (by omega)) gg_X4_43 cd_X4_fillLatest ⟨Nat.le_of_ble_eq_true rfl, Nat.le_of_ble_eq_true rfl⟩ ⟨Nat.le_of_ble_eq_true rfl, Nat.le_of_ble_eq_true rfl⟩ ([]) ([]) rfl 0 rfl rfl rfl (Nat.le_of_ble_eq_true rfl) dX4_readWagons_190 (fun W1 hp => ?_)
                            obtain rfl := hp
                            refine zk_ws (ws2 := TXW g.2.1 a tx (va_cpy (fun _ => ((0 * 6 + d) * 3 + 1)) rd1 0 (n - cm) cm) ln n fk fp) rfl ?_
                            refine zk_goto hc 204 dX4_readWagons_193 (by decide) ?_
                            refine zk_iinc hc (v := nI (k + 1)) (lv2 := [(4, .int (nI (k + 1))), (1, .int (nI 3)), (5, .int (nI (tx k))), (0, .ref (a 0)), (2, .int (nI cm)), (3, .int (nI d))]) dX4_readWagons_204 5 rfl (nq_inc rfl) (by decide) rfl ?_
                            refine zk_goto hc 14 dX4_readWagons_207 (by decide) ?_
                            refine zk_lv [3, 1, 4, 5, 0] (lv2 := [(0, .ref (a 0)), (1, .int (nI 3)), (2, .int (nI cm)), (3, .int (nI d)), (4, .int (nI (k + 1)))]) rfl ?_
                            exact ih14 (k + 1) 3 cm d n (va_cpy (fun _ => ((0 * 6 + d) * 3 + 1)) rd1 0 (n - cm) cm) (by omega) (by omega) (cw_kind hI (Or.inl hf) (if_pos hf).symm)
                      · refine zk_iload hc dX4_readWagons_157 0 rfl ?_
                        refine zk_bipush hc (nI 120) dX4_readWagons_159 rfl ?_
                        refine zk_icmp_neN hc 196 dX4_readWagons_161 (by decide) (by have := htx k (by omega); omega) (by have := htx k (by omega); omega) (fun hx => ?_) (fun hx => ?_)
                        · refine zk_aload_n hc dX4_readWagons_196 1 rfl ?_
                          refine zk_iconst hc (nI 1) dX4_readWagons_197 rfl ?_
                          refine zk_iload hc dX4_readWagons_198 5 rfl ?_
                          refine zk_callVi hc (rest := []) (ct_X4_foundFault g l a tx rd1 ln n fk fp (nI 1) (nI k)) gg_X4_35 cd_X4_foundFault ⟨Nat.le_of_ble_eq_true rfl, Nat.le_of_ble_eq_true rfl⟩ ⟨Nat.le_of_ble_eq_true rfl, Nat.le_of_ble_eq_true rfl⟩ ([]) ([]) rfl 0 rfl rfl rfl (Nat.le_of_ble_eq_true rfl) dX4_readWagons_200 (fun r W1 hp => ?_)
                          obtain ⟨rfl, rfl⟩ := hp
                          refine zk_ws (ws2 := TXW g.2.1 a tx rd1 ln n (nI 1) (nI k)) rfl ?_
                          refine fin 0 0 _ _ _ _ (by decide) (by decide) dX4_readWagons_203 rfl (?_)
                          exact ⟨_, _, _, _, rfl, cw_bad hI (by omega) (by omega) (by omega) (by omega) (by omega)⟩
                        · refine zk_iload_n hc dX4_readWagons_164 2 rfl ?_
                          refine zk_iconst hc (nI 2) dX4_readWagons_165 rfl ?_
                          refine zk_icmp_neN hc 196 dX4_readWagons_166 (by decide) (by omega) (by omega) (fun hs2 => ?_) (fun hs2 => ?_)
                          · refine zk_aload_n hc dX4_readWagons_196 1 rfl ?_
                            refine zk_iconst hc (nI 1) dX4_readWagons_197 rfl ?_
                            refine zk_iload hc dX4_readWagons_198 5 rfl ?_
                            refine zk_callVi hc (rest := []) (ct_X4_foundFault g l a tx rd1 ln n fk fp (nI 1) (nI k)) gg_X4_35 cd_X4_foundFault ⟨Nat.le_of_ble_eq_true rfl, Nat.le_of_ble_eq_true rfl⟩ ⟨Nat.le_of_ble_eq_true rfl, Nat.le_of_ble_eq_true rfl⟩ ([]) ([]) rfl 0 rfl rfl rfl (Nat.le_of_ble_eq_true rfl) dX4_readWagons_200 (fun r W1 hp => ?_)
                            obtain ⟨rfl, rfl⟩ := hp
                            refine zk_ws (ws2 := TXW g.2.1 a tx rd1 ln n (nI 1) (nI k)) rfl ?_
                            refine fin 0 0 _ _ _ _ (by decide) (by decide) dX4_readWagons_203 rfl (?_)
                            exact ⟨_, _, _, _, rfl, cw_bad hI (by omega) (by omega) (by omega) (by omega) (by omega)⟩
                          · subst hs2
                            refine zk_iconst hc (nI 3) dX4_readWagons_169 rfl ?_
                            refine zk_istore_n hc (lv2 := [(1, .int (nI 3)), (5, .int (nI (tx k))), (0, .ref (a 0)), (2, .int (nI cm)), (3, .int (nI d)), (4, .int (nI k))]) dX4_readWagons_170 (by decide) rfl ?_
                            refine zk_aload_n hc dX4_readWagons_171 2 rfl ?_
                            refine zk_iload_n hc dX4_readWagons_172 3 rfl ?_
                            refine zk_iconst hc (nI 0) dX4_readWagons_173 rfl ?_
                            refine zk_iload_n hc dX4_readWagons_174 4 rfl ?_
                            refine zk_iload hc dX4_readWagons_175 1 rfl ?_
                            refine zk_bipush hc (nI 102) dX4_readWagons_177 rfl ?_
                            refine zk_icmp_neN hc 186 dX4_readWagons_179 (by decide) (by have := htx k (by omega); omega) (by have := htx k (by omega); omega) (fun hz => ?_) (fun hz => ?_)
                            · refine zk_iconst hc (nI 2) dX4_readWagons_186 rfl ?_
                              refine zk_callNi hc (rest := [.int (nI cm), .ref (a 0)]) (ct_X6_wagonOf g l 0 d 2) (host := "ShuntYard") nl_X4_39 mw_11_23 mw_11_22 mw_1_2 cd_X6_wagonOf ⟨Nat.le_of_ble_eq_true rfl, Nat.le_of_ble_eq_true rfl⟩ ⟨Nat.le_of_ble_eq_true rfl, Nat.le_of_ble_eq_true rfl⟩ ([]) (TXW g.2.1 a tx rd1 ln n fk fp) rfl rfl (Nat.le_of_ble_eq_true rfl) dX4_readWagons_187 (fun r W1 hp => ?_)
                              obtain ⟨rfl, rfl⟩ := hp
                              refine zk_ws (ws2 := TXW g.2.1 a tx rd1 ln n fk fp) rfl ?_
                              refine zk_callVv hc (rest := []) (ct_X4_fillLatest g l a tx rd1 ln n fk fp cm ((0 * 6 + d) * 3 + 2) (by omega) (by omega)) gg_X4_43 cd_X4_fillLatest ⟨Nat.le_of_ble_eq_true rfl, Nat.le_of_ble_eq_true rfl⟩ ⟨Nat.le_of_ble_eq_true rfl, Nat.le_of_ble_eq_true rfl⟩ ([]) ([]) rfl 0 rfl rfl rfl (Nat.le_of_ble_eq_true rfl) dX4_readWagons_190 (fun W1 hp => ?_)
                              obtain rfl := hp
                              refine zk_ws (ws2 := TXW g.2.1 a tx (va_cpy (fun _ => ((0 * 6 + d) * 3 + 2)) rd1 0 (n - cm) cm) ln n fk fp) rfl ?_
                              refine zk_goto hc 204 dX4_readWagons_193 (by decide) ?_
                              refine zk_iinc hc (v := nI (k + 1)) (lv2 := [(4, .int (nI (k + 1))), (1, .int (nI 3)), (5, .int (nI (tx k))), (0, .ref (a 0)), (2, .int (nI cm)), (3, .int (nI d))]) dX4_readWagons_204 5 rfl (nq_inc rfl) (by decide) rfl ?_
                              refine zk_goto hc 14 dX4_readWagons_207 (by decide) ?_
                              refine zk_lv [3, 1, 4, 5, 0] (lv2 := [(0, .ref (a 0)), (1, .int (nI 3)), (2, .int (nI cm)), (3, .int (nI d)), (4, .int (nI (k + 1)))]) rfl ?_
                              exact ih14 (k + 1) 3 cm d n (va_cpy (fun _ => ((0 * 6 + d) * 3 + 2)) rd1 0 (n - cm) cm) (by omega) (by omega) (cw_kind hI (Or.inr hx) (if_neg (by omega)).symm)
                            · exact absurd hz (by omega)
                    · refine zk_aload_n hc dX4_readWagons_99 1 rfl ?_
                      refine zk_get hc inlX4 (ci := 4) rfl 0 3 (by decide) mw_10_18 rfl rfl rfl dX4_readWagons_100 ?_
                      refine zk_iload_n hc dX4_readWagons_103 3 rfl ?_
                      refine zk_iaddN hc dX4_readWagons_104 ?_
                      refine zk_bipush hc (nI 8) dX4_readWagons_105 rfl ?_
                      refine zk_icmp_leN hc 118 dX4_readWagons_107 (by decide) (by omega) (by omega) (fun h8 => ?_) (fun h8 => ?_)
                      · refine zk_iconst hc (nI 2) dX4_readWagons_118 rfl ?_
                        refine zk_istore_n hc (lv2 := [(1, .int (nI 2)), (5, .int (nI (tx k))), (0, .ref (a 0)), (2, .int (nI cm)), (3, .int (nI d)), (4, .int (nI k))]) dX4_readWagons_119 (by decide) rfl ?_
                        refine zk_iload hc dX4_readWagons_120 1 rfl ?_
                        refine zk_bipush hc (nI 65) dX4_readWagons_122 rfl ?_
                        refine zk_isubN hc dX4_readWagons_124 (by omega) ?_
                        refine zk_istore_n hc (lv2 := [(3, .int (nI ((tx k) - 65))), (1, .int (nI 2)), (5, .int (nI (tx k))), (0, .ref (a 0)), (2, .int (nI cm)), (4, .int (nI k))]) dX4_readWagons_125 (by decide) rfl ?_
                        refine zk_aload_n hc dX4_readWagons_126 3 rfl ?_
                        refine zk_dup hc dX4_readWagons_127 rfl ?_
                        refine zk_get hc inlX4 (ci := 4) rfl 0 3 (by decide) mw_10_18 rfl rfl rfl dX4_readWagons_128 ?_
                        refine zk_iload_n hc dX4_readWagons_131 4 rfl ?_
                        refine zk_iaddN hc dX4_readWagons_132 ?_
                        refine zk_put hc inlX4 (ci := 4) rfl tyX4 tyX4_ok nmX4 0 3 (by decide) mw_10_18 rfl rfl rfl rfl rfl (Nat.le_of_ble_eq_true rfl) (ws2 := TXW g.2.1 a tx rd1 ln (n + cm) fk fp) rfl dX4_readWagons_133 ?_
                        refine zk_aload_n hc dX4_readWagons_136 3 rfl ?_
                        refine zk_iload_n hc dX4_readWagons_137 4 rfl ?_
                        refine zk_iconst hc (nI 0) dX4_readWagons_138 rfl ?_
                        refine zk_iload_n hc dX4_readWagons_139 0 rfl ?_
                        refine zk_iconst hc (nI 0) dX4_readWagons_140 rfl ?_
                        refine zk_callNi hc (rest := [.int (nI cm), .ref (a 0)]) (ct_X6_wagonOf g l 0 ((tx k) - 65) 0) (host := "ShuntYard") nl_X4_39 mw_11_23 mw_11_22 mw_1_2 cd_X6_wagonOf ⟨Nat.le_of_ble_eq_true rfl, Nat.le_of_ble_eq_true rfl⟩ ⟨Nat.le_of_ble_eq_true rfl, Nat.le_of_ble_eq_true rfl⟩ ([]) (TXW g.2.1 a tx rd1 ln (n + cm) fk fp) rfl rfl (Nat.le_of_ble_eq_true rfl) dX4_readWagons_141 (fun r W1 hp => ?_)
                        obtain ⟨rfl, rfl⟩ := hp
                        refine zk_ws (ws2 := TXW g.2.1 a tx rd1 ln (n + cm) fk fp) rfl ?_
                        refine zk_callVv hc (rest := []) (ct_X4_fillLatest g l a tx rd1 ln (n + cm) fk fp cm ((0 * 6 + ((tx k) - 65)) * 3 + 0) (by omega) (by omega)) gg_X4_43 cd_X4_fillLatest ⟨Nat.le_of_ble_eq_true rfl, Nat.le_of_ble_eq_true rfl⟩ ⟨Nat.le_of_ble_eq_true rfl, Nat.le_of_ble_eq_true rfl⟩ ([]) ([]) rfl 0 rfl rfl rfl (Nat.le_of_ble_eq_true rfl) dX4_readWagons_144 (fun W1 hp => ?_)
                        obtain rfl := hp
                        refine zk_ws (ws2 := TXW g.2.1 a tx (va_cpy (fun _ => ((0 * 6 + ((tx k) - 65)) * 3 + 0)) rd1 0 ((n + cm) - cm) cm) ln (n + cm) fk fp) rfl ?_
                        refine zk_goto hc 204 dX4_readWagons_147 (by decide) ?_
                        refine zk_iinc hc (v := nI (k + 1)) (lv2 := [(4, .int (nI (k + 1))), (3, .int (nI ((tx k) - 65))), (1, .int (nI 2)), (5, .int (nI (tx k))), (0, .ref (a 0)), (2, .int (nI cm))]) dX4_readWagons_204 5 rfl (nq_inc rfl) (by decide) rfl ?_
                        refine zk_goto hc 14 dX4_readWagons_207 (by decide) ?_
                        refine zk_lv [4, 2, 5, 1, 0] (lv2 := [(0, .ref (a 0)), (1, .int (nI 2)), (2, .int (nI cm)), (3, .int (nI ((tx k) - 65))), (4, .int (nI (k + 1)))]) rfl ?_
                        exact ih14 (k + 1) 2 cm ((tx k) - 65) (n + cm) (va_cpy (fun _ => ((0 * 6 + ((tx k) - 65)) * 3 + 0)) rd1 0 ((n + cm) - cm) cm) (by omega) (by omega) (cw_letter hI (by omega) hL h8)
                      · refine zk_aload_n hc dX4_readWagons_110 1 rfl ?_
                        refine zk_iconst hc (nI 3) dX4_readWagons_111 rfl ?_
                        refine zk_iload hc dX4_readWagons_112 5 rfl ?_
                        refine zk_callVi hc (rest := []) (ct_X4_foundFault g l a tx rd1 ln n fk fp (nI 3) (nI k)) gg_X4_35 cd_X4_foundFault ⟨Nat.le_of_ble_eq_true rfl, Nat.le_of_ble_eq_true rfl⟩ ⟨Nat.le_of_ble_eq_true rfl, Nat.le_of_ble_eq_true rfl⟩ ([]) ([]) rfl 0 rfl rfl rfl (Nat.le_of_ble_eq_true rfl) dX4_readWagons_114 (fun r W1 hp => ?_)
                        obtain ⟨rfl, rfl⟩ := hp
                        refine zk_ws (ws2 := TXW g.2.1 a tx rd1 ln n (nI 3) (nI k)) rfl ?_
                        refine fin 0 0 _ _ _ _ (by decide) (by decide) dX4_readWagons_117 rfl (?_)
                        exact ⟨_, _, _, _, rfl, cw_many hI (by omega) hL (by omega) (by omega)⟩
              · refine zk_top (y := nI 0) (if_neg rhL) ?_
                have hL : ¬ (65 ≤ tx k ∧ tx k ≤ 70) := fun z => rhL ((inN (by omega) (by have := htx k (by omega); omega) (by omega)).mpr z)
                refine zk_if_eqN hc 150 dX4_readWagons_87 (by decide) (by omega) (fun h_8 => ?_) (fun h_8 => ?_)
                · refine zk_iload hc dX4_readWagons_150 0 rfl ?_
                  refine zk_bipush hc (nI 102) dX4_readWagons_152 rfl ?_
                  refine zk_icmp_eqN hc 164 dX4_readWagons_154 (by decide) (by have := htx k (by omega); omega) (by have := htx k (by omega); omega) (fun hf => ?_) (fun hf => ?_)
                  · refine zk_iload_n hc dX4_readWagons_164 2 rfl ?_
                    refine zk_iconst hc (nI 2) dX4_readWagons_165 rfl ?_
                    refine zk_icmp_neN hc 196 dX4_readWagons_166 (by decide) (by omega) (by omega) (fun hs2 => ?_) (fun hs2 => ?_)
                    · refine zk_aload_n hc dX4_readWagons_196 1 rfl ?_
                      refine zk_iconst hc (nI 1) dX4_readWagons_197 rfl ?_
                      refine zk_iload hc dX4_readWagons_198 5 rfl ?_
                      refine zk_callVi hc (rest := []) (ct_X4_foundFault g l a tx rd1 ln n fk fp (nI 1) (nI k)) gg_X4_35 cd_X4_foundFault ⟨Nat.le_of_ble_eq_true rfl, Nat.le_of_ble_eq_true rfl⟩ ⟨Nat.le_of_ble_eq_true rfl, Nat.le_of_ble_eq_true rfl⟩ ([]) ([]) rfl 0 rfl rfl rfl (Nat.le_of_ble_eq_true rfl) dX4_readWagons_200 (fun r W1 hp => ?_)
                      obtain ⟨rfl, rfl⟩ := hp
                      refine zk_ws (ws2 := TXW g.2.1 a tx rd1 ln n (nI 1) (nI k)) rfl ?_
                      refine fin 0 0 _ _ _ _ (by decide) (by decide) dX4_readWagons_203 rfl (?_)
                      exact ⟨_, _, _, _, rfl, cw_bad hI (by omega) (by omega) (by omega) (by omega) (by omega)⟩
                    · subst hs2
                      refine zk_iconst hc (nI 3) dX4_readWagons_169 rfl ?_
                      refine zk_istore_n hc (lv2 := [(1, .int (nI 3)), (5, .int (nI (tx k))), (0, .ref (a 0)), (2, .int (nI cm)), (3, .int (nI d)), (4, .int (nI k))]) dX4_readWagons_170 (by decide) rfl ?_
                      refine zk_aload_n hc dX4_readWagons_171 2 rfl ?_
                      refine zk_iload_n hc dX4_readWagons_172 3 rfl ?_
                      refine zk_iconst hc (nI 0) dX4_readWagons_173 rfl ?_
                      refine zk_iload_n hc dX4_readWagons_174 4 rfl ?_
                      refine zk_iload hc dX4_readWagons_175 1 rfl ?_
                      refine zk_bipush hc (nI 102) dX4_readWagons_177 rfl ?_
                      refine zk_icmp_neN hc 186 dX4_readWagons_179 (by decide) (by have := htx k (by omega); omega) (by have := htx k (by omega); omega) (fun hz => ?_) (fun hz => ?_)
                      · exact absurd hz (by omega)
                      · refine zk_iconst hc (nI 1) dX4_readWagons_182 rfl ?_
                        refine zk_goto hc 187 dX4_readWagons_183 (by decide) ?_
                        refine zk_callNi hc (rest := [.int (nI cm), .ref (a 0)]) (ct_X6_wagonOf g l 0 d 1) (host := "ShuntYard") nl_X4_39 mw_11_23 mw_11_22 mw_1_2 cd_X6_wagonOf ⟨Nat.le_of_ble_eq_true rfl, Nat.le_of_ble_eq_true rfl⟩ ⟨Nat.le_of_ble_eq_true rfl, Nat.le_of_ble_eq_true rfl⟩ ([]) (TXW g.2.1 a tx rd1 ln n fk fp) rfl rfl (Nat.le_of_ble_eq_true rfl) dX4_readWagons_187 (fun r W1 hp => ?_)
                        obtain ⟨rfl, rfl⟩ := hp
                        refine zk_ws (ws2 := TXW g.2.1 a tx rd1 ln n fk fp) rfl ?_
                        refine zk_callVv hc (rest := []) (ct_X4_fillLatest g l a tx rd1 ln n fk fp cm ((0 * 6 + d) * 3 + 1) (by omega) (by omega)) gg_X4_43 cd_X4_fillLatest ⟨Nat.le_of_ble_eq_true rfl, Nat.le_of_ble_eq_true rfl⟩ ⟨Nat.le_of_ble_eq_true rfl, Nat.le_of_ble_eq_true rfl⟩ ([]) ([]) rfl 0 rfl rfl rfl (Nat.le_of_ble_eq_true rfl) dX4_readWagons_190 (fun W1 hp => ?_)
                        obtain rfl := hp
                        refine zk_ws (ws2 := TXW g.2.1 a tx (va_cpy (fun _ => ((0 * 6 + d) * 3 + 1)) rd1 0 (n - cm) cm) ln n fk fp) rfl ?_
                        refine zk_goto hc 204 dX4_readWagons_193 (by decide) ?_
                        refine zk_iinc hc (v := nI (k + 1)) (lv2 := [(4, .int (nI (k + 1))), (1, .int (nI 3)), (5, .int (nI (tx k))), (0, .ref (a 0)), (2, .int (nI cm)), (3, .int (nI d))]) dX4_readWagons_204 5 rfl (nq_inc rfl) (by decide) rfl ?_
                        refine zk_goto hc 14 dX4_readWagons_207 (by decide) ?_
                        refine zk_lv [3, 1, 4, 5, 0] (lv2 := [(0, .ref (a 0)), (1, .int (nI 3)), (2, .int (nI cm)), (3, .int (nI d)), (4, .int (nI (k + 1)))]) rfl ?_
                        exact ih14 (k + 1) 3 cm d n (va_cpy (fun _ => ((0 * 6 + d) * 3 + 1)) rd1 0 (n - cm) cm) (by omega) (by omega) (cw_kind hI (Or.inl hf) (if_pos hf).symm)
                  · refine zk_iload hc dX4_readWagons_157 0 rfl ?_
                    refine zk_bipush hc (nI 120) dX4_readWagons_159 rfl ?_
                    refine zk_icmp_neN hc 196 dX4_readWagons_161 (by decide) (by have := htx k (by omega); omega) (by have := htx k (by omega); omega) (fun hx => ?_) (fun hx => ?_)
                    · refine zk_aload_n hc dX4_readWagons_196 1 rfl ?_
                      refine zk_iconst hc (nI 1) dX4_readWagons_197 rfl ?_
                      refine zk_iload hc dX4_readWagons_198 5 rfl ?_
                      refine zk_callVi hc (rest := []) (ct_X4_foundFault g l a tx rd1 ln n fk fp (nI 1) (nI k)) gg_X4_35 cd_X4_foundFault ⟨Nat.le_of_ble_eq_true rfl, Nat.le_of_ble_eq_true rfl⟩ ⟨Nat.le_of_ble_eq_true rfl, Nat.le_of_ble_eq_true rfl⟩ ([]) ([]) rfl 0 rfl rfl rfl (Nat.le_of_ble_eq_true rfl) dX4_readWagons_200 (fun r W1 hp => ?_)
                      obtain ⟨rfl, rfl⟩ := hp
                      refine zk_ws (ws2 := TXW g.2.1 a tx rd1 ln n (nI 1) (nI k)) rfl ?_
                      refine fin 0 0 _ _ _ _ (by decide) (by decide) dX4_readWagons_203 rfl (?_)
                      exact ⟨_, _, _, _, rfl, cw_bad hI (by omega) (by omega) (by omega) (by omega) (by omega)⟩
                    · refine zk_iload_n hc dX4_readWagons_164 2 rfl ?_
                      refine zk_iconst hc (nI 2) dX4_readWagons_165 rfl ?_
                      refine zk_icmp_neN hc 196 dX4_readWagons_166 (by decide) (by omega) (by omega) (fun hs2 => ?_) (fun hs2 => ?_)
                      · refine zk_aload_n hc dX4_readWagons_196 1 rfl ?_
                        refine zk_iconst hc (nI 1) dX4_readWagons_197 rfl ?_
                        refine zk_iload hc dX4_readWagons_198 5 rfl ?_
                        refine zk_callVi hc (rest := []) (ct_X4_foundFault g l a tx rd1 ln n fk fp (nI 1) (nI k)) gg_X4_35 cd_X4_foundFault ⟨Nat.le_of_ble_eq_true rfl, Nat.le_of_ble_eq_true rfl⟩ ⟨Nat.le_of_ble_eq_true rfl, Nat.le_of_ble_eq_true rfl⟩ ([]) ([]) rfl 0 rfl rfl rfl (Nat.le_of_ble_eq_true rfl) dX4_readWagons_200 (fun r W1 hp => ?_)
                        obtain ⟨rfl, rfl⟩ := hp
                        refine zk_ws (ws2 := TXW g.2.1 a tx rd1 ln n (nI 1) (nI k)) rfl ?_
                        refine fin 0 0 _ _ _ _ (by decide) (by decide) dX4_readWagons_203 rfl (?_)
                        exact ⟨_, _, _, _, rfl, cw_bad hI (by omega) (by omega) (by omega) (by omega) (by omega)⟩
                      · subst hs2
                        refine zk_iconst hc (nI 3) dX4_readWagons_169 rfl ?_
                        refine zk_istore_n hc (lv2 := [(1, .int (nI 3)), (5, .int (nI (tx k))), (0, .ref (a 0)), (2, .int (nI cm)), (3, .int (nI d)), (4, .int (nI k))]) dX4_readWagons_170 (by decide) rfl ?_
                        refine zk_aload_n hc dX4_readWagons_171 2 rfl ?_
                        refine zk_iload_n hc dX4_readWagons_172 3 rfl ?_
                        refine zk_iconst hc (nI 0) dX4_readWagons_173 rfl ?_
                        refine zk_iload_n hc dX4_readWagons_174 4 rfl ?_
                        refine zk_iload hc dX4_readWagons_175 1 rfl ?_
                        refine zk_bipush hc (nI 102) dX4_readWagons_177 rfl ?_
                        refine zk_icmp_neN hc 186 dX4_readWagons_179 (by decide) (by have := htx k (by omega); omega) (by have := htx k (by omega); omega) (fun hz => ?_) (fun hz => ?_)
                        · refine zk_iconst hc (nI 2) dX4_readWagons_186 rfl ?_
                          refine zk_callNi hc (rest := [.int (nI cm), .ref (a 0)]) (ct_X6_wagonOf g l 0 d 2) (host := "ShuntYard") nl_X4_39 mw_11_23 mw_11_22 mw_1_2 cd_X6_wagonOf ⟨Nat.le_of_ble_eq_true rfl, Nat.le_of_ble_eq_true rfl⟩ ⟨Nat.le_of_ble_eq_true rfl, Nat.le_of_ble_eq_true rfl⟩ ([]) (TXW g.2.1 a tx rd1 ln n fk fp) rfl rfl (Nat.le_of_ble_eq_true rfl) dX4_readWagons_187 (fun r W1 hp => ?_)
                          obtain ⟨rfl, rfl⟩ := hp
                          refine zk_ws (ws2 := TXW g.2.1 a tx rd1 ln n fk fp) rfl ?_
                          refine zk_callVv hc (rest := []) (ct_X4_fillLatest g l a tx rd1 ln n fk fp cm ((0 * 6 + d) * 3 + 2) (by omega) (by omega)) gg_X4_43 cd_X4_fillLatest ⟨Nat.le_of_ble_eq_true rfl, Nat.le_of_ble_eq_true rfl⟩ ⟨Nat.le_of_ble_eq_true rfl, Nat.le_of_ble_eq_true rfl⟩ ([]) ([]) rfl 0 rfl rfl rfl (Nat.le_of_ble_eq_true rfl) dX4_readWagons_190 (fun W1 hp => ?_)
                          obtain rfl := hp
                          refine zk_ws (ws2 := TXW g.2.1 a tx (va_cpy (fun _ => ((0 * 6 + d) * 3 + 2)) rd1 0 (n - cm) cm) ln n fk fp) rfl ?_
                          refine zk_goto hc 204 dX4_readWagons_193 (by decide) ?_
                          refine zk_iinc hc (v := nI (k + 1)) (lv2 := [(4, .int (nI (k + 1))), (1, .int (nI 3)), (5, .int (nI (tx k))), (0, .ref (a 0)), (2, .int (nI cm)), (3, .int (nI d))]) dX4_readWagons_204 5 rfl (nq_inc rfl) (by decide) rfl ?_
                          refine zk_goto hc 14 dX4_readWagons_207 (by decide) ?_
                          refine zk_lv [3, 1, 4, 5, 0] (lv2 := [(0, .ref (a 0)), (1, .int (nI 3)), (2, .int (nI cm)), (3, .int (nI d)), (4, .int (nI (k + 1)))]) rfl ?_
                          exact ih14 (k + 1) 3 cm d n (va_cpy (fun _ => ((0 * 6 + d) * 3 + 2)) rd1 0 (n - cm) cm) (by omega) (by omega) (cw_kind hI (Or.inr hx) (if_neg (by omega)).symm)
                        · exact absurd hz (by omega)
                · exact absurd h_8 (by decide)
            · exact absurd h_6 (by decide)
        · refine zk_iload_n hc dX4_readWagons_39 2 rfl ?_
          refine zk_iconst hc (nI 1) dX4_readWagons_40 rfl ?_
          refine zk_icmp_eqN hc 51 dX4_readWagons_41 (by decide) (by omega) (by omega) (fun hs1 => ?_) (fun hs1 => ?_)
          · refine zk_iload hc dX4_readWagons_51 0 rfl ?_
            refine zk_bipush hc (nI 49) dX4_readWagons_53 rfl ?_
            refine zk_bipush hc (nI 56) dX4_readWagons_55 rfl ?_
            refine zk_callNi hc (rest := []) (ct_X6_within g l (nI (tx k)) (nI 49) (nI 56)) (host := "ShuntYard") nl_X4_31 mw_7_22 mw_7_21 mw_1_2 cd_X6_within ⟨Nat.le_of_ble_eq_true rfl, Nat.le_of_ble_eq_true rfl⟩ ⟨Nat.le_of_ble_eq_true rfl, Nat.le_of_ble_eq_true rfl⟩ ([]) (TXW g.2.1 a tx rd1 ln n fk fp) rfl rfl (Nat.le_of_ble_eq_true rfl) dX4_readWagons_57 (fun r W1 hp => ?_)
            obtain ⟨rfl, rfl⟩ := hp
            refine zk_ws (ws2 := TXW g.2.1 a tx rd1 ln n fk fp) rfl ?_
            by_cases rhD : nI 49 ≤ nI (tx k) ∧ nI (tx k) ≤ nI 56
            · refine zk_top (y := nI 1) (if_pos rhD) ?_
              have hD := (inN (by omega) (by have := htx k (by omega); omega) (by omega)).mp rhD
              refine zk_if_eqN hc 78 dX4_readWagons_60 (by decide) (by omega) (fun h_9 => ?_) (fun h_9 => ?_)
              · exact absurd h_9 (by decide)
              · refine zk_iload_n hc dX4_readWagons_63 2 rfl ?_
                refine zk_if_neN hc 78 dX4_readWagons_64 (by decide) (by omega) (fun hs0 => ?_) (fun hs0 => ?_)
                · refine zk_iload hc dX4_readWagons_78 0 rfl ?_
                  refine zk_bipush hc (nI 65) dX4_readWagons_80 rfl ?_
                  refine zk_bipush hc (nI 70) dX4_readWagons_82 rfl ?_
                  refine zk_callNi hc (rest := []) (ct_X6_within g l (nI (tx k)) (nI 65) (nI 70)) (host := "ShuntYard") nl_X4_31 mw_7_22 mw_7_21 mw_1_2 cd_X6_within ⟨Nat.le_of_ble_eq_true rfl, Nat.le_of_ble_eq_true rfl⟩ ⟨Nat.le_of_ble_eq_true rfl, Nat.le_of_ble_eq_true rfl⟩ ([]) (TXW g.2.1 a tx rd1 ln n fk fp) rfl rfl (Nat.le_of_ble_eq_true rfl) dX4_readWagons_84 (fun r W1 hp => ?_)
                  obtain ⟨rfl, rfl⟩ := hp
                  refine zk_ws (ws2 := TXW g.2.1 a tx rd1 ln n fk fp) rfl ?_
                  by_cases rhL : nI 65 ≤ nI (tx k) ∧ nI (tx k) ≤ nI 70
                  · refine zk_top (y := nI 1) (if_pos rhL) ?_
                    have hL := (inN (by omega) (by have := htx k (by omega); omega) (by omega)).mp rhL
                    refine zk_if_eqN hc 150 dX4_readWagons_87 (by decide) (by omega) (fun h_10 => ?_) (fun h_10 => ?_)
                    · exact absurd h_10 (by decide)
                    · refine zk_iload_n hc dX4_readWagons_90 2 rfl ?_
                      refine zk_if_eqN hc 99 dX4_readWagons_91 (by decide) (by omega) (fun hs2 => ?_) (fun hs2 => ?_)
                      · refine zk_aload_n hc dX4_readWagons_99 1 rfl ?_
                        refine zk_get hc inlX4 (ci := 4) rfl 0 3 (by decide) mw_10_18 rfl rfl rfl dX4_readWagons_100 ?_
                        refine zk_iload_n hc dX4_readWagons_103 3 rfl ?_
                        refine zk_iaddN hc dX4_readWagons_104 ?_
                        refine zk_bipush hc (nI 8) dX4_readWagons_105 rfl ?_
                        refine zk_icmp_leN hc 118 dX4_readWagons_107 (by decide) (by omega) (by omega) (fun h8 => ?_) (fun h8 => ?_)
                        · refine zk_iconst hc (nI 2) dX4_readWagons_118 rfl ?_
                          refine zk_istore_n hc (lv2 := [(1, .int (nI 2)), (5, .int (nI (tx k))), (0, .ref (a 0)), (2, .int (nI cm)), (3, .int (nI d)), (4, .int (nI k))]) dX4_readWagons_119 (by decide) rfl ?_
                          refine zk_iload hc dX4_readWagons_120 1 rfl ?_
                          refine zk_bipush hc (nI 65) dX4_readWagons_122 rfl ?_
                          refine zk_isubN hc dX4_readWagons_124 (by omega) ?_
                          refine zk_istore_n hc (lv2 := [(3, .int (nI ((tx k) - 65))), (1, .int (nI 2)), (5, .int (nI (tx k))), (0, .ref (a 0)), (2, .int (nI cm)), (4, .int (nI k))]) dX4_readWagons_125 (by decide) rfl ?_
                          refine zk_aload_n hc dX4_readWagons_126 3 rfl ?_
                          refine zk_dup hc dX4_readWagons_127 rfl ?_
                          refine zk_get hc inlX4 (ci := 4) rfl 0 3 (by decide) mw_10_18 rfl rfl rfl dX4_readWagons_128 ?_
                          refine zk_iload_n hc dX4_readWagons_131 4 rfl ?_
                          refine zk_iaddN hc dX4_readWagons_132 ?_
                          refine zk_put hc inlX4 (ci := 4) rfl tyX4 tyX4_ok nmX4 0 3 (by decide) mw_10_18 rfl rfl rfl rfl rfl (Nat.le_of_ble_eq_true rfl) (ws2 := TXW g.2.1 a tx rd1 ln (n + cm) fk fp) rfl dX4_readWagons_133 ?_
                          refine zk_aload_n hc dX4_readWagons_136 3 rfl ?_
                          refine zk_iload_n hc dX4_readWagons_137 4 rfl ?_
                          refine zk_iconst hc (nI 0) dX4_readWagons_138 rfl ?_
                          refine zk_iload_n hc dX4_readWagons_139 0 rfl ?_
                          refine zk_iconst hc (nI 0) dX4_readWagons_140 rfl ?_
                          refine zk_callNi hc (rest := [.int (nI cm), .ref (a 0)]) (ct_X6_wagonOf g l 0 ((tx k) - 65) 0) (host := "ShuntYard") nl_X4_39 mw_11_23 mw_11_22 mw_1_2 cd_X6_wagonOf ⟨Nat.le_of_ble_eq_true rfl, Nat.le_of_ble_eq_true rfl⟩ ⟨Nat.le_of_ble_eq_true rfl, Nat.le_of_ble_eq_true rfl⟩ ([]) (TXW g.2.1 a tx rd1 ln (n + cm) fk fp) rfl rfl (Nat.le_of_ble_eq_true rfl) dX4_readWagons_141 (fun r W1 hp => ?_)
                          obtain ⟨rfl, rfl⟩ := hp
                          refine zk_ws (ws2 := TXW g.2.1 a tx rd1 ln (n + cm) fk fp) rfl ?_
                          refine zk_callVv hc (rest := []) (ct_X4_fillLatest g l a tx rd1 ln (n + cm) fk fp cm ((0 * 6 + ((tx k) - 65)) * 3 + 0) (by omega) (by omega)) gg_X4_43 cd_X4_fillLatest ⟨Nat.le_of_ble_eq_true rfl, Nat.le_of_ble_eq_true rfl⟩ ⟨Nat.le_of_ble_eq_true rfl, Nat.le_of_ble_eq_true rfl⟩ ([]) ([]) rfl 0 rfl rfl rfl (Nat.le_of_ble_eq_true rfl) dX4_readWagons_144 (fun W1 hp => ?_)
                          obtain rfl := hp
                          refine zk_ws (ws2 := TXW g.2.1 a tx (va_cpy (fun _ => ((0 * 6 + ((tx k) - 65)) * 3 + 0)) rd1 0 ((n + cm) - cm) cm) ln (n + cm) fk fp) rfl ?_
                          refine zk_goto hc 204 dX4_readWagons_147 (by decide) ?_
                          refine zk_iinc hc (v := nI (k + 1)) (lv2 := [(4, .int (nI (k + 1))), (3, .int (nI ((tx k) - 65))), (1, .int (nI 2)), (5, .int (nI (tx k))), (0, .ref (a 0)), (2, .int (nI cm))]) dX4_readWagons_204 5 rfl (nq_inc rfl) (by decide) rfl ?_
                          refine zk_goto hc 14 dX4_readWagons_207 (by decide) ?_
                          refine zk_lv [4, 2, 5, 1, 0] (lv2 := [(0, .ref (a 0)), (1, .int (nI 2)), (2, .int (nI cm)), (3, .int (nI ((tx k) - 65))), (4, .int (nI (k + 1)))]) rfl ?_
                          exact ih14 (k + 1) 2 cm ((tx k) - 65) (n + cm) (va_cpy (fun _ => ((0 * 6 + ((tx k) - 65)) * 3 + 0)) rd1 0 ((n + cm) - cm) cm) (by omega) (by omega) (cw_letter hI (by omega) hL h8)
                        · refine zk_aload_n hc dX4_readWagons_110 1 rfl ?_
                          refine zk_iconst hc (nI 3) dX4_readWagons_111 rfl ?_
                          refine zk_iload hc dX4_readWagons_112 5 rfl ?_
                          refine zk_callVi hc (rest := []) (ct_X4_foundFault g l a tx rd1 ln n fk fp (nI 3) (nI k)) gg_X4_35 cd_X4_foundFault ⟨Nat.le_of_ble_eq_true rfl, Nat.le_of_ble_eq_true rfl⟩ ⟨Nat.le_of_ble_eq_true rfl, Nat.le_of_ble_eq_true rfl⟩ ([]) ([]) rfl 0 rfl rfl rfl (Nat.le_of_ble_eq_true rfl) dX4_readWagons_114 (fun r W1 hp => ?_)
                          obtain ⟨rfl, rfl⟩ := hp
                          refine zk_ws (ws2 := TXW g.2.1 a tx rd1 ln n (nI 3) (nI k)) rfl ?_
                          refine fin 0 0 _ _ _ _ (by decide) (by decide) dX4_readWagons_117 rfl (?_)
                          exact ⟨_, _, _, _, rfl, cw_many hI (by omega) hL (by omega) (by omega)⟩
                      · refine zk_iload_n hc dX4_readWagons_94 2 rfl ?_
                        refine zk_iconst hc (nI 1) dX4_readWagons_95 rfl ?_
                        refine zk_icmp_neN hc 150 dX4_readWagons_96 (by decide) (by omega) (by omega) (fun hs3 => ?_) (fun hs3 => ?_)
                        · refine zk_iload hc dX4_readWagons_150 0 rfl ?_
                          refine zk_bipush hc (nI 102) dX4_readWagons_152 rfl ?_
                          refine zk_icmp_eqN hc 164 dX4_readWagons_154 (by decide) (by have := htx k (by omega); omega) (by have := htx k (by omega); omega) (fun hf => ?_) (fun hf => ?_)
                          · refine zk_iload_n hc dX4_readWagons_164 2 rfl ?_
                            refine zk_iconst hc (nI 2) dX4_readWagons_165 rfl ?_
                            refine zk_icmp_neN hc 196 dX4_readWagons_166 (by decide) (by omega) (by omega) (fun hs2 => ?_) (fun hs2 => ?_)
                            · refine zk_aload_n hc dX4_readWagons_196 1 rfl ?_
                              refine zk_iconst hc (nI 1) dX4_readWagons_197 rfl ?_
                              refine zk_iload hc dX4_readWagons_198 5 rfl ?_
                              refine zk_callVi hc (rest := []) (ct_X4_foundFault g l a tx rd1 ln n fk fp (nI 1) (nI k)) gg_X4_35 cd_X4_foundFault ⟨Nat.le_of_ble_eq_true rfl, Nat.le_of_ble_eq_true rfl⟩ ⟨Nat.le_of_ble_eq_true rfl, Nat.le_of_ble_eq_true rfl⟩ ([]) ([]) rfl 0 rfl rfl rfl (Nat.le_of_ble_eq_true rfl) dX4_readWagons_200 (fun r W1 hp => ?_)
                              obtain ⟨rfl, rfl⟩ := hp
                              refine zk_ws (ws2 := TXW g.2.1 a tx rd1 ln n (nI 1) (nI k)) rfl ?_
                              refine fin 0 0 _ _ _ _ (by decide) (by decide) dX4_readWagons_203 rfl (?_)
                              exact ⟨_, _, _, _, rfl, cw_bad hI (by omega) (by omega) (by omega) (by omega) (by omega)⟩
                            · subst hs2
                              refine zk_iconst hc (nI 3) dX4_readWagons_169 rfl ?_
                              refine zk_istore_n hc (lv2 := [(1, .int (nI 3)), (5, .int (nI (tx k))), (0, .ref (a 0)), (2, .int (nI cm)), (3, .int (nI d)), (4, .int (nI k))]) dX4_readWagons_170 (by decide) rfl ?_
                              refine zk_aload_n hc dX4_readWagons_171 2 rfl ?_
                              refine zk_iload_n hc dX4_readWagons_172 3 rfl ?_
                              refine zk_iconst hc (nI 0) dX4_readWagons_173 rfl ?_
                              refine zk_iload_n hc dX4_readWagons_174 4 rfl ?_
                              refine zk_iload hc dX4_readWagons_175 1 rfl ?_
                              refine zk_bipush hc (nI 102) dX4_readWagons_177 rfl ?_
                              refine zk_icmp_neN hc 186 dX4_readWagons_179 (by decide) (by have := htx k (by omega); omega) (by have := htx k (by omega); omega) (fun hz => ?_) (fun hz => ?_)
                              · exact absurd hz (by omega)
                              · refine zk_iconst hc (nI 1) dX4_readWagons_182 rfl ?_
                                refine zk_goto hc 187 dX4_readWagons_183 (by decide) ?_
                                refine zk_callNi hc (rest := [.int (nI cm), .ref (a 0)]) (ct_X6_wagonOf g l 0 d 1) (host := "ShuntYard") nl_X4_39 mw_11_23 mw_11_22 mw_1_2 cd_X6_wagonOf ⟨Nat.le_of_ble_eq_true rfl, Nat.le_of_ble_eq_true rfl⟩ ⟨Nat.le_of_ble_eq_true rfl, Nat.le_of_ble_eq_true rfl⟩ ([]) (TXW g.2.1 a tx rd1 ln n fk fp) rfl rfl (Nat.le_of_ble_eq_true rfl) dX4_readWagons_187 (fun r W1 hp => ?_)
                                obtain ⟨rfl, rfl⟩ := hp
                                refine zk_ws (ws2 := TXW g.2.1 a tx rd1 ln n fk fp) rfl ?_
                                refine zk_callVv hc (rest := []) (ct_X4_fillLatest g l a tx rd1 ln n fk fp cm ((0 * 6 + d) * 3 + 1) (by omega) (by omega)) gg_X4_43 cd_X4_fillLatest ⟨Nat.le_of_ble_eq_true rfl, Nat.le_of_ble_eq_true rfl⟩ ⟨Nat.le_of_ble_eq_true rfl, Nat.le_of_ble_eq_true rfl⟩ ([]) ([]) rfl 0 rfl rfl rfl (Nat.le_of_ble_eq_true rfl) dX4_readWagons_190 (fun W1 hp => ?_)
                                obtain rfl := hp
                                refine zk_ws (ws2 := TXW g.2.1 a tx (va_cpy (fun _ => ((0 * 6 + d) * 3 + 1)) rd1 0 (n - cm) cm) ln n fk fp) rfl ?_
                                refine zk_goto hc 204 dX4_readWagons_193 (by decide) ?_
                                refine zk_iinc hc (v := nI (k + 1)) (lv2 := [(4, .int (nI (k + 1))), (1, .int (nI 3)), (5, .int (nI (tx k))), (0, .ref (a 0)), (2, .int (nI cm)), (3, .int (nI d))]) dX4_readWagons_204 5 rfl (nq_inc rfl) (by decide) rfl ?_
                                refine zk_goto hc 14 dX4_readWagons_207 (by decide) ?_
                                refine zk_lv [3, 1, 4, 5, 0] (lv2 := [(0, .ref (a 0)), (1, .int (nI 3)), (2, .int (nI cm)), (3, .int (nI d)), (4, .int (nI (k + 1)))]) rfl ?_
                                exact ih14 (k + 1) 3 cm d n (va_cpy (fun _ => ((0 * 6 + d) * 3 + 1)) rd1 0 (n - cm) cm) (by omega) (by omega) (cw_kind hI (Or.inl hf) (if_pos hf).symm)
                          · refine zk_iload hc dX4_readWagons_157 0 rfl ?_
                            refine zk_bipush hc (nI 120) dX4_readWagons_159 rfl ?_
                            refine zk_icmp_neN hc 196 dX4_readWagons_161 (by decide) (by have := htx k (by omega); omega) (by have := htx k (by omega); omega) (fun hx => ?_) (fun hx => ?_)
                            · refine zk_aload_n hc dX4_readWagons_196 1 rfl ?_
                              refine zk_iconst hc (nI 1) dX4_readWagons_197 rfl ?_
                              refine zk_iload hc dX4_readWagons_198 5 rfl ?_
                              refine zk_callVi hc (rest := []) (ct_X4_foundFault g l a tx rd1 ln n fk fp (nI 1) (nI k)) gg_X4_35 cd_X4_foundFault ⟨Nat.le_of_ble_eq_true rfl, Nat.le_of_ble_eq_true rfl⟩ ⟨Nat.le_of_ble_eq_true rfl, Nat.le_of_ble_eq_true rfl⟩ ([]) ([]) rfl 0 rfl rfl rfl (Nat.le_of_ble_eq_true rfl) dX4_readWagons_200 (fun r W1 hp => ?_)
                              obtain ⟨rfl, rfl⟩ := hp
                              refine zk_ws (ws2 := TXW g.2.1 a tx rd1 ln n (nI 1) (nI k)) rfl ?_
                              refine fin 0 0 _ _ _ _ (by decide) (by decide) dX4_readWagons_203 rfl (?_)
                              exact ⟨_, _, _, _, rfl, cw_bad hI (by omega) (by omega) (by omega) (by omega) (by omega)⟩
                            · refine zk_iload_n hc dX4_readWagons_164 2 rfl ?_
                              refine zk_iconst hc (nI 2) dX4_readWagons_165 rfl ?_
                              refine zk_icmp_neN hc 196 dX4_readWagons_166 (by decide) (by omega) (by omega) (fun hs2 => ?_) (fun hs2 => ?_)
                              · refine zk_aload_n hc dX4_readWagons_196 1 rfl ?_
                                refine zk_iconst hc (nI 1) dX4_readWagons_197 rfl ?_
                                refine zk_iload hc dX4_readWagons_198 5 rfl ?_
                                refine zk_callVi hc (rest := []) (ct_X4_foundFault g l a tx rd1 ln n fk fp (nI 1) (nI k)) gg_X4_35 cd_X4_foundFault ⟨Nat.le_of_ble_eq_true rfl, Nat.le_of_ble_eq_true rfl⟩ ⟨Nat.le_of_ble_eq_true rfl, Nat.le_of_ble_eq_true rfl⟩ ([]) ([]) rfl 0 rfl rfl rfl (Nat.le_of_ble_eq_true rfl) dX4_readWagons_200 (fun r W1 hp => ?_)
                                obtain ⟨rfl, rfl⟩ := hp
                                refine zk_ws (ws2 := TXW g.2.1 a tx rd1 ln n (nI 1) (nI k)) rfl ?_
                                refine fin 0 0 _ _ _ _ (by decide) (by decide) dX4_readWagons_203 rfl (?_)
                                exact ⟨_, _, _, _, rfl, cw_bad hI (by omega) (by omega) (by omega) (by omega) (by omega)⟩
                              · subst hs2
                                refine zk_iconst hc (nI 3) dX4_readWagons_169 rfl ?_
                                refine zk_istore_n hc (lv2 := [(1, .int (nI 3)), (5, .int (nI (tx k))), (0, .ref (a 0)), (2, .int (nI cm)), (3, .int (nI d)), (4, .int (nI k))]) dX4_readWagons_170 (by decide) rfl ?_
                                refine zk_aload_n hc dX4_readWagons_171 2 rfl ?_
                                refine zk_iload_n hc dX4_readWagons_172 3 rfl ?_
                                refine zk_iconst hc (nI 0) dX4_readWagons_173 rfl ?_
                                refine zk_iload_n hc dX4_readWagons_174 4 rfl ?_
                                refine zk_iload hc dX4_readWagons_175 1 rfl ?_
                                refine zk_bipush hc (nI 102) dX4_readWagons_177 rfl ?_
                                refine zk_icmp_neN hc 186 dX4_readWagons_179 (by decide) (by have := htx k (by omega); omega) (by have := htx k (by omega); omega) (fun hz => ?_) (fun hz => ?_)
                                · refine zk_iconst hc (nI 2) dX4_readWagons_186 rfl ?_
                                  refine zk_callNi hc (rest := [.int (nI cm), .ref (a 0)]) (ct_X6_wagonOf g l 0 d 2) (host := "ShuntYard") nl_X4_39 mw_11_23 mw_11_22 mw_1_2 cd_X6_wagonOf ⟨Nat.le_of_ble_eq_true rfl, Nat.le_of_ble_eq_true rfl⟩ ⟨Nat.le_of_ble_eq_true rfl, Nat.le_of_ble_eq_true rfl⟩ ([]) (TXW g.2.1 a tx rd1 ln n fk fp) rfl rfl (Nat.le_of_ble_eq_true rfl) dX4_readWagons_187 (fun r W1 hp => ?_)
                                  obtain ⟨rfl, rfl⟩ := hp
                                  refine zk_ws (ws2 := TXW g.2.1 a tx rd1 ln n fk fp) rfl ?_
                                  refine zk_callVv hc (rest := []) (ct_X4_fillLatest g l a tx rd1 ln n fk fp cm ((0 * 6 + d) * 3 + 2) (by omega) (by omega)) gg_X4_43 cd_X4_fillLatest ⟨Nat.le_of_ble_eq_true rfl, Nat.le_of_ble_eq_true rfl⟩ ⟨Nat.le_of_ble_eq_true rfl, Nat.le_of_ble_eq_true rfl⟩ ([]) ([]) rfl 0 rfl rfl rfl (Nat.le_of_ble_eq_true rfl) dX4_readWagons_190 (fun W1 hp => ?_)
                                  obtain rfl := hp
                                  refine zk_ws (ws2 := TXW g.2.1 a tx (va_cpy (fun _ => ((0 * 6 + d) * 3 + 2)) rd1 0 (n - cm) cm) ln n fk fp) rfl ?_
                                  refine zk_goto hc 204 dX4_readWagons_193 (by decide) ?_
                                  refine zk_iinc hc (v := nI (k + 1)) (lv2 := [(4, .int (nI (k + 1))), (1, .int (nI 3)), (5, .int (nI (tx k))), (0, .ref (a 0)), (2, .int (nI cm)), (3, .int (nI d))]) dX4_readWagons_204 5 rfl (nq_inc rfl) (by decide) rfl ?_
                                  refine zk_goto hc 14 dX4_readWagons_207 (by decide) ?_
                                  refine zk_lv [3, 1, 4, 5, 0] (lv2 := [(0, .ref (a 0)), (1, .int (nI 3)), (2, .int (nI cm)), (3, .int (nI d)), (4, .int (nI (k + 1)))]) rfl ?_
                                  exact ih14 (k + 1) 3 cm d n (va_cpy (fun _ => ((0 * 6 + d) * 3 + 2)) rd1 0 (n - cm) cm) (by omega) (by omega) (cw_kind hI (Or.inr hx) (if_neg (by omega)).symm)
                                · exact absurd hz (by omega)
                        · refine zk_aload_n hc dX4_readWagons_99 1 rfl ?_
                          refine zk_get hc inlX4 (ci := 4) rfl 0 3 (by decide) mw_10_18 rfl rfl rfl dX4_readWagons_100 ?_
                          refine zk_iload_n hc dX4_readWagons_103 3 rfl ?_
                          refine zk_iaddN hc dX4_readWagons_104 ?_
                          refine zk_bipush hc (nI 8) dX4_readWagons_105 rfl ?_
                          refine zk_icmp_leN hc 118 dX4_readWagons_107 (by decide) (by omega) (by omega) (fun h8 => ?_) (fun h8 => ?_)
                          · refine zk_iconst hc (nI 2) dX4_readWagons_118 rfl ?_
                            refine zk_istore_n hc (lv2 := [(1, .int (nI 2)), (5, .int (nI (tx k))), (0, .ref (a 0)), (2, .int (nI cm)), (3, .int (nI d)), (4, .int (nI k))]) dX4_readWagons_119 (by decide) rfl ?_
                            refine zk_iload hc dX4_readWagons_120 1 rfl ?_
                            refine zk_bipush hc (nI 65) dX4_readWagons_122 rfl ?_
                            refine zk_isubN hc dX4_readWagons_124 (by omega) ?_
                            refine zk_istore_n hc (lv2 := [(3, .int (nI ((tx k) - 65))), (1, .int (nI 2)), (5, .int (nI (tx k))), (0, .ref (a 0)), (2, .int (nI cm)), (4, .int (nI k))]) dX4_readWagons_125 (by decide) rfl ?_
                            refine zk_aload_n hc dX4_readWagons_126 3 rfl ?_
                            refine zk_dup hc dX4_readWagons_127 rfl ?_
                            refine zk_get hc inlX4 (ci := 4) rfl 0 3 (by decide) mw_10_18 rfl rfl rfl dX4_readWagons_128 ?_
                            refine zk_iload_n hc dX4_readWagons_131 4 rfl ?_
                            refine zk_iaddN hc dX4_readWagons_132 ?_
                            refine zk_put hc inlX4 (ci := 4) rfl tyX4 tyX4_ok nmX4 0 3 (by decide) mw_10_18 rfl rfl rfl rfl rfl (Nat.le_of_ble_eq_true rfl) (ws2 := TXW g.2.1 a tx rd1 ln (n + cm) fk fp) rfl dX4_readWagons_133 ?_
                            refine zk_aload_n hc dX4_readWagons_136 3 rfl ?_
                            refine zk_iload_n hc dX4_readWagons_137 4 rfl ?_
                            refine zk_iconst hc (nI 0) dX4_readWagons_138 rfl ?_
                            refine zk_iload_n hc dX4_readWagons_139 0 rfl ?_
                            refine zk_iconst hc (nI 0) dX4_readWagons_140 rfl ?_
                            refine zk_callNi hc (rest := [.int (nI cm), .ref (a 0)]) (ct_X6_wagonOf g l 0 ((tx k) - 65) 0) (host := "ShuntYard") nl_X4_39 mw_11_23 mw_11_22 mw_1_2 cd_X6_wagonOf ⟨Nat.le_of_ble_eq_true rfl, Nat.le_of_ble_eq_true rfl⟩ ⟨Nat.le_of_ble_eq_true rfl, Nat.le_of_ble_eq_true rfl⟩ ([]) (TXW g.2.1 a tx rd1 ln (n + cm) fk fp) rfl rfl (Nat.le_of_ble_eq_true rfl) dX4_readWagons_141 (fun r W1 hp => ?_)
                            obtain ⟨rfl, rfl⟩ := hp
                            refine zk_ws (ws2 := TXW g.2.1 a tx rd1 ln (n + cm) fk fp) rfl ?_
                            refine zk_callVv hc (rest := []) (ct_X4_fillLatest g l a tx rd1 ln (n + cm) fk fp cm ((0 * 6 + ((tx k) - 65)) * 3 + 0) (by omega) (by omega)) gg_X4_43 cd_X4_fillLatest ⟨Nat.le_of_ble_eq_true rfl, Nat.le_of_ble_eq_true rfl⟩ ⟨Nat.le_of_ble_eq_true rfl, Nat.le_of_ble_eq_true rfl⟩ ([]) ([]) rfl 0 rfl rfl rfl (Nat.le_of_ble_eq_true rfl) dX4_readWagons_144 (fun W1 hp => ?_)
                            obtain rfl := hp
                            refine zk_ws (ws2 := TXW g.2.1 a tx (va_cpy (fun _ => ((0 * 6 + ((tx k) - 65)) * 3 + 0)) rd1 0 ((n + cm) - cm) cm) ln (n + cm) fk fp) rfl ?_
                            refine zk_goto hc 204 dX4_readWagons_147 (by decide) ?_
                            refine zk_iinc hc (v := nI (k + 1)) (lv2 := [(4, .int (nI (k + 1))), (3, .int (nI ((tx k) - 65))), (1, .int (nI 2)), (5, .int (nI (tx k))), (0, .ref (a 0)), (2, .int (nI cm))]) dX4_readWagons_204 5 rfl (nq_inc rfl) (by decide) rfl ?_
                            refine zk_goto hc 14 dX4_readWagons_207 (by decide) ?_
                            refine zk_lv [4, 2, 5, 1, 0] (lv2 := [(0, .ref (a 0)), (1, .int (nI 2)), (2, .int (nI cm)), (3, .int (nI ((tx k) - 65))), (4, .int (nI (k + 1)))]) rfl ?_
                            exact ih14 (k + 1) 2 cm ((tx k) - 65) (n + cm) (va_cpy (fun _ => ((0 * 6 + ((tx k) - 65)) * 3 + 0)) rd1 0 ((n + cm) - cm) cm) (by omega) (by omega) (cw_letter hI (by omega) hL h8)
                          · refine zk_aload_n hc dX4_readWagons_110 1 rfl ?_
                            refine zk_iconst hc (nI 3) dX4_readWagons_111 rfl ?_
                            refine zk_iload hc dX4_readWagons_112 5 rfl ?_
                            refine zk_callVi hc (rest := []) (ct_X4_foundFault g l a tx rd1 ln n fk fp (nI 3) (nI k)) gg_X4_35 cd_X4_foundFault ⟨Nat.le_of_ble_eq_true rfl, Nat.le_of_ble_eq_true rfl⟩ ⟨Nat.le_of_ble_eq_true rfl, Nat.le_of_ble_eq_true rfl⟩ ([]) ([]) rfl 0 rfl rfl rfl (Nat.le_of_ble_eq_true rfl) dX4_readWagons_114 (fun r W1 hp => ?_)
                            obtain ⟨rfl, rfl⟩ := hp
                            refine zk_ws (ws2 := TXW g.2.1 a tx rd1 ln n (nI 3) (nI k)) rfl ?_
                            refine fin 0 0 _ _ _ _ (by decide) (by decide) dX4_readWagons_117 rfl (?_)
                            exact ⟨_, _, _, _, rfl, cw_many hI (by omega) hL (by omega) (by omega)⟩
                  · refine zk_top (y := nI 0) (if_neg rhL) ?_
                    have hL : ¬ (65 ≤ tx k ∧ tx k ≤ 70) := fun z => rhL ((inN (by omega) (by have := htx k (by omega); omega) (by omega)).mpr z)
                    refine zk_if_eqN hc 150 dX4_readWagons_87 (by decide) (by omega) (fun h_11 => ?_) (fun h_11 => ?_)
                    · refine zk_iload hc dX4_readWagons_150 0 rfl ?_
                      refine zk_bipush hc (nI 102) dX4_readWagons_152 rfl ?_
                      refine zk_icmp_eqN hc 164 dX4_readWagons_154 (by decide) (by have := htx k (by omega); omega) (by have := htx k (by omega); omega) (fun hf => ?_) (fun hf => ?_)
                      · refine zk_iload_n hc dX4_readWagons_164 2 rfl ?_
                        refine zk_iconst hc (nI 2) dX4_readWagons_165 rfl ?_
                        refine zk_icmp_neN hc 196 dX4_readWagons_166 (by decide) (by omega) (by omega) (fun hs2 => ?_) (fun hs2 => ?_)
                        · refine zk_aload_n hc dX4_readWagons_196 1 rfl ?_
                          refine zk_iconst hc (nI 1) dX4_readWagons_197 rfl ?_
                          refine zk_iload hc dX4_readWagons_198 5 rfl ?_
                          refine zk_callVi hc (rest := []) (ct_X4_foundFault g l a tx rd1 ln n fk fp (nI 1) (nI k)) gg_X4_35 cd_X4_foundFault ⟨Nat.le_of_ble_eq_true rfl, Nat.le_of_ble_eq_true rfl⟩ ⟨Nat.le_of_ble_eq_true rfl, Nat.le_of_ble_eq_true rfl⟩ ([]) ([]) rfl 0 rfl rfl rfl (Nat.le_of_ble_eq_true rfl) dX4_readWagons_200 (fun r W1 hp => ?_)
                          obtain ⟨rfl, rfl⟩ := hp
                          refine zk_ws (ws2 := TXW g.2.1 a tx rd1 ln n (nI 1) (nI k)) rfl ?_
                          refine fin 0 0 _ _ _ _ (by decide) (by decide) dX4_readWagons_203 rfl (?_)
                          exact ⟨_, _, _, _, rfl, cw_bad hI (by omega) (by omega) (by omega) (by omega) (by omega)⟩
                        · subst hs2
                          refine zk_iconst hc (nI 3) dX4_readWagons_169 rfl ?_
                          refine zk_istore_n hc (lv2 := [(1, .int (nI 3)), (5, .int (nI (tx k))), (0, .ref (a 0)), (2, .int (nI cm)), (3, .int (nI d)), (4, .int (nI k))]) dX4_readWagons_170 (by decide) rfl ?_
                          refine zk_aload_n hc dX4_readWagons_171 2 rfl ?_
                          refine zk_iload_n hc dX4_readWagons_172 3 rfl ?_
                          refine zk_iconst hc (nI 0) dX4_readWagons_173 rfl ?_
                          refine zk_iload_n hc dX4_readWagons_174 4 rfl ?_
                          refine zk_iload hc dX4_readWagons_175 1 rfl ?_
                          refine zk_bipush hc (nI 102) dX4_readWagons_177 rfl ?_
                          refine zk_icmp_neN hc 186 dX4_readWagons_179 (by decide) (by have := htx k (by omega); omega) (by have := htx k (by omega); omega) (fun hz => ?_) (fun hz => ?_)
                          · exact absurd hz (by omega)
                          · refine zk_iconst hc (nI 1) dX4_readWagons_182 rfl ?_
                            refine zk_goto hc 187 dX4_readWagons_183 (by decide) ?_
                            refine zk_callNi hc (rest := [.int (nI cm), .ref (a 0)]) (ct_X6_wagonOf g l 0 d 1) (host := "ShuntYard") nl_X4_39 mw_11_23 mw_11_22 mw_1_2 cd_X6_wagonOf ⟨Nat.le_of_ble_eq_true rfl, Nat.le_of_ble_eq_true rfl⟩ ⟨Nat.le_of_ble_eq_true rfl, Nat.le_of_ble_eq_true rfl⟩ ([]) (TXW g.2.1 a tx rd1 ln n fk fp) rfl rfl (Nat.le_of_ble_eq_true rfl) dX4_readWagons_187 (fun r W1 hp => ?_)
                            obtain ⟨rfl, rfl⟩ := hp
                            refine zk_ws (ws2 := TXW g.2.1 a tx rd1 ln n fk fp) rfl ?_
                            refine zk_callVv hc (rest := []) (ct_X4_fillLatest g l a tx rd1 ln n fk fp cm ((0 * 6 + d) * 3 + 1) (by omega) (by omega)) gg_X4_43 cd_X4_fillLatest ⟨Nat.le_of_ble_eq_true rfl, Nat.le_of_ble_eq_true rfl⟩ ⟨Nat.le_of_ble_eq_true rfl, Nat.le_of_ble_eq_true rfl⟩ ([]) ([]) rfl 0 rfl rfl rfl (Nat.le_of_ble_eq_true rfl) dX4_readWagons_190 (fun W1 hp => ?_)
                            obtain rfl := hp
                            refine zk_ws (ws2 := TXW g.2.1 a tx (va_cpy (fun _ => ((0 * 6 + d) * 3 + 1)) rd1 0 (n - cm) cm) ln n fk fp) rfl ?_
                            refine zk_goto hc 204 dX4_readWagons_193 (by decide) ?_
                            refine zk_iinc hc (v := nI (k + 1)) (lv2 := [(4, .int (nI (k + 1))), (1, .int (nI 3)), (5, .int (nI (tx k))), (0, .ref (a 0)), (2, .int (nI cm)), (3, .int (nI d))]) dX4_readWagons_204 5 rfl (nq_inc rfl) (by decide) rfl ?_
                            refine zk_goto hc 14 dX4_readWagons_207 (by decide) ?_
                            refine zk_lv [3, 1, 4, 5, 0] (lv2 := [(0, .ref (a 0)), (1, .int (nI 3)), (2, .int (nI cm)), (3, .int (nI d)), (4, .int (nI (k + 1)))]) rfl ?_
                            exact ih14 (k + 1) 3 cm d n (va_cpy (fun _ => ((0 * 6 + d) * 3 + 1)) rd1 0 (n - cm) cm) (by omega) (by omega) (cw_kind hI (Or.inl hf) (if_pos hf).symm)
                      · refine zk_iload hc dX4_readWagons_157 0 rfl ?_
                        refine zk_bipush hc (nI 120) dX4_readWagons_159 rfl ?_
                        refine zk_icmp_neN hc 196 dX4_readWagons_161 (by decide) (by have := htx k (by omega); omega) (by have := htx k (by omega); omega) (fun hx => ?_) (fun hx => ?_)
                        · refine zk_aload_n hc dX4_readWagons_196 1 rfl ?_
                          refine zk_iconst hc (nI 1) dX4_readWagons_197 rfl ?_
                          refine zk_iload hc dX4_readWagons_198 5 rfl ?_
                          refine zk_callVi hc (rest := []) (ct_X4_foundFault g l a tx rd1 ln n fk fp (nI 1) (nI k)) gg_X4_35 cd_X4_foundFault ⟨Nat.le_of_ble_eq_true rfl, Nat.le_of_ble_eq_true rfl⟩ ⟨Nat.le_of_ble_eq_true rfl, Nat.le_of_ble_eq_true rfl⟩ ([]) ([]) rfl 0 rfl rfl rfl (Nat.le_of_ble_eq_true rfl) dX4_readWagons_200 (fun r W1 hp => ?_)
                          obtain ⟨rfl, rfl⟩ := hp
                          refine zk_ws (ws2 := TXW g.2.1 a tx rd1 ln n (nI 1) (nI k)) rfl ?_
                          refine fin 0 0 _ _ _ _ (by decide) (by decide) dX4_readWagons_203 rfl (?_)
                          exact ⟨_, _, _, _, rfl, cw_bad hI (by omega) (by omega) (by omega) (by omega) (by omega)⟩
                        · refine zk_iload_n hc dX4_readWagons_164 2 rfl ?_
                          refine zk_iconst hc (nI 2) dX4_readWagons_165 rfl ?_
                          refine zk_icmp_neN hc 196 dX4_readWagons_166 (by decide) (by omega) (by omega) (fun hs2 => ?_) (fun hs2 => ?_)
                          · refine zk_aload_n hc dX4_readWagons_196 1 rfl ?_
                            refine zk_iconst hc (nI 1) dX4_readWagons_197 rfl ?_
                            refine zk_iload hc dX4_readWagons_198 5 rfl ?_
                            refine zk_callVi hc (rest := []) (ct_X4_foundFault g l a tx rd1 ln n fk fp (nI 1) (nI k)) gg_X4_35 cd_X4_foundFault ⟨Nat.le_of_ble_eq_true rfl, Nat.le_of_ble_eq_true rfl⟩ ⟨Nat.le_of_ble_eq_true rfl, Nat.le_of_ble_eq_true rfl⟩ ([]) ([]) rfl 0 rfl rfl rfl (Nat.le_of_ble_eq_true rfl) dX4_readWagons_200 (fun r W1 hp => ?_)
                            obtain ⟨rfl, rfl⟩ := hp
                            refine zk_ws (ws2 := TXW g.2.1 a tx rd1 ln n (nI 1) (nI k)) rfl ?_
                            refine fin 0 0 _ _ _ _ (by decide) (by decide) dX4_readWagons_203 rfl (?_)
                            exact ⟨_, _, _, _, rfl, cw_bad hI (by omega) (by omega) (by omega) (by omega) (by omega)⟩
                          · subst hs2
                            refine zk_iconst hc (nI 3) dX4_readWagons_169 rfl ?_
                            refine zk_istore_n hc (lv2 := [(1, .int (nI 3)), (5, .int (nI (tx k))), (0, .ref (a 0)), (2, .int (nI cm)), (3, .int (nI d)), (4, .int (nI k))]) dX4_readWagons_170 (by decide) rfl ?_
                            refine zk_aload_n hc dX4_readWagons_171 2 rfl ?_
                            refine zk_iload_n hc dX4_readWagons_172 3 rfl ?_
                            refine zk_iconst hc (nI 0) dX4_readWagons_173 rfl ?_
                            refine zk_iload_n hc dX4_readWagons_174 4 rfl ?_
                            refine zk_iload hc dX4_readWagons_175 1 rfl ?_
                            refine zk_bipush hc (nI 102) dX4_readWagons_177 rfl ?_
                            refine zk_icmp_neN hc 186 dX4_readWagons_179 (by decide) (by have := htx k (by omega); omega) (by have := htx k (by omega); omega) (fun hz => ?_) (fun hz => ?_)
                            · refine zk_iconst hc (nI 2) dX4_readWagons_186 rfl ?_
                              refine zk_callNi hc (rest := [.int (nI cm), .ref (a 0)]) (ct_X6_wagonOf g l 0 d 2) (host := "ShuntYard") nl_X4_39 mw_11_23 mw_11_22 mw_1_2 cd_X6_wagonOf ⟨Nat.le_of_ble_eq_true rfl, Nat.le_of_ble_eq_true rfl⟩ ⟨Nat.le_of_ble_eq_true rfl, Nat.le_of_ble_eq_true rfl⟩ ([]) (TXW g.2.1 a tx rd1 ln n fk fp) rfl rfl (Nat.le_of_ble_eq_true rfl) dX4_readWagons_187 (fun r W1 hp => ?_)
                              obtain ⟨rfl, rfl⟩ := hp
                              refine zk_ws (ws2 := TXW g.2.1 a tx rd1 ln n fk fp) rfl ?_
                              refine zk_callVv hc (rest := []) (ct_X4_fillLatest g l a tx rd1 ln n fk fp cm ((0 * 6 + d) * 3 + 2) (by omega) (by omega)) gg_X4_43 cd_X4_fillLatest ⟨Nat.le_of_ble_eq_true rfl, Nat.le_of_ble_eq_true rfl⟩ ⟨Nat.le_of_ble_eq_true rfl, Nat.le_of_ble_eq_true rfl⟩ ([]) ([]) rfl 0 rfl rfl rfl (Nat.le_of_ble_eq_true rfl) dX4_readWagons_190 (fun W1 hp => ?_)
                              obtain rfl := hp
                              refine zk_ws (ws2 := TXW g.2.1 a tx (va_cpy (fun _ => ((0 * 6 + d) * 3 + 2)) rd1 0 (n - cm) cm) ln n fk fp) rfl ?_
                              refine zk_goto hc 204 dX4_readWagons_193 (by decide) ?_
                              refine zk_iinc hc (v := nI (k + 1)) (lv2 := [(4, .int (nI (k + 1))), (1, .int (nI 3)), (5, .int (nI (tx k))), (0, .ref (a 0)), (2, .int (nI cm)), (3, .int (nI d))]) dX4_readWagons_204 5 rfl (nq_inc rfl) (by decide) rfl ?_
                              refine zk_goto hc 14 dX4_readWagons_207 (by decide) ?_
                              refine zk_lv [3, 1, 4, 5, 0] (lv2 := [(0, .ref (a 0)), (1, .int (nI 3)), (2, .int (nI cm)), (3, .int (nI d)), (4, .int (nI (k + 1)))]) rfl ?_
                              exact ih14 (k + 1) 3 cm d n (va_cpy (fun _ => ((0 * 6 + d) * 3 + 2)) rd1 0 (n - cm) cm) (by omega) (by omega) (cw_kind hI (Or.inr hx) (if_neg (by omega)).symm)
                            · exact absurd hz (by omega)
                    · exact absurd h_11 (by decide)
                · subst hs0
                  refine zk_iconst hc (nI 1) dX4_readWagons_67 rfl ?_
                  refine zk_istore_n hc (lv2 := [(1, .int (nI 1)), (5, .int (nI (tx k))), (0, .ref (a 0)), (2, .int (nI cm)), (3, .int (nI d)), (4, .int (nI k))]) dX4_readWagons_68 (by decide) rfl ?_
                  refine zk_iload hc dX4_readWagons_69 1 rfl ?_
                  refine zk_bipush hc (nI 48) dX4_readWagons_71 rfl ?_
                  refine zk_isubN hc dX4_readWagons_73 (by omega) ?_
                  refine zk_istore_n hc (lv2 := [(2, .int (nI ((tx k) - 48))), (1, .int (nI 1)), (5, .int (nI (tx k))), (0, .ref (a 0)), (3, .int (nI d)), (4, .int (nI k))]) dX4_readWagons_74 (by decide) rfl ?_
                  refine zk_goto hc 204 dX4_readWagons_75 (by decide) ?_
                  refine zk_iinc hc (v := nI (k + 1)) (lv2 := [(4, .int (nI (k + 1))), (2, .int (nI ((tx k) - 48))), (1, .int (nI 1)), (5, .int (nI (tx k))), (0, .ref (a 0)), (3, .int (nI d))]) dX4_readWagons_204 5 rfl (nq_inc rfl) (by decide) rfl ?_
                  refine zk_goto hc 14 dX4_readWagons_207 (by decide) ?_
                  refine zk_lv [4, 2, 1, 5, 0] (lv2 := [(0, .ref (a 0)), (1, .int (nI 1)), (2, .int (nI ((tx k) - 48))), (3, .int (nI d)), (4, .int (nI (k + 1)))]) rfl ?_
                  exact ih14 (k + 1) 1 ((tx k) - 48) d n rd1 (by omega) (by omega) (cw_digit hI hD)
            · refine zk_top (y := nI 0) (if_neg rhD) ?_
              have hD : ¬ (49 ≤ tx k ∧ tx k ≤ 56) := fun z => rhD ((inN (by omega) (by have := htx k (by omega); omega) (by omega)).mpr z)
              refine zk_if_eqN hc 78 dX4_readWagons_60 (by decide) (by omega) (fun h_12 => ?_) (fun h_12 => ?_)
              · refine zk_iload hc dX4_readWagons_78 0 rfl ?_
                refine zk_bipush hc (nI 65) dX4_readWagons_80 rfl ?_
                refine zk_bipush hc (nI 70) dX4_readWagons_82 rfl ?_
                refine zk_callNi hc (rest := []) (ct_X6_within g l (nI (tx k)) (nI 65) (nI 70)) (host := "ShuntYard") nl_X4_31 mw_7_22 mw_7_21 mw_1_2 cd_X6_within ⟨Nat.le_of_ble_eq_true rfl, Nat.le_of_ble_eq_true rfl⟩ ⟨Nat.le_of_ble_eq_true rfl, Nat.le_of_ble_eq_true rfl⟩ ([]) (TXW g.2.1 a tx rd1 ln n fk fp) rfl rfl (Nat.le_of_ble_eq_true rfl) dX4_readWagons_84 (fun r W1 hp => ?_)
                obtain ⟨rfl, rfl⟩ := hp
                refine zk_ws (ws2 := TXW g.2.1 a tx rd1 ln n fk fp) rfl ?_
                by_cases rhL : nI 65 ≤ nI (tx k) ∧ nI (tx k) ≤ nI 70
                · refine zk_top (y := nI 1) (if_pos rhL) ?_
                  have hL := (inN (by omega) (by have := htx k (by omega); omega) (by omega)).mp rhL
                  refine zk_if_eqN hc 150 dX4_readWagons_87 (by decide) (by omega) (fun h_13 => ?_) (fun h_13 => ?_)
                  · exact absurd h_13 (by decide)
                  · refine zk_iload_n hc dX4_readWagons_90 2 rfl ?_
                    refine zk_if_eqN hc 99 dX4_readWagons_91 (by decide) (by omega) (fun hs2 => ?_) (fun hs2 => ?_)
                    · refine zk_aload_n hc dX4_readWagons_99 1 rfl ?_
                      refine zk_get hc inlX4 (ci := 4) rfl 0 3 (by decide) mw_10_18 rfl rfl rfl dX4_readWagons_100 ?_
                      refine zk_iload_n hc dX4_readWagons_103 3 rfl ?_
                      refine zk_iaddN hc dX4_readWagons_104 ?_
                      refine zk_bipush hc (nI 8) dX4_readWagons_105 rfl ?_
                      refine zk_icmp_leN hc 118 dX4_readWagons_107 (by decide) (by omega) (by omega) (fun h8 => ?_) (fun h8 => ?_)
                      · refine zk_iconst hc (nI 2) dX4_readWagons_118 rfl ?_
                        refine zk_istore_n hc (lv2 := [(1, .int (nI 2)), (5, .int (nI (tx k))), (0, .ref (a 0)), (2, .int (nI cm)), (3, .int (nI d)), (4, .int (nI k))]) dX4_readWagons_119 (by decide) rfl ?_
                        refine zk_iload hc dX4_readWagons_120 1 rfl ?_
                        refine zk_bipush hc (nI 65) dX4_readWagons_122 rfl ?_
                        refine zk_isubN hc dX4_readWagons_124 (by omega) ?_
                        refine zk_istore_n hc (lv2 := [(3, .int (nI ((tx k) - 65))), (1, .int (nI 2)), (5, .int (nI (tx k))), (0, .ref (a 0)), (2, .int (nI cm)), (4, .int (nI k))]) dX4_readWagons_125 (by decide) rfl ?_
                        refine zk_aload_n hc dX4_readWagons_126 3 rfl ?_
                        refine zk_dup hc dX4_readWagons_127 rfl ?_
                        refine zk_get hc inlX4 (ci := 4) rfl 0 3 (by decide) mw_10_18 rfl rfl rfl dX4_readWagons_128 ?_
                        refine zk_iload_n hc dX4_readWagons_131 4 rfl ?_
                        refine zk_iaddN hc dX4_readWagons_132 ?_
                        refine zk_put hc inlX4 (ci := 4) rfl tyX4 tyX4_ok nmX4 0 3 (by decide) mw_10_18 rfl rfl rfl rfl rfl (Nat.le_of_ble_eq_true rfl) (ws2 := TXW g.2.1 a tx rd1 ln (n + cm) fk fp) rfl dX4_readWagons_133 ?_
                        refine zk_aload_n hc dX4_readWagons_136 3 rfl ?_
                        refine zk_iload_n hc dX4_readWagons_137 4 rfl ?_
                        refine zk_iconst hc (nI 0) dX4_readWagons_138 rfl ?_
                        refine zk_iload_n hc dX4_readWagons_139 0 rfl ?_
                        refine zk_iconst hc (nI 0) dX4_readWagons_140 rfl ?_
                        refine zk_callNi hc (rest := [.int (nI cm), .ref (a 0)]) (ct_X6_wagonOf g l 0 ((tx k) - 65) 0) (host := "ShuntYard") nl_X4_39 mw_11_23 mw_11_22 mw_1_2 cd_X6_wagonOf ⟨Nat.le_of_ble_eq_true rfl, Nat.le_of_ble_eq_true rfl⟩ ⟨Nat.le_of_ble_eq_true rfl, Nat.le_of_ble_eq_true rfl⟩ ([]) (TXW g.2.1 a tx rd1 ln (n + cm) fk fp) rfl rfl (Nat.le_of_ble_eq_true rfl) dX4_readWagons_141 (fun r W1 hp => ?_)
                        obtain ⟨rfl, rfl⟩ := hp
                        refine zk_ws (ws2 := TXW g.2.1 a tx rd1 ln (n + cm) fk fp) rfl ?_
                        refine zk_callVv hc (rest := []) (ct_X4_fillLatest g l a tx rd1 ln (n + cm) fk fp cm ((0 * 6 + ((tx k) - 65)) * 3 + 0) (by omega) (by omega)) gg_X4_43 cd_X4_fillLatest ⟨Nat.le_of_ble_eq_true rfl, Nat.le_of_ble_eq_true rfl⟩ ⟨Nat.le_of_ble_eq_true rfl, Nat.le_of_ble_eq_true rfl⟩ ([]) ([]) rfl 0 rfl rfl rfl (Nat.le_of_ble_eq_true rfl) dX4_readWagons_144 (fun W1 hp => ?_)
                        obtain rfl := hp
                        refine zk_ws (ws2 := TXW g.2.1 a tx (va_cpy (fun _ => ((0 * 6 + ((tx k) - 65)) * 3 + 0)) rd1 0 ((n + cm) - cm) cm) ln (n + cm) fk fp) rfl ?_
                        refine zk_goto hc 204 dX4_readWagons_147 (by decide) ?_
                        refine zk_iinc hc (v := nI (k + 1)) (lv2 := [(4, .int (nI (k + 1))), (3, .int (nI ((tx k) - 65))), (1, .int (nI 2)), (5, .int (nI (tx k))), (0, .ref (a 0)), (2, .int (nI cm))]) dX4_readWagons_204 5 rfl (nq_inc rfl) (by decide) rfl ?_
                        refine zk_goto hc 14 dX4_readWagons_207 (by decide) ?_
                        refine zk_lv [4, 2, 5, 1, 0] (lv2 := [(0, .ref (a 0)), (1, .int (nI 2)), (2, .int (nI cm)), (3, .int (nI ((tx k) - 65))), (4, .int (nI (k + 1)))]) rfl ?_
                        exact ih14 (k + 1) 2 cm ((tx k) - 65) (n + cm) (va_cpy (fun _ => ((0 * 6 + ((tx k) - 65)) * 3 + 0)) rd1 0 ((n + cm) - cm) cm) (by omega) (by omega) (cw_letter hI (by omega) hL h8)
                      · refine zk_aload_n hc dX4_readWagons_110 1 rfl ?_
                        refine zk_iconst hc (nI 3) dX4_readWagons_111 rfl ?_
                        refine zk_iload hc dX4_readWagons_112 5 rfl ?_
                        refine zk_callVi hc (rest := []) (ct_X4_foundFault g l a tx rd1 ln n fk fp (nI 3) (nI k)) gg_X4_35 cd_X4_foundFault ⟨Nat.le_of_ble_eq_true rfl, Nat.le_of_ble_eq_true rfl⟩ ⟨Nat.le_of_ble_eq_true rfl, Nat.le_of_ble_eq_true rfl⟩ ([]) ([]) rfl 0 rfl rfl rfl (Nat.le_of_ble_eq_true rfl) dX4_readWagons_114 (fun r W1 hp => ?_)
                        obtain ⟨rfl, rfl⟩ := hp
                        refine zk_ws (ws2 := TXW g.2.1 a tx rd1 ln n (nI 3) (nI k)) rfl ?_
                        refine fin 0 0 _ _ _ _ (by decide) (by decide) dX4_readWagons_117 rfl (?_)
                        exact ⟨_, _, _, _, rfl, cw_many hI (by omega) hL (by omega) (by omega)⟩
                    · refine zk_iload_n hc dX4_readWagons_94 2 rfl ?_
                      refine zk_iconst hc (nI 1) dX4_readWagons_95 rfl ?_
                      refine zk_icmp_neN hc 150 dX4_readWagons_96 (by decide) (by omega) (by omega) (fun hs3 => ?_) (fun hs3 => ?_)
                      · refine zk_iload hc dX4_readWagons_150 0 rfl ?_
                        refine zk_bipush hc (nI 102) dX4_readWagons_152 rfl ?_
                        refine zk_icmp_eqN hc 164 dX4_readWagons_154 (by decide) (by have := htx k (by omega); omega) (by have := htx k (by omega); omega) (fun hf => ?_) (fun hf => ?_)
                        · refine zk_iload_n hc dX4_readWagons_164 2 rfl ?_
                          refine zk_iconst hc (nI 2) dX4_readWagons_165 rfl ?_
                          refine zk_icmp_neN hc 196 dX4_readWagons_166 (by decide) (by omega) (by omega) (fun hs2 => ?_) (fun hs2 => ?_)
                          · refine zk_aload_n hc dX4_readWagons_196 1 rfl ?_
                            refine zk_iconst hc (nI 1) dX4_readWagons_197 rfl ?_
                            refine zk_iload hc dX4_readWagons_198 5 rfl ?_
                            refine zk_callVi hc (rest := []) (ct_X4_foundFault g l a tx rd1 ln n fk fp (nI 1) (nI k)) gg_X4_35 cd_X4_foundFault ⟨Nat.le_of_ble_eq_true rfl, Nat.le_of_ble_eq_true rfl⟩ ⟨Nat.le_of_ble_eq_true rfl, Nat.le_of_ble_eq_true rfl⟩ ([]) ([]) rfl 0 rfl rfl rfl (Nat.le_of_ble_eq_true rfl) dX4_readWagons_200 (fun r W1 hp => ?_)
                            obtain ⟨rfl, rfl⟩ := hp
                            refine zk_ws (ws2 := TXW g.2.1 a tx rd1 ln n (nI 1) (nI k)) rfl ?_
                            refine fin 0 0 _ _ _ _ (by decide) (by decide) dX4_readWagons_203 rfl (?_)
                            exact ⟨_, _, _, _, rfl, cw_bad hI (by omega) (by omega) (by omega) (by omega) (by omega)⟩
                          · subst hs2
                            refine zk_iconst hc (nI 3) dX4_readWagons_169 rfl ?_
                            refine zk_istore_n hc (lv2 := [(1, .int (nI 3)), (5, .int (nI (tx k))), (0, .ref (a 0)), (2, .int (nI cm)), (3, .int (nI d)), (4, .int (nI k))]) dX4_readWagons_170 (by decide) rfl ?_
                            refine zk_aload_n hc dX4_readWagons_171 2 rfl ?_
                            refine zk_iload_n hc dX4_readWagons_172 3 rfl ?_
                            refine zk_iconst hc (nI 0) dX4_readWagons_173 rfl ?_
                            refine zk_iload_n hc dX4_readWagons_174 4 rfl ?_
                            refine zk_iload hc dX4_readWagons_175 1 rfl ?_
                            refine zk_bipush hc (nI 102) dX4_readWagons_177 rfl ?_
                            refine zk_icmp_neN hc 186 dX4_readWagons_179 (by decide) (by have := htx k (by omega); omega) (by have := htx k (by omega); omega) (fun hz => ?_) (fun hz => ?_)
                            · exact absurd hz (by omega)
                            · refine zk_iconst hc (nI 1) dX4_readWagons_182 rfl ?_
                              refine zk_goto hc 187 dX4_readWagons_183 (by decide) ?_
                              refine zk_callNi hc (rest := [.int (nI cm), .ref (a 0)]) (ct_X6_wagonOf g l 0 d 1) (host := "ShuntYard") nl_X4_39 mw_11_23 mw_11_22 mw_1_2 cd_X6_wagonOf ⟨Nat.le_of_ble_eq_true rfl, Nat.le_of_ble_eq_true rfl⟩ ⟨Nat.le_of_ble_eq_true rfl, Nat.le_of_ble_eq_true rfl⟩ ([]) (TXW g.2.1 a tx rd1 ln n fk fp) rfl rfl (Nat.le_of_ble_eq_true rfl) dX4_readWagons_187 (fun r W1 hp => ?_)
                              obtain ⟨rfl, rfl⟩ := hp
                              refine zk_ws (ws2 := TXW g.2.1 a tx rd1 ln n fk fp) rfl ?_
                              refine zk_callVv hc (rest := []) (ct_X4_fillLatest g l a tx rd1 ln n fk fp cm ((0 * 6 + d) * 3 + 1) (by omega) (by omega)) gg_X4_43 cd_X4_fillLatest ⟨Nat.le_of_ble_eq_true rfl, Nat.le_of_ble_eq_true rfl⟩ ⟨Nat.le_of_ble_eq_true rfl, Nat.le_of_ble_eq_true rfl⟩ ([]) ([]) rfl 0 rfl rfl rfl (Nat.le_of_ble_eq_true rfl) dX4_readWagons_190 (fun W1 hp => ?_)
                              obtain rfl := hp
                              refine zk_ws (ws2 := TXW g.2.1 a tx (va_cpy (fun _ => ((0 * 6 + d) * 3 + 1)) rd1 0 (n - cm) cm) ln n fk fp) rfl ?_
                              refine zk_goto hc 204 dX4_readWagons_193 (by decide) ?_
                              refine zk_iinc hc (v := nI (k + 1)) (lv2 := [(4, .int (nI (k + 1))), (1, .int (nI 3)), (5, .int (nI (tx k))), (0, .ref (a 0)), (2, .int (nI cm)), (3, .int (nI d))]) dX4_readWagons_204 5 rfl (nq_inc rfl) (by decide) rfl ?_
                              refine zk_goto hc 14 dX4_readWagons_207 (by decide) ?_
                              refine zk_lv [3, 1, 4, 5, 0] (lv2 := [(0, .ref (a 0)), (1, .int (nI 3)), (2, .int (nI cm)), (3, .int (nI d)), (4, .int (nI (k + 1)))]) rfl ?_
                              exact ih14 (k + 1) 3 cm d n (va_cpy (fun _ => ((0 * 6 + d) * 3 + 1)) rd1 0 (n - cm) cm) (by omega) (by omega) (cw_kind hI (Or.inl hf) (if_pos hf).symm)
                        · refine zk_iload hc dX4_readWagons_157 0 rfl ?_
                          refine zk_bipush hc (nI 120) dX4_readWagons_159 rfl ?_
                          refine zk_icmp_neN hc 196 dX4_readWagons_161 (by decide) (by have := htx k (by omega); omega) (by have := htx k (by omega); omega) (fun hx => ?_) (fun hx => ?_)
                          · refine zk_aload_n hc dX4_readWagons_196 1 rfl ?_
                            refine zk_iconst hc (nI 1) dX4_readWagons_197 rfl ?_
                            refine zk_iload hc dX4_readWagons_198 5 rfl ?_
                            refine zk_callVi hc (rest := []) (ct_X4_foundFault g l a tx rd1 ln n fk fp (nI 1) (nI k)) gg_X4_35 cd_X4_foundFault ⟨Nat.le_of_ble_eq_true rfl, Nat.le_of_ble_eq_true rfl⟩ ⟨Nat.le_of_ble_eq_true rfl, Nat.le_of_ble_eq_true rfl⟩ ([]) ([]) rfl 0 rfl rfl rfl (Nat.le_of_ble_eq_true rfl) dX4_readWagons_200 (fun r W1 hp => ?_)
                            obtain ⟨rfl, rfl⟩ := hp
                            refine zk_ws (ws2 := TXW g.2.1 a tx rd1 ln n (nI 1) (nI k)) rfl ?_
                            refine fin 0 0 _ _ _ _ (by decide) (by decide) dX4_readWagons_203 rfl (?_)
                            exact ⟨_, _, _, _, rfl, cw_bad hI (by omega) (by omega) (by omega) (by omega) (by omega)⟩
                          · refine zk_iload_n hc dX4_readWagons_164 2 rfl ?_
                            refine zk_iconst hc (nI 2) dX4_readWagons_165 rfl ?_
                            refine zk_icmp_neN hc 196 dX4_readWagons_166 (by decide) (by omega) (by omega) (fun hs2 => ?_) (fun hs2 => ?_)
                            · refine zk_aload_n hc dX4_readWagons_196 1 rfl ?_
                              refine zk_iconst hc (nI 1) dX4_readWagons_197 rfl ?_
                              refine zk_iload hc dX4_readWagons_198 5 rfl ?_
                              refine zk_callVi hc (rest := []) (ct_X4_foundFault g l a tx rd1 ln n fk fp (nI 1) (nI k)) gg_X4_35 cd_X4_foundFault ⟨Nat.le_of_ble_eq_true rfl, Nat.le_of_ble_eq_true rfl⟩ ⟨Nat.le_of_ble_eq_true rfl, Nat.le_of_ble_eq_true rfl⟩ ([]) ([]) rfl 0 rfl rfl rfl (Nat.le_of_ble_eq_true rfl) dX4_readWagons_200 (fun r W1 hp => ?_)
                              obtain ⟨rfl, rfl⟩ := hp
                              refine zk_ws (ws2 := TXW g.2.1 a tx rd1 ln n (nI 1) (nI k)) rfl ?_
                              refine fin 0 0 _ _ _ _ (by decide) (by decide) dX4_readWagons_203 rfl (?_)
                              exact ⟨_, _, _, _, rfl, cw_bad hI (by omega) (by omega) (by omega) (by omega) (by omega)⟩
                            · subst hs2
                              refine zk_iconst hc (nI 3) dX4_readWagons_169 rfl ?_
                              refine zk_istore_n hc (lv2 := [(1, .int (nI 3)), (5, .int (nI (tx k))), (0, .ref (a 0)), (2, .int (nI cm)), (3, .int (nI d)), (4, .int (nI k))]) dX4_readWagons_170 (by decide) rfl ?_
                              refine zk_aload_n hc dX4_readWagons_171 2 rfl ?_
                              refine zk_iload_n hc dX4_readWagons_172 3 rfl ?_
                              refine zk_iconst hc (nI 0) dX4_readWagons_173 rfl ?_
                              refine zk_iload_n hc dX4_readWagons_174 4 rfl ?_
                              refine zk_iload hc dX4_readWagons_175 1 rfl ?_
                              refine zk_bipush hc (nI 102) dX4_readWagons_177 rfl ?_
                              refine zk_icmp_neN hc 186 dX4_readWagons_179 (by decide) (by have := htx k (by omega); omega) (by have := htx k (by omega); omega) (fun hz => ?_) (fun hz => ?_)
                              · refine zk_iconst hc (nI 2) dX4_readWagons_186 rfl ?_
                                refine zk_callNi hc (rest := [.int (nI cm), .ref (a 0)]) (ct_X6_wagonOf g l 0 d 2) (host := "ShuntYard") nl_X4_39 mw_11_23 mw_11_22 mw_1_2 cd_X6_wagonOf ⟨Nat.le_of_ble_eq_true rfl, Nat.le_of_ble_eq_true rfl⟩ ⟨Nat.le_of_ble_eq_true rfl, Nat.le_of_ble_eq_true rfl⟩ ([]) (TXW g.2.1 a tx rd1 ln n fk fp) rfl rfl (Nat.le_of_ble_eq_true rfl) dX4_readWagons_187 (fun r W1 hp => ?_)
                                obtain ⟨rfl, rfl⟩ := hp
                                refine zk_ws (ws2 := TXW g.2.1 a tx rd1 ln n fk fp) rfl ?_
                                refine zk_callVv hc (rest := []) (ct_X4_fillLatest g l a tx rd1 ln n fk fp cm ((0 * 6 + d) * 3 + 2) (by omega) (by omega)) gg_X4_43 cd_X4_fillLatest ⟨Nat.le_of_ble_eq_true rfl, Nat.le_of_ble_eq_true rfl⟩ ⟨Nat.le_of_ble_eq_true rfl, Nat.le_of_ble_eq_true rfl⟩ ([]) ([]) rfl 0 rfl rfl rfl (Nat.le_of_ble_eq_true rfl) dX4_readWagons_190 (fun W1 hp => ?_)
                                obtain rfl := hp
                                refine zk_ws (ws2 := TXW g.2.1 a tx (va_cpy (fun _ => ((0 * 6 + d) * 3 + 2)) rd1 0 (n - cm) cm) ln n fk fp) rfl ?_
                                refine zk_goto hc 204 dX4_readWagons_193 (by decide) ?_
                                refine zk_iinc hc (v := nI (k + 1)) (lv2 := [(4, .int (nI (k + 1))), (1, .int (nI 3)), (5, .int (nI (tx k))), (0, .ref (a 0)), (2, .int (nI cm)), (3, .int (nI d))]) dX4_readWagons_204 5 rfl (nq_inc rfl) (by decide) rfl ?_
                                refine zk_goto hc 14 dX4_readWagons_207 (by decide) ?_
                                refine zk_lv [3, 1, 4, 5, 0] (lv2 := [(0, .ref (a 0)), (1, .int (nI 3)), (2, .int (nI cm)), (3, .int (nI d)), (4, .int (nI (k + 1)))]) rfl ?_
                                exact ih14 (k + 1) 3 cm d n (va_cpy (fun _ => ((0 * 6 + d) * 3 + 2)) rd1 0 (n - cm) cm) (by omega) (by omega) (cw_kind hI (Or.inr hx) (if_neg (by omega)).symm)
                              · exact absurd hz (by omega)
                      · refine zk_aload_n hc dX4_readWagons_99 1 rfl ?_
                        refine zk_get hc inlX4 (ci := 4) rfl 0 3 (by decide) mw_10_18 rfl rfl rfl dX4_readWagons_100 ?_
                        refine zk_iload_n hc dX4_readWagons_103 3 rfl ?_
                        refine zk_iaddN hc dX4_readWagons_104 ?_
                        refine zk_bipush hc (nI 8) dX4_readWagons_105 rfl ?_
                        refine zk_icmp_leN hc 118 dX4_readWagons_107 (by decide) (by omega) (by omega) (fun h8 => ?_) (fun h8 => ?_)
                        · refine zk_iconst hc (nI 2) dX4_readWagons_118 rfl ?_
                          refine zk_istore_n hc (lv2 := [(1, .int (nI 2)), (5, .int (nI (tx k))), (0, .ref (a 0)), (2, .int (nI cm)), (3, .int (nI d)), (4, .int (nI k))]) dX4_readWagons_119 (by decide) rfl ?_
                          refine zk_iload hc dX4_readWagons_120 1 rfl ?_
                          refine zk_bipush hc (nI 65) dX4_readWagons_122 rfl ?_
                          refine zk_isubN hc dX4_readWagons_124 (by omega) ?_
                          refine zk_istore_n hc (lv2 := [(3, .int (nI ((tx k) - 65))), (1, .int (nI 2)), (5, .int (nI (tx k))), (0, .ref (a 0)), (2, .int (nI cm)), (4, .int (nI k))]) dX4_readWagons_125 (by decide) rfl ?_
                          refine zk_aload_n hc dX4_readWagons_126 3 rfl ?_
                          refine zk_dup hc dX4_readWagons_127 rfl ?_
                          refine zk_get hc inlX4 (ci := 4) rfl 0 3 (by decide) mw_10_18 rfl rfl rfl dX4_readWagons_128 ?_
                          refine zk_iload_n hc dX4_readWagons_131 4 rfl ?_
                          refine zk_iaddN hc dX4_readWagons_132 ?_
                          refine zk_put hc inlX4 (ci := 4) rfl tyX4 tyX4_ok nmX4 0 3 (by decide) mw_10_18 rfl rfl rfl rfl rfl (Nat.le_of_ble_eq_true rfl) (ws2 := TXW g.2.1 a tx rd1 ln (n + cm) fk fp) rfl dX4_readWagons_133 ?_
                          refine zk_aload_n hc dX4_readWagons_136 3 rfl ?_
                          refine zk_iload_n hc dX4_readWagons_137 4 rfl ?_
                          refine zk_iconst hc (nI 0) dX4_readWagons_138 rfl ?_
                          refine zk_iload_n hc dX4_readWagons_139 0 rfl ?_
                          refine zk_iconst hc (nI 0) dX4_readWagons_140 rfl ?_
                          refine zk_callNi hc (rest := [.int (nI cm), .ref (a 0)]) (ct_X6_wagonOf g l 0 ((tx k) - 65) 0) (host := "ShuntYard") nl_X4_39 mw_11_23 mw_11_22 mw_1_2 cd_X6_wagonOf ⟨Nat.le_of_ble_eq_true rfl, Nat.le_of_ble_eq_true rfl⟩ ⟨Nat.le_of_ble_eq_true rfl, Nat.le_of_ble_eq_true rfl⟩ ([]) (TXW g.2.1 a tx rd1 ln (n + cm) fk fp) rfl rfl (Nat.le_of_ble_eq_true rfl) dX4_readWagons_141 (fun r W1 hp => ?_)
                          obtain ⟨rfl, rfl⟩ := hp
                          refine zk_ws (ws2 := TXW g.2.1 a tx rd1 ln (n + cm) fk fp) rfl ?_
                          refine zk_callVv hc (rest := []) (ct_X4_fillLatest g l a tx rd1 ln (n + cm) fk fp cm ((0 * 6 + ((tx k) - 65)) * 3 + 0) (by omega) (by omega)) gg_X4_43 cd_X4_fillLatest ⟨Nat.le_of_ble_eq_true rfl, Nat.le_of_ble_eq_true rfl⟩ ⟨Nat.le_of_ble_eq_true rfl, Nat.le_of_ble_eq_true rfl⟩ ([]) ([]) rfl 0 rfl rfl rfl (Nat.le_of_ble_eq_true rfl) dX4_readWagons_144 (fun W1 hp => ?_)
                          obtain rfl := hp
                          refine zk_ws (ws2 := TXW g.2.1 a tx (va_cpy (fun _ => ((0 * 6 + ((tx k) - 65)) * 3 + 0)) rd1 0 ((n + cm) - cm) cm) ln (n + cm) fk fp) rfl ?_
                          refine zk_goto hc 204 dX4_readWagons_147 (by decide) ?_
                          refine zk_iinc hc (v := nI (k + 1)) (lv2 := [(4, .int (nI (k + 1))), (3, .int (nI ((tx k) - 65))), (1, .int (nI 2)), (5, .int (nI (tx k))), (0, .ref (a 0)), (2, .int (nI cm))]) dX4_readWagons_204 5 rfl (nq_inc rfl) (by decide) rfl ?_
                          refine zk_goto hc 14 dX4_readWagons_207 (by decide) ?_
                          refine zk_lv [4, 2, 5, 1, 0] (lv2 := [(0, .ref (a 0)), (1, .int (nI 2)), (2, .int (nI cm)), (3, .int (nI ((tx k) - 65))), (4, .int (nI (k + 1)))]) rfl ?_
                          exact ih14 (k + 1) 2 cm ((tx k) - 65) (n + cm) (va_cpy (fun _ => ((0 * 6 + ((tx k) - 65)) * 3 + 0)) rd1 0 ((n + cm) - cm) cm) (by omega) (by omega) (cw_letter hI (by omega) hL h8)
                        · refine zk_aload_n hc dX4_readWagons_110 1 rfl ?_
                          refine zk_iconst hc (nI 3) dX4_readWagons_111 rfl ?_
                          refine zk_iload hc dX4_readWagons_112 5 rfl ?_
                          refine zk_callVi hc (rest := []) (ct_X4_foundFault g l a tx rd1 ln n fk fp (nI 3) (nI k)) gg_X4_35 cd_X4_foundFault ⟨Nat.le_of_ble_eq_true rfl, Nat.le_of_ble_eq_true rfl⟩ ⟨Nat.le_of_ble_eq_true rfl, Nat.le_of_ble_eq_true rfl⟩ ([]) ([]) rfl 0 rfl rfl rfl (Nat.le_of_ble_eq_true rfl) dX4_readWagons_114 (fun r W1 hp => ?_)
                          obtain ⟨rfl, rfl⟩ := hp
                          refine zk_ws (ws2 := TXW g.2.1 a tx rd1 ln n (nI 3) (nI k)) rfl ?_
                          refine fin 0 0 _ _ _ _ (by decide) (by decide) dX4_readWagons_117 rfl (?_)
                          exact ⟨_, _, _, _, rfl, cw_many hI (by omega) hL (by omega) (by omega)⟩
                · refine zk_top (y := nI 0) (if_neg rhL) ?_
                  have hL : ¬ (65 ≤ tx k ∧ tx k ≤ 70) := fun z => rhL ((inN (by omega) (by have := htx k (by omega); omega) (by omega)).mpr z)
                  refine zk_if_eqN hc 150 dX4_readWagons_87 (by decide) (by omega) (fun h_14 => ?_) (fun h_14 => ?_)
                  · refine zk_iload hc dX4_readWagons_150 0 rfl ?_
                    refine zk_bipush hc (nI 102) dX4_readWagons_152 rfl ?_
                    refine zk_icmp_eqN hc 164 dX4_readWagons_154 (by decide) (by have := htx k (by omega); omega) (by have := htx k (by omega); omega) (fun hf => ?_) (fun hf => ?_)
                    · refine zk_iload_n hc dX4_readWagons_164 2 rfl ?_
                      refine zk_iconst hc (nI 2) dX4_readWagons_165 rfl ?_
                      refine zk_icmp_neN hc 196 dX4_readWagons_166 (by decide) (by omega) (by omega) (fun hs2 => ?_) (fun hs2 => ?_)
                      · refine zk_aload_n hc dX4_readWagons_196 1 rfl ?_
                        refine zk_iconst hc (nI 1) dX4_readWagons_197 rfl ?_
                        refine zk_iload hc dX4_readWagons_198 5 rfl ?_
                        refine zk_callVi hc (rest := []) (ct_X4_foundFault g l a tx rd1 ln n fk fp (nI 1) (nI k)) gg_X4_35 cd_X4_foundFault ⟨Nat.le_of_ble_eq_true rfl, Nat.le_of_ble_eq_true rfl⟩ ⟨Nat.le_of_ble_eq_true rfl, Nat.le_of_ble_eq_true rfl⟩ ([]) ([]) rfl 0 rfl rfl rfl (Nat.le_of_ble_eq_true rfl) dX4_readWagons_200 (fun r W1 hp => ?_)
                        obtain ⟨rfl, rfl⟩ := hp
                        refine zk_ws (ws2 := TXW g.2.1 a tx rd1 ln n (nI 1) (nI k)) rfl ?_
                        refine fin 0 0 _ _ _ _ (by decide) (by decide) dX4_readWagons_203 rfl (?_)
                        exact ⟨_, _, _, _, rfl, cw_bad hI (by omega) (by omega) (by omega) (by omega) (by omega)⟩
                      · subst hs2
                        refine zk_iconst hc (nI 3) dX4_readWagons_169 rfl ?_
                        refine zk_istore_n hc (lv2 := [(1, .int (nI 3)), (5, .int (nI (tx k))), (0, .ref (a 0)), (2, .int (nI cm)), (3, .int (nI d)), (4, .int (nI k))]) dX4_readWagons_170 (by decide) rfl ?_
                        refine zk_aload_n hc dX4_readWagons_171 2 rfl ?_
                        refine zk_iload_n hc dX4_readWagons_172 3 rfl ?_
                        refine zk_iconst hc (nI 0) dX4_readWagons_173 rfl ?_
                        refine zk_iload_n hc dX4_readWagons_174 4 rfl ?_
                        refine zk_iload hc dX4_readWagons_175 1 rfl ?_
                        refine zk_bipush hc (nI 102) dX4_readWagons_177 rfl ?_
                        refine zk_icmp_neN hc 186 dX4_readWagons_179 (by decide) (by have := htx k (by omega); omega) (by have := htx k (by omega); omega) (fun hz => ?_) (fun hz => ?_)
                        · exact absurd hz (by omega)
                        · refine zk_iconst hc (nI 1) dX4_readWagons_182 rfl ?_
                          refine zk_goto hc 187 dX4_readWagons_183 (by decide) ?_
                          refine zk_callNi hc (rest := [.int (nI cm), .ref (a 0)]) (ct_X6_wagonOf g l 0 d 1) (host := "ShuntYard") nl_X4_39 mw_11_23 mw_11_22 mw_1_2 cd_X6_wagonOf ⟨Nat.le_of_ble_eq_true rfl, Nat.le_of_ble_eq_true rfl⟩ ⟨Nat.le_of_ble_eq_true rfl, Nat.le_of_ble_eq_true rfl⟩ ([]) (TXW g.2.1 a tx rd1 ln n fk fp) rfl rfl (Nat.le_of_ble_eq_true rfl) dX4_readWagons_187 (fun r W1 hp => ?_)
                          obtain ⟨rfl, rfl⟩ := hp
                          refine zk_ws (ws2 := TXW g.2.1 a tx rd1 ln n fk fp) rfl ?_
                          refine zk_callVv hc (rest := []) (ct_X4_fillLatest g l a tx rd1 ln n fk fp cm ((0 * 6 + d) * 3 + 1) (by omega) (by omega)) gg_X4_43 cd_X4_fillLatest ⟨Nat.le_of_ble_eq_true rfl, Nat.le_of_ble_eq_true rfl⟩ ⟨Nat.le_of_ble_eq_true rfl, Nat.le_of_ble_eq_true rfl⟩ ([]) ([]) rfl 0 rfl rfl rfl (Nat.le_of_ble_eq_true rfl) dX4_readWagons_190 (fun W1 hp => ?_)
                          obtain rfl := hp
                          refine zk_ws (ws2 := TXW g.2.1 a tx (va_cpy (fun _ => ((0 * 6 + d) * 3 + 1)) rd1 0 (n - cm) cm) ln n fk fp) rfl ?_
                          refine zk_goto hc 204 dX4_readWagons_193 (by decide) ?_
                          refine zk_iinc hc (v := nI (k + 1)) (lv2 := [(4, .int (nI (k + 1))), (1, .int (nI 3)), (5, .int (nI (tx k))), (0, .ref (a 0)), (2, .int (nI cm)), (3, .int (nI d))]) dX4_readWagons_204 5 rfl (nq_inc rfl) (by decide) rfl ?_
                          refine zk_goto hc 14 dX4_readWagons_207 (by decide) ?_
                          refine zk_lv [3, 1, 4, 5, 0] (lv2 := [(0, .ref (a 0)), (1, .int (nI 3)), (2, .int (nI cm)), (3, .int (nI d)), (4, .int (nI (k + 1)))]) rfl ?_
                          exact ih14 (k + 1) 3 cm d n (va_cpy (fun _ => ((0 * 6 + d) * 3 + 1)) rd1 0 (n - cm) cm) (by omega) (by omega) (cw_kind hI (Or.inl hf) (if_pos hf).symm)
                    · refine zk_iload hc dX4_readWagons_157 0 rfl ?_
                      refine zk_bipush hc (nI 120) dX4_readWagons_159 rfl ?_
                      refine zk_icmp_neN hc 196 dX4_readWagons_161 (by decide) (by have := htx k (by omega); omega) (by have := htx k (by omega); omega) (fun hx => ?_) (fun hx => ?_)
                      · refine zk_aload_n hc dX4_readWagons_196 1 rfl ?_
                        refine zk_iconst hc (nI 1) dX4_readWagons_197 rfl ?_
                        refine zk_iload hc dX4_readWagons_198 5 rfl ?_
                        refine zk_callVi hc (rest := []) (ct_X4_foundFault g l a tx rd1 ln n fk fp (nI 1) (nI k)) gg_X4_35 cd_X4_foundFault ⟨Nat.le_of_ble_eq_true rfl, Nat.le_of_ble_eq_true rfl⟩ ⟨Nat.le_of_ble_eq_true rfl, Nat.le_of_ble_eq_true rfl⟩ ([]) ([]) rfl 0 rfl rfl rfl (Nat.le_of_ble_eq_true rfl) dX4_readWagons_200 (fun r W1 hp => ?_)
                        obtain ⟨rfl, rfl⟩ := hp
                        refine zk_ws (ws2 := TXW g.2.1 a tx rd1 ln n (nI 1) (nI k)) rfl ?_
                        refine fin 0 0 _ _ _ _ (by decide) (by decide) dX4_readWagons_203 rfl (?_)
                        exact ⟨_, _, _, _, rfl, cw_bad hI (by omega) (by omega) (by omega) (by omega) (by omega)⟩
                      · refine zk_iload_n hc dX4_readWagons_164 2 rfl ?_
                        refine zk_iconst hc (nI 2) dX4_readWagons_165 rfl ?_
                        refine zk_icmp_neN hc 196 dX4_readWagons_166 (by decide) (by omega) (by omega) (fun hs2 => ?_) (fun hs2 => ?_)
                        · refine zk_aload_n hc dX4_readWagons_196 1 rfl ?_
                          refine zk_iconst hc (nI 1) dX4_readWagons_197 rfl ?_
                          refine zk_iload hc dX4_readWagons_198 5 rfl ?_
                          refine zk_callVi hc (rest := []) (ct_X4_foundFault g l a tx rd1 ln n fk fp (nI 1) (nI k)) gg_X4_35 cd_X4_foundFault ⟨Nat.le_of_ble_eq_true rfl, Nat.le_of_ble_eq_true rfl⟩ ⟨Nat.le_of_ble_eq_true rfl, Nat.le_of_ble_eq_true rfl⟩ ([]) ([]) rfl 0 rfl rfl rfl (Nat.le_of_ble_eq_true rfl) dX4_readWagons_200 (fun r W1 hp => ?_)
                          obtain ⟨rfl, rfl⟩ := hp
                          refine zk_ws (ws2 := TXW g.2.1 a tx rd1 ln n (nI 1) (nI k)) rfl ?_
                          refine fin 0 0 _ _ _ _ (by decide) (by decide) dX4_readWagons_203 rfl (?_)
                          exact ⟨_, _, _, _, rfl, cw_bad hI (by omega) (by omega) (by omega) (by omega) (by omega)⟩
                        · subst hs2
                          refine zk_iconst hc (nI 3) dX4_readWagons_169 rfl ?_
                          refine zk_istore_n hc (lv2 := [(1, .int (nI 3)), (5, .int (nI (tx k))), (0, .ref (a 0)), (2, .int (nI cm)), (3, .int (nI d)), (4, .int (nI k))]) dX4_readWagons_170 (by decide) rfl ?_
                          refine zk_aload_n hc dX4_readWagons_171 2 rfl ?_
                          refine zk_iload_n hc dX4_readWagons_172 3 rfl ?_
                          refine zk_iconst hc (nI 0) dX4_readWagons_173 rfl ?_
                          refine zk_iload_n hc dX4_readWagons_174 4 rfl ?_
                          refine zk_iload hc dX4_readWagons_175 1 rfl ?_
                          refine zk_bipush hc (nI 102) dX4_readWagons_177 rfl ?_
                          refine zk_icmp_neN hc 186 dX4_readWagons_179 (by decide) (by have := htx k (by omega); omega) (by have := htx k (by omega); omega) (fun hz => ?_) (fun hz => ?_)
                          · refine zk_iconst hc (nI 2) dX4_readWagons_186 rfl ?_
                            refine zk_callNi hc (rest := [.int (nI cm), .ref (a 0)]) (ct_X6_wagonOf g l 0 d 2) (host := "ShuntYard") nl_X4_39 mw_11_23 mw_11_22 mw_1_2 cd_X6_wagonOf ⟨Nat.le_of_ble_eq_true rfl, Nat.le_of_ble_eq_true rfl⟩ ⟨Nat.le_of_ble_eq_true rfl, Nat.le_of_ble_eq_true rfl⟩ ([]) (TXW g.2.1 a tx rd1 ln n fk fp) rfl rfl (Nat.le_of_ble_eq_true rfl) dX4_readWagons_187 (fun r W1 hp => ?_)
                            obtain ⟨rfl, rfl⟩ := hp
                            refine zk_ws (ws2 := TXW g.2.1 a tx rd1 ln n fk fp) rfl ?_
                            refine zk_callVv hc (rest := []) (ct_X4_fillLatest g l a tx rd1 ln n fk fp cm ((0 * 6 + d) * 3 + 2) (by omega) (by omega)) gg_X4_43 cd_X4_fillLatest ⟨Nat.le_of_ble_eq_true rfl, Nat.le_of_ble_eq_true rfl⟩ ⟨Nat.le_of_ble_eq_true rfl, Nat.le_of_ble_eq_true rfl⟩ ([]) ([]) rfl 0 rfl rfl rfl (Nat.le_of_ble_eq_true rfl) dX4_readWagons_190 (fun W1 hp => ?_)
                            obtain rfl := hp
                            refine zk_ws (ws2 := TXW g.2.1 a tx (va_cpy (fun _ => ((0 * 6 + d) * 3 + 2)) rd1 0 (n - cm) cm) ln n fk fp) rfl ?_
                            refine zk_goto hc 204 dX4_readWagons_193 (by decide) ?_
                            refine zk_iinc hc (v := nI (k + 1)) (lv2 := [(4, .int (nI (k + 1))), (1, .int (nI 3)), (5, .int (nI (tx k))), (0, .ref (a 0)), (2, .int (nI cm)), (3, .int (nI d))]) dX4_readWagons_204 5 rfl (nq_inc rfl) (by decide) rfl ?_
                            refine zk_goto hc 14 dX4_readWagons_207 (by decide) ?_
                            refine zk_lv [3, 1, 4, 5, 0] (lv2 := [(0, .ref (a 0)), (1, .int (nI 3)), (2, .int (nI cm)), (3, .int (nI d)), (4, .int (nI (k + 1)))]) rfl ?_
                            exact ih14 (k + 1) 3 cm d n (va_cpy (fun _ => ((0 * 6 + d) * 3 + 2)) rd1 0 (n - cm) cm) (by omega) (by omega) (cw_kind hI (Or.inr hx) (if_neg (by omega)).symm)
                          · exact absurd hz (by omega)
                  · exact absurd h_14 (by decide)
              · exact absurd h_12 (by decide)
          · refine zk_iconst hc (nI 0) dX4_readWagons_44 rfl ?_
            refine zk_istore_n hc (lv2 := [(1, .int (nI 0)), (5, .int (nI (tx k))), (0, .ref (a 0)), (2, .int (nI cm)), (3, .int (nI d)), (4, .int (nI k))]) dX4_readWagons_45 (by decide) rfl ?_
            refine zk_iconst hc (nI 1) dX4_readWagons_46 rfl ?_
            refine zk_istore_n hc (lv2 := [(2, .int (nI 1)), (1, .int (nI 0)), (5, .int (nI (tx k))), (0, .ref (a 0)), (3, .int (nI d)), (4, .int (nI k))]) dX4_readWagons_47 (by decide) rfl ?_
            refine zk_goto hc 204 dX4_readWagons_48 (by decide) ?_
            refine zk_iinc hc (v := nI (k + 1)) (lv2 := [(4, .int (nI (k + 1))), (2, .int (nI 1)), (1, .int (nI 0)), (5, .int (nI (tx k))), (0, .ref (a 0)), (3, .int (nI d))]) dX4_readWagons_204 5 rfl (nq_inc rfl) (by decide) rfl ?_
            refine zk_goto hc 14 dX4_readWagons_207 (by decide) ?_
            refine zk_lv [4, 2, 1, 5, 0] (lv2 := [(0, .ref (a 0)), (1, .int (nI 0)), (2, .int (nI 1)), (3, .int (nI d)), (4, .int (nI (k + 1)))]) rfl ?_
            exact ih14 (k + 1) 0 1 d n rd1 (by omega) (by omega) (cw_blank hI hs1 hbl)
  refine zk_lv [4, 3, 2, 1, 0] (lv2 := [(0, .ref (a 0)), (1, .int (nI 0)), (2, .int (nI 1)), (3, .int (nI 0)), (4, .int (nI 0))]) rfl ?_
  exact loop14 ((ln - 0) + 1) 0 0 1 0 0 rd (Nat.lt_succ_self _) (Nat.zero_le _) (cw_0 _)

set_option maxHeartbeats 4000000 in
set_option maxRecDepth 100000 in
theorem ct_X4_readTrains (g : GG) (l : Launch) (a : Nat → Nat) (tx rd : Nat → Nat) (ln fn : Nat) (fk fp : Int32) (hln : ln ≤ 60) (htx : ∀ j, j < ln → tx j < 128) : CtI g l yX4_readTrains cX4_readTrains 3 (some .boolean) (rmK 3 0 0) (TXW g.2.1 a tx rd ln fn fk fp) [.ref (a 0)] (fun r W1 => ∃ (n2 : Nat) (rd2 : Nat → Nat) (v2 w2 : Int32), W1 = TXW g.2.1 a tx rd2 ln n2 v2 w2 ∧ clE tx ln r n2 rd2 v2 w2 fk fp) := by
  refine CtZ.go RX4 rfl (by decide +kernel) (Nat.le_of_ble_eq_true rfl) ?_
  intro p e s m args below meth c A H0 Q hc hnm fin
  show KW g p l e (rmK 3 0 0) s m args below meth c 3 A H0 0 0 Q (TXW g.2.1 a tx rd ln fn fk fp) [(0, .ref (a 0))] 0 []
  refine zk_aload_n hc dX4_readTrains_0 0 rfl ?_
  refine zk_iconst hc (nI 0) dX4_readTrains_1 rfl ?_
  refine zk_put hc inlX4 (ci := 4) rfl tyX4 tyX4_ok nmX4 0 3 (by decide) mw_10_18 rfl rfl rfl rfl rfl (Nat.le_of_ble_eq_true rfl) (ws2 := TXW g.2.1 a tx rd ln 0 fk fp) rfl dX4_readTrains_2 ?_
  refine zk_iconst hc (nI 0) dX4_readTrains_5 rfl ?_
  refine zk_istore_n hc (lv2 := [(1, .int (nI 0)), (0, .ref (a 0))]) dX4_readTrains_6 (by decide) rfl ?_
  have loop7 : ∀ (N : Nat) (k : Nat) (n : Nat) (rd1 : Nat → Nat), ln - k < N → (k ≤ ln) → (rlI tx k n rd1 (-9) (-9)) → KW g p l e (rmK 3 0 0) s m args below meth c 3 A H0 0 0 Q (TXW g.2.1 a tx rd1 ln n fk fp) [(0, .ref (a 0)), (1, .int (nI k))] 7 [] := by
    intro N
    induction N with
    | zero => intro k n rd1 hm; exact absurd hm (Nat.not_lt_zero _)
    | succ N ih7 =>
      intro k n rd1 hm7 hkl hI
      have hb := rlI_b hI
      refine zk_iload_n hc dX4_readTrains_7 1 rfl ?_
      refine zk_aload_n hc dX4_readTrains_8 0 rfl ?_
      refine zk_get hc inlX4 (ci := 4) rfl 0 1 (by decide) mw_10_9 rfl rfl rfl dX4_readTrains_9 ?_
      refine zk_icmp_geN hc 94 dX4_readTrains_12 (by decide) (by omega) (by omega) (fun h_1 => ?_) (fun h_1 => ?_)
      · refine zk_iconst hc (nI 1) dX4_readTrains_94 rfl ?_
        refine fin 0 0 _ _ _ _ (by decide) (by decide) dX4_readTrains_95 rfl (?_)
        exact ⟨_, _, _, _, rfl, cl_ok ((show k = ln by omega) ▸ hI)⟩
      · refine zk_aload_n hc dX4_readTrains_15 0 rfl ?_
        refine zk_get hc inlX4 (ci := 4) rfl 0 0 (by decide) mw_3_5 rfl rfl rfl dX4_readTrains_16 ?_
        refine zk_iload_n hc dX4_readTrains_19 1 rfl ?_
        refine zk_ialdN hc 1 rfl (by omega) (by decide) dX4_readTrains_20 ?_
        refine zk_istore_n hc (lv2 := [(2, .int (nI (tx k))), (0, .ref (a 0)), (1, .int (nI k))]) dX4_readTrains_21 (by decide) rfl ?_
        refine zk_iload_n hc dX4_readTrains_22 0 rfl ?_
        refine zk_bipush hc (nI 32) dX4_readTrains_23 rfl ?_
        refine zk_icmp_neN hc 31 dX4_readTrains_25 (by decide) (by have := htx k (by omega); omega) (by have := htx k (by omega); omega) (fun hbl => ?_) (fun hbl => ?_)
        · refine zk_iload_n hc dX4_readTrains_31 0 rfl ?_
          refine zk_bipush hc (nI 65) dX4_readTrains_32 rfl ?_
          refine zk_bipush hc (nI 70) dX4_readTrains_34 rfl ?_
          refine zk_callNi hc (rest := []) (ct_X6_within g l (nI (tx k)) (nI 65) (nI 70)) (host := "ShuntYard") nl_X4_31 mw_7_22 mw_7_21 mw_1_2 cd_X6_within ⟨Nat.le_of_ble_eq_true rfl, Nat.le_of_ble_eq_true rfl⟩ ⟨Nat.le_of_ble_eq_true rfl, Nat.le_of_ble_eq_true rfl⟩ ([]) (TXW g.2.1 a tx rd1 ln n fk fp) rfl rfl (Nat.le_of_ble_eq_true rfl) dX4_readTrains_36 (fun r W1 hp => ?_)
          obtain ⟨rfl, rfl⟩ := hp
          refine zk_ws (ws2 := TXW g.2.1 a tx rd1 ln n fk fp) rfl ?_
          by_cases rhL : nI 65 ≤ nI (tx k) ∧ nI (tx k) ≤ nI 70
          · refine zk_top (y := nI 1) (if_pos rhL) ?_
            have hL := (inN (by omega) (by have := htx k (by omega); omega) (by omega)).mp rhL
            refine zk_if_neN hc 49 dX4_readTrains_39 (by decide) (by omega) (fun h_2 => ?_) (fun h_2 => ?_)
            · refine zk_aload_n hc dX4_readTrains_49 1 rfl ?_
              refine zk_get hc inlX4 (ci := 4) rfl 0 3 (by decide) mw_10_18 rfl rfl rfl dX4_readTrains_50 ?_
              refine zk_bipush hc (nI 10) dX4_readTrains_53 rfl ?_
              refine zk_icmp_ltN hc 65 dX4_readTrains_55 (by decide) (by omega) (by omega) (fun h10 => ?_) (fun h10 => ?_)
              · refine zk_aload_n hc dX4_readTrains_65 1 rfl ?_
                refine zk_get hc inlX4 (ci := 4) rfl 0 2 (by decide) mw_3_6 rfl rfl rfl dX4_readTrains_66 ?_
                refine zk_aload_n hc dX4_readTrains_69 1 rfl ?_
                refine zk_get hc inlX4 (ci := 4) rfl 0 3 (by decide) mw_10_18 rfl rfl rfl dX4_readTrains_70 ?_
                refine zk_iload_n hc dX4_readTrains_73 0 rfl ?_
                refine zk_bipush hc (nI 65) dX4_readTrains_74 rfl ?_
                refine zk_isubN hc dX4_readTrains_76 (by omega) ?_
                refine zk_iastN hc 2 rfl (by omega) (by decide) (ws2 := TXW g.2.1 a tx (va_up rd1 n ((tx k) - 65)) ln n fk fp) rfl dX4_readTrains_77 ?_
                refine zk_aload_n hc dX4_readTrains_78 1 rfl ?_
                refine zk_dup hc dX4_readTrains_79 rfl ?_
                refine zk_get hc inlX4 (ci := 4) rfl 0 3 (by decide) mw_10_18 rfl rfl rfl dX4_readTrains_80 ?_
                refine zk_iconst hc (nI 1) dX4_readTrains_83 rfl ?_
                refine zk_iaddN hc dX4_readTrains_84 ?_
                refine zk_put hc inlX4 (ci := 4) rfl tyX4 tyX4_ok nmX4 0 3 (by decide) mw_10_18 rfl rfl rfl rfl rfl (Nat.le_of_ble_eq_true rfl) (ws2 := TXW g.2.1 a tx (va_up rd1 n ((tx k) - 65)) ln (n + 1) fk fp) rfl dX4_readTrains_85 ?_
                refine zk_iinc hc (v := nI (k + 1)) (lv2 := [(1, .int (nI (k + 1))), (2, .int (nI (tx k))), (0, .ref (a 0))]) dX4_readTrains_88 2 rfl (nq_inc rfl) (by decide) rfl ?_
                refine zk_goto hc 7 dX4_readTrains_91 (by decide) ?_
                refine zk_lv [2, 0] (lv2 := [(0, .ref (a 0)), (1, .int (nI (k + 1)))]) rfl ?_
                exact ih7 (k + 1) (n + 1) (va_up rd1 n ((tx k) - 65)) (by omega) (by omega) (rlI_letter hI hL (by omega))
              · refine zk_aload_n hc dX4_readTrains_58 1 rfl ?_
                refine zk_iconst hc (nI 4) dX4_readTrains_59 rfl ?_
                refine zk_iload_n hc dX4_readTrains_60 2 rfl ?_
                refine zk_callVi hc (rest := []) (ct_X4_foundFault g l a tx rd1 ln n fk fp (nI 4) (nI k)) gg_X4_35 cd_X4_foundFault ⟨Nat.le_of_ble_eq_true rfl, Nat.le_of_ble_eq_true rfl⟩ ⟨Nat.le_of_ble_eq_true rfl, Nat.le_of_ble_eq_true rfl⟩ ([]) ([]) rfl 0 rfl rfl rfl (Nat.le_of_ble_eq_true rfl) dX4_readTrains_61 (fun r W1 hp => ?_)
                obtain ⟨rfl, rfl⟩ := hp
                refine zk_ws (ws2 := TXW g.2.1 a tx rd1 ln n (nI 4) (nI k)) rfl ?_
                refine fin 0 0 _ _ _ _ (by decide) (by decide) dX4_readTrains_64 rfl (?_)
                exact ⟨_, _, _, _, rfl, cl_err (rlI_many hI hL (by omega)) (by omega) (by omega)⟩
            · exact absurd h_2 (by decide)
          · refine zk_top (y := nI 0) (if_neg rhL) ?_
            have hL : ¬ (65 ≤ tx k ∧ tx k ≤ 70) := fun z => rhL ((inN (by omega) (by have := htx k (by omega); omega) (by omega)).mpr z)
            refine zk_if_neN hc 49 dX4_readTrains_39 (by decide) (by omega) (fun h_3 => ?_) (fun h_3 => ?_)
            · exact absurd h_3 (by decide)
            · refine zk_aload_n hc dX4_readTrains_42 1 rfl ?_
              refine zk_iconst hc (nI 1) dX4_readTrains_43 rfl ?_
              refine zk_iload_n hc dX4_readTrains_44 2 rfl ?_
              refine zk_callVi hc (rest := []) (ct_X4_foundFault g l a tx rd1 ln n fk fp (nI 1) (nI k)) gg_X4_35 cd_X4_foundFault ⟨Nat.le_of_ble_eq_true rfl, Nat.le_of_ble_eq_true rfl⟩ ⟨Nat.le_of_ble_eq_true rfl, Nat.le_of_ble_eq_true rfl⟩ ([]) ([]) rfl 0 rfl rfl rfl (Nat.le_of_ble_eq_true rfl) dX4_readTrains_45 (fun r W1 hp => ?_)
              obtain ⟨rfl, rfl⟩ := hp
              refine zk_ws (ws2 := TXW g.2.1 a tx rd1 ln n (nI 1) (nI k)) rfl ?_
              refine fin 0 0 _ _ _ _ (by decide) (by decide) dX4_readTrains_48 rfl (?_)
              exact ⟨_, _, _, _, rfl, cl_err (rlI_bad hI hL hbl) (by omega) (by omega)⟩
        · refine zk_goto hc 88 dX4_readTrains_28 (by decide) ?_
          refine zk_iinc hc (v := nI (k + 1)) (lv2 := [(1, .int (nI (k + 1))), (2, .int (nI (tx k))), (0, .ref (a 0))]) dX4_readTrains_88 2 rfl (nq_inc rfl) (by decide) rfl ?_
          refine zk_goto hc 7 dX4_readTrains_91 (by decide) ?_
          refine zk_lv [2, 0] (lv2 := [(0, .ref (a 0)), (1, .int (nI (k + 1)))]) rfl ?_
          exact ih7 (k + 1) n rd1 (by omega) (by omega) (rlI_blank hI (by omega) hbl)
  refine zk_lv [1, 0] (lv2 := [(0, .ref (a 0)), (1, .int (nI 0))]) rfl ?_
  exact loop7 ((ln - 0) + 1) 0 0 rd (Nat.lt_succ_self _) (Nat.zero_le _) ⟨_, 0, 0, rfl, fun j hj => absurd hj (Nat.not_lt_zero _), by omega, by omega, rfl, rfl⟩
