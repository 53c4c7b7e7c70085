set_option maxHeartbeats 4000000 in
set_option maxRecDepth 100000 in
theorem ct_X7_fails (g : GG) (l : Launch) (a : Nat → Nat) (u pa im tx rw rb rk rt he tr be sp : Nat → Nat) (pm fl ln rm rd bn : Nat) (fk fp rs wk wp bm : Int32) (v w : Int32) : CtV g l yX7_fails cX7_fails 3 (rmK 1 0 0) (MW g.2.1 a u pa im tx rw rb rk rt he tr be sp pm fl ln rm rd bn fk fp rs wk wp bm) [.ref (a 0), .int v, .int w] (fun W1 => W1 = MW g.2.1 a u pa im tx rw rb rk rt he tr be sp pm fl ln rm rd bn fk fp rs v w bm) := by
  refine CtV.go RX7 rfl (by decide +kernel) (Nat.le_of_ble_eq_true rfl) ?_
  intro p e s m args below meth c A H0 Q hc hnm fin
  show KW g p l e (rmK 1 0 0) s m args below meth c 3 A H0 0 0 Q (MW g.2.1 a u pa im tx rw rb rk rt he tr be sp pm fl ln rm rd bn fk fp rs wk wp bm) [(0, .ref (a 0)), (1, .int v), (2, .int w)] 0 []
  refine zk_aload_n hc dX7_fails_0 0 rfl ?_
  refine zk_iload_n hc dX7_fails_1 1 rfl ?_
  refine zk_put hc inlX7 (ci := 7) rfl tyX7 tyX7_ok nmX7 0 16 (by decide) mw_11_19 rfl rfl rfl rfl rfl (Nat.le_of_ble_eq_true rfl) (ws2 := MW g.2.1 a u pa im tx rw rb rk rt he tr be sp pm fl ln rm rd bn fk fp rs v wp bm) rfl dX7_fails_2 ?_
  refine zk_aload_n hc dX7_fails_5 0 rfl ?_
  refine zk_iload_n hc dX7_fails_6 2 rfl ?_
  refine zk_put hc inlX7 (ci := 7) rfl tyX7 tyX7_ok nmX7 0 17 (by decide) mw_12_0 rfl rfl rfl rfl rfl (Nat.le_of_ble_eq_true rfl) (ws2 := MW g.2.1 a u pa im tx rw rb rk rt he tr be sp pm fl ln rm rd bn fk fp rs v w bm) rfl dX7_fails_7 ?_
  exact fin 0 0 _ _ _ (by decide) (by decide) dX7_fails_10 (rfl)

set_option maxHeartbeats 4000000 in
set_option maxRecDepth 100000 in
theorem ct_X7_isLetter (g : GG) (l : Launch) (v : Int32) : CtI g l yX7_isLetter cX7_isLetter 1 (some .boolean) (rmK 2 0 0) (([] : va_W)) [.int v] (fun r W1 => r = (if nI 65 ≤ v ∧ v ≤ nI 70 then nI 1 else nI 0) ∧ W1 = []) := by
  refine CtZ.go RX7 rfl (by decide +kernel) (Nat.le_of_ble_eq_true rfl) ?_
  intro p e s m args below meth c A H0 Q hc hnm fin
  show KW g p l e (rmK 2 0 0) s m args below meth c 1 A H0 0 0 Q (([] : va_W)) [(0, .int v)] 0 []
  refine zk_iload_n hc dX7_isLetter_0 0 rfl ?_
  refine zk_bipush hc (nI 65) dX7_isLetter_1 rfl ?_
  refine zk_bipush hc (nI 70) dX7_isLetter_3 rfl ?_
  refine zk_callSi hc (rest := []) (ct_X7_isIn g l v (nI 65) (nI 70)) gg_X7_59 cd_X7_isIn ⟨Nat.le_of_ble_eq_true rfl, Nat.le_of_ble_eq_true rfl⟩ ⟨Nat.le_of_ble_eq_true rfl, Nat.le_of_ble_eq_true rfl⟩ ([]) ([] : va_W) rfl rfl (Nat.le_of_ble_eq_true rfl) dX7_isLetter_5 (fun r W1 hp => ?_)
  obtain ⟨rfl, rfl⟩ := hp
  refine zk_ws (ws2 := ([] : va_W)) rfl ?_
  by_cases hi : nI 65 ≤ v ∧ v ≤ nI 70
  · refine zk_top (y := nI 1) (if_pos hi) ?_
    exact fin 0 0 _ _ _ _ (by decide) (by decide) dX7_isLetter_8 rfl (⟨by rw [if_pos hi], rfl⟩)
  · refine zk_top (y := nI 0) (if_neg hi) ?_
    exact fin 0 0 _ _ _ _ (by decide) (by decide) dX7_isLetter_8 rfl (⟨by rw [if_neg hi], rfl⟩)

set_option maxHeartbeats 4000000 in
set_option maxRecDepth 100000 in
theorem ct_X7_readWagons (g : GG) (l : Launch) (a : Nat → Nat) (u pa im tx rw rb rk rt he tr be sp : Nat → Nat) (pm fl ln rm rd bn : Nat) (fk fp rs wk wp bm : Int32) (hln : ln ≤ 60) (htx : ∀ j, j < ln → tx j < 128) : CtV g l yX7_readWagons cX7_readWagons 7 (rmK 3 0 0) (MW g.2.1 a u pa im tx rw rb rk rt he tr be sp pm fl ln rm rd bn fk fp rs wk wp bm) [.ref (a 0)] (fun W1 => ∃ (n2 : Nat) (b2 k2 : Nat → Nat) (v2 w2 : Int32), W1 = MW g.2.1 a u pa im tx rw b2 k2 rt he tr be sp pm fl ln rm n2 bn fk fp rs v2 w2 bm ∧ rwE tx ln n2 b2 k2 v2 w2) := by
  refine CtV.go RX7 rfl (by decide +kernel) (Nat.le_of_ble_eq_true rfl) ?_
  intro p e s m args below meth c A H0 Q hc hnm fin
  show KW g p l e (rmK 3 0 0) s m args below meth c 7 A H0 0 0 Q (MW g.2.1 a u pa im tx rw rb rk rt he tr be sp pm fl ln rm rd bn fk fp rs wk wp bm) [(0, .ref (a 0))] 0 []
  refine zk_aload_n hc dX7_readWagons_0 0 rfl ?_
  refine zk_bipush hc ((-9)) dX7_readWagons_1 rfl ?_
  refine zk_bipush hc ((-9)) dX7_readWagons_3 rfl ?_
  refine zk_callVv hc (rest := []) (ct_X7_fails g l a u pa im tx rw rb rk rt he tr be sp pm fl ln rm rd bn fk fp rs wk wp bm (-9) (-9)) gg_X7_136 cd_X7_fails ⟨Nat.le_of_ble_eq_true rfl, Nat.le_of_ble_eq_true rfl⟩ ⟨Nat.le_of_ble_eq_true rfl, Nat.le_of_ble_eq_true rfl⟩ ([]) ([]) rfl 0 rfl rfl rfl (Nat.le_of_ble_eq_true rfl) dX7_readWagons_5 (fun W1 hp => ?_)
  obtain rfl := hp
  refine zk_ws (ws2 := MW g.2.1 a u pa im tx rw rb rk rt he tr be sp pm fl ln rm rd bn fk fp rs (-9) (-9) bm) rfl ?_
  refine zk_aload_n hc dX7_readWagons_8 0 rfl ?_
  refine zk_iconst hc (nI 0) dX7_readWagons_9 rfl ?_
  refine zk_put hc inlX7 (ci := 7) rfl tyX7 tyX7_ok nmX7 0 12 (by decide) mw_11_9 rfl rfl rfl rfl rfl (Nat.le_of_ble_eq_true rfl) (ws2 := MW g.2.1 a u pa im tx rw rb rk rt he tr be sp pm fl ln rm 0 bn fk fp rs (-9) (-9) bm) rfl dX7_readWagons_10 ?_
  refine zk_iconst hc (nI 0) dX7_readWagons_13 rfl ?_
  refine zk_istore_n hc (lv2 := [(1, .int (nI 0)), (0, .ref (a 0))]) dX7_readWagons_14 (by decide) rfl ?_
  refine zk_iconst hc (nI 1) dX7_readWagons_15 rfl ?_
  refine zk_istore_n hc (lv2 := [(2, .int (nI 1)), (1, .int (nI 0)), (0, .ref (a 0))]) dX7_readWagons_16 (by decide) rfl ?_
  refine zk_iconst hc (nI 0) dX7_readWagons_17 rfl ?_
  refine zk_istore_n hc (lv2 := [(3, .int (nI 0)), (2, .int (nI 1)), (1, .int (nI 0)), (0, .ref (a 0))]) dX7_readWagons_18 (by decide) rfl ?_
  refine zk_iconst hc (nI 0) dX7_readWagons_19 rfl ?_
  refine zk_istore hc (lv2 := [(4, .int (nI 0)), (3, .int (nI 0)), (2, .int (nI 1)), (1, .int (nI 0)), (0, .ref (a 0))]) dX7_readWagons_20 (by decide) rfl ?_
  have loop22 : ∀ (N : Nat) (k : Nat) (s1 : Nat) (mn : Nat) (fs : Nat) (n : Nat) (rb1 : Nat → Nat) (rk1 : Nat → Nat) (wk1 : Int32) (wp1 : Int32), ln - k < N → (k ≤ ln) → (rwI tx k s1 mn fs n rb1 rk1 wk1 wp1) → KW g p l e (rmK 3 0 0) s m args below meth c 7 A H0 0 0 Q (MW g.2.1 a u pa im tx rw rb1 rk1 rt he tr be sp pm fl ln rm n bn fk fp rs wk1 wp1 bm) [(0, .ref (a 0)), (1, .int (nI s1)), (2, .int (nI mn)), (3, .int (nI fs)), (4, .int (nI k))] 22 [] := by
    intro N
    induction N with
    | zero => intro k s1 mn fs n rb1 rk1 wk1 wp1 hm; exact absurd hm (Nat.not_lt_zero _)
    | succ N ih22 =>
      intro k s1 mn fs n rb1 rk1 wk1 wp1 hm22 hkl hI
      have hb := rwI_b hI
      refine zk_iload hc dX7_readWagons_22 4 rfl ?_
      refine zk_aload_n hc dX7_readWagons_24 0 rfl ?_
      refine zk_get hc inlX7 (ci := 7) rfl 0 6 (by decide) mw_11_18 rfl rfl rfl dX7_readWagons_25 ?_
      refine zk_icmp_geN hc 262 dX7_readWagons_28 (by decide) (by omega) (by omega) (fun h_1 => ?_) (fun h_1 => ?_)
      · refine zk_aload_n hc dX7_readWagons_262 0 rfl ?_
        refine zk_get hc inlX7 (ci := 7) rfl 0 16 (by decide) mw_11_19 rfl rfl rfl dX7_readWagons_263 ?_
        refine zk_bipush hc ((-9)) dX7_readWagons_266 rfl ?_
        refine zk_icmp_ne hc 285 dX7_readWagons_268 (by decide) (fun hw2 => ?_) (fun hw2 => ?_)
        · refine fin 0 0 _ _ _ (by decide) (by decide) dX7_readWagons_285 (?_)
          exact ⟨_, _, _, _, _, rfl, rwE_err hI (by omega) hw2⟩
        · subst hw2
          have hI : rwI tx ln s1 mn fs n rb1 rk1 (-9) wp1 := (show k = ln by omega) ▸ hI
          refine zk_iload_n hc dX7_readWagons_271 1 rfl ?_
          refine zk_iconst hc (nI 1) dX7_readWagons_272 rfl ?_
          refine zk_icmp_neN hc 285 dX7_readWagons_273 (by decide) (by omega) (by omega) (fun hs1 => ?_) (fun hs1 => ?_)
          · refine fin 0 0 _ _ _ (by decide) (by decide) dX7_readWagons_285 (?_)
            exact ⟨_, _, _, _, _, rfl, rwE_ok hI hs1⟩
          · subst hs1
            refine zk_aload_n hc dX7_readWagons_276 0 rfl ?_
            refine zk_iconst hc (nI 2) dX7_readWagons_277 rfl ?_
            refine zk_aload_n hc dX7_readWagons_278 0 rfl ?_
            refine zk_get hc inlX7 (ci := 7) rfl 0 6 (by decide) mw_11_18 rfl rfl rfl dX7_readWagons_279 ?_
            refine zk_callVv hc (rest := []) (ct_X7_fails g l a u pa im tx rw rb1 rk1 rt he tr be sp pm fl ln rm n bn fk fp rs (-9) wp1 bm (nI 2) (nI ln)) gg_X7_136 cd_X7_fails ⟨Nat.le_of_ble_eq_true rfl, Nat.le_of_ble_eq_true rfl⟩ ⟨Nat.le_of_ble_eq_true rfl, Nat.le_of_ble_eq_true rfl⟩ ([]) ([]) rfl 0 rfl rfl rfl (Nat.le_of_ble_eq_true rfl) dX7_readWagons_282 (fun W1 hp => ?_)
            obtain rfl := hp
            refine zk_ws (ws2 := MW g.2.1 a u pa im tx rw rb1 rk1 rt he tr be sp pm fl ln rm n bn fk fp rs (nI 2) (nI ln) bm) rfl ?_
            refine fin 0 0 _ _ _ (by decide) (by decide) dX7_readWagons_285 (?_)
            exact ⟨_, _, _, _, _, rfl, rwE_2 hI⟩
      · refine zk_aload_n hc dX7_readWagons_31 0 rfl ?_
        refine zk_get hc inlX7 (ci := 7) rfl 0 16 (by decide) mw_11_19 rfl rfl rfl dX7_readWagons_32 ?_
        refine zk_bipush hc ((-9)) dX7_readWagons_35 rfl ?_
        refine zk_icmp_ne hc 262 dX7_readWagons_37 (by decide) (fun hw => ?_) (fun hw => ?_)
        · refine zk_aload_n hc dX7_readWagons_262 0 rfl ?_
          refine zk_get hc inlX7 (ci := 7) rfl 0 16 (by decide) mw_11_19 rfl rfl rfl dX7_readWagons_263 ?_
          refine zk_bipush hc ((-9)) dX7_readWagons_266 rfl ?_
          refine zk_icmp_ne hc 285 dX7_readWagons_268 (by decide) (fun hw2 => ?_) (fun hw2 => ?_)
          · refine fin 0 0 _ _ _ (by decide) (by decide) dX7_readWagons_285 (?_)
            exact ⟨_, _, _, _, _, rfl, rwE_err hI (by omega) hw2⟩
          · exact absurd hw2 (hw)
        · subst hw
          refine zk_aload_n hc dX7_readWagons_40 0 rfl ?_
          refine zk_get hc inlX7 (ci := 7) rfl 0 5 (by decide) mw_4_14 rfl rfl rfl dX7_readWagons_41 ?_
          refine zk_iload hc dX7_readWagons_44 4 rfl ?_
          refine zk_ialdN hc 4 rfl (by omega) (by decide) dX7_readWagons_46 ?_
          refine zk_istore hc (lv2 := [(5, .int (nI (tx k))), (0, .ref (a 0)), (1, .int (nI s1)), (2, .int (nI mn)), (3, .int (nI fs)), (4, .int (nI k))]) dX7_readWagons_47 (by decide) rfl ?_
          refine zk_iload_n hc dX7_readWagons_49 2 rfl ?_
          refine zk_iconst hc (nI 2) dX7_readWagons_50 rfl ?_
          refine zk_icmp_geN hc 144 dX7_readWagons_51 (by decide) (by omega) (by omega) (fun h1 => ?_) (fun h1 => ?_)
          · refine zk_iload_n hc dX7_readWagons_144 2 rfl ?_
            refine zk_if_neN hc 171 dX7_readWagons_145 (by decide) (by omega) (fun hs0 => ?_) (fun hs0 => ?_)
            · refine zk_iload_n hc dX7_readWagons_171 2 rfl ?_
              refine zk_iconst hc (nI 2) dX7_readWagons_172 rfl ?_
              refine zk_icmp_neN hc 232 dX7_readWagons_173 (by decide) (by omega) (by omega) (fun hs2 => ?_) (fun hs2 => ?_)
              · refine zk_iload hc dX7_readWagons_232 0 rfl ?_
                refine zk_bipush hc (nI 32) dX7_readWagons_234 rfl ?_
                refine zk_icmp_neN hc 249 dX7_readWagons_236 (by decide) (by have := htx k (by omega); omega) (by have := htx k (by omega); omega) (fun hbl => ?_) (fun hbl => ?_)
                · refine zk_aload_n hc dX7_readWagons_249 1 rfl ?_
                  refine zk_iconst hc (nI 1) dX7_readWagons_250 rfl ?_
                  refine zk_iload hc dX7_readWagons_251 5 rfl ?_
                  refine zk_callVv hc (rest := []) (ct_X7_fails g l a u pa im tx rw rb1 rk1 rt he tr be sp pm fl ln rm n bn fk fp rs (-9) wp1 bm (nI 1) (nI k)) gg_X7_136 cd_X7_fails ⟨Nat.le_of_ble_eq_true rfl, Nat.le_of_ble_eq_true rfl⟩ ⟨Nat.le_of_ble_eq_true rfl, Nat.le_of_ble_eq_true rfl⟩ ([]) ([]) rfl 0 rfl rfl rfl (Nat.le_of_ble_eq_true rfl) dX7_readWagons_253 (fun W1 hp => ?_)
                  obtain rfl := hp
                  refine zk_ws (ws2 := MW g.2.1 a u pa im tx rw rb1 rk1 rt he tr be sp pm fl ln rm n bn fk fp rs (nI 1) (nI k) bm) rfl ?_
                  refine zk_iinc hc (v := nI (k + 1)) (lv2 := [(4, .int (nI (k + 1))), (5, .int (nI (tx k))), (0, .ref (a 0)), (1, .int (nI s1)), (2, .int (nI mn)), (3, .int (nI fs))]) dX7_readWagons_256 5 rfl (nq_inc rfl) (by decide) rfl ?_
                  refine zk_goto hc 22 dX7_readWagons_259 (by decide) ?_
                  refine zk_lv [2, 3, 4, 5, 0] (lv2 := [(0, .ref (a 0)), (1, .int (nI s1)), (2, .int (nI mn)), (3, .int (nI fs)), (4, .int (nI (k + 1)))]) rfl ?_
                  exact ih22 (k + 1) s1 mn fs n rb1 rk1 (nI 1) (nI k) (by omega) (by omega) (rwI_bad hI (by omega) (by omega) (by omega) (by omega))
                · refine zk_iload_n hc dX7_readWagons_239 2 rfl ?_
                  refine zk_iconst hc (nI 1) dX7_readWagons_240 rfl ?_
                  refine zk_icmp_eqN hc 249 dX7_readWagons_241 (by decide) (by omega) (by omega) (fun hs1 => ?_) (fun hs1 => ?_)
                  · refine zk_aload_n hc dX7_readWagons_249 1 rfl ?_
                    refine zk_iconst hc (nI 1) dX7_readWagons_250 rfl ?_
                    refine zk_iload hc dX7_readWagons_251 5 rfl ?_
                    refine zk_callVv hc (rest := []) (ct_X7_fails g l a u pa im tx rw rb1 rk1 rt he tr be sp pm fl ln rm n bn fk fp rs (-9) wp1 bm (nI 1) (nI k)) gg_X7_136 cd_X7_fails ⟨Nat.le_of_ble_eq_true rfl, Nat.le_of_ble_eq_true rfl⟩ ⟨Nat.le_of_ble_eq_true rfl, Nat.le_of_ble_eq_true rfl⟩ ([]) ([]) rfl 0 rfl rfl rfl (Nat.le_of_ble_eq_true rfl) dX7_readWagons_253 (fun W1 hp => ?_)
                    obtain rfl := hp
                    refine zk_ws (ws2 := MW g.2.1 a u pa im tx rw rb1 rk1 rt he tr be sp pm fl ln rm n bn fk fp rs (nI 1) (nI k) bm) rfl ?_
                    refine zk_iinc hc (v := nI (k + 1)) (lv2 := [(4, .int (nI (k + 1))), (5, .int (nI (tx k))), (0, .ref (a 0)), (1, .int (nI s1)), (2, .int (nI mn)), (3, .int (nI fs))]) dX7_readWagons_256 5 rfl (nq_inc rfl) (by decide) rfl ?_
                    refine zk_goto hc 22 dX7_readWagons_259 (by decide) ?_
                    refine zk_lv [2, 3, 4, 5, 0] (lv2 := [(0, .ref (a 0)), (1, .int (nI s1)), (2, .int (nI mn)), (3, .int (nI fs)), (4, .int (nI (k + 1)))]) rfl ?_
                    exact ih22 (k + 1) s1 mn fs n rb1 rk1 (nI 1) (nI k) (by omega) (by omega) (rwI_bad hI (by omega) (by omega) (by omega) (by omega))
                  · refine zk_iconst hc (nI 0) dX7_readWagons_244 rfl ?_
                    refine zk_istore_n hc (lv2 := [(1, .int (nI 0)), (5, .int (nI (tx k))), (0, .ref (a 0)), (2, .int (nI mn)), (3, .int (nI fs)), (4, .int (nI k))]) dX7_readWagons_245 (by decide) rfl ?_
                    refine zk_goto hc 256 dX7_readWagons_246 (by decide) ?_
                    refine zk_iinc hc (v := nI (k + 1)) (lv2 := [(4, .int (nI (k + 1))), (1, .int (nI 0)), (5, .int (nI (tx k))), (0, .ref (a 0)), (2, .int (nI mn)), (3, .int (nI fs))]) dX7_readWagons_256 5 rfl (nq_inc rfl) (by decide) rfl ?_
                    refine zk_goto hc 22 dX7_readWagons_259 (by decide) ?_
                    refine zk_lv [3, 1, 4, 5, 0] (lv2 := [(0, .ref (a 0)), (1, .int (nI 0)), (2, .int (nI mn)), (3, .int (nI fs)), (4, .int (nI (k + 1)))]) rfl ?_
                    exact ih22 (k + 1) 0 mn fs n rb1 rk1 (-9) wp1 (by omega) (by omega) (rwI_blank hI hs1 hbl)
              · subst hs2
                refine zk_iload hc dX7_readWagons_176 0 rfl ?_
                refine zk_bipush hc (nI 102) dX7_readWagons_178 rfl ?_
                refine zk_icmp_eqN hc 190 dX7_readWagons_180 (by decide) (by have := htx k (by omega); omega) (by have := htx k (by omega); omega) (fun hf => ?_) (fun hf => ?_)
                · refine zk_iload_n hc dX7_readWagons_190 4 rfl ?_
                  refine zk_istore hc (lv2 := [(6, .int (nI fs)), (5, .int (nI (tx k))), (0, .ref (a 0)), (1, .int (nI 2)), (2, .int (nI mn)), (3, .int (nI fs)), (4, .int (nI k))]) dX7_readWagons_191 (by decide) rfl ?_
                  refine zk_ws (ws2 := MW g.2.1 a u pa im tx rw rb1 (va_cpy (fun _ => 1) rk1 0 fs 0) rt he tr be sp pm fl ln rm n bn fk fp rs (-9) wp1 bm) (congrArg (fun zz => MW g.2.1 a u pa im tx rw rb1 zz rt he tr be sp pm fl ln rm n bn fk fp rs (-9) wp1 bm) (show rk1 = va_cpy (fun _ => 1) rk1 0 fs 0 from cpy_zero _ _ _ _)) ?_
                  have loop193 : ∀ (N : Nat) (i : Nat), n - fs - i < N → (i ≤ n - fs) → KW g p l e (rmK 3 0 0) s m args below meth c 7 A H0 0 0 Q (MW g.2.1 a u pa im tx rw rb1 (va_cpy (fun _ => 1) rk1 0 fs i) rt he tr be sp pm fl ln rm n bn fk fp rs (-9) wp1 bm) [(0, .ref (a 0)), (1, .int (nI 2)), (2, .int (nI mn)), (3, .int (nI fs)), (4, .int (nI k)), (5, .int (nI (tx k))), (6, .int (nI (fs + i)))] 193 [] := by
                    intro N
                    induction N with
                    | zero => intro i hm; exact absurd hm (Nat.not_lt_zero _)
                    | succ N ih193 =>
                      intro i hm193 hi
                      refine zk_iload hc dX7_readWagons_193 6 rfl ?_
                      refine zk_aload_n hc dX7_readWagons_195 0 rfl ?_
                      refine zk_get hc inlX7 (ci := 7) rfl 0 12 (by decide) mw_11_9 rfl rfl rfl dX7_readWagons_196 ?_
                      refine zk_icmp_geN hc 227 dX7_readWagons_199 (by decide) (by omega) (by omega) (fun h_2 => ?_) (fun h_2 => ?_)
                      · refine zk_ws (ws2 := MW g.2.1 a u pa im tx rw rb1 (va_cpy (fun _ => 1) rk1 0 fs (n - fs)) rt he tr be sp pm fl ln rm n bn fk fp rs (-9) wp1 bm) (congrArg (fun zz => MW g.2.1 a u pa im tx rw rb1 zz rt he tr be sp pm fl ln rm n bn fk fp rs (-9) wp1 bm) (show va_cpy (fun _ => 1) rk1 0 fs i = va_cpy (fun _ => 1) rk1 0 fs (n - fs) from congrArg (va_cpy (fun _ => 1) rk1 0 fs) (by omega))) ?_
                        refine zk_iconst hc (nI 3) dX7_readWagons_227 rfl ?_
                        refine zk_istore_n hc (lv2 := [(1, .int (nI 3)), (0, .ref (a 0)), (2, .int (nI mn)), (3, .int (nI fs)), (4, .int (nI k)), (5, .int (nI (tx k))), (6, .int (nI (fs + i)))]) dX7_readWagons_228 (by decide) rfl ?_
                        refine zk_goto hc 256 dX7_readWagons_229 (by decide) ?_
                        refine zk_iinc hc (v := nI (k + 1)) (lv2 := [(4, .int (nI (k + 1))), (1, .int (nI 3)), (0, .ref (a 0)), (2, .int (nI mn)), (3, .int (nI fs)), (5, .int (nI (tx k))), (6, .int (nI (fs + i)))]) dX7_readWagons_256 4 rfl (nq_inc rfl) (by decide) rfl ?_
                        refine zk_goto hc 22 dX7_readWagons_259 (by decide) ?_
                        refine zk_lv [2, 1, 3, 4, 0] (lv2 := [(0, .ref (a 0)), (1, .int (nI 3)), (2, .int (nI mn)), (3, .int (nI fs)), (4, .int (nI (k + 1)))]) rfl ?_
                        exact ih22 (k + 1) 3 mn fs n rb1 (va_cpy (fun _ => 1) rk1 0 fs (n - fs)) (-9) wp1 (by omega) (by omega) (by have := rwI_kind hI (Or.inl hf); rw [if_pos hf] at this; exact this)
                      · refine zk_aload_n hc dX7_readWagons_202 0 rfl ?_
                        refine zk_get hc inlX7 (ci := 7) rfl 0 14 (by decide) mw_4_20 rfl rfl rfl dX7_readWagons_203 ?_
                        refine zk_iload hc dX7_readWagons_206 6 rfl ?_
                        refine zk_iload hc dX7_readWagons_208 5 rfl ?_
                        refine zk_bipush hc (nI 102) dX7_readWagons_210 rfl ?_
                        refine zk_icmp_neN hc 219 dX7_readWagons_212 (by decide) (by have := htx k (by omega); omega) (by have := htx k (by omega); omega) (fun hz => ?_) (fun hz => ?_)
                        · exact absurd hz (by omega)
                        · refine zk_iconst hc (nI 1) dX7_readWagons_215 rfl ?_
                          refine zk_goto hc 220 dX7_readWagons_216 (by decide) ?_
                          refine zk_iastN hc 7 rfl (by omega) (by decide) (ws2 := MW g.2.1 a u pa im tx rw rb1 (va_up (va_cpy (fun _ => 1) rk1 0 fs i) (fs + i) 1) rt he tr be sp pm fl ln rm n bn fk fp rs (-9) wp1 bm) rfl dX7_readWagons_220 ?_
                          refine zk_ws (ws2 := MW g.2.1 a u pa im tx rw rb1 (va_cpy (fun _ => 1) rk1 0 fs (i + 1)) rt he tr be sp pm fl ln rm n bn fk fp rs (-9) wp1 bm) (congrArg (fun zz => MW g.2.1 a u pa im tx rw rb1 zz rt he tr be sp pm fl ln rm n bn fk fp rs (-9) wp1 bm) (show va_up (va_cpy (fun _ => 1) rk1 0 fs i) (fs + i) 1 = va_cpy (fun _ => 1) rk1 0 fs (i + 1) from cpy_step (by omega) rfl)) ?_
                          refine zk_iinc hc (v := nI (fs + i + 1)) (lv2 := [(6, .int (nI (fs + i + 1))), (0, .ref (a 0)), (1, .int (nI 2)), (2, .int (nI mn)), (3, .int (nI fs)), (4, .int (nI k)), (5, .int (nI (tx k)))]) dX7_readWagons_221 6 rfl (nq_inc rfl) (by decide) rfl ?_
                          refine zk_goto hc 193 dX7_readWagons_224 (by decide) ?_
                          refine zk_lv [1, 2, 3, 4, 5, 6, 0] (lv2 := [(0, .ref (a 0)), (1, .int (nI 2)), (2, .int (nI mn)), (3, .int (nI fs)), (4, .int (nI k)), (5, .int (nI (tx k))), (6, .int (nI (fs + i + 1)))]) rfl ?_
                          exact ih193 (i + 1) (by omega) (by omega)
                  refine zk_lv [2, 3, 4, 5, 6, 1, 0] (lv2 := [(0, .ref (a 0)), (1, .int (nI 2)), (2, .int (nI mn)), (3, .int (nI fs)), (4, .int (nI k)), (5, .int (nI (tx k))), (6, .int (nI fs))]) rfl ?_
                  exact loop193 ((n - fs - 0) + 1) 0 (Nat.lt_succ_self _) (Nat.zero_le _)
                · refine zk_iload hc dX7_readWagons_183 0 rfl ?_
                  refine zk_bipush hc (nI 120) dX7_readWagons_185 rfl ?_
                  refine zk_icmp_neN hc 232 dX7_readWagons_187 (by decide) (by have := htx k (by omega); omega) (by have := htx k (by omega); omega) (fun hx => ?_) (fun hx => ?_)
                  · refine zk_iload hc dX7_readWagons_232 0 rfl ?_
                    refine zk_bipush hc (nI 32) dX7_readWagons_234 rfl ?_
                    refine zk_icmp_neN hc 249 dX7_readWagons_236 (by decide) (by have := htx k (by omega); omega) (by have := htx k (by omega); omega) (fun hbl => ?_) (fun hbl => ?_)
                    · refine zk_aload_n hc dX7_readWagons_249 1 rfl ?_
                      refine zk_iconst hc (nI 1) dX7_readWagons_250 rfl ?_
                      refine zk_iload hc dX7_readWagons_251 5 rfl ?_
                      refine zk_callVv hc (rest := []) (ct_X7_fails g l a u pa im tx rw rb1 rk1 rt he tr be sp pm fl ln rm n bn fk fp rs (-9) wp1 bm (nI 1) (nI k)) gg_X7_136 cd_X7_fails ⟨Nat.le_of_ble_eq_true rfl, Nat.le_of_ble_eq_true rfl⟩ ⟨Nat.le_of_ble_eq_true rfl, Nat.le_of_ble_eq_true rfl⟩ ([]) ([]) rfl 0 rfl rfl rfl (Nat.le_of_ble_eq_true rfl) dX7_readWagons_253 (fun W1 hp => ?_)
                      obtain rfl := hp
                      refine zk_ws (ws2 := MW g.2.1 a u pa im tx rw rb1 rk1 rt he tr be sp pm fl ln rm n bn fk fp rs (nI 1) (nI k) bm) rfl ?_
                      refine zk_iinc hc (v := nI (k + 1)) (lv2 := [(4, .int (nI (k + 1))), (5, .int (nI (tx k))), (0, .ref (a 0)), (1, .int (nI 2)), (2, .int (nI mn)), (3, .int (nI fs))]) dX7_readWagons_256 5 rfl (nq_inc rfl) (by decide) rfl ?_
                      refine zk_goto hc 22 dX7_readWagons_259 (by decide) ?_
                      refine zk_lv [2, 3, 4, 5, 0] (lv2 := [(0, .ref (a 0)), (1, .int (nI 2)), (2, .int (nI mn)), (3, .int (nI fs)), (4, .int (nI (k + 1)))]) rfl ?_
                      exact ih22 (k + 1) 2 mn fs n rb1 rk1 (nI 1) (nI k) (by omega) (by omega) (rwI_bad hI (by omega) (by omega) (by omega) (by omega))
                    · refine zk_iload_n hc dX7_readWagons_239 2 rfl ?_
                      refine zk_iconst hc (nI 1) dX7_readWagons_240 rfl ?_
                      refine zk_icmp_eqN hc 249 dX7_readWagons_241 (by decide) (by omega) (by omega) (fun hs1 => ?_) (fun hs1 => ?_)
                      · exact absurd hs1 (by decide)
                      · refine zk_iconst hc (nI 0) dX7_readWagons_244 rfl ?_
                        refine zk_istore_n hc (lv2 := [(1, .int (nI 0)), (5, .int (nI (tx k))), (0, .ref (a 0)), (2, .int (nI mn)), (3, .int (nI fs)), (4, .int (nI k))]) dX7_readWagons_245 (by decide) rfl ?_
                        refine zk_goto hc 256 dX7_readWagons_246 (by decide) ?_
                        refine zk_iinc hc (v := nI (k + 1)) (lv2 := [(4, .int (nI (k + 1))), (1, .int (nI 0)), (5, .int (nI (tx k))), (0, .ref (a 0)), (2, .int (nI mn)), (3, .int (nI fs))]) dX7_readWagons_256 5 rfl (nq_inc rfl) (by decide) rfl ?_
                        refine zk_goto hc 22 dX7_readWagons_259 (by decide) ?_
                        refine zk_lv [3, 1, 4, 5, 0] (lv2 := [(0, .ref (a 0)), (1, .int (nI 0)), (2, .int (nI mn)), (3, .int (nI fs)), (4, .int (nI (k + 1)))]) rfl ?_
                        exact ih22 (k + 1) 0 mn fs n rb1 rk1 (-9) wp1 (by omega) (by omega) (rwI_blank hI hs1 hbl)
                  · refine zk_iload_n hc dX7_readWagons_190 4 rfl ?_
                    refine zk_istore hc (lv2 := [(6, .int (nI fs)), (5, .int (nI (tx k))), (0, .ref (a 0)), (1, .int (nI 2)), (2, .int (nI mn)), (3, .int (nI fs)), (4, .int (nI k))]) dX7_readWagons_191 (by decide) rfl ?_
                    refine zk_ws (ws2 := MW g.2.1 a u pa im tx rw rb1 (va_cpy (fun _ => 2) rk1 0 fs 0) rt he tr be sp pm fl ln rm n bn fk fp rs (-9) wp1 bm) (congrArg (fun zz => MW g.2.1 a u pa im tx rw rb1 zz rt he tr be sp pm fl ln rm n bn fk fp rs (-9) wp1 bm) (show rk1 = va_cpy (fun _ => 2) rk1 0 fs 0 from cpy_zero _ _ _ _)) ?_
                    have loop193 : ∀ (N : Nat) (i : Nat), n - fs - i < N → (i ≤ n - fs) → KW g p l e (rmK 3 0 0) s m args below meth c 7 A H0 0 0 Q (MW g.2.1 a u pa im tx rw rb1 (va_cpy (fun _ => 2) rk1 0 fs i) rt he tr be sp pm fl ln rm n bn fk fp rs (-9) wp1 bm) [(0, .ref (a 0)), (1, .int (nI 2)), (2, .int (nI mn)), (3, .int (nI fs)), (4, .int (nI k)), (5, .int (nI (tx k))), (6, .int (nI (fs + i)))] 193 [] := by
                      intro N
                      induction N with
                      | zero => intro i hm; exact absurd hm (Nat.not_lt_zero _)
                      | succ N ih193 =>
                        intro i hm193 hi
                        refine zk_iload hc dX7_readWagons_193 6 rfl ?_
                        refine zk_aload_n hc dX7_readWagons_195 0 rfl ?_
                        refine zk_get hc inlX7 (ci := 7) rfl 0 12 (by decide) mw_11_9 rfl rfl rfl dX7_readWagons_196 ?_
                        refine zk_icmp_geN hc 227 dX7_readWagons_199 (by decide) (by omega) (by omega) (fun h_3 => ?_) (fun h_3 => ?_)
                        · refine zk_ws (ws2 := MW g.2.1 a u pa im tx rw rb1 (va_cpy (fun _ => 2) rk1 0 fs (n - fs)) rt he tr be sp pm fl ln rm n bn fk fp rs (-9) wp1 bm) (congrArg (fun zz => MW g.2.1 a u pa im tx rw rb1 zz rt he tr be sp pm fl ln rm n bn fk fp rs (-9) wp1 bm) (show va_cpy (fun _ => 2) rk1 0 fs i = va_cpy (fun _ => 2) rk1 0 fs (n - fs) from congrArg (va_cpy (fun _ => 2) rk1 0 fs) (by omega))) ?_
                          refine zk_iconst hc (nI 3) dX7_readWagons_227 rfl ?_
                          refine zk_istore_n hc (lv2 := [(1, .int (nI 3)), (0, .ref (a 0)), (2, .int (nI mn)), (3, .int (nI fs)), (4, .int (nI k)), (5, .int (nI (tx k))), (6, .int (nI (fs + i)))]) dX7_readWagons_228 (by decide) rfl ?_
                          refine zk_goto hc 256 dX7_readWagons_229 (by decide) ?_
                          refine zk_iinc hc (v := nI (k + 1)) (lv2 := [(4, .int (nI (k + 1))), (1, .int (nI 3)), (0, .ref (a 0)), (2, .int (nI mn)), (3, .int (nI fs)), (5, .int (nI (tx k))), (6, .int (nI (fs + i)))]) dX7_readWagons_256 4 rfl (nq_inc rfl) (by decide) rfl ?_
                          refine zk_goto hc 22 dX7_readWagons_259 (by decide) ?_
                          refine zk_lv [2, 1, 3, 4, 0] (lv2 := [(0, .ref (a 0)), (1, .int (nI 3)), (2, .int (nI mn)), (3, .int (nI fs)), (4, .int (nI (k + 1)))]) rfl ?_
                          exact ih22 (k + 1) 3 mn fs n rb1 (va_cpy (fun _ => 2) rk1 0 fs (n - fs)) (-9) wp1 (by omega) (by omega) (by have := rwI_kind hI (Or.inr hx); rw [if_neg (by omega)] at this; exact this)
                        · refine zk_aload_n hc dX7_readWagons_202 0 rfl ?_
                          refine zk_get hc inlX7 (ci := 7) rfl 0 14 (by decide) mw_4_20 rfl rfl rfl dX7_readWagons_203 ?_
                          refine zk_iload hc dX7_readWagons_206 6 rfl ?_
                          refine zk_iload hc dX7_readWagons_208 5 rfl ?_
                          refine zk_bipush hc (nI 102) dX7_readWagons_210 rfl ?_
                          refine zk_icmp_neN hc 219 dX7_readWagons_212 (by decide) (by have := htx k (by omega); omega) (by have := htx k (by omega); omega) (fun hz => ?_) (fun hz => ?_)
                          · refine zk_iconst hc (nI 2) dX7_readWagons_219 rfl ?_
                            refine zk_iastN hc 7 rfl (by omega) (by decide) (ws2 := MW g.2.1 a u pa im tx rw rb1 (va_up (va_cpy (fun _ => 2) rk1 0 fs i) (fs + i) 2) rt he tr be sp pm fl ln rm n bn fk fp rs (-9) wp1 bm) rfl dX7_readWagons_220 ?_
                            refine zk_ws (ws2 := MW g.2.1 a u pa im tx rw rb1 (va_cpy (fun _ => 2) rk1 0 fs (i + 1)) rt he tr be sp pm fl ln rm n bn fk fp rs (-9) wp1 bm) (congrArg (fun zz => MW g.2.1 a u pa im tx rw rb1 zz rt he tr be sp pm fl ln rm n bn fk fp rs (-9) wp1 bm) (show va_up (va_cpy (fun _ => 2) rk1 0 fs i) (fs + i) 2 = va_cpy (fun _ => 2) rk1 0 fs (i + 1) from cpy_step (by omega) rfl)) ?_
                            refine zk_iinc hc (v := nI (fs + i + 1)) (lv2 := [(6, .int (nI (fs + i + 1))), (0, .ref (a 0)), (1, .int (nI 2)), (2, .int (nI mn)), (3, .int (nI fs)), (4, .int (nI k)), (5, .int (nI (tx k)))]) dX7_readWagons_221 6 rfl (nq_inc rfl) (by decide) rfl ?_
                            refine zk_goto hc 193 dX7_readWagons_224 (by decide) ?_
                            refine zk_lv [1, 2, 3, 4, 5, 6, 0] (lv2 := [(0, .ref (a 0)), (1, .int (nI 2)), (2, .int (nI mn)), (3, .int (nI fs)), (4, .int (nI k)), (5, .int (nI (tx k))), (6, .int (nI (fs + i + 1)))]) rfl ?_
                            exact ih193 (i + 1) (by omega) (by omega)
                          · exact absurd hz (by omega)
                    refine zk_lv [2, 3, 4, 5, 6, 1, 0] (lv2 := [(0, .ref (a 0)), (1, .int (nI 2)), (2, .int (nI mn)), (3, .int (nI fs)), (4, .int (nI k)), (5, .int (nI (tx k))), (6, .int (nI fs))]) rfl ?_
                    exact loop193 ((n - fs - 0) + 1) 0 (Nat.lt_succ_self _) (Nat.zero_le _)
            · subst hs0
              refine zk_iload hc dX7_readWagons_148 0 rfl ?_
              refine zk_bipush hc (nI 49) dX7_readWagons_150 rfl ?_
              refine zk_bipush hc (nI 56) dX7_readWagons_152 rfl ?_
              refine zk_callSi hc (rest := []) (ct_X7_isIn g l (nI (tx k)) (nI 49) (nI 56)) gg_X7_59 cd_X7_isIn ⟨Nat.le_of_ble_eq_true rfl, Nat.le_of_ble_eq_true rfl⟩ ⟨Nat.le_of_ble_eq_true rfl, Nat.le_of_ble_eq_true rfl⟩ ([]) (MW g.2.1 a u pa im tx rw rb1 rk1 rt he tr be sp pm fl ln rm n bn fk fp rs (-9) wp1 bm) rfl rfl (Nat.le_of_ble_eq_true rfl) dX7_readWagons_154 (fun r W1 hp => ?_)
              obtain ⟨rfl, rfl⟩ := hp
              refine zk_ws (ws2 := MW g.2.1 a u pa im tx rw rb1 rk1 rt he tr be sp pm fl ln rm n bn fk fp rs (-9) wp1 bm) rfl ?_
              by_cases hd0 : nI 49 ≤ nI (tx k) ∧ nI (tx k) ≤ nI 56
              · refine zk_top (y := nI 1) (if_pos hd0) ?_
                have hD := (inN (by omega) (by have := htx k (by omega); omega) (by omega)).mp hd0
                refine zk_if_eqN hc 171 dX7_readWagons_157 (by decide) (by omega) (fun h_4 => ?_) (fun h_4 => ?_)
                · exact absurd h_4 (by decide)
                · refine zk_iload hc dX7_readWagons_160 0 rfl ?_
                  refine zk_bipush hc (nI 48) dX7_readWagons_162 rfl ?_
                  refine zk_isubN hc dX7_readWagons_164 (by omega) ?_
                  refine zk_istore_n hc (lv2 := [(2, .int (nI ((tx k) - 48))), (5, .int (nI (tx k))), (0, .ref (a 0)), (1, .int (nI 0)), (3, .int (nI fs)), (4, .int (nI k))]) dX7_readWagons_165 (by decide) rfl ?_
                  refine zk_iconst hc (nI 1) dX7_readWagons_166 rfl ?_
                  refine zk_istore_n hc (lv2 := [(1, .int (nI 1)), (2, .int (nI ((tx k) - 48))), (5, .int (nI (tx k))), (0, .ref (a 0)), (3, .int (nI fs)), (4, .int (nI k))]) dX7_readWagons_167 (by decide) rfl ?_
                  refine zk_goto hc 256 dX7_readWagons_168 (by decide) ?_
                  refine zk_iinc hc (v := nI (k + 1)) (lv2 := [(4, .int (nI (k + 1))), (1, .int (nI 1)), (2, .int (nI ((tx k) - 48))), (5, .int (nI (tx k))), (0, .ref (a 0)), (3, .int (nI fs))]) dX7_readWagons_256 5 rfl (nq_inc rfl) (by decide) rfl ?_
                  refine zk_goto hc 22 dX7_readWagons_259 (by decide) ?_
                  refine zk_lv [4, 1, 2, 5, 0] (lv2 := [(0, .ref (a 0)), (1, .int (nI 1)), (2, .int (nI ((tx k) - 48))), (3, .int (nI fs)), (4, .int (nI (k + 1)))]) rfl ?_
                  exact ih22 (k + 1) 1 ((tx k) - 48) fs n rb1 rk1 (-9) wp1 (by omega) (by omega) (rwI_digit hI hD)
              · refine zk_top (y := nI 0) (if_neg hd0) ?_
                have hD : ¬ (49 ≤ tx k ∧ tx k ≤ 56) := fun z => hd0 ((inN (by omega) (by have := htx k (by omega); omega) (by omega)).mpr z)
                refine zk_if_eqN hc 171 dX7_readWagons_157 (by decide) (by omega) (fun h_5 => ?_) (fun h_5 => ?_)
                · refine zk_iload_n hc dX7_readWagons_171 2 rfl ?_
                  refine zk_iconst hc (nI 2) dX7_readWagons_172 rfl ?_
                  refine zk_icmp_neN hc 232 dX7_readWagons_173 (by decide) (by omega) (by omega) (fun hs2 => ?_) (fun hs2 => ?_)
                  · refine zk_iload hc dX7_readWagons_232 0 rfl ?_
                    refine zk_bipush hc (nI 32) dX7_readWagons_234 rfl ?_
                    refine zk_icmp_neN hc 249 dX7_readWagons_236 (by decide) (by have := htx k (by omega); omega) (by have := htx k (by omega); omega) (fun hbl => ?_) (fun hbl => ?_)
                    · refine zk_aload_n hc dX7_readWagons_249 1 rfl ?_
                      refine zk_iconst hc (nI 1) dX7_readWagons_250 rfl ?_
                      refine zk_iload hc dX7_readWagons_251 5 rfl ?_
                      refine zk_callVv hc (rest := []) (ct_X7_fails g l a u pa im tx rw rb1 rk1 rt he tr be sp pm fl ln rm n bn fk fp rs (-9) wp1 bm (nI 1) (nI k)) gg_X7_136 cd_X7_fails ⟨Nat.le_of_ble_eq_true rfl, Nat.le_of_ble_eq_true rfl⟩ ⟨Nat.le_of_ble_eq_true rfl, Nat.le_of_ble_eq_true rfl⟩ ([]) ([]) rfl 0 rfl rfl rfl (Nat.le_of_ble_eq_true rfl) dX7_readWagons_253 (fun W1 hp => ?_)
                      obtain rfl := hp
                      refine zk_ws (ws2 := MW g.2.1 a u pa im tx rw rb1 rk1 rt he tr be sp pm fl ln rm n bn fk fp rs (nI 1) (nI k) bm) rfl ?_
                      refine zk_iinc hc (v := nI (k + 1)) (lv2 := [(4, .int (nI (k + 1))), (5, .int (nI (tx k))), (0, .ref (a 0)), (1, .int (nI 0)), (2, .int (nI mn)), (3, .int (nI fs))]) dX7_readWagons_256 5 rfl (nq_inc rfl) (by decide) rfl ?_
                      refine zk_goto hc 22 dX7_readWagons_259 (by decide) ?_
                      refine zk_lv [2, 3, 4, 5, 0] (lv2 := [(0, .ref (a 0)), (1, .int (nI 0)), (2, .int (nI mn)), (3, .int (nI fs)), (4, .int (nI (k + 1)))]) rfl ?_
                      exact ih22 (k + 1) 0 mn fs n rb1 rk1 (nI 1) (nI k) (by omega) (by omega) (rwI_bad hI (by omega) (fun z => hD ⟨z.2.1, z.2.2⟩) (by omega) (by omega))
                    · refine zk_iload_n hc dX7_readWagons_239 2 rfl ?_
                      refine zk_iconst hc (nI 1) dX7_readWagons_240 rfl ?_
                      refine zk_icmp_eqN hc 249 dX7_readWagons_241 (by decide) (by omega) (by omega) (fun hs1 => ?_) (fun hs1 => ?_)
                      · exact absurd hs1 (by decide)
                      · refine zk_iconst hc (nI 0) dX7_readWagons_244 rfl ?_
                        refine zk_istore_n hc (lv2 := [(1, .int (nI 0)), (5, .int (nI (tx k))), (0, .ref (a 0)), (2, .int (nI mn)), (3, .int (nI fs)), (4, .int (nI k))]) dX7_readWagons_245 (by decide) rfl ?_
                        refine zk_goto hc 256 dX7_readWagons_246 (by decide) ?_
                        refine zk_iinc hc (v := nI (k + 1)) (lv2 := [(4, .int (nI (k + 1))), (1, .int (nI 0)), (5, .int (nI (tx k))), (0, .ref (a 0)), (2, .int (nI mn)), (3, .int (nI fs))]) dX7_readWagons_256 5 rfl (nq_inc rfl) (by decide) rfl ?_
                        refine zk_goto hc 22 dX7_readWagons_259 (by decide) ?_
                        refine zk_lv [3, 1, 4, 5, 0] (lv2 := [(0, .ref (a 0)), (1, .int (nI 0)), (2, .int (nI mn)), (3, .int (nI fs)), (4, .int (nI (k + 1)))]) rfl ?_
                        exact ih22 (k + 1) 0 mn fs n rb1 rk1 (-9) wp1 (by omega) (by omega) (rwI_blank hI hs1 hbl)
                  · exact absurd hs2 (by decide)
                · exact absurd h_5 (by decide)
          · refine zk_iload hc dX7_readWagons_54 0 rfl ?_
            refine zk_callSi hc (rest := []) (ct_X7_isLetter g l (nI (tx k))) gg_X7_145 cd_X7_isLetter ⟨Nat.le_of_ble_eq_true rfl, Nat.le_of_ble_eq_true rfl⟩ ⟨Nat.le_of_ble_eq_true rfl, Nat.le_of_ble_eq_true rfl⟩ ([]) (MW g.2.1 a u pa im tx rw rb1 rk1 rt he tr be sp pm fl ln rm n bn fk fp rs (-9) wp1 bm) rfl rfl (Nat.le_of_ble_eq_true rfl) dX7_readWagons_56 (fun r W1 hp => ?_)
            obtain ⟨rfl, rfl⟩ := hp
            refine zk_ws (ws2 := MW g.2.1 a u pa im tx rw rb1 rk1 rt he tr be sp pm fl ln rm n bn fk fp rs (-9) wp1 bm) rfl ?_
            by_cases hl0 : nI 65 ≤ (nI (tx k)) ∧ (nI (tx k)) ≤ nI 70
            · refine zk_top (y := nI 1) (if_pos hl0) ?_
              have hL := (inN (by omega) (by have := htx k (by omega); omega) (by omega)).mp hl0
              refine zk_if_eqN hc 144 dX7_readWagons_59 (by decide) (by omega) (fun h_6 => ?_) (fun h_6 => ?_)
              · exact absurd h_6 (by decide)
              · refine zk_aload_n hc dX7_readWagons_62 1 rfl ?_
                refine zk_get hc inlX7 (ci := 7) rfl 0 12 (by decide) mw_11_9 rfl rfl rfl dX7_readWagons_63 ?_
                refine zk_iload_n hc dX7_readWagons_66 3 rfl ?_
                refine zk_iaddN hc dX7_readWagons_67 ?_
                refine zk_bipush hc (nI 8) dX7_readWagons_68 rfl ?_
                refine zk_icmp_leN hc 83 dX7_readWagons_70 (by decide) (by omega) (by omega) (fun h8 => ?_) (fun h8 => ?_)
                · refine zk_aload_n hc dX7_readWagons_83 1 rfl ?_
                  refine zk_get hc inlX7 (ci := 7) rfl 0 12 (by decide) mw_11_9 rfl rfl rfl dX7_readWagons_84 ?_
                  refine zk_istore_n hc (lv2 := [(3, .int (nI n)), (5, .int (nI (tx k))), (0, .ref (a 0)), (1, .int (nI s1)), (2, .int (nI mn)), (4, .int (nI k))]) dX7_readWagons_87 (by decide) rfl ?_
                  refine zk_iconst hc (nI 0) dX7_readWagons_88 rfl ?_
                  refine zk_istore hc (lv2 := [(6, .int (nI 0)), (3, .int (nI n)), (5, .int (nI (tx k))), (0, .ref (a 0)), (1, .int (nI s1)), (2, .int (nI mn)), (4, .int (nI k))]) dX7_readWagons_89 (by decide) rfl ?_
                  refine zk_ws (ws2 := MW g.2.1 a u pa im tx rw (va_cpy (fun _ => tx k - 65) rb1 0 n 0) rk1 rt he tr be sp pm fl ln rm n bn fk fp rs (-9) wp1 bm) (congrArg (fun zz => MW g.2.1 a u pa im tx rw zz rk1 rt he tr be sp pm fl ln rm n bn fk fp rs (-9) wp1 bm) (show rb1 = va_cpy (fun _ => tx k - 65) rb1 0 n 0 from cpy_zero _ _ _ _)) ?_
                  refine zk_ws (ws2 := MW g.2.1 a u pa im tx rw (va_cpy (fun _ => tx k - 65) rb1 0 n 0) (va_cpy (fun _ => 0) rk1 0 n 0) rt he tr be sp pm fl ln rm n bn fk fp rs (-9) wp1 bm) (congrArg (fun zz => MW g.2.1 a u pa im tx rw (va_cpy (fun _ => tx k - 65) rb1 0 n 0) zz rt he tr be sp pm fl ln rm n bn fk fp rs (-9) wp1 bm) (show rk1 = va_cpy (fun _ => 0) rk1 0 n 0 from cpy_zero _ _ _ _)) ?_
                  have loop91 : ∀ (N : Nat) (i : Nat), mn - i < N → (i ≤ mn) → KW g p l e (rmK 3 0 0) s m args below meth c 7 A H0 0 0 Q (MW g.2.1 a u pa im tx rw (va_cpy (fun _ => tx k - 65) rb1 0 n i) (va_cpy (fun _ => 0) rk1 0 n i) rt he tr be sp pm fl ln rm (n + i) bn fk fp rs (-9) wp1 bm) [(0, .ref (a 0)), (1, .int (nI s1)), (2, .int (nI mn)), (3, .int (nI n)), (4, .int (nI k)), (5, .int (nI (tx k))), (6, .int (nI i))] 91 [] := by
                    intro N
                    induction N with
                    | zero => intro i hm; exact absurd hm (Nat.not_lt_zero _)
                    | succ N ih91 =>
                      intro i hm91 hi
                      refine zk_iload hc dX7_readWagons_91 6 rfl ?_
                      refine zk_iload_n hc dX7_readWagons_93 2 rfl ?_
                      refine zk_icmp_geN hc 137 dX7_readWagons_94 (by decide) (by omega) (by omega) (fun h_7 => ?_) (fun h_7 => ?_)
                      · refine zk_ws (ws2 := MW g.2.1 a u pa im tx rw (va_cpy (fun _ => tx k - 65) rb1 0 n mn) (va_cpy (fun _ => 0) rk1 0 n i) rt he tr be sp pm fl ln rm (n + i) bn fk fp rs (-9) wp1 bm) (congrArg (fun zz => MW g.2.1 a u pa im tx rw zz (va_cpy (fun _ => 0) rk1 0 n i) rt he tr be sp pm fl ln rm (n + i) bn fk fp rs (-9) wp1 bm) (show va_cpy (fun _ => tx k - 65) rb1 0 n i = va_cpy (fun _ => tx k - 65) rb1 0 n mn from congrArg (va_cpy (fun _ => tx k - 65) rb1 0 n) (by omega))) ?_
                        refine zk_ws (ws2 := MW g.2.1 a u pa im tx rw (va_cpy (fun _ => tx k - 65) rb1 0 n mn) (va_cpy (fun _ => 0) rk1 0 n mn) rt he tr be sp pm fl ln rm (n + i) bn fk fp rs (-9) wp1 bm) (congrArg (fun zz => MW g.2.1 a u pa im tx rw (va_cpy (fun _ => tx k - 65) rb1 0 n mn) zz rt he tr be sp pm fl ln rm (n + i) bn fk fp rs (-9) wp1 bm) (show va_cpy (fun _ => 0) rk1 0 n i = va_cpy (fun _ => 0) rk1 0 n mn from congrArg (va_cpy (fun _ => 0) rk1 0 n) (by omega))) ?_
                        refine zk_ws (ws2 := MW g.2.1 a u pa im tx rw (va_cpy (fun _ => tx k - 65) rb1 0 n mn) (va_cpy (fun _ => 0) rk1 0 n mn) rt he tr be sp pm fl ln rm (n + mn) bn fk fp rs (-9) wp1 bm) (congrArg (fun zz => MW g.2.1 a u pa im tx rw (va_cpy (fun _ => tx k - 65) rb1 0 n mn) (va_cpy (fun _ => 0) rk1 0 n mn) rt he tr be sp pm fl ln rm zz bn fk fp rs (-9) wp1 bm) (show n + i = n + mn from by omega)) ?_
                        refine zk_iconst hc (nI 1) dX7_readWagons_137 rfl ?_
                        refine zk_istore_n hc (lv2 := [(2, .int (nI 1)), (0, .ref (a 0)), (1, .int (nI s1)), (3, .int (nI n)), (4, .int (nI k)), (5, .int (nI (tx k))), (6, .int (nI i))]) dX7_readWagons_138 (by decide) rfl ?_
                        refine zk_iconst hc (nI 2) dX7_readWagons_139 rfl ?_
                        refine zk_istore_n hc (lv2 := [(1, .int (nI 2)), (2, .int (nI 1)), (0, .ref (a 0)), (3, .int (nI n)), (4, .int (nI k)), (5, .int (nI (tx k))), (6, .int (nI i))]) dX7_readWagons_140 (by decide) rfl ?_
                        refine zk_goto hc 256 dX7_readWagons_141 (by decide) ?_
                        refine zk_iinc hc (v := nI (k + 1)) (lv2 := [(4, .int (nI (k + 1))), (1, .int (nI 2)), (2, .int (nI 1)), (0, .ref (a 0)), (3, .int (nI n)), (5, .int (nI (tx k))), (6, .int (nI i))]) dX7_readWagons_256 4 rfl (nq_inc rfl) (by decide) rfl ?_
                        refine zk_goto hc 22 dX7_readWagons_259 (by decide) ?_
                        refine zk_lv [3, 1, 2, 4, 0] (lv2 := [(0, .ref (a 0)), (1, .int (nI 2)), (2, .int (nI 1)), (3, .int (nI n)), (4, .int (nI (k + 1)))]) rfl ?_
                        exact ih22 (k + 1) 2 1 n (n + mn) (va_cpy (fun _ => tx k - 65) rb1 0 n mn) (va_cpy (fun _ => 0) rk1 0 n mn) (-9) wp1 (by omega) (by omega) (rwI_letter hI h1 hL (by omega))
                      · refine zk_aload_n hc dX7_readWagons_97 0 rfl ?_
                        refine zk_get hc inlX7 (ci := 7) rfl 0 13 (by decide) mw_4_19 rfl rfl rfl dX7_readWagons_98 ?_
                        refine zk_aload_n hc dX7_readWagons_101 0 rfl ?_
                        refine zk_get hc inlX7 (ci := 7) rfl 0 12 (by decide) mw_11_9 rfl rfl rfl dX7_readWagons_102 ?_
                        refine zk_iload hc dX7_readWagons_105 5 rfl ?_
                        refine zk_bipush hc (nI 65) dX7_readWagons_107 rfl ?_
                        refine zk_isubN hc dX7_readWagons_109 (by omega) ?_
                        refine zk_iastN hc 6 rfl (by omega) (by decide) (ws2 := MW g.2.1 a u pa im tx rw (va_up (va_cpy (fun _ => tx k - 65) rb1 0 n i) (n + i) ((tx k) - 65)) (va_cpy (fun _ => 0) rk1 0 n i) rt he tr be sp pm fl ln rm (n + i) bn fk fp rs (-9) wp1 bm) rfl dX7_readWagons_110 ?_
                        refine zk_ws (ws2 := MW g.2.1 a u pa im tx rw (va_cpy (fun _ => tx k - 65) rb1 0 n (i + 1)) (va_cpy (fun _ => 0) rk1 0 n i) rt he tr be sp pm fl ln rm (n + i) bn fk fp rs (-9) wp1 bm) (congrArg (fun zz => MW g.2.1 a u pa im tx rw zz (va_cpy (fun _ => 0) rk1 0 n i) rt he tr be sp pm fl ln rm (n + i) bn fk fp rs (-9) wp1 bm) (show va_up (va_cpy (fun _ => tx k - 65) rb1 0 n i) (n + i) ((tx k) - 65) = va_cpy (fun _ => tx k - 65) rb1 0 n (i + 1) from cpy_step (by omega) rfl)) ?_
                        refine zk_aload_n hc dX7_readWagons_111 0 rfl ?_
                        refine zk_get hc inlX7 (ci := 7) rfl 0 14 (by decide) mw_4_20 rfl rfl rfl dX7_readWagons_112 ?_
                        refine zk_aload_n hc dX7_readWagons_115 0 rfl ?_
                        refine zk_get hc inlX7 (ci := 7) rfl 0 12 (by decide) mw_11_9 rfl rfl rfl dX7_readWagons_116 ?_
                        refine zk_iconst hc (nI 0) dX7_readWagons_119 rfl ?_
                        refine zk_iastN hc 7 rfl (by omega) (by decide) (ws2 := MW g.2.1 a u pa im tx rw (va_cpy (fun _ => tx k - 65) rb1 0 n (i + 1)) (va_up (va_cpy (fun _ => 0) rk1 0 n i) (n + i) 0) rt he tr be sp pm fl ln rm (n + i) bn fk fp rs (-9) wp1 bm) rfl dX7_readWagons_120 ?_
                        refine zk_ws (ws2 := MW g.2.1 a u pa im tx rw (va_cpy (fun _ => tx k - 65) rb1 0 n (i + 1)) (va_cpy (fun _ => 0) rk1 0 n (i + 1)) rt he tr be sp pm fl ln rm (n + i) bn fk fp rs (-9) wp1 bm) (congrArg (fun zz => MW g.2.1 a u pa im tx rw (va_cpy (fun _ => tx k - 65) rb1 0 n (i + 1)) zz rt he tr be sp pm fl ln rm (n + i) bn fk fp rs (-9) wp1 bm) (show va_up (va_cpy (fun _ => 0) rk1 0 n i) (n + i) 0 = va_cpy (fun _ => 0) rk1 0 n (i + 1) from cpy_step (by omega) rfl)) ?_
                        refine zk_aload_n hc dX7_readWagons_121 0 rfl ?_
                        refine zk_dup hc dX7_readWagons_122 rfl ?_
                        refine zk_get hc inlX7 (ci := 7) rfl 0 12 (by decide) mw_11_9 rfl rfl rfl dX7_readWagons_123 ?_
                        refine zk_iconst hc (nI 1) dX7_readWagons_126 rfl ?_
                        refine zk_iaddN hc dX7_readWagons_127 ?_
                        refine zk_put hc inlX7 (ci := 7) rfl tyX7 tyX7_ok nmX7 0 12 (by decide) mw_11_9 rfl rfl rfl rfl rfl (Nat.le_of_ble_eq_true rfl) (ws2 := MW g.2.1 a u pa im tx rw (va_cpy (fun _ => tx k - 65) rb1 0 n (i + 1)) (va_cpy (fun _ => 0) rk1 0 n (i + 1)) rt he tr be sp pm fl ln rm ((n + i) + 1) bn fk fp rs (-9) wp1 bm) rfl dX7_readWagons_128 ?_
                        refine zk_iinc hc (v := nI (i + 1)) (lv2 := [(6, .int (nI (i + 1))), (0, .ref (a 0)), (1, .int (nI s1)), (2, .int (nI mn)), (3, .int (nI n)), (4, .int (nI k)), (5, .int (nI (tx k)))]) dX7_readWagons_131 6 rfl (nq_inc rfl) (by decide) rfl ?_
                        refine zk_goto hc 91 dX7_readWagons_134 (by decide) ?_
                        refine zk_lv [1, 2, 3, 4, 5, 6, 0] (lv2 := [(0, .ref (a 0)), (1, .int (nI s1)), (2, .int (nI mn)), (3, .int (nI n)), (4, .int (nI k)), (5, .int (nI (tx k))), (6, .int (nI (i + 1)))]) rfl ?_
                        exact ih91 (i + 1) (by omega) (by omega)
                  refine zk_lv [3, 4, 5, 1, 6, 2, 0] (lv2 := [(0, .ref (a 0)), (1, .int (nI s1)), (2, .int (nI mn)), (3, .int (nI n)), (4, .int (nI k)), (5, .int (nI (tx k))), (6, .int (nI 0))]) rfl ?_
                  exact loop91 ((mn - 0) + 1) 0 (Nat.lt_succ_self _) (Nat.zero_le _)
                · refine zk_aload_n hc dX7_readWagons_73 1 rfl ?_
                  refine zk_iconst hc (nI 3) dX7_readWagons_74 rfl ?_
                  refine zk_iload hc dX7_readWagons_75 5 rfl ?_
                  refine zk_callVv hc (rest := []) (ct_X7_fails g l a u pa im tx rw rb1 rk1 rt he tr be sp pm fl ln rm n bn fk fp rs (-9) wp1 bm (nI 3) (nI k)) gg_X7_136 cd_X7_fails ⟨Nat.le_of_ble_eq_true rfl, Nat.le_of_ble_eq_true rfl⟩ ⟨Nat.le_of_ble_eq_true rfl, Nat.le_of_ble_eq_true rfl⟩ ([]) ([]) rfl 0 rfl rfl rfl (Nat.le_of_ble_eq_true rfl) dX7_readWagons_77 (fun W1 hp => ?_)
                  obtain rfl := hp
                  refine zk_ws (ws2 := MW g.2.1 a u pa im tx rw rb1 rk1 rt he tr be sp pm fl ln rm n bn fk fp rs (nI 3) (nI k) bm) rfl ?_
                  refine zk_goto hc 256 dX7_readWagons_80 (by decide) ?_
                  refine zk_iinc hc (v := nI (k + 1)) (lv2 := [(4, .int (nI (k + 1))), (5, .int (nI (tx k))), (0, .ref (a 0)), (1, .int (nI s1)), (2, .int (nI mn)), (3, .int (nI fs))]) dX7_readWagons_256 5 rfl (nq_inc rfl) (by decide) rfl ?_
                  refine zk_goto hc 22 dX7_readWagons_259 (by decide) ?_
                  refine zk_lv [2, 3, 4, 5, 0] (lv2 := [(0, .ref (a 0)), (1, .int (nI s1)), (2, .int (nI mn)), (3, .int (nI fs)), (4, .int (nI (k + 1)))]) rfl ?_
                  exact ih22 (k + 1) s1 mn fs n rb1 rk1 (nI 3) (nI k) (by omega) (by omega) (rwI_many hI h1 hL (by omega))
            · refine zk_top (y := nI 0) (if_neg hl0) ?_
              have hL : ¬ (65 ≤ tx k ∧ tx k ≤ 70) := fun z => hl0 ((inN (by omega) (by have := htx k (by omega); omega) (by omega)).mpr z)
              refine zk_if_eqN hc 144 dX7_readWagons_59 (by decide) (by omega) (fun h_8 => ?_) (fun h_8 => ?_)
              · refine zk_iload_n hc dX7_readWagons_144 2 rfl ?_
                refine zk_if_neN hc 171 dX7_readWagons_145 (by decide) (by omega) (fun hs0 => ?_) (fun hs0 => ?_)
                · refine zk_iload_n hc dX7_readWagons_171 2 rfl ?_
                  refine zk_iconst hc (nI 2) dX7_readWagons_172 rfl ?_
                  refine zk_icmp_neN hc 232 dX7_readWagons_173 (by decide) (by omega) (by omega) (fun hs2 => ?_) (fun hs2 => ?_)
                  · refine zk_iload hc dX7_readWagons_232 0 rfl ?_
                    refine zk_bipush hc (nI 32) dX7_readWagons_234 rfl ?_
                    refine zk_icmp_neN hc 249 dX7_readWagons_236 (by decide) (by have := htx k (by omega); omega) (by have := htx k (by omega); omega) (fun hbl => ?_) (fun hbl => ?_)
                    · refine zk_aload_n hc dX7_readWagons_249 1 rfl ?_
                      refine zk_iconst hc (nI 1) dX7_readWagons_250 rfl ?_
                      refine zk_iload hc dX7_readWagons_251 5 rfl ?_
                      refine zk_callVv hc (rest := []) (ct_X7_fails g l a u pa im tx rw rb1 rk1 rt he tr be sp pm fl ln rm n bn fk fp rs (-9) wp1 bm (nI 1) (nI k)) gg_X7_136 cd_X7_fails ⟨Nat.le_of_ble_eq_true rfl, Nat.le_of_ble_eq_true rfl⟩ ⟨Nat.le_of_ble_eq_true rfl, Nat.le_of_ble_eq_true rfl⟩ ([]) ([]) rfl 0 rfl rfl rfl (Nat.le_of_ble_eq_true rfl) dX7_readWagons_253 (fun W1 hp => ?_)
                      obtain rfl := hp
                      refine zk_ws (ws2 := MW g.2.1 a u pa im tx rw rb1 rk1 rt he tr be sp pm fl ln rm n bn fk fp rs (nI 1) (nI k) bm) rfl ?_
                      refine zk_iinc hc (v := nI (k + 1)) (lv2 := [(4, .int (nI (k + 1))), (5, .int (nI (tx k))), (0, .ref (a 0)), (1, .int (nI s1)), (2, .int (nI mn)), (3, .int (nI fs))]) dX7_readWagons_256 5 rfl (nq_inc rfl) (by decide) rfl ?_
                      refine zk_goto hc 22 dX7_readWagons_259 (by decide) ?_
                      refine zk_lv [2, 3, 4, 5, 0] (lv2 := [(0, .ref (a 0)), (1, .int (nI s1)), (2, .int (nI mn)), (3, .int (nI fs)), (4, .int (nI (k + 1)))]) rfl ?_
                      exact ih22 (k + 1) s1 mn fs n rb1 rk1 (nI 1) (nI k) (by omega) (by omega) (rwI_bad hI (fun z => hL ⟨z.2.1, z.2.2⟩) (by omega) (by omega) (by omega))
                    · refine zk_iload_n hc dX7_readWagons_239 2 rfl ?_
                      refine zk_iconst hc (nI 1) dX7_readWagons_240 rfl ?_
                      refine zk_icmp_eqN hc 249 dX7_readWagons_241 (by decide) (by omega) (by omega) (fun hs1 => ?_) (fun hs1 => ?_)
                      · refine zk_aload_n hc dX7_readWagons_249 1 rfl ?_
                        refine zk_iconst hc (nI 1) dX7_readWagons_250 rfl ?_
                        refine zk_iload hc dX7_readWagons_251 5 rfl ?_
                        refine zk_callVv hc (rest := []) (ct_X7_fails g l a u pa im tx rw rb1 rk1 rt he tr be sp pm fl ln rm n bn fk fp rs (-9) wp1 bm (nI 1) (nI k)) gg_X7_136 cd_X7_fails ⟨Nat.le_of_ble_eq_true rfl, Nat.le_of_ble_eq_true rfl⟩ ⟨Nat.le_of_ble_eq_true rfl, Nat.le_of_ble_eq_true rfl⟩ ([]) ([]) rfl 0 rfl rfl rfl (Nat.le_of_ble_eq_true rfl) dX7_readWagons_253 (fun W1 hp => ?_)
                        obtain rfl := hp
                        refine zk_ws (ws2 := MW g.2.1 a u pa im tx rw rb1 rk1 rt he tr be sp pm fl ln rm n bn fk fp rs (nI 1) (nI k) bm) rfl ?_
                        refine zk_iinc hc (v := nI (k + 1)) (lv2 := [(4, .int (nI (k + 1))), (5, .int (nI (tx k))), (0, .ref (a 0)), (1, .int (nI s1)), (2, .int (nI mn)), (3, .int (nI fs))]) dX7_readWagons_256 5 rfl (nq_inc rfl) (by decide) rfl ?_
                        refine zk_goto hc 22 dX7_readWagons_259 (by decide) ?_
                        refine zk_lv [2, 3, 4, 5, 0] (lv2 := [(0, .ref (a 0)), (1, .int (nI s1)), (2, .int (nI mn)), (3, .int (nI fs)), (4, .int (nI (k + 1)))]) rfl ?_
                        exact ih22 (k + 1) s1 mn fs n rb1 rk1 (nI 1) (nI k) (by omega) (by omega) (rwI_bad hI (fun z => hL ⟨z.2.1, z.2.2⟩) (by omega) (by omega) (by omega))
                      · refine zk_iconst hc (nI 0) dX7_readWagons_244 rfl ?_
                        refine zk_istore_n hc (lv2 := [(1, .int (nI 0)), (5, .int (nI (tx k))), (0, .ref (a 0)), (2, .int (nI mn)), (3, .int (nI fs)), (4, .int (nI k))]) dX7_readWagons_245 (by decide) rfl ?_
                        refine zk_goto hc 256 dX7_readWagons_246 (by decide) ?_
                        refine zk_iinc hc (v := nI (k + 1)) (lv2 := [(4, .int (nI (k + 1))), (1, .int (nI 0)), (5, .int (nI (tx k))), (0, .ref (a 0)), (2, .int (nI mn)), (3, .int (nI fs))]) dX7_readWagons_256 5 rfl (nq_inc rfl) (by decide) rfl ?_
                        refine zk_goto hc 22 dX7_readWagons_259 (by decide) ?_
                        refine zk_lv [3, 1, 4, 5, 0] (lv2 := [(0, .ref (a 0)), (1, .int (nI 0)), (2, .int (nI mn)), (3, .int (nI fs)), (4, .int (nI (k + 1)))]) rfl ?_
                        exact ih22 (k + 1) 0 mn fs n rb1 rk1 (-9) wp1 (by omega) (by omega) (rwI_blank hI hs1 hbl)
                  · subst hs2
                    refine zk_iload hc dX7_readWagons_176 0 rfl ?_
                    refine zk_bipush hc (nI 102) dX7_readWagons_178 rfl ?_
                    refine zk_icmp_eqN hc 190 dX7_readWagons_180 (by decide) (by have := htx k (by omega); omega) (by have := htx k (by omega); omega) (fun hf => ?_) (fun hf => ?_)
                    · refine zk_iload_n hc dX7_readWagons_190 4 rfl ?_
                      refine zk_istore hc (lv2 := [(6, .int (nI fs)), (5, .int (nI (tx k))), (0, .ref (a 0)), (1, .int (nI 2)), (2, .int (nI mn)), (3, .int (nI fs)), (4, .int (nI k))]) dX7_readWagons_191 (by decide) rfl ?_
                      refine zk_ws (ws2 := MW g.2.1 a u pa im tx rw rb1 (va_cpy (fun _ => 1) rk1 0 fs 0) rt he tr be sp pm fl ln rm n bn fk fp rs (-9) wp1 bm) (congrArg (fun zz => MW g.2.1 a u pa im tx rw rb1 zz rt he tr be sp pm fl ln rm n bn fk fp rs (-9) wp1 bm) (show rk1 = va_cpy (fun _ => 1) rk1 0 fs 0 from cpy_zero _ _ _ _)) ?_
                      have loop193 : ∀ (N : Nat) (i : Nat), n - fs - i < N → (i ≤ n - fs) → KW g p l e (rmK 3 0 0) s m args below meth c 7 A H0 0 0 Q (MW g.2.1 a u pa im tx rw rb1 (va_cpy (fun _ => 1) rk1 0 fs i) rt he tr be sp pm fl ln rm n bn fk fp rs (-9) wp1 bm) [(0, .ref (a 0)), (1, .int (nI 2)), (2, .int (nI mn)), (3, .int (nI fs)), (4, .int (nI k)), (5, .int (nI (tx k))), (6, .int (nI (fs + i)))] 193 [] := by
                        intro N
                        induction N with
                        | zero => intro i hm; exact absurd hm (Nat.not_lt_zero _)
                        | succ N ih193 =>
                          intro i hm193 hi
                          refine zk_iload hc dX7_readWagons_193 6 rfl ?_
                          refine zk_aload_n hc dX7_readWagons_195 0 rfl ?_
                          refine zk_get hc inlX7 (ci := 7) rfl 0 12 (by decide) mw_11_9 rfl rfl rfl dX7_readWagons_196 ?_
                          refine zk_icmp_geN hc 227 dX7_readWagons_199 (by decide) (by omega) (by omega) (fun h_9 => ?_) (fun h_9 => ?_)
                          · refine zk_ws (ws2 := MW g.2.1 a u pa im tx rw rb1 (va_cpy (fun _ => 1) rk1 0 fs (n - fs)) rt he tr be sp pm fl ln rm n bn fk fp rs (-9) wp1 bm) (congrArg (fun zz => MW g.2.1 a u pa im tx rw rb1 zz rt he tr be sp pm fl ln rm n bn fk fp rs (-9) wp1 bm) (show va_cpy (fun _ => 1) rk1 0 fs i = va_cpy (fun _ => 1) rk1 0 fs (n - fs) from congrArg (va_cpy (fun _ => 1) rk1 0 fs) (by omega))) ?_
                            refine zk_iconst hc (nI 3) dX7_readWagons_227 rfl ?_
                            refine zk_istore_n hc (lv2 := [(1, .int (nI 3)), (0, .ref (a 0)), (2, .int (nI mn)), (3, .int (nI fs)), (4, .int (nI k)), (5, .int (nI (tx k))), (6, .int (nI (fs + i)))]) dX7_readWagons_228 (by decide) rfl ?_
                            refine zk_goto hc 256 dX7_readWagons_229 (by decide) ?_
                            refine zk_iinc hc (v := nI (k + 1)) (lv2 := [(4, .int (nI (k + 1))), (1, .int (nI 3)), (0, .ref (a 0)), (2, .int (nI mn)), (3, .int (nI fs)), (5, .int (nI (tx k))), (6, .int (nI (fs + i)))]) dX7_readWagons_256 4 rfl (nq_inc rfl) (by decide) rfl ?_
                            refine zk_goto hc 22 dX7_readWagons_259 (by decide) ?_
                            refine zk_lv [2, 1, 3, 4, 0] (lv2 := [(0, .ref (a 0)), (1, .int (nI 3)), (2, .int (nI mn)), (3, .int (nI fs)), (4, .int (nI (k + 1)))]) rfl ?_
                            exact ih22 (k + 1) 3 mn fs n rb1 (va_cpy (fun _ => 1) rk1 0 fs (n - fs)) (-9) wp1 (by omega) (by omega) (by have := rwI_kind hI (Or.inl hf); rw [if_pos hf] at this; exact this)
                          · refine zk_aload_n hc dX7_readWagons_202 0 rfl ?_
                            refine zk_get hc inlX7 (ci := 7) rfl 0 14 (by decide) mw_4_20 rfl rfl rfl dX7_readWagons_203 ?_
                            refine zk_iload hc dX7_readWagons_206 6 rfl ?_
                            refine zk_iload hc dX7_readWagons_208 5 rfl ?_
                            refine zk_bipush hc (nI 102) dX7_readWagons_210 rfl ?_
                            refine zk_icmp_neN hc 219 dX7_readWagons_212 (by decide) (by have := htx k (by omega); omega) (by have := htx k (by omega); omega) (fun hz => ?_) (fun hz => ?_)
                            · exact absurd hz (by omega)
                            · refine zk_iconst hc (nI 1) dX7_readWagons_215 rfl ?_
                              refine zk_goto hc 220 dX7_readWagons_216 (by decide) ?_
                              refine zk_iastN hc 7 rfl (by omega) (by decide) (ws2 := MW g.2.1 a u pa im tx rw rb1 (va_up (va_cpy (fun _ => 1) rk1 0 fs i) (fs + i) 1) rt he tr be sp pm fl ln rm n bn fk fp rs (-9) wp1 bm) rfl dX7_readWagons_220 ?_
                              refine zk_ws (ws2 := MW g.2.1 a u pa im tx rw rb1 (va_cpy (fun _ => 1) rk1 0 fs (i + 1)) rt he tr be sp pm fl ln rm n bn fk fp rs (-9) wp1 bm) (congrArg (fun zz => MW g.2.1 a u pa im tx rw rb1 zz rt he tr be sp pm fl ln rm n bn fk fp rs (-9) wp1 bm) (show va_up (va_cpy (fun _ => 1) rk1 0 fs i) (fs + i) 1 = va_cpy (fun _ => 1) rk1 0 fs (i + 1) from cpy_step (by omega) rfl)) ?_
                              refine zk_iinc hc (v := nI (fs + i + 1)) (lv2 := [(6, .int (nI (fs + i + 1))), (0, .ref (a 0)), (1, .int (nI 2)), (2, .int (nI mn)), (3, .int (nI fs)), (4, .int (nI k)), (5, .int (nI (tx k)))]) dX7_readWagons_221 6 rfl (nq_inc rfl) (by decide) rfl ?_
                              refine zk_goto hc 193 dX7_readWagons_224 (by decide) ?_
                              refine zk_lv [1, 2, 3, 4, 5, 6, 0] (lv2 := [(0, .ref (a 0)), (1, .int (nI 2)), (2, .int (nI mn)), (3, .int (nI fs)), (4, .int (nI k)), (5, .int (nI (tx k))), (6, .int (nI (fs + i + 1)))]) rfl ?_
                              exact ih193 (i + 1) (by omega) (by omega)
                      refine zk_lv [2, 3, 4, 5, 6, 1, 0] (lv2 := [(0, .ref (a 0)), (1, .int (nI 2)), (2, .int (nI mn)), (3, .int (nI fs)), (4, .int (nI k)), (5, .int (nI (tx k))), (6, .int (nI fs))]) rfl ?_
                      exact loop193 ((n - fs - 0) + 1) 0 (Nat.lt_succ_self _) (Nat.zero_le _)
                    · refine zk_iload hc dX7_readWagons_183 0 rfl ?_
                      refine zk_bipush hc (nI 120) dX7_readWagons_185 rfl ?_
                      refine zk_icmp_neN hc 232 dX7_readWagons_187 (by decide) (by have := htx k (by omega); omega) (by have := htx k (by omega); omega) (fun hx => ?_) (fun hx => ?_)
                      · refine zk_iload hc dX7_readWagons_232 0 rfl ?_
                        refine zk_bipush hc (nI 32) dX7_readWagons_234 rfl ?_
                        refine zk_icmp_neN hc 249 dX7_readWagons_236 (by decide) (by have := htx k (by omega); omega) (by have := htx k (by omega); omega) (fun hbl => ?_) (fun hbl => ?_)
                        · refine zk_aload_n hc dX7_readWagons_249 1 rfl ?_
                          refine zk_iconst hc (nI 1) dX7_readWagons_250 rfl ?_
                          refine zk_iload hc dX7_readWagons_251 5 rfl ?_
                          refine zk_callVv hc (rest := []) (ct_X7_fails g l a u pa im tx rw rb1 rk1 rt he tr be sp pm fl ln rm n bn fk fp rs (-9) wp1 bm (nI 1) (nI k)) gg_X7_136 cd_X7_fails ⟨Nat.le_of_ble_eq_true rfl, Nat.le_of_ble_eq_true rfl⟩ ⟨Nat.le_of_ble_eq_true rfl, Nat.le_of_ble_eq_true rfl⟩ ([]) ([]) rfl 0 rfl rfl rfl (Nat.le_of_ble_eq_true rfl) dX7_readWagons_253 (fun W1 hp => ?_)
                          obtain rfl := hp
                          refine zk_ws (ws2 := MW g.2.1 a u pa im tx rw rb1 rk1 rt he tr be sp pm fl ln rm n bn fk fp rs (nI 1) (nI k) bm) rfl ?_
                          refine zk_iinc hc (v := nI (k + 1)) (lv2 := [(4, .int (nI (k + 1))), (5, .int (nI (tx k))), (0, .ref (a 0)), (1, .int (nI 2)), (2, .int (nI mn)), (3, .int (nI fs))]) dX7_readWagons_256 5 rfl (nq_inc rfl) (by decide) rfl ?_
                          refine zk_goto hc 22 dX7_readWagons_259 (by decide) ?_
                          refine zk_lv [2, 3, 4, 5, 0] (lv2 := [(0, .ref (a 0)), (1, .int (nI 2)), (2, .int (nI mn)), (3, .int (nI fs)), (4, .int (nI (k + 1)))]) rfl ?_
                          exact ih22 (k + 1) 2 mn fs n rb1 rk1 (nI 1) (nI k) (by omega) (by omega) (rwI_bad hI (fun z => hL ⟨z.2.1, z.2.2⟩) (by omega) (by omega) (by omega))
                        · refine zk_iload_n hc dX7_readWagons_239 2 rfl ?_
                          refine zk_iconst hc (nI 1) dX7_readWagons_240 rfl ?_
                          refine zk_icmp_eqN hc 249 dX7_readWagons_241 (by decide) (by omega) (by omega) (fun hs1 => ?_) (fun hs1 => ?_)
                          · exact absurd hs1 (by decide)
                          · refine zk_iconst hc (nI 0) dX7_readWagons_244 rfl ?_
                            refine zk_istore_n hc (lv2 := [(1, .int (nI 0)), (5, .int (nI (tx k))), (0, .ref (a 0)), (2, .int (nI mn)), (3, .int (nI fs)), (4, .int (nI k))]) dX7_readWagons_245 (by decide) rfl ?_
                            refine zk_goto hc 256 dX7_readWagons_246 (by decide) ?_
                            refine zk_iinc hc (v := nI (k + 1)) (lv2 := [(4, .int (nI (k + 1))), (1, .int (nI 0)), (5, .int (nI (tx k))), (0, .ref (a 0)), (2, .int (nI mn)), (3, .int (nI fs))]) dX7_readWagons_256 5 rfl (nq_inc rfl) (by decide) rfl ?_
                            refine zk_goto hc 22 dX7_readWagons_259 (by decide) ?_
                            refine zk_lv [3, 1, 4, 5, 0] (lv2 := [(0, .ref (a 0)), (1, .int (nI 0)), (2, .int (nI mn)), (3, .int (nI fs)), (4, .int (nI (k + 1)))]) rfl ?_
                            exact ih22 (k + 1) 0 mn fs n rb1 rk1 (-9) wp1 (by omega) (by omega) (rwI_blank hI hs1 hbl)
                      · refine zk_iload_n hc dX7_readWagons_190 4 rfl ?_
                        refine zk_istore hc (lv2 := [(6, .int (nI fs)), (5, .int (nI (tx k))), (0, .ref (a 0)), (1, .int (nI 2)), (2, .int (nI mn)), (3, .int (nI fs)), (4, .int (nI k))]) dX7_readWagons_191 (by decide) rfl ?_
                        refine zk_ws (ws2 := MW g.2.1 a u pa im tx rw rb1 (va_cpy (fun _ => 2) rk1 0 fs 0) rt he tr be sp pm fl ln rm n bn fk fp rs (-9) wp1 bm) (congrArg (fun zz => MW g.2.1 a u pa im tx rw rb1 zz rt he tr be sp pm fl ln rm n bn fk fp rs (-9) wp1 bm) (show rk1 = va_cpy (fun _ => 2) rk1 0 fs 0 from cpy_zero _ _ _ _)) ?_
                        have loop193 : ∀ (N : Nat) (i : Nat), n - fs - i < N → (i ≤ n - fs) → KW g p l e (rmK 3 0 0) s m args below meth c 7 A H0 0 0 Q (MW g.2.1 a u pa im tx rw rb1 (va_cpy (fun _ => 2) rk1 0 fs i) rt he tr be sp pm fl ln rm n bn fk fp rs (-9) wp1 bm) [(0, .ref (a 0)), (1, .int (nI 2)), (2, .int (nI mn)), (3, .int (nI fs)), (4, .int (nI k)), (5, .int (nI (tx k))), (6, .int (nI (fs + i)))] 193 [] := by
                          intro N
                          induction N with
                          | zero => intro i hm; exact absurd hm (Nat.not_lt_zero _)
                          | succ N ih193 =>
                            intro i hm193 hi
                            refine zk_iload hc dX7_readWagons_193 6 rfl ?_
                            refine zk_aload_n hc dX7_readWagons_195 0 rfl ?_
                            refine zk_get hc inlX7 (ci := 7) rfl 0 12 (by decide) mw_11_9 rfl rfl rfl dX7_readWagons_196 ?_
                            refine zk_icmp_geN hc 227 dX7_readWagons_199 (by decide) (by omega) (by omega) (fun h_10 => ?_) (fun h_10 => ?_)
                            · refine zk_ws (ws2 := MW g.2.1 a u pa im tx rw rb1 (va_cpy (fun _ => 2) rk1 0 fs (n - fs)) rt he tr be sp pm fl ln rm n bn fk fp rs (-9) wp1 bm) (congrArg (fun zz => MW g.2.1 a u pa im tx rw rb1 zz rt he tr be sp pm fl ln rm n bn fk fp rs (-9) wp1 bm) (show va_cpy (fun _ => 2) rk1 0 fs i = va_cpy (fun _ => 2) rk1 0 fs (n - fs) from congrArg (va_cpy (fun _ => 2) rk1 0 fs) (by omega))) ?_
                              refine zk_iconst hc (nI 3) dX7_readWagons_227 rfl ?_
                              refine zk_istore_n hc (lv2 := [(1, .int (nI 3)), (0, .ref (a 0)), (2, .int (nI mn)), (3, .int (nI fs)), (4, .int (nI k)), (5, .int (nI (tx k))), (6, .int (nI (fs + i)))]) dX7_readWagons_228 (by decide) rfl ?_
                              refine zk_goto hc 256 dX7_readWagons_229 (by decide) ?_
                              refine zk_iinc hc (v := nI (k + 1)) (lv2 := [(4, .int (nI (k + 1))), (1, .int (nI 3)), (0, .ref (a 0)), (2, .int (nI mn)), (3, .int (nI fs)), (5, .int (nI (tx k))), (6, .int (nI (fs + i)))]) dX7_readWagons_256 4 rfl (nq_inc rfl) (by decide) rfl ?_
                              refine zk_goto hc 22 dX7_readWagons_259 (by decide) ?_
                              refine zk_lv [2, 1, 3, 4, 0] (lv2 := [(0, .ref (a 0)), (1, .int (nI 3)), (2, .int (nI mn)), (3, .int (nI fs)), (4, .int (nI (k + 1)))]) rfl ?_
                              exact ih22 (k + 1) 3 mn fs n rb1 (va_cpy (fun _ => 2) rk1 0 fs (n - fs)) (-9) wp1 (by omega) (by omega) (by have := rwI_kind hI (Or.inr hx); rw [if_neg (by omega)] at this; exact this)
                            · refine zk_aload_n hc dX7_readWagons_202 0 rfl ?_
                              refine zk_get hc inlX7 (ci := 7) rfl 0 14 (by decide) mw_4_20 rfl rfl rfl dX7_readWagons_203 ?_
                              refine zk_iload hc dX7_readWagons_206 6 rfl ?_
                              refine zk_iload hc dX7_readWagons_208 5 rfl ?_
                              refine zk_bipush hc (nI 102) dX7_readWagons_210 rfl ?_
                              refine zk_icmp_neN hc 219 dX7_readWagons_212 (by decide) (by have := htx k (by omega); omega) (by have := htx k (by omega); omega) (fun hz => ?_) (fun hz => ?_)
                              · refine zk_iconst hc (nI 2) dX7_readWagons_219 rfl ?_
                                refine zk_iastN hc 7 rfl (by omega) (by decide) (ws2 := MW g.2.1 a u pa im tx rw rb1 (va_up (va_cpy (fun _ => 2) rk1 0 fs i) (fs + i) 2) rt he tr be sp pm fl ln rm n bn fk fp rs (-9) wp1 bm) rfl dX7_readWagons_220 ?_
                                refine zk_ws (ws2 := MW g.2.1 a u pa im tx rw rb1 (va_cpy (fun _ => 2) rk1 0 fs (i + 1)) rt he tr be sp pm fl ln rm n bn fk fp rs (-9) wp1 bm) (congrArg (fun zz => MW g.2.1 a u pa im tx rw rb1 zz rt he tr be sp pm fl ln rm n bn fk fp rs (-9) wp1 bm) (show va_up (va_cpy (fun _ => 2) rk1 0 fs i) (fs + i) 2 = va_cpy (fun _ => 2) rk1 0 fs (i + 1) from cpy_step (by omega) rfl)) ?_
                                refine zk_iinc hc (v := nI (fs + i + 1)) (lv2 := [(6, .int (nI (fs + i + 1))), (0, .ref (a 0)), (1, .int (nI 2)), (2, .int (nI mn)), (3, .int (nI fs)), (4, .int (nI k)), (5, .int (nI (tx k)))]) dX7_readWagons_221 6 rfl (nq_inc rfl) (by decide) rfl ?_
                                refine zk_goto hc 193 dX7_readWagons_224 (by decide) ?_
                                refine zk_lv [1, 2, 3, 4, 5, 6, 0] (lv2 := [(0, .ref (a 0)), (1, .int (nI 2)), (2, .int (nI mn)), (3, .int (nI fs)), (4, .int (nI k)), (5, .int (nI (tx k))), (6, .int (nI (fs + i + 1)))]) rfl ?_
                                exact ih193 (i + 1) (by omega) (by omega)
                              · exact absurd hz (by omega)
                        refine zk_lv [2, 3, 4, 5, 6, 1, 0] (lv2 := [(0, .ref (a 0)), (1, .int (nI 2)), (2, .int (nI mn)), (3, .int (nI fs)), (4, .int (nI k)), (5, .int (nI (tx k))), (6, .int (nI fs))]) rfl ?_
                        exact loop193 ((n - fs - 0) + 1) 0 (Nat.lt_succ_self _) (Nat.zero_le _)
                · subst hs0
                  refine zk_iload hc dX7_readWagons_148 0 rfl ?_
                  refine zk_bipush hc (nI 49) dX7_readWagons_150 rfl ?_
                  refine zk_bipush hc (nI 56) dX7_readWagons_152 rfl ?_
                  refine zk_callSi hc (rest := []) (ct_X7_isIn g l (nI (tx k)) (nI 49) (nI 56)) gg_X7_59 cd_X7_isIn ⟨Nat.le_of_ble_eq_true rfl, Nat.le_of_ble_eq_true rfl⟩ ⟨Nat.le_of_ble_eq_true rfl, Nat.le_of_ble_eq_true rfl⟩ ([]) (MW g.2.1 a u pa im tx rw rb1 rk1 rt he tr be sp pm fl ln rm n bn fk fp rs (-9) wp1 bm) rfl rfl (Nat.le_of_ble_eq_true rfl) dX7_readWagons_154 (fun r W1 hp => ?_)
                  obtain ⟨rfl, rfl⟩ := hp
                  refine zk_ws (ws2 := MW g.2.1 a u pa im tx rw rb1 rk1 rt he tr be sp pm fl ln rm n bn fk fp rs (-9) wp1 bm) rfl ?_
                  by_cases hd0 : nI 49 ≤ nI (tx k) ∧ nI (tx k) ≤ nI 56
                  · refine zk_top (y := nI 1) (if_pos hd0) ?_
                    have hD := (inN (by omega) (by have := htx k (by omega); omega) (by omega)).mp hd0
                    refine zk_if_eqN hc 171 dX7_readWagons_157 (by decide) (by omega) (fun h_11 => ?_) (fun h_11 => ?_)
                    · exact absurd h_11 (by decide)
                    · refine zk_iload hc dX7_readWagons_160 0 rfl ?_
                      refine zk_bipush hc (nI 48) dX7_readWagons_162 rfl ?_
                      refine zk_isubN hc dX7_readWagons_164 (by omega) ?_
                      refine zk_istore_n hc (lv2 := [(2, .int (nI ((tx k) - 48))), (5, .int (nI (tx k))), (0, .ref (a 0)), (1, .int (nI 0)), (3, .int (nI fs)), (4, .int (nI k))]) dX7_readWagons_165 (by decide) rfl ?_
                      refine zk_iconst hc (nI 1) dX7_readWagons_166 rfl ?_
                      refine zk_istore_n hc (lv2 := [(1, .int (nI 1)), (2, .int (nI ((tx k) - 48))), (5, .int (nI (tx k))), (0, .ref (a 0)), (3, .int (nI fs)), (4, .int (nI k))]) dX7_readWagons_167 (by decide) rfl ?_
                      refine zk_goto hc 256 dX7_readWagons_168 (by decide) ?_
                      refine zk_iinc hc (v := nI (k + 1)) (lv2 := [(4, .int (nI (k + 1))), (1, .int (nI 1)), (2, .int (nI ((tx k) - 48))), (5, .int (nI (tx k))), (0, .ref (a 0)), (3, .int (nI fs))]) dX7_readWagons_256 5 rfl (nq_inc rfl) (by decide) rfl ?_
                      refine zk_goto hc 22 dX7_readWagons_259 (by decide) ?_
                      refine zk_lv [4, 1, 2, 5, 0] (lv2 := [(0, .ref (a 0)), (1, .int (nI 1)), (2, .int (nI ((tx k) - 48))), (3, .int (nI fs)), (4, .int (nI (k + 1)))]) rfl ?_
                      exact ih22 (k + 1) 1 ((tx k) - 48) fs n rb1 rk1 (-9) wp1 (by omega) (by omega) (rwI_digit hI hD)
                  · refine zk_top (y := nI 0) (if_neg hd0) ?_
                    have hD : ¬ (49 ≤ tx k ∧ tx k ≤ 56) := fun z => hd0 ((inN (by omega) (by have := htx k (by omega); omega) (by omega)).mpr z)
                    refine zk_if_eqN hc 171 dX7_readWagons_157 (by decide) (by omega) (fun h_12 => ?_) (fun h_12 => ?_)
                    · refine zk_iload_n hc dX7_readWagons_171 2 rfl ?_
                      refine zk_iconst hc (nI 2) dX7_readWagons_172 rfl ?_
                      refine zk_icmp_neN hc 232 dX7_readWagons_173 (by decide) (by omega) (by omega) (fun hs2 => ?_) (fun hs2 => ?_)
                      · refine zk_iload hc dX7_readWagons_232 0 rfl ?_
                        refine zk_bipush hc (nI 32) dX7_readWagons_234 rfl ?_
                        refine zk_icmp_neN hc 249 dX7_readWagons_236 (by decide) (by have := htx k (by omega); omega) (by have := htx k (by omega); omega) (fun hbl => ?_) (fun hbl => ?_)
                        · refine zk_aload_n hc dX7_readWagons_249 1 rfl ?_
                          refine zk_iconst hc (nI 1) dX7_readWagons_250 rfl ?_
                          refine zk_iload hc dX7_readWagons_251 5 rfl ?_
                          refine zk_callVv hc (rest := []) (ct_X7_fails g l a u pa im tx rw rb1 rk1 rt he tr be sp pm fl ln rm n bn fk fp rs (-9) wp1 bm (nI 1) (nI k)) gg_X7_136 cd_X7_fails ⟨Nat.le_of_ble_eq_true rfl, Nat.le_of_ble_eq_true rfl⟩ ⟨Nat.le_of_ble_eq_true rfl, Nat.le_of_ble_eq_true rfl⟩ ([]) ([]) rfl 0 rfl rfl rfl (Nat.le_of_ble_eq_true rfl) dX7_readWagons_253 (fun W1 hp => ?_)
                          obtain rfl := hp
                          refine zk_ws (ws2 := MW g.2.1 a u pa im tx rw rb1 rk1 rt he tr be sp pm fl ln rm n bn fk fp rs (nI 1) (nI k) bm) rfl ?_
                          refine zk_iinc hc (v := nI (k + 1)) (lv2 := [(4, .int (nI (k + 1))), (5, .int (nI (tx k))), (0, .ref (a 0)), (1, .int (nI 0)), (2, .int (nI mn)), (3, .int (nI fs))]) dX7_readWagons_256 5 rfl (nq_inc rfl) (by decide) rfl ?_
                          refine zk_goto hc 22 dX7_readWagons_259 (by decide) ?_
                          refine zk_lv [2, 3, 4, 5, 0] (lv2 := [(0, .ref (a 0)), (1, .int (nI 0)), (2, .int (nI mn)), (3, .int (nI fs)), (4, .int (nI (k + 1)))]) rfl ?_
                          exact ih22 (k + 1) 0 mn fs n rb1 rk1 (nI 1) (nI k) (by omega) (by omega) (rwI_bad hI (fun z => hL ⟨z.2.1, z.2.2⟩) (fun z => hD ⟨z.2.1, z.2.2⟩) (by omega) (by omega))
                        · refine zk_iload_n hc dX7_readWagons_239 2 rfl ?_
                          refine zk_iconst hc (nI 1) dX7_readWagons_240 rfl ?_
                          refine zk_icmp_eqN hc 249 dX7_readWagons_241 (by decide) (by omega) (by omega) (fun hs1 => ?_) (fun hs1 => ?_)
                          · exact absurd hs1 (by decide)
                          · refine zk_iconst hc (nI 0) dX7_readWagons_244 rfl ?_
                            refine zk_istore_n hc (lv2 := [(1, .int (nI 0)), (5, .int (nI (tx k))), (0, .ref (a 0)), (2, .int (nI mn)), (3, .int (nI fs)), (4, .int (nI k))]) dX7_readWagons_245 (by decide) rfl ?_
                            refine zk_goto hc 256 dX7_readWagons_246 (by decide) ?_
                            refine zk_iinc hc (v := nI (k + 1)) (lv2 := [(4, .int (nI (k + 1))), (1, .int (nI 0)), (5, .int (nI (tx k))), (0, .ref (a 0)), (2, .int (nI mn)), (3, .int (nI fs))]) dX7_readWagons_256 5 rfl (nq_inc rfl) (by decide) rfl ?_
                            refine zk_goto hc 22 dX7_readWagons_259 (by decide) ?_
                            refine zk_lv [3, 1, 4, 5, 0] (lv2 := [(0, .ref (a 0)), (1, .int (nI 0)), (2, .int (nI mn)), (3, .int (nI fs)), (4, .int (nI (k + 1)))]) rfl ?_
                            exact ih22 (k + 1) 0 mn fs n rb1 rk1 (-9) wp1 (by omega) (by omega) (rwI_blank hI hs1 hbl)
                      · exact absurd hs2 (by decide)
                    · exact absurd h_12 (by decide)
              · exact absurd h_8 (by decide)
  refine zk_lv [4, 3, 2, 1, 0] (lv2 := [(0, .ref (a 0)), (1, .int (nI 0)), (2, .int (nI 1)), (3, .int (nI 0)), (4, .int (nI 0))]) rfl ?_
  exact loop22 ((ln - 0) + 1) 0 0 1 0 0 rb rk (-9) (-9) (Nat.lt_succ_self _) (Nat.zero_le _) ⟨_, _, 0, 0, rfl, fun j hj => absurd hj (Nat.not_lt_zero _), by omega, by omega, by omega, by omega, by omega, rfl, rfl⟩

set_option maxHeartbeats 4000000 in
set_option maxRecDepth 100000 in
theorem ct_X7_readList (g : GG) (l : Launch) (a : Nat → Nat) (u pa im tx rw rb rk rt he tr be sp : Nat → Nat) (pm fl ln rm rd bn : Nat) (fk fp rs wk wp bm : Int32) (hln : ln ≤ 60) (htx : ∀ j, j < ln → tx j < 128) : CtV g l yX7_readList cX7_readList 3 (rmK 3 0 0) (MW g.2.1 a u pa im tx rw rb rk rt he tr be sp pm fl ln rm rd bn fk fp rs wk wp bm) [.ref (a 0)] (fun W1 => ∃ (n2 : Nat) (t2 : Nat → Nat) (v2 w2 : Int32), W1 = MW g.2.1 a u pa im tx rw rb rk t2 he tr be sp pm fl ln rm n2 bn fk fp rs v2 w2 bm ∧ rlI tx ln n2 t2 v2 w2) := by
  refine CtV.go RX7 rfl (by decide +kernel) (Nat.le_of_ble_eq_true rfl) ?_
  intro p e s m args below meth c A H0 Q hc hnm fin
  show KW g p l e (rmK 3 0 0) s m args below meth c 3 A H0 0 0 Q (MW g.2.1 a u pa im tx rw rb rk rt he tr be sp pm fl ln rm rd bn fk fp rs wk wp bm) [(0, .ref (a 0))] 0 []
  refine zk_aload_n hc dX7_readList_0 0 rfl ?_
  refine zk_bipush hc ((-9)) dX7_readList_1 rfl ?_
  refine zk_bipush hc ((-9)) dX7_readList_3 rfl ?_
  refine zk_callVv hc (rest := []) (ct_X7_fails g l a u pa im tx rw rb rk rt he tr be sp pm fl ln rm rd bn fk fp rs wk wp bm (-9) (-9)) gg_X7_136 cd_X7_fails ⟨Nat.le_of_ble_eq_true rfl, Nat.le_of_ble_eq_true rfl⟩ ⟨Nat.le_of_ble_eq_true rfl, Nat.le_of_ble_eq_true rfl⟩ ([]) ([]) rfl 0 rfl rfl rfl (Nat.le_of_ble_eq_true rfl) dX7_readList_5 (fun W1 hp => ?_)
  obtain rfl := hp
  refine zk_ws (ws2 := MW g.2.1 a u pa im tx rw rb rk rt he tr be sp pm fl ln rm rd bn fk fp rs (-9) (-9) bm) rfl ?_
  refine zk_aload_n hc dX7_readList_8 0 rfl ?_
  refine zk_iconst hc (nI 0) dX7_readList_9 rfl ?_
  refine zk_put hc inlX7 (ci := 7) rfl tyX7 tyX7_ok nmX7 0 12 (by decide) mw_11_9 rfl rfl rfl rfl rfl (Nat.le_of_ble_eq_true rfl) (ws2 := MW g.2.1 a u pa im tx rw rb rk rt he tr be sp pm fl ln rm 0 bn fk fp rs (-9) (-9) bm) rfl dX7_readList_10 ?_
  refine zk_iconst hc (nI 0) dX7_readList_13 rfl ?_
  refine zk_istore_n hc (lv2 := [(1, .int (nI 0)), (0, .ref (a 0))]) dX7_readList_14 (by decide) rfl ?_
  have loop15 : ∀ (N : Nat) (k : Nat) (n : Nat) (rt1 : Nat → Nat) (wk1 : Int32) (wp1 : Int32), ln - k < N → (k ≤ ln) → (rlI tx k n rt1 wk1 wp1) → KW g p l e (rmK 3 0 0) s m args below meth c 3 A H0 0 0 Q (MW g.2.1 a u pa im tx rw rb rk rt1 he tr be sp pm fl ln rm n bn fk fp rs wk1 wp1 bm) [(0, .ref (a 0)), (1, .int (nI k))] 15 [] := by
    intro N
    induction N with
    | zero => intro k n rt1 wk1 wp1 hm; exact absurd hm (Nat.not_lt_zero _)
    | succ N ih15 =>
      intro k n rt1 wk1 wp1 hm15 hkl hI
      have hb := rlI_b hI
      refine zk_iload_n hc dX7_readList_15 1 rfl ?_
      refine zk_aload_n hc dX7_readList_16 0 rfl ?_
      refine zk_get hc inlX7 (ci := 7) rfl 0 6 (by decide) mw_11_18 rfl rfl rfl dX7_readList_17 ?_
      refine zk_icmp_geN hc 108 dX7_readList_20 (by decide) (by omega) (by omega) (fun h_1 => ?_) (fun h_1 => ?_)
      · refine fin 0 0 _ _ _ (by decide) (by decide) dX7_readList_108 (?_)
        exact ⟨_, _, _, _, rfl, (show k = ln by omega) ▸ hI⟩
      · refine zk_aload_n hc dX7_readList_23 0 rfl ?_
        refine zk_get hc inlX7 (ci := 7) rfl 0 16 (by decide) mw_11_19 rfl rfl rfl dX7_readList_24 ?_
        refine zk_bipush hc ((-9)) dX7_readList_27 rfl ?_
        refine zk_icmp_ne hc 108 dX7_readList_29 (by decide) (fun hw => ?_) (fun hw => ?_)
        · refine fin 0 0 _ _ _ (by decide) (by decide) dX7_readList_108 (?_)
          exact ⟨_, _, _, _, rfl, rlE_err hI (by omega) hw⟩
        · subst hw
          refine zk_aload_n hc dX7_readList_32 0 rfl ?_
          refine zk_get hc inlX7 (ci := 7) rfl 0 5 (by decide) mw_4_14 rfl rfl rfl dX7_readList_33 ?_
          refine zk_iload_n hc dX7_readList_36 1 rfl ?_
          refine zk_ialdN hc 4 rfl (by omega) (by decide) dX7_readList_37 ?_
          refine zk_istore_n hc (lv2 := [(2, .int (nI (tx k))), (0, .ref (a 0)), (1, .int (nI k))]) dX7_readList_38 (by decide) rfl ?_
          refine zk_iload_n hc dX7_readList_39 0 rfl ?_
          refine zk_callSi hc (rest := []) (ct_X7_isLetter g l (nI (tx k))) gg_X7_145 cd_X7_isLetter ⟨Nat.le_of_ble_eq_true rfl, Nat.le_of_ble_eq_true rfl⟩ ⟨Nat.le_of_ble_eq_true rfl, Nat.le_of_ble_eq_true rfl⟩ ([]) (MW g.2.1 a u pa im tx rw rb rk rt1 he tr be sp pm fl ln rm n bn fk fp rs (-9) wp1 bm) rfl rfl (Nat.le_of_ble_eq_true rfl) dX7_readList_40 (fun r W1 hp => ?_)
          obtain ⟨rfl, rfl⟩ := hp
          refine zk_ws (ws2 := MW g.2.1 a u pa im tx rw rb rk rt1 he tr be sp pm fl ln rm n bn fk fp rs (-9) wp1 bm) rfl ?_
          by_cases hl0 : nI 65 ≤ (nI (tx k)) ∧ (nI (tx k)) ≤ nI 70
          · refine zk_top (y := nI 1) (if_pos hl0) ?_
            have hL := (inN (by omega) (by have := htx k (by omega); omega) (by omega)).mp hl0
            refine zk_if_eqN hc 90 dX7_readList_43 (by decide) (by omega) (fun h_2 => ?_) (fun h_2 => ?_)
            · exact absurd h_2 (by decide)
            · refine zk_aload_n hc dX7_readList_46 1 rfl ?_
              refine zk_get hc inlX7 (ci := 7) rfl 0 12 (by decide) mw_11_9 rfl rfl rfl dX7_readList_47 ?_
              refine zk_bipush hc (nI 10) dX7_readList_50 rfl ?_
              refine zk_icmp_neN hc 64 dX7_readList_52 (by decide) (by omega) (by omega) (fun h10 => ?_) (fun h10 => ?_)
              · refine zk_aload_n hc dX7_readList_64 1 rfl ?_
                refine zk_get hc inlX7 (ci := 7) rfl 0 15 (by decide) mw_4_21 rfl rfl rfl dX7_readList_65 ?_
                refine zk_aload_n hc dX7_readList_68 1 rfl ?_
                refine zk_get hc inlX7 (ci := 7) rfl 0 12 (by decide) mw_11_9 rfl rfl rfl dX7_readList_69 ?_
                refine zk_iload_n hc dX7_readList_72 0 rfl ?_
                refine zk_bipush hc (nI 65) dX7_readList_73 rfl ?_
                refine zk_isubN hc dX7_readList_75 (by omega) ?_
                refine zk_iastN hc 8 rfl (by omega) (by decide) (ws2 := MW g.2.1 a u pa im tx rw rb rk (va_up rt1 n ((tx k) - 65)) he tr be sp pm fl ln rm n bn fk fp rs (-9) wp1 bm) rfl dX7_readList_76 ?_
                refine zk_aload_n hc dX7_readList_77 1 rfl ?_
                refine zk_dup hc dX7_readList_78 rfl ?_
                refine zk_get hc inlX7 (ci := 7) rfl 0 12 (by decide) mw_11_9 rfl rfl rfl dX7_readList_79 ?_
                refine zk_iconst hc (nI 1) dX7_readList_82 rfl ?_
                refine zk_iaddN hc dX7_readList_83 ?_
                refine zk_put hc inlX7 (ci := 7) rfl tyX7 tyX7_ok nmX7 0 12 (by decide) mw_11_9 rfl rfl rfl rfl rfl (Nat.le_of_ble_eq_true rfl) (ws2 := MW g.2.1 a u pa im tx rw rb rk (va_up rt1 n ((tx k) - 65)) he tr be sp pm fl ln rm (n + 1) bn fk fp rs (-9) wp1 bm) rfl dX7_readList_84 ?_
                refine zk_goto hc 102 dX7_readList_87 (by decide) ?_
                refine zk_iinc hc (v := nI (k + 1)) (lv2 := [(1, .int (nI (k + 1))), (2, .int (nI (tx k))), (0, .ref (a 0))]) dX7_readList_102 2 rfl (nq_inc rfl) (by decide) rfl ?_
                refine zk_goto hc 15 dX7_readList_105 (by decide) ?_
                refine zk_lv [2, 0] (lv2 := [(0, .ref (a 0)), (1, .int (nI (k + 1)))]) rfl ?_
                exact ih15 (k + 1) (n + 1) (va_up rt1 n ((tx k) - 65)) (-9) wp1 (by omega) (by omega) (rlI_letter hI hL h10)
              · refine zk_aload_n hc dX7_readList_55 1 rfl ?_
                refine zk_iconst hc (nI 4) dX7_readList_56 rfl ?_
                refine zk_iload_n hc dX7_readList_57 2 rfl ?_
                refine zk_callVv hc (rest := []) (ct_X7_fails g l a u pa im tx rw rb rk rt1 he tr be sp pm fl ln rm n bn fk fp rs (-9) wp1 bm (nI 4) (nI k)) gg_X7_136 cd_X7_fails ⟨Nat.le_of_ble_eq_true rfl, Nat.le_of_ble_eq_true rfl⟩ ⟨Nat.le_of_ble_eq_true rfl, Nat.le_of_ble_eq_true rfl⟩ ([]) ([]) rfl 0 rfl rfl rfl (Nat.le_of_ble_eq_true rfl) dX7_readList_58 (fun W1 hp => ?_)
                obtain rfl := hp
                refine zk_ws (ws2 := MW g.2.1 a u pa im tx rw rb rk rt1 he tr be sp pm fl ln rm n bn fk fp rs (nI 4) (nI k) bm) rfl ?_
                refine zk_goto hc 102 dX7_readList_61 (by decide) ?_
                refine zk_iinc hc (v := nI (k + 1)) (lv2 := [(1, .int (nI (k + 1))), (2, .int (nI (tx k))), (0, .ref (a 0))]) dX7_readList_102 2 rfl (nq_inc rfl) (by decide) rfl ?_
                refine zk_goto hc 15 dX7_readList_105 (by decide) ?_
                refine zk_lv [2, 0] (lv2 := [(0, .ref (a 0)), (1, .int (nI (k + 1)))]) rfl ?_
                exact ih15 (k + 1) n rt1 (nI 4) (nI k) (by omega) (by omega) (rlI_many hI hL h10)
          · refine zk_top (y := nI 0) (if_neg hl0) ?_
            have hL : ¬ (65 ≤ tx k ∧ tx k ≤ 70) := fun z => hl0 ((inN (by omega) (by have := htx k (by omega); omega) (by omega)).mpr z)
            refine zk_if_eqN hc 90 dX7_readList_43 (by decide) (by omega) (fun h_3 => ?_) (fun h_3 => ?_)
            · refine zk_iload_n hc dX7_readList_90 0 rfl ?_
              refine zk_bipush hc (nI 32) dX7_readList_91 rfl ?_
              refine zk_icmp_eqN hc 102 dX7_readList_93 (by decide) (by have := htx k (by omega); omega) (by have := htx k (by omega); omega) (fun hbl => ?_) (fun hbl => ?_)
              · refine zk_iinc hc (v := nI (k + 1)) (lv2 := [(1, .int (nI (k + 1))), (2, .int (nI (tx k))), (0, .ref (a 0))]) dX7_readList_102 2 rfl (nq_inc rfl) (by decide) rfl ?_
                refine zk_goto hc 15 dX7_readList_105 (by decide) ?_
                refine zk_lv [2, 0] (lv2 := [(0, .ref (a 0)), (1, .int (nI (k + 1)))]) rfl ?_
                exact ih15 (k + 1) n rt1 (-9) wp1 (by omega) (by omega) (rlI_blank hI hL hbl)
              · refine zk_aload_n hc dX7_readList_96 1 rfl ?_
                refine zk_iconst hc (nI 1) dX7_readList_97 rfl ?_
                refine zk_iload_n hc dX7_readList_98 2 rfl ?_
                refine zk_callVv hc (rest := []) (ct_X7_fails g l a u pa im tx rw rb rk rt1 he tr be sp pm fl ln rm n bn fk fp rs (-9) wp1 bm (nI 1) (nI k)) gg_X7_136 cd_X7_fails ⟨Nat.le_of_ble_eq_true rfl, Nat.le_of_ble_eq_true rfl⟩ ⟨Nat.le_of_ble_eq_true rfl, Nat.le_of_ble_eq_true rfl⟩ ([]) ([]) rfl 0 rfl rfl rfl (Nat.le_of_ble_eq_true rfl) dX7_readList_99 (fun W1 hp => ?_)
                obtain rfl := hp
                refine zk_ws (ws2 := MW g.2.1 a u pa im tx rw rb rk rt1 he tr be sp pm fl ln rm n bn fk fp rs (nI 1) (nI k) bm) rfl ?_
                refine zk_iinc hc (v := nI (k + 1)) (lv2 := [(1, .int (nI (k + 1))), (2, .int (nI (tx k))), (0, .ref (a 0))]) dX7_readList_102 2 rfl (nq_inc rfl) (by decide) rfl ?_
                refine zk_goto hc 15 dX7_readList_105 (by decide) ?_
                refine zk_lv [2, 0] (lv2 := [(0, .ref (a 0)), (1, .int (nI (k + 1)))]) rfl ?_
                exact ih15 (k + 1) n rt1 (nI 1) (nI k) (by omega) (by omega) (rlI_bad hI hL hbl)
            · exact absurd h_3 (by decide)
  refine zk_lv [1, 0] (lv2 := [(0, .ref (a 0)), (1, .int (nI 0))]) rfl ?_
  exact loop15 ((ln - 0) + 1) 0 0 rt (-9) (-9) (Nat.lt_succ_self _) (Nat.zero_le _) ⟨_, 0, 0, rfl, fun j hj => absurd hj (Nat.not_lt_zero _), by omega, by omega, rfl, rfl⟩

set_option maxHeartbeats 4000000 in
set_option maxRecDepth 100000 in
theorem ct_X7_hasFault (g : GG) (l : Launch) (a : Nat → Nat) (u pa im tx rw rb rk rt he tr be sp : Nat → Nat) (pm fl ln rm rd bn : Nat) (fk fp rs wk wp bm : Int32)  : CtI g l yX7_hasFault cX7_hasFault 1 (some .boolean) (rmK 1 0 0) (MW g.2.1 a u pa im tx rw rb rk rt he tr be sp pm fl ln rm rd bn fk fp rs wk wp bm) [.ref (a 0)] (fun r W1 => r = (if ¬ wk = -9 then nI 1 else nI 0) ∧ W1 = MW g.2.1 a u pa im tx rw rb rk rt he tr be sp pm fl ln rm rd bn (if ¬ wk = -9 then wk else fk) (if ¬ wk = -9 then wp else fp) rs wk wp bm) := by
  refine CtZ.go RX7 rfl (by decide +kernel) (Nat.le_of_ble_eq_true rfl) ?_
  intro p e s m args below meth c A H0 Q hc hnm fin
  show KW g p l e (rmK 1 0 0) s m args below meth c 1 A H0 0 0 Q (MW g.2.1 a u pa im tx rw rb rk rt he tr be sp pm fl ln rm rd bn fk fp rs wk wp bm) [(0, .ref (a 0))] 0 []
  refine zk_aload_n hc dX7_hasFault_0 0 rfl ?_
  refine zk_get hc inlX7 (ci := 7) rfl 0 16 (by decide) mw_11_19 rfl rfl rfl dX7_hasFault_1 ?_
  refine zk_bipush hc ((-9)) dX7_hasFault_4 rfl ?_
  refine zk_icmp_eq hc 25 dX7_hasFault_6 (by decide) (fun h0 => ?_) (fun h0 => ?_)
  · refine zk_aload_n hc dX7_hasFault_25 0 rfl ?_
    refine zk_get hc inlX7 (ci := 7) rfl 0 16 (by decide) mw_11_19 rfl rfl rfl dX7_hasFault_26 ?_
    refine zk_bipush hc ((-9)) dX7_hasFault_29 rfl ?_
    refine zk_icmp_eq hc 38 dX7_hasFault_31 (by decide) (fun h1 => ?_) (fun h1 => ?_)
    · refine zk_iconst hc (nI 0) dX7_hasFault_38 rfl ?_
      exact fin 0 0 _ _ _ _ (by decide) (by decide) dX7_hasFault_39 rfl (⟨by rw [if_neg (not_not_intro h0)], by rw [if_neg (not_not_intro h0), if_neg (not_not_intro h0)]⟩)
    · exact absurd h0 h1
  · refine zk_aload_n hc dX7_hasFault_9 0 rfl ?_
    refine zk_aload_n hc dX7_hasFault_10 0 rfl ?_
    refine zk_get hc inlX7 (ci := 7) rfl 0 16 (by decide) mw_11_19 rfl rfl rfl dX7_hasFault_11 ?_
    refine zk_put hc inlX7 (ci := 7) rfl tyX7 tyX7_ok nmX7 0 7 (by decide) mw_4_15 rfl rfl rfl rfl rfl (Nat.le_of_ble_eq_true rfl) (ws2 := MW g.2.1 a u pa im tx rw rb rk rt he tr be sp pm fl ln rm rd bn wk fp rs wk wp bm) rfl dX7_hasFault_14 ?_
    refine zk_aload_n hc dX7_hasFault_17 0 rfl ?_
    refine zk_aload_n hc dX7_hasFault_18 0 rfl ?_
    refine zk_get hc inlX7 (ci := 7) rfl 0 17 (by decide) mw_12_0 rfl rfl rfl dX7_hasFault_19 ?_
    refine zk_put hc inlX7 (ci := 7) rfl tyX7 tyX7_ok nmX7 0 8 (by decide) mw_4_16 rfl rfl rfl rfl rfl (Nat.le_of_ble_eq_true rfl) (ws2 := MW g.2.1 a u pa im tx rw rb rk rt he tr be sp pm fl ln rm rd bn wk wp rs wk wp bm) rfl dX7_hasFault_22 ?_
    refine zk_aload_n hc dX7_hasFault_25 0 rfl ?_
    refine zk_get hc inlX7 (ci := 7) rfl 0 16 (by decide) mw_11_19 rfl rfl rfl dX7_hasFault_26 ?_
    refine zk_bipush hc ((-9)) dX7_hasFault_29 rfl ?_
    refine zk_icmp_eq hc 38 dX7_hasFault_31 (by decide) (fun h1 => ?_) (fun h1 => ?_)
    · exact absurd h1 h0
    · refine zk_iconst hc (nI 1) dX7_hasFault_34 rfl ?_
      refine zk_goto hc 39 dX7_hasFault_35 (by decide) ?_
      exact fin 0 0 _ _ _ _ (by decide) (by decide) dX7_hasFault_39 rfl (⟨by rw [if_pos h0], by rw [if_pos h0, if_pos h0]⟩)
