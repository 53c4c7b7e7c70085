set_option maxHeartbeats 4000000 in
set_option maxRecDepth 100000 in
theorem ct_L_areTracks (g : GG) (l : Launch) (b cN : Nat) (S : AS) (W : va_W) (hN : cN ≤ 500) (hI : INV cN S) (hS : CSt g b S W) (hW : WG S.1) : CtI g l yL_areTracks cL_areTracks 11 (some .boolean) (rmK 8 0 0) (W) [.ref b] (fun r W1 => r = nI 1 ∧ CSt g b S W1) := by
  refine CtZ.go RL rfl (by decide +kernel) (Nat.le_of_ble_eq_true rfl) ?_
  intro p e s m args below meth c A H0 Q hc hnm fin
  have h4 := hI.1.1
  have hG := wf_GU hI.1
  have hm8 := wf_m8 hI.1
  have h12 := hI.1.2.2.2.2.2.2.1
  have hB := hI.1.2.2.2.2.2.2.2.2.2.2.2
  have hB7 := hB 7 (by omega)
  have hB6 := hB 6 (by omega)
  have hB1 := hI.1.2.2.2.1
  have hB0 := hI.1.2.2.1
  have hcap := hI.1.2.2.2.2.2.2.2.2.2.1
  have h5 := hG.2.1
  have hkd := hI.1.2.2.2.2.2.2.2.2.2.2.1
  have hw3 := hW.2.2
  have hB11 := hB 11 (by omega)
  show KW g p l e (rmK 8 0 0) s m args below meth c 11 A H0 0 0 Q (W) [(0, .ref b)] 0 []
  refine zk_iconst hc (nI 0) dL_areTracks_0 rfl ?_
  refine zk_istore_n hc (lv2 := [(1, .int (nI 0)), (0, .ref b)]) dL_areTracks_1 (by decide) rfl ?_
  refine zk_iconst hc (nI 0) dL_areTracks_2 rfl ?_
  refine zk_istore_n hc (lv2 := [(2, .int (nI 0)), (1, .int (nI 0)), (0, .ref b)]) dL_areTracks_3 (by decide) rfl ?_
  refine zk_iconst hc (nI 0) dL_areTracks_4 rfl ?_
  refine zk_istore_n hc (lv2 := [(3, .int (nI 0)), (2, .int (nI 0)), (1, .int (nI 0)), (0, .ref b)]) dL_areTracks_5 (by decide) rfl ?_
  have loop6 : ∀ (N : Nat) (t : Nat) (Wt : va_W), S.1 4 - t < N → (t ≤ S.1 4) → (CSt g b S Wt) → KW g p l e (rmK 8 0 0) s m args below meth c 11 A H0 0 0 Q (Wt) [(0, .ref b), (1, .int (nI (wgs S.1 t))), (2, .int (nI (unsN S.1 t))), (3, .int (nI t))] 6 [] := by
    intro N
    induction N with
    | zero => intro t Wt hm; exact absurd hm (Nat.not_lt_zero _)
    | succ N ih6 =>
      intro t Wt hm6 ht hSt
      refine zk_iload_n hc dL_areTracks_6 3 rfl ?_
      refine zk_aload_n hc dL_areTracks_7 0 rfl ?_
      refine zk_iconst hc (nI 0) dL_areTracks_8 rfl ?_
      obtain ⟨hat_3_f, hat_3⟩ := cs_at hSt
      refine zk_callVi hc (rest := [.int (nI t)]) (kx_told g l b S Wt cN (by omega) hI hSt (nI 0)) gg_L_25 cd_X6_told ⟨Nat.le_of_ble_eq_true rfl, Nat.le_of_ble_eq_true rfl⟩ ⟨Nat.le_of_ble_eq_true rfl, Nat.le_of_ble_eq_true rfl⟩ ([]) ([]) (by simp only [List.append_nil, List.nil_append]) 0 hat_3 rfl rfl (Nat.le_of_ble_eq_true rfl) dL_areTracks_9 (fun r W_1 hp => ?_)
      obtain ⟨rfl, hS_2⟩ := hp
      refine zk_ws (ws2 := W_1) (by simp only [List.append_nil, List.nil_append]) ?_
      refine zk_top (y := nI (S.1 4)) (tol_n _ (by omega)) ?_
      refine zk_icmp_geN hc 317 dL_areTracks_12 (by decide) (by omega) (by omega) (fun hz12 => ?_) (fun hz12 => ?_)
      · have ht4 : t = S.1 4 := by omega
        have hw4 : wgs S.1 t = wgs S.1 (S.1 4) := by rw [ht4]
        have hu4 : unsN S.1 t = unsN S.1 (S.1 4) := by rw [ht4]
        have hul := unsN_le S.1 (S.1 4)
        refine zk_aload_n hc dL_areTracks_317 0 rfl ?_
        refine zk_iconst hc (nI 3) dL_areTracks_318 rfl ?_
        obtain ⟨hat_6_f, hat_6⟩ := cs_at hS_2
        refine zk_callVi hc (rest := []) (kx_told g l b S W_1 cN (by omega) hI hS_2 (nI 3)) gg_L_25 cd_X6_told ⟨Nat.le_of_ble_eq_true rfl, Nat.le_of_ble_eq_true rfl⟩ ⟨Nat.le_of_ble_eq_true rfl, Nat.le_of_ble_eq_true rfl⟩ ([]) ([]) (by simp only [List.append_nil, List.nil_append]) 0 hat_6 rfl rfl (Nat.le_of_ble_eq_true rfl) dL_areTracks_319 (fun r W_4 hp => ?_)
        obtain ⟨rfl, hS_5⟩ := hp
        refine zk_ws (ws2 := W_4) (by simp only [List.append_nil, List.nil_append]) ?_
        refine zk_top (y := nI (wgs S.1 (S.1 4))) (tol_n _ (by omega)) ?_
        refine zk_iload_n hc dL_areTracks_322 1 rfl ?_
        refine zk_icmp_neN hc 410 dL_areTracks_323 (by decide) (by omega) (by omega) (fun h_7 => ?_) (fun h_7 => ?_)
        · exact absurd h_7 (by omega)
        · refine zk_aload_n hc dL_areTracks_326 0 rfl ?_
          refine zk_iconst hc (nI 5) dL_areTracks_327 rfl ?_
          obtain ⟨hat_10_f, hat_10⟩ := cs_at hS_5
          refine zk_callVi hc (rest := []) (kx_told g l b S W_4 cN (by omega) hI hS_5 (nI 5)) gg_L_25 cd_X6_told ⟨Nat.le_of_ble_eq_true rfl, Nat.le_of_ble_eq_true rfl⟩ ⟨Nat.le_of_ble_eq_true rfl, Nat.le_of_ble_eq_true rfl⟩ ([]) ([]) (by simp only [List.append_nil, List.nil_append]) 0 hat_10 rfl rfl (Nat.le_of_ble_eq_true rfl) dL_areTracks_328 (fun r W_8 hp => ?_)
          obtain ⟨rfl, hS_9⟩ := hp
          refine zk_ws (ws2 := W_8) (by simp only [List.append_nil, List.nil_append]) ?_
          refine zk_top (y := nI (unsN S.1 (S.1 4))) (tol_n _ (by omega)) ?_
          refine zk_iload_n hc dL_areTracks_331 2 rfl ?_
          refine zk_icmp_neN hc 410 dL_areTracks_332 (by decide) (by omega) (by omega) (fun h_11 => ?_) (fun h_11 => ?_)
          · exact absurd h_11 (by omega)
          · refine zk_aload_n hc dL_areTracks_335 0 rfl ?_
            refine zk_bipush hc (nI 10) dL_areTracks_336 rfl ?_
            obtain ⟨hat_14_f, hat_14⟩ := cs_at hS_9
            refine zk_callVi hc (rest := []) (kx_told g l b S W_8 cN (by omega) hI hS_9 (nI 10)) gg_L_25 cd_X6_told ⟨Nat.le_of_ble_eq_true rfl, Nat.le_of_ble_eq_true rfl⟩ ⟨Nat.le_of_ble_eq_true rfl, Nat.le_of_ble_eq_true rfl⟩ ([]) ([]) (by simp only [List.append_nil, List.nil_append]) 0 hat_14 rfl rfl (Nat.le_of_ble_eq_true rfl) dL_areTracks_338 (fun r W_12 hp => ?_)
            obtain ⟨rfl, hS_13⟩ := hp
            refine zk_ws (ws2 := W_12) (by simp only [List.append_nil, List.nil_append]) ?_
            refine zk_top (y := nI (S.1 7)) (tol_n _ (by omega)) ?_
            refine zk_iload_n hc dL_areTracks_341 1 rfl ?_
            refine zk_aload_n hc dL_areTracks_342 0 rfl ?_
            refine zk_bipush hc (nI 9) dL_areTracks_343 rfl ?_
            obtain ⟨hat_17_f, hat_17⟩ := cs_at hS_13
            refine zk_callVi hc (rest := [.int (nI (wgs S.1 t)), .int (nI (S.1 7))]) (kx_told g l b S W_12 cN (by omega) hI hS_13 (nI 9)) gg_L_25 cd_X6_told ⟨Nat.le_of_ble_eq_true rfl, Nat.le_of_ble_eq_true rfl⟩ ⟨Nat.le_of_ble_eq_true rfl, Nat.le_of_ble_eq_true rfl⟩ ([]) ([]) (by simp only [List.append_nil, List.nil_append]) 0 hat_17 rfl rfl (Nat.le_of_ble_eq_true rfl) dL_areTracks_345 (fun r W_15 hp => ?_)
            obtain ⟨rfl, hS_16⟩ := hp
            refine zk_ws (ws2 := W_15) (by simp only [List.append_nil, List.nil_append]) ?_
            refine zk_top (y := nI (S.1 11)) (tol_n _ (by omega)) ?_
            refine zk_iaddN hc dL_areTracks_348 ?_
            refine zk_icmp_neN hc 410 dL_areTracks_349 (by decide) (by omega) (by omega) (fun h_18 => ?_) (fun h_18 => ?_)
            · exact absurd h_18 (by omega)
            · refine zk_aload_n hc dL_areTracks_352 0 rfl ?_
              refine zk_iconst hc (nI 4) dL_areTracks_353 rfl ?_
              obtain ⟨hat_21_f, hat_21⟩ := cs_at hS_16
              refine zk_callVi hc (rest := []) (kx_told g l b S W_15 cN (by omega) hI hS_16 (nI 4)) gg_L_25 cd_X6_told ⟨Nat.le_of_ble_eq_true rfl, Nat.le_of_ble_eq_true rfl⟩ ⟨Nat.le_of_ble_eq_true rfl, Nat.le_of_ble_eq_true rfl⟩ ([]) ([]) (by simp only [List.append_nil, List.nil_append]) 0 hat_21 rfl rfl (Nat.le_of_ble_eq_true rfl) dL_areTracks_354 (fun r W_19 hp => ?_)
              obtain ⟨rfl, hS_20⟩ := hp
              refine zk_ws (ws2 := W_19) (by simp only [List.append_nil, List.nil_append]) ?_
              refine zk_top (y := nI (S.1 12)) (tol_n _ (by omega)) ?_
              refine zk_bipush hc (nI 10) dL_areTracks_357 rfl ?_
              refine zk_icmp_gtN hc 410 dL_areTracks_359 (by decide) (by omega) (by omega) (fun h_22 => ?_) (fun h_22 => ?_)
              · exact absurd h_22 (by omega)
              · refine zk_aload_n hc dL_areTracks_362 0 rfl ?_
                refine zk_aload_n hc dL_areTracks_363 0 rfl ?_
                refine zk_bipush hc (nI 10) dL_areTracks_364 rfl ?_
                obtain ⟨hat_25_f, hat_25⟩ := cs_at hS_20
                refine zk_callVi hc (rest := [.ref b]) (kx_told g l b S W_19 cN (by omega) hI hS_20 (nI 10)) gg_L_25 cd_X6_told ⟨Nat.le_of_ble_eq_true rfl, Nat.le_of_ble_eq_true rfl⟩ ⟨Nat.le_of_ble_eq_true rfl, Nat.le_of_ble_eq_true rfl⟩ ([]) ([]) (by simp only [List.append_nil, List.nil_append]) 0 hat_25 rfl rfl (Nat.le_of_ble_eq_true rfl) dL_areTracks_366 (fun r W_23 hp => ?_)
                obtain ⟨rfl, hS_24⟩ := hp
                refine zk_ws (ws2 := W_23) (by simp only [List.append_nil, List.nil_append]) ?_
                refine zk_top (y := nI (S.1 7)) (tol_n _ (by omega)) ?_
                refine zk_iconst hc (nI 0) dL_areTracks_369 rfl ?_
                obtain ⟨hat_28_f, hat_28⟩ := cs_at hS_24
                refine zk_callVi hc (rest := []) (kx_find g l b S W_23 cN (by omega) hI hS_24 (nI (S.1 7)) (nI 0)) gg_L_77 cd_X6_find ⟨Nat.le_of_ble_eq_true rfl, Nat.le_of_ble_eq_true rfl⟩ ⟨Nat.le_of_ble_eq_true rfl, Nat.le_of_ble_eq_true rfl⟩ ([]) ([]) (by simp only [List.append_nil, List.nil_append]) 0 hat_28 rfl rfl (Nat.le_of_ble_eq_true rfl) dL_areTracks_370 (fun r W_26 hp => ?_)
                obtain ⟨rfl, hS_27⟩ := hp
                refine zk_ws (ws2 := W_26) (by simp only [List.append_nil, List.nil_append]) ?_
                refine zk_top (y := (-9)) (fin_x hW (by omega)) ?_
                refine zk_bipush hc ((-9)) dL_areTracks_373 rfl ?_
                refine zk_icmp_ne hc 410 dL_areTracks_375 (by decide) (fun h375 => ?_) (fun h375 => ?_)
                · exact absurd rfl h375
                · refine zk_aload_n hc dL_areTracks_378 0 rfl ?_
                  refine zk_aload_n hc dL_areTracks_379 0 rfl ?_
                  refine zk_iconst hc (nI 4) dL_areTracks_380 rfl ?_
                  obtain ⟨hat_31_f, hat_31⟩ := cs_at hS_27
                  refine zk_callVi hc (rest := [.ref b]) (kx_told g l b S W_26 cN (by omega) hI hS_27 (nI 4)) gg_L_25 cd_X6_told ⟨Nat.le_of_ble_eq_true rfl, Nat.le_of_ble_eq_true rfl⟩ ⟨Nat.le_of_ble_eq_true rfl, Nat.le_of_ble_eq_true rfl⟩ ([]) ([]) (by simp only [List.append_nil, List.nil_append]) 0 hat_31 rfl rfl (Nat.le_of_ble_eq_true rfl) dL_areTracks_381 (fun r W_29 hp => ?_)
                  obtain ⟨rfl, hS_30⟩ := hp
                  refine zk_ws (ws2 := W_29) (by simp only [List.append_nil, List.nil_append]) ?_
                  refine zk_top (y := nI (S.1 12)) (tol_n _ (by omega)) ?_
                  obtain ⟨hat_34_f, hat_34⟩ := cs_at hS_30
                  refine zk_callVi hc (rest := []) (kx_train g l b S W_29 cN (by omega) hI hS_30 (nI (S.1 12))) gg_L_83 cd_X6_train ⟨Nat.le_of_ble_eq_true rfl, Nat.le_of_ble_eq_true rfl⟩ ⟨Nat.le_of_ble_eq_true rfl, Nat.le_of_ble_eq_true rfl⟩ ([]) ([]) (by simp only [List.append_nil, List.nil_append]) 0 hat_34 rfl rfl (Nat.le_of_ble_eq_true rfl) dL_areTracks_384 (fun r W_32 hp => ?_)
                  obtain ⟨rfl, hS_33⟩ := hp
                  refine zk_ws (ws2 := W_32) (by simp only [List.append_nil, List.nil_append]) ?_
                  refine zk_top (y := (-9)) (tra_x h12) ?_
                  refine zk_bipush hc ((-9)) dL_areTracks_387 rfl ?_
                  refine zk_icmp_ne hc 410 dL_areTracks_389 (by decide) (fun h389 => ?_) (fun h389 => ?_)
                  · exact absurd rfl h389
                  · refine zk_aload_n hc dL_areTracks_392 0 rfl ?_
                    refine zk_aload_n hc dL_areTracks_393 0 rfl ?_
                    refine zk_iconst hc (nI 0) dL_areTracks_394 rfl ?_
                    obtain ⟨hat_37_f, hat_37⟩ := cs_at hS_33
                    refine zk_callVi hc (rest := [.ref b]) (kx_told g l b S W_32 cN (by omega) hI hS_33 (nI 0)) gg_L_25 cd_X6_told ⟨Nat.le_of_ble_eq_true rfl, Nat.le_of_ble_eq_true rfl⟩ ⟨Nat.le_of_ble_eq_true rfl, Nat.le_of_ble_eq_true rfl⟩ ([]) ([]) (by simp only [List.append_nil, List.nil_append]) 0 hat_37 rfl rfl (Nat.le_of_ble_eq_true rfl) dL_areTracks_395 (fun r W_35 hp => ?_)
                    obtain ⟨rfl, hS_36⟩ := hp
                    refine zk_ws (ws2 := W_35) (by simp only [List.append_nil, List.nil_append]) ?_
                    refine zk_top (y := nI (S.1 4)) (tol_n _ (by omega)) ?_
                    refine zk_iconst hc (nI 0) dL_areTracks_398 rfl ?_
                    obtain ⟨hat_40_f, hat_40⟩ := cs_at hS_36
                    refine zk_callVi hc (rest := []) (kx_track g l b S W_35 cN (by omega) hI hS_36 (nI (S.1 4)) (nI 0)) gg_L_71 cd_X6_track ⟨Nat.le_of_ble_eq_true rfl, Nat.le_of_ble_eq_true rfl⟩ ⟨Nat.le_of_ble_eq_true rfl, Nat.le_of_ble_eq_true rfl⟩ ([]) ([]) (by simp only [List.append_nil, List.nil_append]) 0 hat_40 rfl rfl (Nat.le_of_ble_eq_true rfl) dL_areTracks_399 (fun r W_38 hp => ?_)
                    obtain ⟨rfl, hS_39⟩ := hp
                    refine zk_ws (ws2 := W_38) (by simp only [List.append_nil, List.nil_append]) ?_
                    refine zk_top (y := (-1)) (trk_x h4.1 h4.2) ?_
                    refine zk_iconst hc ((-1)) dL_areTracks_402 rfl ?_
                    refine zk_icmp_ne hc 410 dL_areTracks_403 (by decide) (fun h403 => ?_) (fun h403 => ?_)
                    · exact absurd rfl h403
                    · refine zk_iconst hc (nI 1) dL_areTracks_406 rfl ?_
                      refine zk_goto hc 411 dL_areTracks_407 (by decide) ?_
                      refine fin 0 0 _ _ _ _ (by decide) (by decide) dL_areTracks_411 rfl (?_)
                      exact ⟨rfl, hS_39⟩
      · have hmt := hm8 t (by omega)
        have hct := hcap t (by omega)
        refine zk_aload_n hc dL_areTracks_15 0 rfl ?_
        refine zk_iload_n hc dL_areTracks_16 3 rfl ?_
        refine zk_iconst hc (nI 0) dL_areTracks_17 rfl ?_
        obtain ⟨hat_43_f, hat_43⟩ := cs_at hS_2
        refine zk_callVi hc (rest := []) (kx_track g l b S W_1 cN (by omega) hI hS_2 (nI t) (nI 0)) gg_L_71 cd_X6_track ⟨Nat.le_of_ble_eq_true rfl, Nat.le_of_ble_eq_true rfl⟩ ⟨Nat.le_of_ble_eq_true rfl, Nat.le_of_ble_eq_true rfl⟩ ([]) ([]) (by simp only [List.append_nil, List.nil_append]) 0 hat_43 rfl rfl (Nat.le_of_ble_eq_true rfl) dL_areTracks_18 (fun r W_41 hp => ?_)
        obtain ⟨rfl, hS_42⟩ := hp
        refine zk_ws (ws2 := W_41) (by simp only [List.append_nil, List.nil_append]) ?_
        refine zk_top (y := nI (mny S.1 t)) (trk_n h4.2 (by omega) (by omega)) ?_
        refine zk_istore hc (lv2 := [(4, .int (nI (mny S.1 t))), (0, .ref b), (1, .int (nI (wgs S.1 t))), (2, .int (nI (unsN S.1 t))), (3, .int (nI t))]) dL_areTracks_21 (by decide) rfl ?_
        refine zk_iconst hc ((-1)) dL_areTracks_23 rfl ?_
        refine zk_istore hc (lv2 := [(5, .int (-1)), (4, .int (nI (mny S.1 t))), (0, .ref b), (1, .int (nI (wgs S.1 t))), (2, .int (nI (unsN S.1 t))), (3, .int (nI t))]) dL_areTracks_24 (by decide) rfl ?_
        refine zk_bipush hc ((-9)) dL_areTracks_26 rfl ?_
        refine zk_istore hc (lv2 := [(6, .int (-9)), (5, .int (-1)), (4, .int (nI (mny S.1 t))), (0, .ref b), (1, .int (nI (wgs S.1 t))), (2, .int (nI (unsN S.1 t))), (3, .int (nI t))]) dL_areTracks_28 (by decide) rfl ?_
        refine zk_iconst hc (nI 0) dL_areTracks_30 rfl ?_
        refine zk_istore hc (lv2 := [(7, .int (nI 0)), (6, .int (-9)), (5, .int (-1)), (4, .int (nI (mny S.1 t))), (0, .ref b), (1, .int (nI (wgs S.1 t))), (2, .int (nI (unsN S.1 t))), (3, .int (nI t))]) dL_areTracks_31 (by decide) rfl ?_
        have loop33 : ∀ (N : Nat) (k : Nat) (la : Int32) (le : Int32) (Wk : va_W), mny S.1 t - k < N → (k ≤ mny S.1 t) → (LA S.1 t k la) → (LE S.1 t k le) → (CSt g b S Wk) → KW g p l e (rmK 8 0 0) s m args below meth c 11 A H0 0 0 Q (Wk) [(0, .ref b), (1, .int (nI (wgs S.1 t))), (2, .int (nI (unsN S.1 t))), (3, .int (nI t)), (4, .int (nI (mny S.1 t))), (5, .int la), (6, .int le), (7, .int (nI k))] 33 [] := by
          intro N
          induction N with
          | zero => intro k la le Wk hm; exact absurd hm (Nat.not_lt_zero _)
          | succ N ih33 =>
            intro k la le Wk hm33 hk hLA hLE hSk
            refine zk_iload hc dL_areTracks_33 7 rfl ?_
            refine zk_iload hc dL_areTracks_35 4 rfl ?_
            refine zk_icmp_geN hc 193 dL_areTracks_37 (by decide) (by omega) (by omega) (fun h37 => ?_) (fun h37 => ?_)
            · rw [show k = mny S.1 t by omega] at hLE
              rcases hLE with ⟨hg, rfl⟩ | ⟨mm, hmm, hg, rfl⟩
              · skip
                refine zk_iload hc dL_areTracks_193 6 rfl ?_
                refine zk_if_lt hc 208 dL_areTracks_195 (by decide) (fun h195 => ?_) (fun h195 => ?_)
                · refine zk_iconst hc (nI 1) dL_areTracks_208 rfl ?_
                  refine zk_goto hc 213 dL_areTracks_209 (by decide) ?_
                  refine zk_istore hc (lv2 := [(7, .int (nI 1)), (0, .ref b), (1, .int (nI (wgs S.1 t))), (2, .int (nI (unsN S.1 t))), (3, .int (nI t)), (4, .int (nI (mny S.1 t))), (5, .int la), (6, .int (-9))]) dL_areTracks_213 (by decide) rfl ?_
                  refine zk_iload hc dL_areTracks_215 0 rfl ?_
                  refine zk_if_eqN hc 224 dL_areTracks_217 (by decide) (by omega) (fun h_44 => ?_) (fun h_44 => ?_)
                  · exact absurd h_44 (by decide)
                  · refine zk_iload_n hc dL_areTracks_220 3 rfl ?_
                    refine zk_goto hc 227 dL_areTracks_221 (by decide) ?_
                    refine zk_top (y := nI (unsN S.1 (t + 1))) (congrArg nI (uns_1 (by omega)).symm) ?_
                    refine zk_istore_n hc (lv2 := [(2, .int (nI (unsN S.1 (t + 1)))), (7, .int (nI 1)), (0, .ref b), (1, .int (nI (wgs S.1 t))), (3, .int (nI t)), (4, .int (nI (mny S.1 t))), (5, .int la), (6, .int (-9))]) dL_areTracks_227 (by decide) rfl ?_
                    refine zk_iload_n hc dL_areTracks_228 3 rfl ?_
                    refine zk_iload hc dL_areTracks_229 5 rfl ?_
                    refine zk_iaddN hc dL_areTracks_231 ?_
                    refine zk_istore_n hc (lv2 := [(1, .int (nI ((wgs S.1 t) + (mny S.1 t)))), (2, .int (nI (unsN S.1 (t + 1)))), (7, .int (nI 1)), (0, .ref b), (3, .int (nI t)), (4, .int (nI (mny S.1 t))), (5, .int la), (6, .int (-9))]) dL_areTracks_232 (by decide) rfl ?_
                    refine zk_iload hc dL_areTracks_233 5 rfl ?_
                    refine zk_aload_n hc dL_areTracks_235 3 rfl ?_
                    refine zk_iconst hc (nI 1) dL_areTracks_236 rfl ?_
                    obtain ⟨hat_47_f, hat_47⟩ := cs_at hSk
                    refine zk_callVi hc (rest := [.int (nI (mny S.1 t))]) (kx_told g l b S Wk cN (by omega) hI hSk (nI 1)) gg_L_25 cd_X6_told ⟨Nat.le_of_ble_eq_true rfl, Nat.le_of_ble_eq_true rfl⟩ ⟨Nat.le_of_ble_eq_true rfl, Nat.le_of_ble_eq_true rfl⟩ ([]) ([]) (by simp only [List.append_nil, List.nil_append]) 0 hat_47 rfl rfl (Nat.le_of_ble_eq_true rfl) dL_areTracks_237 (fun r W_45 hp => ?_)
                    obtain ⟨rfl, hS_46⟩ := hp
                    refine zk_ws (ws2 := W_45) (by simp only [List.append_nil, List.nil_append]) ?_
                    refine zk_top (y := nI (S.1 5)) (tol_n _ (by omega)) ?_
                    refine zk_icmp_gtN hc 309 dL_areTracks_240 (by decide) (by omega) (by omega) (fun h_48 => ?_) (fun h_48 => ?_)
                    · exact absurd h_48 (by omega)
                    · refine zk_aload_n hc dL_areTracks_243 3 rfl ?_
                      refine zk_iload_n hc dL_areTracks_244 4 rfl ?_
                      refine zk_iconst hc (nI 3) dL_areTracks_245 rfl ?_
                      obtain ⟨hat_51_f, hat_51⟩ := cs_at hS_46
                      refine zk_callVi hc (rest := []) (kx_track g l b S W_45 cN (by omega) hI hS_46 (nI t) (nI 3)) gg_L_71 cd_X6_track ⟨Nat.le_of_ble_eq_true rfl, Nat.le_of_ble_eq_true rfl⟩ ⟨Nat.le_of_ble_eq_true rfl, Nat.le_of_ble_eq_true rfl⟩ ([]) ([]) (by simp only [List.append_nil, List.nil_append]) 0 hat_51 rfl rfl (Nat.le_of_ble_eq_true rfl) dL_areTracks_246 (fun r W_49 hp => ?_)
                      obtain ⟨rfl, hS_50⟩ := hp
                      refine zk_ws (ws2 := W_49) (by simp only [List.append_nil, List.nil_append]) ?_
                      refine zk_top (y := (-9)) ((trk_n h4.2 (by omega) (by omega)).trans ((trk_3 _ _).trans (by rw [hg]; rfl))) ?_
                      refine zk_iload hc dL_areTracks_249 7 rfl ?_
                      refine zk_icmp_ne hc 309 dL_areTracks_251 (by decide) (fun h251 => ?_) (fun h251 => ?_)
                      · exact absurd rfl h251
                      · refine zk_aload_n hc dL_areTracks_254 3 rfl ?_
                        refine zk_iload_n hc dL_areTracks_255 4 rfl ?_
                        refine zk_iconst hc (nI 1) dL_areTracks_256 rfl ?_
                        obtain ⟨hat_54_f, hat_54⟩ := cs_at hS_50
                        refine zk_callVi hc (rest := []) (kx_track g l b S W_49 cN (by omega) hI hS_50 (nI t) (nI 1)) gg_L_71 cd_X6_track ⟨Nat.le_of_ble_eq_true rfl, Nat.le_of_ble_eq_true rfl⟩ ⟨Nat.le_of_ble_eq_true rfl, Nat.le_of_ble_eq_true rfl⟩ ([]) ([]) (by simp only [List.append_nil, List.nil_append]) 0 hat_54 rfl rfl (Nat.le_of_ble_eq_true rfl) dL_areTracks_257 (fun r W_52 hp => ?_)
                        obtain ⟨rfl, hS_53⟩ := hp
                        refine zk_ws (ws2 := W_52) (by simp only [List.append_nil, List.nil_append]) ?_
                        refine zk_top (y := nI 1) ((trk_n h4.2 (by omega) (by omega)).trans ((trk_1 _ _).trans (if_pos (by omega)))) ?_
                        refine zk_iload hc dL_areTracks_260 2 rfl ?_
                        refine zk_if_eqN hc 269 dL_areTracks_262 (by decide) (by omega) (fun h_55 => ?_) (fun h_55 => ?_)
                        · exact absurd h_55 (by decide)
                        · refine zk_iconst hc (nI 1) dL_areTracks_265 rfl ?_
                          refine zk_goto hc 270 dL_areTracks_266 (by decide) ?_
                          refine zk_icmp_neN hc 309 dL_areTracks_270 (by decide) (by omega) (by omega) (fun h_56 => ?_) (fun h_56 => ?_)
                          · exact absurd h_56 (by decide)
                          · refine zk_aload_n hc dL_areTracks_273 3 rfl ?_
                            refine zk_iload_n hc dL_areTracks_274 4 rfl ?_
                            refine zk_iload hc dL_areTracks_275 5 rfl ?_
                            refine zk_iconst hc (nI 0) dL_areTracks_277 rfl ?_
                            obtain ⟨hat_59_f, hat_59⟩ := cs_at hS_53
                            refine zk_callVi hc (rest := []) (kx_wagon g l b S W_52 cN (by omega) hI hS_53 (nI t) (nI (mny S.1 t)) (nI 0)) gg_L_74 cd_X6_wagon ⟨Nat.le_of_ble_eq_true rfl, Nat.le_of_ble_eq_true rfl⟩ ⟨Nat.le_of_ble_eq_true rfl, Nat.le_of_ble_eq_true rfl⟩ ([]) ([]) (by simp only [List.append_nil, List.nil_append]) 0 hat_59 rfl rfl (Nat.le_of_ble_eq_true rfl) dL_areTracks_278 (fun r W_57 hp => ?_)
                            obtain ⟨rfl, hS_58⟩ := hp
                            refine zk_ws (ws2 := W_57) (by simp only [List.append_nil, List.nil_append]) ?_
                            refine zk_top (y := (-9)) (wag_x h4.2 (by omega) (by omega) (by omega)) ?_
                            refine zk_bipush hc ((-9)) dL_areTracks_281 rfl ?_
                            refine zk_icmp_ne hc 309 dL_areTracks_283 (by decide) (fun h283 => ?_) (fun h283 => ?_)
                            · exact absurd rfl h283
                            · have hhl := hold_le S.1 t
                              refine zk_aload_n hc dL_areTracks_286 3 rfl ?_
                              refine zk_iload_n hc dL_areTracks_287 4 rfl ?_
                              refine zk_iconst hc (nI 2) dL_areTracks_288 rfl ?_
                              obtain ⟨hat_62_f, hat_62⟩ := cs_at hS_58
                              refine zk_callVi hc (rest := []) (kx_track g l b S W_57 cN (by omega) hI hS_58 (nI t) (nI 2)) gg_L_71 cd_X6_track ⟨Nat.le_of_ble_eq_true rfl, Nat.le_of_ble_eq_true rfl⟩ ⟨Nat.le_of_ble_eq_true rfl, Nat.le_of_ble_eq_true rfl⟩ ([]) ([]) (by simp only [List.append_nil, List.nil_append]) 0 hat_62 rfl rfl (Nat.le_of_ble_eq_true rfl) dL_areTracks_289 (fun r W_60 hp => ?_)
                              obtain ⟨rfl, hS_61⟩ := hp
                              refine zk_ws (ws2 := W_60) (by simp only [List.append_nil, List.nil_append]) ?_
                              refine zk_top (y := nI (hold S.1 t)) (trk_n h4.2 (by omega) (by omega)) ?_
                              refine zk_if_lt hc 309 dL_areTracks_292 (by decide) (fun h292 => ?_) (fun h292 => ?_)
                              · exact absurd h292 (nI_pos (by omega))
                              · refine zk_aload_n hc dL_areTracks_295 3 rfl ?_
                                refine zk_iload_n hc dL_areTracks_296 4 rfl ?_
                                refine zk_iconst hc (nI 2) dL_areTracks_297 rfl ?_
                                obtain ⟨hat_65_f, hat_65⟩ := cs_at hS_61
                                refine zk_callVi hc (rest := []) (kx_track g l b S W_60 cN (by omega) hI hS_61 (nI t) (nI 2)) gg_L_71 cd_X6_track ⟨Nat.le_of_ble_eq_true rfl, Nat.le_of_ble_eq_true rfl⟩ ⟨Nat.le_of_ble_eq_true rfl, Nat.le_of_ble_eq_true rfl⟩ ([]) ([]) (by simp only [List.append_nil, List.nil_append]) 0 hat_65 rfl rfl (Nat.le_of_ble_eq_true rfl) dL_areTracks_298 (fun r W_63 hp => ?_)
                                obtain ⟨rfl, hS_64⟩ := hp
                                refine zk_ws (ws2 := W_63) (by simp only [List.append_nil, List.nil_append]) ?_
                                refine zk_top (y := nI (hold S.1 t)) (trk_n h4.2 (by omega) (by omega)) ?_
                                refine zk_aload_n hc dL_areTracks_301 3 rfl ?_
                                refine zk_iconst hc (nI 1) dL_areTracks_302 rfl ?_
                                obtain ⟨hat_68_f, hat_68⟩ := cs_at hS_64
                                refine zk_callVi hc (rest := [.int (nI (hold S.1 t))]) (kx_setting g l b S W_63 cN (by omega) hI hS_64 (nI 1)) gg_L_80 cd_X6_setting ⟨Nat.le_of_ble_eq_true rfl, Nat.le_of_ble_eq_true rfl⟩ ⟨Nat.le_of_ble_eq_true rfl, Nat.le_of_ble_eq_true rfl⟩ ([]) ([]) (by simp only [List.append_nil, List.nil_append]) 0 hat_68 rfl rfl (Nat.le_of_ble_eq_true rfl) dL_areTracks_303 (fun r W_66 hp => ?_)
                                obtain ⟨rfl, hS_67⟩ := hp
                                refine zk_ws (ws2 := W_66) (by simp only [List.append_nil, List.nil_append]) ?_
                                refine zk_top (y := nI (S.1 1)) (sti_n _ (by omega)) ?_
                                refine zk_icmp_leN hc 311 dL_areTracks_306 (by decide) (by omega) (by omega) (fun h_69 => ?_) (fun h_69 => ?_)
                                · refine zk_iinc hc (v := nI (t + 1)) (lv2 := [(3, .int (nI (t + 1))), (1, .int (nI ((wgs S.1 t) + (mny S.1 t)))), (2, .int (nI (unsN S.1 (t + 1)))), (7, .int (nI 1)), (0, .ref b), (4, .int (nI (mny S.1 t))), (5, .int la), (6, .int (-9))]) dL_areTracks_311 4 rfl (nq_inc rfl) (by decide) rfl ?_
                                  refine zk_goto hc 6 dL_areTracks_314 (by decide) ?_
                                  refine zk_lv [4, 1, 2, 0] (lv2 := [(0, .ref b), (1, .int (nI ((wgs S.1 t) + (mny S.1 t)))), (2, .int (nI (unsN S.1 (t + 1)))), (3, .int (nI (t + 1)))]) rfl ?_
                                  exact ih6 (t + 1) W_66 (by omega) (by omega) hS_67
                                · exact absurd h_69 (by omega)
                · exact absurd (by decide) h195
              · skip
                refine zk_iload hc dL_areTracks_193 6 rfl ?_
                refine zk_if_lt hc 208 dL_areTracks_195 (by decide) (fun h195 => ?_) (fun h195 => ?_)
                · exact absurd h195 (nI_pos (by omega))
                · refine zk_iload hc dL_areTracks_198 6 rfl ?_
                  refine zk_aload_n hc dL_areTracks_200 0 rfl ?_
                  refine zk_iconst hc (nI 0) dL_areTracks_201 rfl ?_
                  obtain ⟨hat_72_f, hat_72⟩ := cs_at hSk
                  refine zk_callVi hc (rest := [.int (nI mm)]) (kx_setting g l b S Wk cN (by omega) hI hSk (nI 0)) gg_L_80 cd_X6_setting ⟨Nat.le_of_ble_eq_true rfl, Nat.le_of_ble_eq_true rfl⟩ ⟨Nat.le_of_ble_eq_true rfl, Nat.le_of_ble_eq_true rfl⟩ ([]) ([]) (by simp only [List.append_nil, List.nil_append]) 0 hat_72 rfl rfl (Nat.le_of_ble_eq_true rfl) dL_areTracks_202 (fun r W_70 hp => ?_)
                  obtain ⟨rfl, hS_71⟩ := hp
                  refine zk_ws (ws2 := W_70) (by simp only [List.append_nil, List.nil_append]) ?_
                  refine zk_top (y := nI (S.1 0)) (sti_n _ (by omega)) ?_
                  refine zk_icmp_ltN hc 212 dL_areTracks_205 (by decide) (by omega) (by omega) (fun h205 => ?_) (fun h205 => ?_)
                  · refine zk_iconst hc (nI 0) dL_areTracks_212 rfl ?_
                    refine zk_istore hc (lv2 := [(7, .int (nI 0)), (0, .ref b), (1, .int (nI (wgs S.1 t))), (2, .int (nI (unsN S.1 t))), (3, .int (nI t)), (4, .int (nI (mny S.1 t))), (5, .int la), (6, .int (nI mm))]) dL_areTracks_213 (by decide) rfl ?_
                    refine zk_iload hc dL_areTracks_215 0 rfl ?_
                    refine zk_if_eqN hc 224 dL_areTracks_217 (by decide) (by omega) (fun h_73 => ?_) (fun h_73 => ?_)
                    · refine zk_iload_n hc dL_areTracks_224 3 rfl ?_
                      refine zk_iconst hc (nI 1) dL_areTracks_225 rfl ?_
                      refine zk_iaddN hc dL_areTracks_226 ?_
                      refine zk_top (y := nI (unsN S.1 (t + 1))) (congrArg nI (uns_0 (by omega)).symm) ?_
                      refine zk_istore_n hc (lv2 := [(2, .int (nI (unsN S.1 (t + 1)))), (7, .int (nI 0)), (0, .ref b), (1, .int (nI (wgs S.1 t))), (3, .int (nI t)), (4, .int (nI (mny S.1 t))), (5, .int la), (6, .int (nI mm))]) dL_areTracks_227 (by decide) rfl ?_
                      refine zk_iload_n hc dL_areTracks_228 3 rfl ?_
                      refine zk_iload hc dL_areTracks_229 5 rfl ?_
                      refine zk_iaddN hc dL_areTracks_231 ?_
                      refine zk_istore_n hc (lv2 := [(1, .int (nI ((wgs S.1 t) + (mny S.1 t)))), (2, .int (nI (unsN S.1 (t + 1)))), (7, .int (nI 0)), (0, .ref b), (3, .int (nI t)), (4, .int (nI (mny S.1 t))), (5, .int la), (6, .int (nI mm))]) dL_areTracks_232 (by decide) rfl ?_
                      refine zk_iload hc dL_areTracks_233 5 rfl ?_
                      refine zk_aload_n hc dL_areTracks_235 3 rfl ?_
                      refine zk_iconst hc (nI 1) dL_areTracks_236 rfl ?_
                      obtain ⟨hat_76_f, hat_76⟩ := cs_at hS_71
                      refine zk_callVi hc (rest := [.int (nI (mny S.1 t))]) (kx_told g l b S W_70 cN (by omega) hI hS_71 (nI 1)) gg_L_25 cd_X6_told ⟨Nat.le_of_ble_eq_true rfl, Nat.le_of_ble_eq_true rfl⟩ ⟨Nat.le_of_ble_eq_true rfl, Nat.le_of_ble_eq_true rfl⟩ ([]) ([]) (by simp only [List.append_nil, List.nil_append]) 0 hat_76 rfl rfl (Nat.le_of_ble_eq_true rfl) dL_areTracks_237 (fun r W_74 hp => ?_)
                      obtain ⟨rfl, hS_75⟩ := hp
                      refine zk_ws (ws2 := W_74) (by simp only [List.append_nil, List.nil_append]) ?_
                      refine zk_top (y := nI (S.1 5)) (tol_n _ (by omega)) ?_
                      refine zk_icmp_gtN hc 309 dL_areTracks_240 (by decide) (by omega) (by omega) (fun h_77 => ?_) (fun h_77 => ?_)
                      · exact absurd h_77 (by omega)
                      · refine zk_aload_n hc dL_areTracks_243 3 rfl ?_
                        refine zk_iload_n hc dL_areTracks_244 4 rfl ?_
                        refine zk_iconst hc (nI 3) dL_areTracks_245 rfl ?_
                        obtain ⟨hat_80_f, hat_80⟩ := cs_at hS_75
                        refine zk_callVi hc (rest := []) (kx_track g l b S W_74 cN (by omega) hI hS_75 (nI t) (nI 3)) gg_L_71 cd_X6_track ⟨Nat.le_of_ble_eq_true rfl, Nat.le_of_ble_eq_true rfl⟩ ⟨Nat.le_of_ble_eq_true rfl, Nat.le_of_ble_eq_true rfl⟩ ([]) ([]) (by simp only [List.append_nil, List.nil_append]) 0 hat_80 rfl rfl (Nat.le_of_ble_eq_true rfl) dL_areTracks_246 (fun r W_78 hp => ?_)
                        obtain ⟨rfl, hS_79⟩ := hp
                        refine zk_ws (ws2 := W_78) (by simp only [List.append_nil, List.nil_append]) ?_
                        refine zk_top (y := nI mm) ((trk_n h4.2 (by omega) (by omega)).trans ((trk_3 _ _).trans (by rw [hg]; exact if_neg (by omega)))) ?_
                        refine zk_iload hc dL_areTracks_249 7 rfl ?_
                        refine zk_icmp_ne hc 309 dL_areTracks_251 (by decide) (fun h251 => ?_) (fun h251 => ?_)
                        · exact absurd rfl h251
                        · refine zk_aload_n hc dL_areTracks_254 3 rfl ?_
                          refine zk_iload_n hc dL_areTracks_255 4 rfl ?_
                          refine zk_iconst hc (nI 1) dL_areTracks_256 rfl ?_
                          obtain ⟨hat_83_f, hat_83⟩ := cs_at hS_79
                          refine zk_callVi hc (rest := []) (kx_track g l b S W_78 cN (by omega) hI hS_79 (nI t) (nI 1)) gg_L_71 cd_X6_track ⟨Nat.le_of_ble_eq_true rfl, Nat.le_of_ble_eq_true rfl⟩ ⟨Nat.le_of_ble_eq_true rfl, Nat.le_of_ble_eq_true rfl⟩ ([]) ([]) (by simp only [List.append_nil, List.nil_append]) 0 hat_83 rfl rfl (Nat.le_of_ble_eq_true rfl) dL_areTracks_257 (fun r W_81 hp => ?_)
                          obtain ⟨rfl, hS_82⟩ := hp
                          refine zk_ws (ws2 := W_81) (by simp only [List.append_nil, List.nil_append]) ?_
                          refine zk_top (y := nI 0) ((trk_n h4.2 (by omega) (by omega)).trans ((trk_1 _ _).trans (if_neg (by omega)))) ?_
                          refine zk_iload hc dL_areTracks_260 2 rfl ?_
                          refine zk_if_eqN hc 269 dL_areTracks_262 (by decide) (by omega) (fun h_84 => ?_) (fun h_84 => ?_)
                          · refine zk_iconst hc (nI 0) dL_areTracks_269 rfl ?_
                            refine zk_icmp_neN hc 309 dL_areTracks_270 (by decide) (by omega) (by omega) (fun h_85 => ?_) (fun h_85 => ?_)
                            · exact absurd h_85 (by decide)
                            · refine zk_aload_n hc dL_areTracks_273 3 rfl ?_
                              refine zk_iload_n hc dL_areTracks_274 4 rfl ?_
                              refine zk_iload hc dL_areTracks_275 5 rfl ?_
                              refine zk_iconst hc (nI 0) dL_areTracks_277 rfl ?_
                              obtain ⟨hat_88_f, hat_88⟩ := cs_at hS_82
                              refine zk_callVi hc (rest := []) (kx_wagon g l b S W_81 cN (by omega) hI hS_82 (nI t) (nI (mny S.1 t)) (nI 0)) gg_L_74 cd_X6_wagon ⟨Nat.le_of_ble_eq_true rfl, Nat.le_of_ble_eq_true rfl⟩ ⟨Nat.le_of_ble_eq_true rfl, Nat.le_of_ble_eq_true rfl⟩ ([]) ([]) (by simp only [List.append_nil, List.nil_append]) 0 hat_88 rfl rfl (Nat.le_of_ble_eq_true rfl) dL_areTracks_278 (fun r W_86 hp => ?_)
                              obtain ⟨rfl, hS_87⟩ := hp
                              refine zk_ws (ws2 := W_86) (by simp only [List.append_nil, List.nil_append]) ?_
                              refine zk_top (y := (-9)) (wag_x h4.2 (by omega) (by omega) (by omega)) ?_
                              refine zk_bipush hc ((-9)) dL_areTracks_281 rfl ?_
                              refine zk_icmp_ne hc 309 dL_areTracks_283 (by decide) (fun h283 => ?_) (fun h283 => ?_)
                              · exact absurd rfl h283
                              · have hhl := hold_le S.1 t
                                refine zk_aload_n hc dL_areTracks_286 3 rfl ?_
                                refine zk_iload_n hc dL_areTracks_287 4 rfl ?_
                                refine zk_iconst hc (nI 2) dL_areTracks_288 rfl ?_
                                obtain ⟨hat_91_f, hat_91⟩ := cs_at hS_87
                                refine zk_callVi hc (rest := []) (kx_track g l b S W_86 cN (by omega) hI hS_87 (nI t) (nI 2)) gg_L_71 cd_X6_track ⟨Nat.le_of_ble_eq_true rfl, Nat.le_of_ble_eq_true rfl⟩ ⟨Nat.le_of_ble_eq_true rfl, Nat.le_of_ble_eq_true rfl⟩ ([]) ([]) (by simp only [List.append_nil, List.nil_append]) 0 hat_91 rfl rfl (Nat.le_of_ble_eq_true rfl) dL_areTracks_289 (fun r W_89 hp => ?_)
                                obtain ⟨rfl, hS_90⟩ := hp
                                refine zk_ws (ws2 := W_89) (by simp only [List.append_nil, List.nil_append]) ?_
                                refine zk_top (y := nI (hold S.1 t)) (trk_n h4.2 (by omega) (by omega)) ?_
                                refine zk_if_lt hc 309 dL_areTracks_292 (by decide) (fun h292 => ?_) (fun h292 => ?_)
                                · exact absurd h292 (nI_pos (by omega))
                                · refine zk_aload_n hc dL_areTracks_295 3 rfl ?_
                                  refine zk_iload_n hc dL_areTracks_296 4 rfl ?_
                                  refine zk_iconst hc (nI 2) dL_areTracks_297 rfl ?_
                                  obtain ⟨hat_94_f, hat_94⟩ := cs_at hS_90
                                  refine zk_callVi hc (rest := []) (kx_track g l b S W_89 cN (by omega) hI hS_90 (nI t) (nI 2)) gg_L_71 cd_X6_track ⟨Nat.le_of_ble_eq_true rfl, Nat.le_of_ble_eq_true rfl⟩ ⟨Nat.le_of_ble_eq_true rfl, Nat.le_of_ble_eq_true rfl⟩ ([]) ([]) (by simp only [List.append_nil, List.nil_append]) 0 hat_94 rfl rfl (Nat.le_of_ble_eq_true rfl) dL_areTracks_298 (fun r W_92 hp => ?_)
                                  obtain ⟨rfl, hS_93⟩ := hp
                                  refine zk_ws (ws2 := W_92) (by simp only [List.append_nil, List.nil_append]) ?_
                                  refine zk_top (y := nI (hold S.1 t)) (trk_n h4.2 (by omega) (by omega)) ?_
                                  refine zk_aload_n hc dL_areTracks_301 3 rfl ?_
                                  refine zk_iconst hc (nI 1) dL_areTracks_302 rfl ?_
                                  obtain ⟨hat_97_f, hat_97⟩ := cs_at hS_93
                                  refine zk_callVi hc (rest := [.int (nI (hold S.1 t))]) (kx_setting g l b S W_92 cN (by omega) hI hS_93 (nI 1)) gg_L_80 cd_X6_setting ⟨Nat.le_of_ble_eq_true rfl, Nat.le_of_ble_eq_true rfl⟩ ⟨Nat.le_of_ble_eq_true rfl, Nat.le_of_ble_eq_true rfl⟩ ([]) ([]) (by simp only [List.append_nil, List.nil_append]) 0 hat_97 rfl rfl (Nat.le_of_ble_eq_true rfl) dL_areTracks_303 (fun r W_95 hp => ?_)
                                  obtain ⟨rfl, hS_96⟩ := hp
                                  refine zk_ws (ws2 := W_95) (by simp only [List.append_nil, List.nil_append]) ?_
                                  refine zk_top (y := nI (S.1 1)) (sti_n _ (by omega)) ?_
                                  refine zk_icmp_leN hc 311 dL_areTracks_306 (by decide) (by omega) (by omega) (fun h_98 => ?_) (fun h_98 => ?_)
                                  · refine zk_iinc hc (v := nI (t + 1)) (lv2 := [(3, .int (nI (t + 1))), (1, .int (nI ((wgs S.1 t) + (mny S.1 t)))), (2, .int (nI (unsN S.1 (t + 1)))), (7, .int (nI 0)), (0, .ref b), (4, .int (nI (mny S.1 t))), (5, .int la), (6, .int (nI mm))]) dL_areTracks_311 4 rfl (nq_inc rfl) (by decide) rfl ?_
                                    refine zk_goto hc 6 dL_areTracks_314 (by decide) ?_
                                    refine zk_lv [4, 1, 2, 0] (lv2 := [(0, .ref b), (1, .int (nI ((wgs S.1 t) + (mny S.1 t)))), (2, .int (nI (unsN S.1 (t + 1)))), (3, .int (nI (t + 1)))]) rfl ?_
                                    exact ih6 (t + 1) W_95 (by omega) (by omega) hS_96
                                  · exact absurd h_98 (by omega)
                          · exact absurd h_84 (by decide)
                    · exact absurd h_73 (by decide)
                  · refine zk_iconst hc (nI 1) dL_areTracks_208 rfl ?_
                    refine zk_goto hc 213 dL_areTracks_209 (by decide) ?_
                    refine zk_istore hc (lv2 := [(7, .int (nI 1)), (0, .ref b), (1, .int (nI (wgs S.1 t))), (2, .int (nI (unsN S.1 t))), (3, .int (nI t)), (4, .int (nI (mny S.1 t))), (5, .int la), (6, .int (nI mm))]) dL_areTracks_213 (by decide) rfl ?_
                    refine zk_iload hc dL_areTracks_215 0 rfl ?_
                    refine zk_if_eqN hc 224 dL_areTracks_217 (by decide) (by omega) (fun h_99 => ?_) (fun h_99 => ?_)
                    · exact absurd h_99 (by decide)
                    · refine zk_iload_n hc dL_areTracks_220 3 rfl ?_
                      refine zk_goto hc 227 dL_areTracks_221 (by decide) ?_
                      refine zk_top (y := nI (unsN S.1 (t + 1))) (congrArg nI (uns_1 (by omega)).symm) ?_
                      refine zk_istore_n hc (lv2 := [(2, .int (nI (unsN S.1 (t + 1)))), (7, .int (nI 1)), (0, .ref b), (1, .int (nI (wgs S.1 t))), (3, .int (nI t)), (4, .int (nI (mny S.1 t))), (5, .int la), (6, .int (nI mm))]) dL_areTracks_227 (by decide) rfl ?_
                      refine zk_iload_n hc dL_areTracks_228 3 rfl ?_
                      refine zk_iload hc dL_areTracks_229 5 rfl ?_
                      refine zk_iaddN hc dL_areTracks_231 ?_
                      refine zk_istore_n hc (lv2 := [(1, .int (nI ((wgs S.1 t) + (mny S.1 t)))), (2, .int (nI (unsN S.1 (t + 1)))), (7, .int (nI 1)), (0, .ref b), (3, .int (nI t)), (4, .int (nI (mny S.1 t))), (5, .int la), (6, .int (nI mm))]) dL_areTracks_232 (by decide) rfl ?_
                      refine zk_iload hc dL_areTracks_233 5 rfl ?_
                      refine zk_aload_n hc dL_areTracks_235 3 rfl ?_
                      refine zk_iconst hc (nI 1) dL_areTracks_236 rfl ?_
                      obtain ⟨hat_102_f, hat_102⟩ := cs_at hS_71
                      refine zk_callVi hc (rest := [.int (nI (mny S.1 t))]) (kx_told g l b S W_70 cN (by omega) hI hS_71 (nI 1)) gg_L_25 cd_X6_told ⟨Nat.le_of_ble_eq_true rfl, Nat.le_of_ble_eq_true rfl⟩ ⟨Nat.le_of_ble_eq_true rfl, Nat.le_of_ble_eq_true rfl⟩ ([]) ([]) (by simp only [List.append_nil, List.nil_append]) 0 hat_102 rfl rfl (Nat.le_of_ble_eq_true rfl) dL_areTracks_237 (fun r W_100 hp => ?_)
                      obtain ⟨rfl, hS_101⟩ := hp
                      refine zk_ws (ws2 := W_100) (by simp only [List.append_nil, List.nil_append]) ?_
                      refine zk_top (y := nI (S.1 5)) (tol_n _ (by omega)) ?_
                      refine zk_icmp_gtN hc 309 dL_areTracks_240 (by decide) (by omega) (by omega) (fun h_103 => ?_) (fun h_103 => ?_)
                      · exact absurd h_103 (by omega)
                      · refine zk_aload_n hc dL_areTracks_243 3 rfl ?_
                        refine zk_iload_n hc dL_areTracks_244 4 rfl ?_
                        refine zk_iconst hc (nI 3) dL_areTracks_245 rfl ?_
                        obtain ⟨hat_106_f, hat_106⟩ := cs_at hS_101
                        refine zk_callVi hc (rest := []) (kx_track g l b S W_100 cN (by omega) hI hS_101 (nI t) (nI 3)) gg_L_71 cd_X6_track ⟨Nat.le_of_ble_eq_true rfl, Nat.le_of_ble_eq_true rfl⟩ ⟨Nat.le_of_ble_eq_true rfl, Nat.le_of_ble_eq_true rfl⟩ ([]) ([]) (by simp only [List.append_nil, List.nil_append]) 0 hat_106 rfl rfl (Nat.le_of_ble_eq_true rfl) dL_areTracks_246 (fun r W_104 hp => ?_)
                        obtain ⟨rfl, hS_105⟩ := hp
                        refine zk_ws (ws2 := W_104) (by simp only [List.append_nil, List.nil_append]) ?_
                        refine zk_top (y := nI mm) ((trk_n h4.2 (by omega) (by omega)).trans ((trk_3 _ _).trans (by rw [hg]; exact if_neg (by omega)))) ?_
                        refine zk_iload hc dL_areTracks_249 7 rfl ?_
                        refine zk_icmp_ne hc 309 dL_areTracks_251 (by decide) (fun h251 => ?_) (fun h251 => ?_)
                        · exact absurd rfl h251
                        · refine zk_aload_n hc dL_areTracks_254 3 rfl ?_
                          refine zk_iload_n hc dL_areTracks_255 4 rfl ?_
                          refine zk_iconst hc (nI 1) dL_areTracks_256 rfl ?_
                          obtain ⟨hat_109_f, hat_109⟩ := cs_at hS_105
                          refine zk_callVi hc (rest := []) (kx_track g l b S W_104 cN (by omega) hI hS_105 (nI t) (nI 1)) gg_L_71 cd_X6_track ⟨Nat.le_of_ble_eq_true rfl, Nat.le_of_ble_eq_true rfl⟩ ⟨Nat.le_of_ble_eq_true rfl, Nat.le_of_ble_eq_true rfl⟩ ([]) ([]) (by simp only [List.append_nil, List.nil_append]) 0 hat_109 rfl rfl (Nat.le_of_ble_eq_true rfl) dL_areTracks_257 (fun r W_107 hp => ?_)
                          obtain ⟨rfl, hS_108⟩ := hp
                          refine zk_ws (ws2 := W_107) (by simp only [List.append_nil, List.nil_append]) ?_
                          refine zk_top (y := nI 1) ((trk_n h4.2 (by omega) (by omega)).trans ((trk_1 _ _).trans (if_pos (by omega)))) ?_
                          refine zk_iload hc dL_areTracks_260 2 rfl ?_
                          refine zk_if_eqN hc 269 dL_areTracks_262 (by decide) (by omega) (fun h_110 => ?_) (fun h_110 => ?_)
                          · exact absurd h_110 (by decide)
                          · refine zk_iconst hc (nI 1) dL_areTracks_265 rfl ?_
                            refine zk_goto hc 270 dL_areTracks_266 (by decide) ?_
                            refine zk_icmp_neN hc 309 dL_areTracks_270 (by decide) (by omega) (by omega) (fun h_111 => ?_) (fun h_111 => ?_)
                            · exact absurd h_111 (by decide)
                            · refine zk_aload_n hc dL_areTracks_273 3 rfl ?_
                              refine zk_iload_n hc dL_areTracks_274 4 rfl ?_
                              refine zk_iload hc dL_areTracks_275 5 rfl ?_
                              refine zk_iconst hc (nI 0) dL_areTracks_277 rfl ?_
                              obtain ⟨hat_114_f, hat_114⟩ := cs_at hS_108
                              refine zk_callVi hc (rest := []) (kx_wagon g l b S W_107 cN (by omega) hI hS_108 (nI t) (nI (mny S.1 t)) (nI 0)) gg_L_74 cd_X6_wagon ⟨Nat.le_of_ble_eq_true rfl, Nat.le_of_ble_eq_true rfl⟩ ⟨Nat.le_of_ble_eq_true rfl, Nat.le_of_ble_eq_true rfl⟩ ([]) ([]) (by simp only [List.append_nil, List.nil_append]) 0 hat_114 rfl rfl (Nat.le_of_ble_eq_true rfl) dL_areTracks_278 (fun r W_112 hp => ?_)
                              obtain ⟨rfl, hS_113⟩ := hp
                              refine zk_ws (ws2 := W_112) (by simp only [List.append_nil, List.nil_append]) ?_
                              refine zk_top (y := (-9)) (wag_x h4.2 (by omega) (by omega) (by omega)) ?_
                              refine zk_bipush hc ((-9)) dL_areTracks_281 rfl ?_
                              refine zk_icmp_ne hc 309 dL_areTracks_283 (by decide) (fun h283 => ?_) (fun h283 => ?_)
                              · exact absurd rfl h283
                              · have hhl := hold_le S.1 t
                                refine zk_aload_n hc dL_areTracks_286 3 rfl ?_
                                refine zk_iload_n hc dL_areTracks_287 4 rfl ?_
                                refine zk_iconst hc (nI 2) dL_areTracks_288 rfl ?_
                                obtain ⟨hat_117_f, hat_117⟩ := cs_at hS_113
                                refine zk_callVi hc (rest := []) (kx_track g l b S W_112 cN (by omega) hI hS_113 (nI t) (nI 2)) gg_L_71 cd_X6_track ⟨Nat.le_of_ble_eq_true rfl, Nat.le_of_ble_eq_true rfl⟩ ⟨Nat.le_of_ble_eq_true rfl, Nat.le_of_ble_eq_true rfl⟩ ([]) ([]) (by simp only [List.append_nil, List.nil_append]) 0 hat_117 rfl rfl (Nat.le_of_ble_eq_true rfl) dL_areTracks_289 (fun r W_115 hp => ?_)
                                obtain ⟨rfl, hS_116⟩ := hp
                                refine zk_ws (ws2 := W_115) (by simp only [List.append_nil, List.nil_append]) ?_
                                refine zk_top (y := nI (hold S.1 t)) (trk_n h4.2 (by omega) (by omega)) ?_
                                refine zk_if_lt hc 309 dL_areTracks_292 (by decide) (fun h292 => ?_) (fun h292 => ?_)
                                · exact absurd h292 (nI_pos (by omega))
                                · refine zk_aload_n hc dL_areTracks_295 3 rfl ?_
                                  refine zk_iload_n hc dL_areTracks_296 4 rfl ?_
                                  refine zk_iconst hc (nI 2) dL_areTracks_297 rfl ?_
                                  obtain ⟨hat_120_f, hat_120⟩ := cs_at hS_116
                                  refine zk_callVi hc (rest := []) (kx_track g l b S W_115 cN (by omega) hI hS_116 (nI t) (nI 2)) gg_L_71 cd_X6_track ⟨Nat.le_of_ble_eq_true rfl, Nat.le_of_ble_eq_true rfl⟩ ⟨Nat.le_of_ble_eq_true rfl, Nat.le_of_ble_eq_true rfl⟩ ([]) ([]) (by simp only [List.append_nil, List.nil_append]) 0 hat_120 rfl rfl (Nat.le_of_ble_eq_true rfl) dL_areTracks_298 (fun r W_118 hp => ?_)
                                  obtain ⟨rfl, hS_119⟩ := hp
                                  refine zk_ws (ws2 := W_118) (by simp only [List.append_nil, List.nil_append]) ?_
                                  refine zk_top (y := nI (hold S.1 t)) (trk_n h4.2 (by omega) (by omega)) ?_
                                  refine zk_aload_n hc dL_areTracks_301 3 rfl ?_
                                  refine zk_iconst hc (nI 1) dL_areTracks_302 rfl ?_
                                  obtain ⟨hat_123_f, hat_123⟩ := cs_at hS_119
                                  refine zk_callVi hc (rest := [.int (nI (hold S.1 t))]) (kx_setting g l b S W_118 cN (by omega) hI hS_119 (nI 1)) gg_L_80 cd_X6_setting ⟨Nat.le_of_ble_eq_true rfl, Nat.le_of_ble_eq_true rfl⟩ ⟨Nat.le_of_ble_eq_true rfl, Nat.le_of_ble_eq_true rfl⟩ ([]) ([]) (by simp only [List.append_nil, List.nil_append]) 0 hat_123 rfl rfl (Nat.le_of_ble_eq_true rfl) dL_areTracks_303 (fun r W_121 hp => ?_)
                                  obtain ⟨rfl, hS_122⟩ := hp
                                  refine zk_ws (ws2 := W_121) (by simp only [List.append_nil, List.nil_append]) ?_
                                  refine zk_top (y := nI (S.1 1)) (sti_n _ (by omega)) ?_
                                  refine zk_icmp_leN hc 311 dL_areTracks_306 (by decide) (by omega) (by omega) (fun h_124 => ?_) (fun h_124 => ?_)
                                  · refine zk_iinc hc (v := nI (t + 1)) (lv2 := [(3, .int (nI (t + 1))), (1, .int (nI ((wgs S.1 t) + (mny S.1 t)))), (2, .int (nI (unsN S.1 (t + 1)))), (7, .int (nI 1)), (0, .ref b), (4, .int (nI (mny S.1 t))), (5, .int la), (6, .int (nI mm))]) dL_areTracks_311 4 rfl (nq_inc rfl) (by decide) rfl ?_
                                    refine zk_goto hc 6 dL_areTracks_314 (by decide) ?_
                                    refine zk_lv [4, 1, 2, 0] (lv2 := [(0, .ref b), (1, .int (nI ((wgs S.1 t) + (mny S.1 t)))), (2, .int (nI (unsN S.1 (t + 1)))), (3, .int (nI (t + 1)))]) rfl ?_
                                    exact ih6 (t + 1) W_121 (by omega) (by omega) hS_122
                                  · exact absurd h_124 (by omega)
            · rcases hLA with ⟨rfl, hl0⟩ | ⟨j, hj, rfl, hkj, hl0, hl2⟩
              · have hLA : LA S.1 t k (-1) := Or.inl ⟨rfl, hl0⟩
                refine zk_aload_n hc dL_areTracks_40 0 rfl ?_
                rcases hLE with ⟨hg, rfl⟩ | ⟨mm, hmm, hg, rfl⟩
                · have hLE : LE S.1 t k (-9) := Or.inl ⟨hg, rfl⟩
                  refine zk_iload_n hc dL_areTracks_41 3 rfl ?_
                  refine zk_iload hc dL_areTracks_42 7 rfl ?_
                  refine zk_iconst hc (nI 0) dL_areTracks_44 rfl ?_
                  obtain ⟨hat_127_f, hat_127⟩ := cs_at hSk
                  refine zk_callVi hc (rest := []) (kx_wagon g l b S Wk cN (by omega) hI hSk (nI t) (nI k) (nI 0)) gg_L_74 cd_X6_wagon ⟨Nat.le_of_ble_eq_true rfl, Nat.le_of_ble_eq_true rfl⟩ ⟨Nat.le_of_ble_eq_true rfl, Nat.le_of_ble_eq_true rfl⟩ ([]) ([]) (by simp only [List.append_nil, List.nil_append]) 0 hat_127 rfl rfl (Nat.le_of_ble_eq_true rfl) dL_areTracks_45 (fun r W_125 hp => ?_)
                  obtain ⟨rfl, hS_126⟩ := hp
                  refine zk_ws (ws2 := W_125) (by simp only [List.append_nil, List.nil_append]) ?_
                  refine zk_top (y := nI (num S.1 t k)) (wag_n h4.2 (by omega) (by omega) (by omega) (by omega)) ?_
                  refine zk_istore hc (lv2 := [(8, .int (nI (num S.1 t k))), (0, .ref b), (1, .int (nI (wgs S.1 t))), (2, .int (nI (unsN S.1 t))), (3, .int (nI t)), (4, .int (nI (mny S.1 t))), (5, .int (-1)), (6, .int (-9)), (7, .int (nI k))]) dL_areTracks_48 (by decide) rfl ?_
                  refine zk_aload_n hc dL_areTracks_50 1 rfl ?_
                  refine zk_iload_n hc dL_areTracks_51 4 rfl ?_
                  refine zk_iload hc dL_areTracks_52 8 rfl ?_
                  refine zk_iconst hc (nI 2) dL_areTracks_54 rfl ?_
                  obtain ⟨hat_130_f, hat_130⟩ := cs_at hS_126
                  refine zk_callVi hc (rest := []) (kx_wagon g l b S W_125 cN (by omega) hI hS_126 (nI t) (nI k) (nI 2)) gg_L_74 cd_X6_wagon ⟨Nat.le_of_ble_eq_true rfl, Nat.le_of_ble_eq_true rfl⟩ ⟨Nat.le_of_ble_eq_true rfl, Nat.le_of_ble_eq_true rfl⟩ ([]) ([]) (by simp only [List.append_nil, List.nil_append]) 0 hat_130 rfl rfl (Nat.le_of_ble_eq_true rfl) dL_areTracks_55 (fun r W_128 hp => ?_)
                  obtain ⟨rfl, hS_129⟩ := hp
                  refine zk_ws (ws2 := W_128) (by simp only [List.append_nil, List.nil_append]) ?_
                  refine zk_top (y := nI (knd S.1 t k)) (wag_n h4.2 (by omega) (by omega) (by omega) (by omega)) ?_
                  refine zk_istore hc (lv2 := [(9, .int (nI (knd S.1 t k))), (8, .int (nI (num S.1 t k))), (0, .ref b), (1, .int (nI (wgs S.1 t))), (2, .int (nI (unsN S.1 t))), (3, .int (nI t)), (4, .int (nI (mny S.1 t))), (5, .int (-1)), (6, .int (-9)), (7, .int (nI k))]) dL_areTracks_58 (by decide) rfl ?_
                  refine zk_aload_n hc dL_areTracks_60 2 rfl ?_
                  refine zk_iload hc dL_areTracks_61 1 rfl ?_
                  refine zk_iconst hc (nI 0) dL_areTracks_63 rfl ?_
                  obtain ⟨hat_133_f, hat_133⟩ := cs_at hS_129
                  refine zk_callVi hc (rest := []) (kx_find g l b S W_128 cN (by omega) hI hS_129 (nI (num S.1 t k)) (nI 0)) gg_L_77 cd_X6_find ⟨Nat.le_of_ble_eq_true rfl, Nat.le_of_ble_eq_true rfl⟩ ⟨Nat.le_of_ble_eq_true rfl, Nat.le_of_ble_eq_true rfl⟩ ([]) ([]) (by simp only [List.append_nil, List.nil_append]) 0 hat_133 rfl rfl (Nat.le_of_ble_eq_true rfl) dL_areTracks_64 (fun r W_131 hp => ?_)
                  obtain ⟨rfl, hS_132⟩ := hp
                  refine zk_ws (ws2 := W_131) (by simp only [List.append_nil, List.nil_append]) ?_
                  refine zk_top (y := nI t) ((fin_n hW (by omega) h4.2 (by omega) (by omega) (by omega)).trans (if_pos rfl)) ?_
                  refine zk_iload_n hc dL_areTracks_67 5 rfl ?_
                  refine zk_icmp_neN hc 105 dL_areTracks_68 (by decide) (by omega) (by omega) (fun h_134 => ?_) (fun h_134 => ?_)
                  · exact absurd h_134 (by omega)
                  · refine zk_aload_n hc dL_areTracks_71 2 rfl ?_
                    refine zk_iload hc dL_areTracks_72 1 rfl ?_
                    refine zk_iconst hc (nI 1) dL_areTracks_74 rfl ?_
                    obtain ⟨hat_137_f, hat_137⟩ := cs_at hS_132
                    refine zk_callVi hc (rest := []) (kx_find g l b S W_131 cN (by omega) hI hS_132 (nI (num S.1 t k)) (nI 1)) gg_L_77 cd_X6_find ⟨Nat.le_of_ble_eq_true rfl, Nat.le_of_ble_eq_true rfl⟩ ⟨Nat.le_of_ble_eq_true rfl, Nat.le_of_ble_eq_true rfl⟩ ([]) ([]) (by simp only [List.append_nil, List.nil_append]) 0 hat_137 rfl rfl (Nat.le_of_ble_eq_true rfl) dL_areTracks_75 (fun r W_135 hp => ?_)
                    obtain ⟨rfl, hS_136⟩ := hp
                    refine zk_ws (ws2 := W_135) (by simp only [List.append_nil, List.nil_append]) ?_
                    refine zk_top (y := nI k) ((fin_n hW (by omega) h4.2 (by omega) (by omega) (by omega)).trans (if_neg (by decide))) ?_
                    refine zk_iload hc dL_areTracks_78 9 rfl ?_
                    refine zk_icmp_neN hc 105 dL_areTracks_80 (by decide) (by omega) (by omega) (fun h_138 => ?_) (fun h_138 => ?_)
                    · exact absurd h_138 (by omega)
                    · have hnum := hW.1 t k (by omega) (by omega)
                      have hkdk := (hkd t k (by omega) (by omega)).2
                      refine zk_iload hc dL_areTracks_83 1 rfl ?_
                      refine zk_aload_n hc dL_areTracks_85 2 rfl ?_
                      refine zk_bipush hc (nI 10) dL_areTracks_86 rfl ?_
                      obtain ⟨hat_141_f, hat_141⟩ := cs_at hS_136
                      refine zk_callVi hc (rest := [.int (nI (num S.1 t k))]) (kx_told g l b S W_135 cN (by omega) hI hS_136 (nI 10)) gg_L_25 cd_X6_told ⟨Nat.le_of_ble_eq_true rfl, Nat.le_of_ble_eq_true rfl⟩ ⟨Nat.le_of_ble_eq_true rfl, Nat.le_of_ble_eq_true rfl⟩ ([]) ([]) (by simp only [List.append_nil, List.nil_append]) 0 hat_141 rfl rfl (Nat.le_of_ble_eq_true rfl) dL_areTracks_88 (fun r W_139 hp => ?_)
                      obtain ⟨rfl, hS_140⟩ := hp
                      refine zk_ws (ws2 := W_139) (by simp only [List.append_nil, List.nil_append]) ?_
                      refine zk_top (y := nI (S.1 7)) (tol_n _ (by omega)) ?_
                      refine zk_icmp_geN hc 105 dL_areTracks_91 (by decide) (by omega) (by omega) (fun h_142 => ?_) (fun h_142 => ?_)
                      · exact absurd h_142 (by omega)
                      · refine zk_iload hc dL_areTracks_94 0 rfl ?_
                        refine zk_if_lt hc 105 dL_areTracks_96 (by decide) (fun h96 => ?_) (fun h96 => ?_)
                        · exact absurd h96 (nI_pos (by omega))
                        · refine zk_iload hc dL_areTracks_99 0 rfl ?_
                          refine zk_iconst hc (nI 2) dL_areTracks_101 rfl ?_
                          refine zk_icmp_leN hc 107 dL_areTracks_102 (by decide) (by omega) (by omega) (fun h_143 => ?_) (fun h_143 => ?_)
                          · refine zk_iload hc dL_areTracks_107 0 rfl ?_
                            refine zk_if_leN hc 134 dL_areTracks_109 (by decide) (by omega) (fun h109 => ?_) (fun h109 => ?_)
                            · refine zk_iconst hc (nI 0) dL_areTracks_134 rfl ?_
                              refine zk_istore hc (lv2 := [(10, .int (nI 0)), (9, .int (nI (knd S.1 t k))), (8, .int (nI (num S.1 t k))), (0, .ref b), (1, .int (nI (wgs S.1 t))), (2, .int (nI (unsN S.1 t))), (3, .int (nI t)), (4, .int (nI (mny S.1 t))), (5, .int (-1)), (6, .int (-9)), (7, .int (nI k))]) dL_areTracks_135 (by decide) rfl ?_
                              refine zk_iload hc dL_areTracks_137 0 rfl ?_
                              refine zk_if_eqN hc 169 dL_areTracks_139 (by decide) (by omega) (fun h_144 => ?_) (fun h_144 => ?_)
                              · refine zk_iload hc dL_areTracks_169 9 rfl ?_
                                refine zk_istore hc (lv2 := [(6, .int (-9)), (10, .int (nI 0)), (9, .int (nI (knd S.1 t k))), (8, .int (nI (num S.1 t k))), (0, .ref b), (1, .int (nI (wgs S.1 t))), (2, .int (nI (unsN S.1 t))), (3, .int (nI t)), (4, .int (nI (mny S.1 t))), (5, .int (-1)), (7, .int (nI k))]) dL_areTracks_171 (by decide) rfl ?_
                                refine zk_iload hc dL_areTracks_173 2 rfl ?_
                                refine zk_if_leN hc 183 dL_areTracks_175 (by decide) (by omega) (fun h175 => ?_) (fun h175 => ?_)
                                · refine zk_iload hc dL_areTracks_183 9 rfl ?_
                                  refine zk_istore hc (lv2 := [(5, .int (-1)), (6, .int (-9)), (10, .int (nI 0)), (9, .int (nI (knd S.1 t k))), (8, .int (nI (num S.1 t k))), (0, .ref b), (1, .int (nI (wgs S.1 t))), (2, .int (nI (unsN S.1 t))), (3, .int (nI t)), (4, .int (nI (mny S.1 t))), (7, .int (nI k))]) dL_areTracks_185 (by decide) rfl ?_
                                  refine zk_iinc hc (v := nI (k + 1)) (lv2 := [(7, .int (nI (k + 1))), (5, .int (-1)), (6, .int (-9)), (10, .int (nI 0)), (9, .int (nI (knd S.1 t k))), (8, .int (nI (num S.1 t k))), (0, .ref b), (1, .int (nI (wgs S.1 t))), (2, .int (nI (unsN S.1 t))), (3, .int (nI t)), (4, .int (nI (mny S.1 t)))]) dL_areTracks_187 10 rfl (nq_inc rfl) (by decide) rfl ?_
                                  refine zk_goto hc 33 dL_areTracks_190 (by decide) ?_
                                  refine zk_lv [6, 7, 8, 9, 10, 1, 2, 0] (lv2 := [(0, .ref b), (1, .int (nI (wgs S.1 t))), (2, .int (nI (unsN S.1 t))), (3, .int (nI t)), (4, .int (nI (mny S.1 t))), (5, .int (-1)), (6, .int (-9)), (7, .int (nI (k + 1)))]) rfl ?_
                                  exact ih33 (k + 1) (-1) (-9) W_139 (by omega) (by omega) (LA_z (by omega) hLA) (LE_z (by omega) hLE) hS_140
                                · exact absurd h175 (by omega)
                              · exact absurd h_144 (by decide)
                            · refine zk_iload hc dL_areTracks_112 7 rfl ?_
                              refine zk_if_lt hc 134 dL_areTracks_114 (by decide) (fun h114 => ?_) (fun h114 => ?_)
                              · refine zk_iconst hc (nI 0) dL_areTracks_134 rfl ?_
                                refine zk_istore hc (lv2 := [(10, .int (nI 0)), (9, .int (nI (knd S.1 t k))), (8, .int (nI (num S.1 t k))), (0, .ref b), (1, .int (nI (wgs S.1 t))), (2, .int (nI (unsN S.1 t))), (3, .int (nI t)), (4, .int (nI (mny S.1 t))), (5, .int (-1)), (6, .int (-9)), (7, .int (nI k))]) dL_areTracks_135 (by decide) rfl ?_
                                refine zk_iload hc dL_areTracks_137 0 rfl ?_
                                refine zk_if_eqN hc 169 dL_areTracks_139 (by decide) (by omega) (fun h_145 => ?_) (fun h_145 => ?_)
                                · refine zk_iload hc dL_areTracks_169 9 rfl ?_
                                  refine zk_istore hc (lv2 := [(6, .int (-9)), (10, .int (nI 0)), (9, .int (nI (knd S.1 t k))), (8, .int (nI (num S.1 t k))), (0, .ref b), (1, .int (nI (wgs S.1 t))), (2, .int (nI (unsN S.1 t))), (3, .int (nI t)), (4, .int (nI (mny S.1 t))), (5, .int (-1)), (7, .int (nI k))]) dL_areTracks_171 (by decide) rfl ?_
                                  refine zk_iload hc dL_areTracks_173 2 rfl ?_
                                  refine zk_if_leN hc 183 dL_areTracks_175 (by decide) (by omega) (fun h175 => ?_) (fun h175 => ?_)
                                  · exact absurd h175 (by omega)
                                  · refine zk_iload hc dL_areTracks_178 10 rfl ?_
                                    refine zk_goto hc 185 dL_areTracks_180 (by decide) ?_
                                    refine zk_istore hc (lv2 := [(5, .int (nI k)), (6, .int (-9)), (10, .int (nI 0)), (9, .int (nI (knd S.1 t k))), (8, .int (nI (num S.1 t k))), (0, .ref b), (1, .int (nI (wgs S.1 t))), (2, .int (nI (unsN S.1 t))), (3, .int (nI t)), (4, .int (nI (mny S.1 t))), (7, .int (nI k))]) dL_areTracks_185 (by decide) rfl ?_
                                    refine zk_iinc hc (v := nI (k + 1)) (lv2 := [(7, .int (nI (k + 1))), (5, .int (nI k)), (6, .int (-9)), (10, .int (nI 0)), (9, .int (nI (knd S.1 t k))), (8, .int (nI (num S.1 t k))), (0, .ref b), (1, .int (nI (wgs S.1 t))), (2, .int (nI (unsN S.1 t))), (3, .int (nI t)), (4, .int (nI (mny S.1 t)))]) dL_areTracks_187 10 rfl (nq_inc rfl) (by decide) rfl ?_
                                    refine zk_goto hc 33 dL_areTracks_190 (by decide) ?_
                                    refine zk_lv [6, 7, 8, 9, 10, 1, 2, 0] (lv2 := [(0, .ref b), (1, .int (nI (wgs S.1 t))), (2, .int (nI (unsN S.1 t))), (3, .int (nI t)), (4, .int (nI (mny S.1 t))), (5, .int (nI k)), (6, .int (-9)), (7, .int (nI (k + 1)))]) rfl ?_
                                    exact ih33 (k + 1) (nI k) (-9) W_139 (by omega) (by omega) (LA_d (by omega)) (LE_s (by omega) (Or.inl hl0) hLE) hS_140
                                · exact absurd h_145 (by decide)
                              · exact absurd (by decide) h114
                          · exact absurd h_143 (by omega)
                · have hLE : LE S.1 t k (nI mm) := Or.inr ⟨mm, hmm, hg, rfl⟩
                  refine zk_iload_n hc dL_areTracks_41 3 rfl ?_
                  refine zk_iload hc dL_areTracks_42 7 rfl ?_
                  refine zk_iconst hc (nI 0) dL_areTracks_44 rfl ?_
                  obtain ⟨hat_148_f, hat_148⟩ := cs_at hSk
                  refine zk_callVi hc (rest := []) (kx_wagon g l b S Wk cN (by omega) hI hSk (nI t) (nI k) (nI 0)) gg_L_74 cd_X6_wagon ⟨Nat.le_of_ble_eq_true rfl, Nat.le_of_ble_eq_true rfl⟩ ⟨Nat.le_of_ble_eq_true rfl, Nat.le_of_ble_eq_true rfl⟩ ([]) ([]) (by simp only [List.append_nil, List.nil_append]) 0 hat_148 rfl rfl (Nat.le_of_ble_eq_true rfl) dL_areTracks_45 (fun r W_146 hp => ?_)
                  obtain ⟨rfl, hS_147⟩ := hp
                  refine zk_ws (ws2 := W_146) (by simp only [List.append_nil, List.nil_append]) ?_
                  refine zk_top (y := nI (num S.1 t k)) (wag_n h4.2 (by omega) (by omega) (by omega) (by omega)) ?_
                  refine zk_istore hc (lv2 := [(8, .int (nI (num S.1 t k))), (0, .ref b), (1, .int (nI (wgs S.1 t))), (2, .int (nI (unsN S.1 t))), (3, .int (nI t)), (4, .int (nI (mny S.1 t))), (5, .int (-1)), (6, .int (nI mm)), (7, .int (nI k))]) dL_areTracks_48 (by decide) rfl ?_
                  refine zk_aload_n hc dL_areTracks_50 1 rfl ?_
                  refine zk_iload_n hc dL_areTracks_51 4 rfl ?_
                  refine zk_iload hc dL_areTracks_52 8 rfl ?_
                  refine zk_iconst hc (nI 2) dL_areTracks_54 rfl ?_
                  obtain ⟨hat_151_f, hat_151⟩ := cs_at hS_147
                  refine zk_callVi hc (rest := []) (kx_wagon g l b S W_146 cN (by omega) hI hS_147 (nI t) (nI k) (nI 2)) gg_L_74 cd_X6_wagon ⟨Nat.le_of_ble_eq_true rfl, Nat.le_of_ble_eq_true rfl⟩ ⟨Nat.le_of_ble_eq_true rfl, Nat.le_of_ble_eq_true rfl⟩ ([]) ([]) (by simp only [List.append_nil, List.nil_append]) 0 hat_151 rfl rfl (Nat.le_of_ble_eq_true rfl) dL_areTracks_55 (fun r W_149 hp => ?_)
                  obtain ⟨rfl, hS_150⟩ := hp
                  refine zk_ws (ws2 := W_149) (by simp only [List.append_nil, List.nil_append]) ?_
                  refine zk_top (y := nI (knd S.1 t k)) (wag_n h4.2 (by omega) (by omega) (by omega) (by omega)) ?_
                  refine zk_istore hc (lv2 := [(9, .int (nI (knd S.1 t k))), (8, .int (nI (num S.1 t k))), (0, .ref b), (1, .int (nI (wgs S.1 t))), (2, .int (nI (unsN S.1 t))), (3, .int (nI t)), (4, .int (nI (mny S.1 t))), (5, .int (-1)), (6, .int (nI mm)), (7, .int (nI k))]) dL_areTracks_58 (by decide) rfl ?_
                  refine zk_aload_n hc dL_areTracks_60 2 rfl ?_
                  refine zk_iload hc dL_areTracks_61 1 rfl ?_
                  refine zk_iconst hc (nI 0) dL_areTracks_63 rfl ?_
                  obtain ⟨hat_154_f, hat_154⟩ := cs_at hS_150
                  refine zk_callVi hc (rest := []) (kx_find g l b S W_149 cN (by omega) hI hS_150 (nI (num S.1 t k)) (nI 0)) gg_L_77 cd_X6_find ⟨Nat.le_of_ble_eq_true rfl, Nat.le_of_ble_eq_true rfl⟩ ⟨Nat.le_of_ble_eq_true rfl, Nat.le_of_ble_eq_true rfl⟩ ([]) ([]) (by simp only [List.append_nil, List.nil_append]) 0 hat_154 rfl rfl (Nat.le_of_ble_eq_true rfl) dL_areTracks_64 (fun r W_152 hp => ?_)
                  obtain ⟨rfl, hS_153⟩ := hp
                  refine zk_ws (ws2 := W_152) (by simp only [List.append_nil, List.nil_append]) ?_
                  refine zk_top (y := nI t) ((fin_n hW (by omega) h4.2 (by omega) (by omega) (by omega)).trans (if_pos rfl)) ?_
                  refine zk_iload_n hc dL_areTracks_67 5 rfl ?_
                  refine zk_icmp_neN hc 105 dL_areTracks_68 (by decide) (by omega) (by omega) (fun h_155 => ?_) (fun h_155 => ?_)
                  · exact absurd h_155 (by omega)
                  · refine zk_aload_n hc dL_areTracks_71 2 rfl ?_
                    refine zk_iload hc dL_areTracks_72 1 rfl ?_
                    refine zk_iconst hc (nI 1) dL_areTracks_74 rfl ?_
                    obtain ⟨hat_158_f, hat_158⟩ := cs_at hS_153
                    refine zk_callVi hc (rest := []) (kx_find g l b S W_152 cN (by omega) hI hS_153 (nI (num S.1 t k)) (nI 1)) gg_L_77 cd_X6_find ⟨Nat.le_of_ble_eq_true rfl, Nat.le_of_ble_eq_true rfl⟩ ⟨Nat.le_of_ble_eq_true rfl, Nat.le_of_ble_eq_true rfl⟩ ([]) ([]) (by simp only [List.append_nil, List.nil_append]) 0 hat_158 rfl rfl (Nat.le_of_ble_eq_true rfl) dL_areTracks_75 (fun r W_156 hp => ?_)
                    obtain ⟨rfl, hS_157⟩ := hp
                    refine zk_ws (ws2 := W_156) (by simp only [List.append_nil, List.nil_append]) ?_
                    refine zk_top (y := nI k) ((fin_n hW (by omega) h4.2 (by omega) (by omega) (by omega)).trans (if_neg (by decide))) ?_
                    refine zk_iload hc dL_areTracks_78 9 rfl ?_
                    refine zk_icmp_neN hc 105 dL_areTracks_80 (by decide) (by omega) (by omega) (fun h_159 => ?_) (fun h_159 => ?_)
                    · exact absurd h_159 (by omega)
                    · have hnum := hW.1 t k (by omega) (by omega)
                      have hkdk := (hkd t k (by omega) (by omega)).2
                      refine zk_iload hc dL_areTracks_83 1 rfl ?_
                      refine zk_aload_n hc dL_areTracks_85 2 rfl ?_
                      refine zk_bipush hc (nI 10) dL_areTracks_86 rfl ?_
                      obtain ⟨hat_162_f, hat_162⟩ := cs_at hS_157
                      refine zk_callVi hc (rest := [.int (nI (num S.1 t k))]) (kx_told g l b S W_156 cN (by omega) hI hS_157 (nI 10)) gg_L_25 cd_X6_told ⟨Nat.le_of_ble_eq_true rfl, Nat.le_of_ble_eq_true rfl⟩ ⟨Nat.le_of_ble_eq_true rfl, Nat.le_of_ble_eq_true rfl⟩ ([]) ([]) (by simp only [List.append_nil, List.nil_append]) 0 hat_162 rfl rfl (Nat.le_of_ble_eq_true rfl) dL_areTracks_88 (fun r W_160 hp => ?_)
                      obtain ⟨rfl, hS_161⟩ := hp
                      refine zk_ws (ws2 := W_160) (by simp only [List.append_nil, List.nil_append]) ?_
                      refine zk_top (y := nI (S.1 7)) (tol_n _ (by omega)) ?_
                      refine zk_icmp_geN hc 105 dL_areTracks_91 (by decide) (by omega) (by omega) (fun h_163 => ?_) (fun h_163 => ?_)
                      · exact absurd h_163 (by omega)
                      · refine zk_iload hc dL_areTracks_94 0 rfl ?_
                        refine zk_if_lt hc 105 dL_areTracks_96 (by decide) (fun h96 => ?_) (fun h96 => ?_)
                        · exact absurd h96 (nI_pos (by omega))
                        · refine zk_iload hc dL_areTracks_99 0 rfl ?_
                          refine zk_iconst hc (nI 2) dL_areTracks_101 rfl ?_
                          refine zk_icmp_leN hc 107 dL_areTracks_102 (by decide) (by omega) (by omega) (fun h_164 => ?_) (fun h_164 => ?_)
                          · refine zk_iload hc dL_areTracks_107 0 rfl ?_
                            refine zk_if_leN hc 134 dL_areTracks_109 (by decide) (by omega) (fun h109 => ?_) (fun h109 => ?_)
                            · refine zk_iconst hc (nI 0) dL_areTracks_134 rfl ?_
                              refine zk_istore hc (lv2 := [(10, .int (nI 0)), (9, .int (nI (knd S.1 t k))), (8, .int (nI (num S.1 t k))), (0, .ref b), (1, .int (nI (wgs S.1 t))), (2, .int (nI (unsN S.1 t))), (3, .int (nI t)), (4, .int (nI (mny S.1 t))), (5, .int (-1)), (6, .int (nI mm)), (7, .int (nI k))]) dL_areTracks_135 (by decide) rfl ?_
                              refine zk_iload hc dL_areTracks_137 0 rfl ?_
                              refine zk_if_eqN hc 169 dL_areTracks_139 (by decide) (by omega) (fun h_165 => ?_) (fun h_165 => ?_)
                              · refine zk_iload hc dL_areTracks_169 9 rfl ?_
                                refine zk_istore hc (lv2 := [(6, .int (nI mm)), (10, .int (nI 0)), (9, .int (nI (knd S.1 t k))), (8, .int (nI (num S.1 t k))), (0, .ref b), (1, .int (nI (wgs S.1 t))), (2, .int (nI (unsN S.1 t))), (3, .int (nI t)), (4, .int (nI (mny S.1 t))), (5, .int (-1)), (7, .int (nI k))]) dL_areTracks_171 (by decide) rfl ?_
                                refine zk_iload hc dL_areTracks_173 2 rfl ?_
                                refine zk_if_leN hc 183 dL_areTracks_175 (by decide) (by omega) (fun h175 => ?_) (fun h175 => ?_)
                                · refine zk_iload hc dL_areTracks_183 9 rfl ?_
                                  refine zk_istore hc (lv2 := [(5, .int (-1)), (6, .int (nI mm)), (10, .int (nI 0)), (9, .int (nI (knd S.1 t k))), (8, .int (nI (num S.1 t k))), (0, .ref b), (1, .int (nI (wgs S.1 t))), (2, .int (nI (unsN S.1 t))), (3, .int (nI t)), (4, .int (nI (mny S.1 t))), (7, .int (nI k))]) dL_areTracks_185 (by decide) rfl ?_
                                  refine zk_iinc hc (v := nI (k + 1)) (lv2 := [(7, .int (nI (k + 1))), (5, .int (-1)), (6, .int (nI mm)), (10, .int (nI 0)), (9, .int (nI (knd S.1 t k))), (8, .int (nI (num S.1 t k))), (0, .ref b), (1, .int (nI (wgs S.1 t))), (2, .int (nI (unsN S.1 t))), (3, .int (nI t)), (4, .int (nI (mny S.1 t)))]) dL_areTracks_187 10 rfl (nq_inc rfl) (by decide) rfl ?_
                                  refine zk_goto hc 33 dL_areTracks_190 (by decide) ?_
                                  refine zk_lv [6, 7, 8, 9, 10, 1, 2, 0] (lv2 := [(0, .ref b), (1, .int (nI (wgs S.1 t))), (2, .int (nI (unsN S.1 t))), (3, .int (nI t)), (4, .int (nI (mny S.1 t))), (5, .int (-1)), (6, .int (nI mm)), (7, .int (nI (k + 1)))]) rfl ?_
                                  exact ih33 (k + 1) (-1) (nI mm) W_160 (by omega) (by omega) (LA_z (by omega) hLA) (LE_z (by omega) hLE) hS_161
                                · exact absurd h175 (by omega)
                              · exact absurd h_165 (by decide)
                            · refine zk_iload hc dL_areTracks_112 7 rfl ?_
                              refine zk_if_lt hc 134 dL_areTracks_114 (by decide) (fun h114 => ?_) (fun h114 => ?_)
                              · refine zk_iconst hc (nI 0) dL_areTracks_134 rfl ?_
                                refine zk_istore hc (lv2 := [(10, .int (nI 0)), (9, .int (nI (knd S.1 t k))), (8, .int (nI (num S.1 t k))), (0, .ref b), (1, .int (nI (wgs S.1 t))), (2, .int (nI (unsN S.1 t))), (3, .int (nI t)), (4, .int (nI (mny S.1 t))), (5, .int (-1)), (6, .int (nI mm)), (7, .int (nI k))]) dL_areTracks_135 (by decide) rfl ?_
                                refine zk_iload hc dL_areTracks_137 0 rfl ?_
                                refine zk_if_eqN hc 169 dL_areTracks_139 (by decide) (by omega) (fun h_166 => ?_) (fun h_166 => ?_)
                                · refine zk_iload hc dL_areTracks_169 9 rfl ?_
                                  refine zk_istore hc (lv2 := [(6, .int (nI mm)), (10, .int (nI 0)), (9, .int (nI (knd S.1 t k))), (8, .int (nI (num S.1 t k))), (0, .ref b), (1, .int (nI (wgs S.1 t))), (2, .int (nI (unsN S.1 t))), (3, .int (nI t)), (4, .int (nI (mny S.1 t))), (5, .int (-1)), (7, .int (nI k))]) dL_areTracks_171 (by decide) rfl ?_
                                  refine zk_iload hc dL_areTracks_173 2 rfl ?_
                                  refine zk_if_leN hc 183 dL_areTracks_175 (by decide) (by omega) (fun h175 => ?_) (fun h175 => ?_)
                                  · exact absurd h175 (by omega)
                                  · refine zk_iload hc dL_areTracks_178 10 rfl ?_
                                    refine zk_goto hc 185 dL_areTracks_180 (by decide) ?_
                                    refine zk_istore hc (lv2 := [(5, .int (nI k)), (6, .int (nI mm)), (10, .int (nI 0)), (9, .int (nI (knd S.1 t k))), (8, .int (nI (num S.1 t k))), (0, .ref b), (1, .int (nI (wgs S.1 t))), (2, .int (nI (unsN S.1 t))), (3, .int (nI t)), (4, .int (nI (mny S.1 t))), (7, .int (nI k))]) dL_areTracks_185 (by decide) rfl ?_
                                    refine zk_iinc hc (v := nI (k + 1)) (lv2 := [(7, .int (nI (k + 1))), (5, .int (nI k)), (6, .int (nI mm)), (10, .int (nI 0)), (9, .int (nI (knd S.1 t k))), (8, .int (nI (num S.1 t k))), (0, .ref b), (1, .int (nI (wgs S.1 t))), (2, .int (nI (unsN S.1 t))), (3, .int (nI t)), (4, .int (nI (mny S.1 t)))]) dL_areTracks_187 10 rfl (nq_inc rfl) (by decide) rfl ?_
                                    refine zk_goto hc 33 dL_areTracks_190 (by decide) ?_
                                    refine zk_lv [6, 7, 8, 9, 10, 1, 2, 0] (lv2 := [(0, .ref b), (1, .int (nI (wgs S.1 t))), (2, .int (nI (unsN S.1 t))), (3, .int (nI t)), (4, .int (nI (mny S.1 t))), (5, .int (nI k)), (6, .int (nI mm)), (7, .int (nI (k + 1)))]) rfl ?_
                                    exact ih33 (k + 1) (nI k) (nI mm) W_160 (by omega) (by omega) (LA_d (by omega)) (LE_s (by omega) (Or.inl hl0) hLE) hS_161
                                · exact absurd h_166 (by decide)
                              · exact absurd (by decide) h114
                          · exact absurd h_164 (by omega)
              · have hLA : LA S.1 t k (nI j) := Or.inr ⟨j, hj, rfl, hkj, hl0, hl2⟩
                refine zk_aload_n hc dL_areTracks_40 0 rfl ?_
                rcases hLE with ⟨hg, rfl⟩ | ⟨mm, hmm, hg, rfl⟩
                · have hLE : LE S.1 t k (-9) := Or.inl ⟨hg, rfl⟩
                  refine zk_iload_n hc dL_areTracks_41 3 rfl ?_
                  refine zk_iload hc dL_areTracks_42 7 rfl ?_
                  refine zk_iconst hc (nI 0) dL_areTracks_44 rfl ?_
                  obtain ⟨hat_169_f, hat_169⟩ := cs_at hSk
                  refine zk_callVi hc (rest := []) (kx_wagon g l b S Wk cN (by omega) hI hSk (nI t) (nI k) (nI 0)) gg_L_74 cd_X6_wagon ⟨Nat.le_of_ble_eq_true rfl, Nat.le_of_ble_eq_true rfl⟩ ⟨Nat.le_of_ble_eq_true rfl, Nat.le_of_ble_eq_true rfl⟩ ([]) ([]) (by simp only [List.append_nil, List.nil_append]) 0 hat_169 rfl rfl (Nat.le_of_ble_eq_true rfl) dL_areTracks_45 (fun r W_167 hp => ?_)
                  obtain ⟨rfl, hS_168⟩ := hp
                  refine zk_ws (ws2 := W_167) (by simp only [List.append_nil, List.nil_append]) ?_
                  refine zk_top (y := nI (num S.1 t k)) (wag_n h4.2 (by omega) (by omega) (by omega) (by omega)) ?_
                  refine zk_istore hc (lv2 := [(8, .int (nI (num S.1 t k))), (0, .ref b), (1, .int (nI (wgs S.1 t))), (2, .int (nI (unsN S.1 t))), (3, .int (nI t)), (4, .int (nI (mny S.1 t))), (5, .int (nI j)), (6, .int (-9)), (7, .int (nI k))]) dL_areTracks_48 (by decide) rfl ?_
                  refine zk_aload_n hc dL_areTracks_50 1 rfl ?_
                  refine zk_iload_n hc dL_areTracks_51 4 rfl ?_
                  refine zk_iload hc dL_areTracks_52 8 rfl ?_
                  refine zk_iconst hc (nI 2) dL_areTracks_54 rfl ?_
                  obtain ⟨hat_172_f, hat_172⟩ := cs_at hS_168
                  refine zk_callVi hc (rest := []) (kx_wagon g l b S W_167 cN (by omega) hI hS_168 (nI t) (nI k) (nI 2)) gg_L_74 cd_X6_wagon ⟨Nat.le_of_ble_eq_true rfl, Nat.le_of_ble_eq_true rfl⟩ ⟨Nat.le_of_ble_eq_true rfl, Nat.le_of_ble_eq_true rfl⟩ ([]) ([]) (by simp only [List.append_nil, List.nil_append]) 0 hat_172 rfl rfl (Nat.le_of_ble_eq_true rfl) dL_areTracks_55 (fun r W_170 hp => ?_)
                  obtain ⟨rfl, hS_171⟩ := hp
                  refine zk_ws (ws2 := W_170) (by simp only [List.append_nil, List.nil_append]) ?_
                  refine zk_top (y := nI (knd S.1 t k)) (wag_n h4.2 (by omega) (by omega) (by omega) (by omega)) ?_
                  refine zk_istore hc (lv2 := [(9, .int (nI (knd S.1 t k))), (8, .int (nI (num S.1 t k))), (0, .ref b), (1, .int (nI (wgs S.1 t))), (2, .int (nI (unsN S.1 t))), (3, .int (nI t)), (4, .int (nI (mny S.1 t))), (5, .int (nI j)), (6, .int (-9)), (7, .int (nI k))]) dL_areTracks_58 (by decide) rfl ?_
                  refine zk_aload_n hc dL_areTracks_60 2 rfl ?_
                  refine zk_iload hc dL_areTracks_61 1 rfl ?_
                  refine zk_iconst hc (nI 0) dL_areTracks_63 rfl ?_
                  obtain ⟨hat_175_f, hat_175⟩ := cs_at hS_171
                  refine zk_callVi hc (rest := []) (kx_find g l b S W_170 cN (by omega) hI hS_171 (nI (num S.1 t k)) (nI 0)) gg_L_77 cd_X6_find ⟨Nat.le_of_ble_eq_true rfl, Nat.le_of_ble_eq_true rfl⟩ ⟨Nat.le_of_ble_eq_true rfl, Nat.le_of_ble_eq_true rfl⟩ ([]) ([]) (by simp only [List.append_nil, List.nil_append]) 0 hat_175 rfl rfl (Nat.le_of_ble_eq_true rfl) dL_areTracks_64 (fun r W_173 hp => ?_)
                  obtain ⟨rfl, hS_174⟩ := hp
                  refine zk_ws (ws2 := W_173) (by simp only [List.append_nil, List.nil_append]) ?_
                  refine zk_top (y := nI t) ((fin_n hW (by omega) h4.2 (by omega) (by omega) (by omega)).trans (if_pos rfl)) ?_
                  refine zk_iload_n hc dL_areTracks_67 5 rfl ?_
                  refine zk_icmp_neN hc 105 dL_areTracks_68 (by decide) (by omega) (by omega) (fun h_176 => ?_) (fun h_176 => ?_)
                  · exact absurd h_176 (by omega)
                  · refine zk_aload_n hc dL_areTracks_71 2 rfl ?_
                    refine zk_iload hc dL_areTracks_72 1 rfl ?_
                    refine zk_iconst hc (nI 1) dL_areTracks_74 rfl ?_
                    obtain ⟨hat_179_f, hat_179⟩ := cs_at hS_174
                    refine zk_callVi hc (rest := []) (kx_find g l b S W_173 cN (by omega) hI hS_174 (nI (num S.1 t k)) (nI 1)) gg_L_77 cd_X6_find ⟨Nat.le_of_ble_eq_true rfl, Nat.le_of_ble_eq_true rfl⟩ ⟨Nat.le_of_ble_eq_true rfl, Nat.le_of_ble_eq_true rfl⟩ ([]) ([]) (by simp only [List.append_nil, List.nil_append]) 0 hat_179 rfl rfl (Nat.le_of_ble_eq_true rfl) dL_areTracks_75 (fun r W_177 hp => ?_)
                    obtain ⟨rfl, hS_178⟩ := hp
                    refine zk_ws (ws2 := W_177) (by simp only [List.append_nil, List.nil_append]) ?_
                    refine zk_top (y := nI k) ((fin_n hW (by omega) h4.2 (by omega) (by omega) (by omega)).trans (if_neg (by decide))) ?_
                    refine zk_iload hc dL_areTracks_78 9 rfl ?_
                    refine zk_icmp_neN hc 105 dL_areTracks_80 (by decide) (by omega) (by omega) (fun h_180 => ?_) (fun h_180 => ?_)
                    · exact absurd h_180 (by omega)
                    · have hnum := hW.1 t k (by omega) (by omega)
                      have hkdk := (hkd t k (by omega) (by omega)).2
                      refine zk_iload hc dL_areTracks_83 1 rfl ?_
                      refine zk_aload_n hc dL_areTracks_85 2 rfl ?_
                      refine zk_bipush hc (nI 10) dL_areTracks_86 rfl ?_
                      obtain ⟨hat_183_f, hat_183⟩ := cs_at hS_178
                      refine zk_callVi hc (rest := [.int (nI (num S.1 t k))]) (kx_told g l b S W_177 cN (by omega) hI hS_178 (nI 10)) gg_L_25 cd_X6_told ⟨Nat.le_of_ble_eq_true rfl, Nat.le_of_ble_eq_true rfl⟩ ⟨Nat.le_of_ble_eq_true rfl, Nat.le_of_ble_eq_true rfl⟩ ([]) ([]) (by simp only [List.append_nil, List.nil_append]) 0 hat_183 rfl rfl (Nat.le_of_ble_eq_true rfl) dL_areTracks_88 (fun r W_181 hp => ?_)
                      obtain ⟨rfl, hS_182⟩ := hp
                      refine zk_ws (ws2 := W_181) (by simp only [List.append_nil, List.nil_append]) ?_
                      refine zk_top (y := nI (S.1 7)) (tol_n _ (by omega)) ?_
                      refine zk_icmp_geN hc 105 dL_areTracks_91 (by decide) (by omega) (by omega) (fun h_184 => ?_) (fun h_184 => ?_)
                      · exact absurd h_184 (by omega)
                      · refine zk_iload hc dL_areTracks_94 0 rfl ?_
                        refine zk_if_lt hc 105 dL_areTracks_96 (by decide) (fun h96 => ?_) (fun h96 => ?_)
                        · exact absurd h96 (nI_pos (by omega))
                        · refine zk_iload hc dL_areTracks_99 0 rfl ?_
                          refine zk_iconst hc (nI 2) dL_areTracks_101 rfl ?_
                          refine zk_icmp_leN hc 107 dL_areTracks_102 (by decide) (by omega) (by omega) (fun h_185 => ?_) (fun h_185 => ?_)
                          · refine zk_iload hc dL_areTracks_107 0 rfl ?_
                            refine zk_if_leN hc 134 dL_areTracks_109 (by decide) (by omega) (fun h109 => ?_) (fun h109 => ?_)
                            · refine zk_iconst hc (nI 0) dL_areTracks_134 rfl ?_
                              refine zk_istore hc (lv2 := [(10, .int (nI 0)), (9, .int (nI (knd S.1 t k))), (8, .int (nI (num S.1 t k))), (0, .ref b), (1, .int (nI (wgs S.1 t))), (2, .int (nI (unsN S.1 t))), (3, .int (nI t)), (4, .int (nI (mny S.1 t))), (5, .int (nI j)), (6, .int (-9)), (7, .int (nI k))]) dL_areTracks_135 (by decide) rfl ?_
                              refine zk_iload hc dL_areTracks_137 0 rfl ?_
                              refine zk_if_eqN hc 169 dL_areTracks_139 (by decide) (by omega) (fun h_186 => ?_) (fun h_186 => ?_)
                              · refine zk_iload hc dL_areTracks_169 9 rfl ?_
                                refine zk_istore hc (lv2 := [(6, .int (-9)), (10, .int (nI 0)), (9, .int (nI (knd S.1 t k))), (8, .int (nI (num S.1 t k))), (0, .ref b), (1, .int (nI (wgs S.1 t))), (2, .int (nI (unsN S.1 t))), (3, .int (nI t)), (4, .int (nI (mny S.1 t))), (5, .int (nI j)), (7, .int (nI k))]) dL_areTracks_171 (by decide) rfl ?_
                                refine zk_iload hc dL_areTracks_173 2 rfl ?_
                                refine zk_if_leN hc 183 dL_areTracks_175 (by decide) (by omega) (fun h175 => ?_) (fun h175 => ?_)
                                · refine zk_iload hc dL_areTracks_183 9 rfl ?_
                                  refine zk_istore hc (lv2 := [(5, .int (nI j)), (6, .int (-9)), (10, .int (nI 0)), (9, .int (nI (knd S.1 t k))), (8, .int (nI (num S.1 t k))), (0, .ref b), (1, .int (nI (wgs S.1 t))), (2, .int (nI (unsN S.1 t))), (3, .int (nI t)), (4, .int (nI (mny S.1 t))), (7, .int (nI k))]) dL_areTracks_185 (by decide) rfl ?_
                                  refine zk_iinc hc (v := nI (k + 1)) (lv2 := [(7, .int (nI (k + 1))), (5, .int (nI j)), (6, .int (-9)), (10, .int (nI 0)), (9, .int (nI (knd S.1 t k))), (8, .int (nI (num S.1 t k))), (0, .ref b), (1, .int (nI (wgs S.1 t))), (2, .int (nI (unsN S.1 t))), (3, .int (nI t)), (4, .int (nI (mny S.1 t)))]) dL_areTracks_187 10 rfl (nq_inc rfl) (by decide) rfl ?_
                                  refine zk_goto hc 33 dL_areTracks_190 (by decide) ?_
                                  refine zk_lv [6, 7, 8, 9, 10, 1, 2, 0] (lv2 := [(0, .ref b), (1, .int (nI (wgs S.1 t))), (2, .int (nI (unsN S.1 t))), (3, .int (nI t)), (4, .int (nI (mny S.1 t))), (5, .int (nI j)), (6, .int (-9)), (7, .int (nI (k + 1)))]) rfl ?_
                                  exact ih33 (k + 1) (nI j) (-9) W_181 (by omega) (by omega) (LA_z (by omega) hLA) (LE_z (by omega) hLE) hS_182
                                · exact absurd h175 (by omega)
                              · exact absurd h_186 (by decide)
                            · refine zk_iload hc dL_areTracks_112 7 rfl ?_
                              refine zk_if_lt hc 134 dL_areTracks_114 (by decide) (fun h114 => ?_) (fun h114 => ?_)
                              · exact absurd h114 (nI_pos (by omega))
                              · have hkdj := (hkd t j (by omega) (by omega)).2
                                refine zk_aload_n hc dL_areTracks_117 2 rfl ?_
                                refine zk_iload_n hc dL_areTracks_118 5 rfl ?_
                                refine zk_iload hc dL_areTracks_119 7 rfl ?_
                                refine zk_iconst hc (nI 2) dL_areTracks_121 rfl ?_
                                obtain ⟨hat_189_f, hat_189⟩ := cs_at hS_182
                                refine zk_callVi hc (rest := []) (kx_wagon g l b S W_181 cN (by omega) hI hS_182 (nI t) (nI j) (nI 2)) gg_L_74 cd_X6_wagon ⟨Nat.le_of_ble_eq_true rfl, Nat.le_of_ble_eq_true rfl⟩ ⟨Nat.le_of_ble_eq_true rfl, Nat.le_of_ble_eq_true rfl⟩ ([]) ([]) (by simp only [List.append_nil, List.nil_append]) 0 hat_189 rfl rfl (Nat.le_of_ble_eq_true rfl) dL_areTracks_122 (fun r W_187 hp => ?_)
                                obtain ⟨rfl, hS_188⟩ := hp
                                refine zk_ws (ws2 := W_187) (by simp only [List.append_nil, List.nil_append]) ?_
                                refine zk_top (y := nI (knd S.1 t j)) (wag_n h4.2 (by omega) (by omega) (by omega) (by omega)) ?_
                                refine zk_iload hc dL_areTracks_125 0 rfl ?_
                                refine zk_icmp_eqN hc 134 dL_areTracks_127 (by decide) (by omega) (by omega) (fun h127 => ?_) (fun h127 => ?_)
                                · refine zk_iconst hc (nI 0) dL_areTracks_134 rfl ?_
                                  refine zk_istore hc (lv2 := [(10, .int (nI 0)), (9, .int (nI (knd S.1 t k))), (8, .int (nI (num S.1 t k))), (0, .ref b), (1, .int (nI (wgs S.1 t))), (2, .int (nI (unsN S.1 t))), (3, .int (nI t)), (4, .int (nI (mny S.1 t))), (5, .int (nI j)), (6, .int (-9)), (7, .int (nI k))]) dL_areTracks_135 (by decide) rfl ?_
                                  refine zk_iload hc dL_areTracks_137 0 rfl ?_
                                  refine zk_if_eqN hc 169 dL_areTracks_139 (by decide) (by omega) (fun h_190 => ?_) (fun h_190 => ?_)
                                  · refine zk_iload hc dL_areTracks_169 9 rfl ?_
                                    refine zk_istore hc (lv2 := [(6, .int (-9)), (10, .int (nI 0)), (9, .int (nI (knd S.1 t k))), (8, .int (nI (num S.1 t k))), (0, .ref b), (1, .int (nI (wgs S.1 t))), (2, .int (nI (unsN S.1 t))), (3, .int (nI t)), (4, .int (nI (mny S.1 t))), (5, .int (nI j)), (7, .int (nI k))]) dL_areTracks_171 (by decide) rfl ?_
                                    refine zk_iload hc dL_areTracks_173 2 rfl ?_
                                    refine zk_if_leN hc 183 dL_areTracks_175 (by decide) (by omega) (fun h175 => ?_) (fun h175 => ?_)
                                    · exact absurd h175 (by omega)
                                    · refine zk_iload hc dL_areTracks_178 10 rfl ?_
                                      refine zk_goto hc 185 dL_areTracks_180 (by decide) ?_
                                      refine zk_istore hc (lv2 := [(5, .int (nI k)), (6, .int (-9)), (10, .int (nI 0)), (9, .int (nI (knd S.1 t k))), (8, .int (nI (num S.1 t k))), (0, .ref b), (1, .int (nI (wgs S.1 t))), (2, .int (nI (unsN S.1 t))), (3, .int (nI t)), (4, .int (nI (mny S.1 t))), (7, .int (nI k))]) dL_areTracks_185 (by decide) rfl ?_
                                      refine zk_iinc hc (v := nI (k + 1)) (lv2 := [(7, .int (nI (k + 1))), (5, .int (nI k)), (6, .int (-9)), (10, .int (nI 0)), (9, .int (nI (knd S.1 t k))), (8, .int (nI (num S.1 t k))), (0, .ref b), (1, .int (nI (wgs S.1 t))), (2, .int (nI (unsN S.1 t))), (3, .int (nI t)), (4, .int (nI (mny S.1 t)))]) dL_areTracks_187 10 rfl (nq_inc rfl) (by decide) rfl ?_
                                      refine zk_goto hc 33 dL_areTracks_190 (by decide) ?_
                                      refine zk_lv [6, 7, 8, 9, 10, 1, 2, 0] (lv2 := [(0, .ref b), (1, .int (nI (wgs S.1 t))), (2, .int (nI (unsN S.1 t))), (3, .int (nI t)), (4, .int (nI (mny S.1 t))), (5, .int (nI k)), (6, .int (-9)), (7, .int (nI (k + 1)))]) rfl ?_
                                      exact ih33 (k + 1) (nI k) (-9) W_187 (by omega) (by omega) (LA_d (by omega)) (LE_s (by omega) (Or.inr (hkj.symm.trans h127)) hLE) hS_188
                                  · exact absurd h_190 (by decide)
                                · refine zk_iconst hc (nI 1) dL_areTracks_130 rfl ?_
                                  refine zk_goto hc 135 dL_areTracks_131 (by decide) ?_
                                  refine zk_istore hc (lv2 := [(10, .int (nI 1)), (9, .int (nI (knd S.1 t k))), (8, .int (nI (num S.1 t k))), (0, .ref b), (1, .int (nI (wgs S.1 t))), (2, .int (nI (unsN S.1 t))), (3, .int (nI t)), (4, .int (nI (mny S.1 t))), (5, .int (nI j)), (6, .int (-9)), (7, .int (nI k))]) dL_areTracks_135 (by decide) rfl ?_
                                  refine zk_iload hc dL_areTracks_137 0 rfl ?_
                                  refine zk_if_eqN hc 169 dL_areTracks_139 (by decide) (by omega) (fun h_191 => ?_) (fun h_191 => ?_)
                                  · exact absurd h_191 (by decide)
                                  · refine zk_iload hc dL_areTracks_142 9 rfl ?_
                                    refine zk_if_lt hc 159 dL_areTracks_144 (by decide) (fun h144 => ?_) (fun h144 => ?_)
                                    · refine zk_iload hc dL_areTracks_159 10 rfl ?_
                                      refine zk_iload hc dL_areTracks_161 8 rfl ?_
                                      refine zk_isubN hc dL_areTracks_163 (by omega) ?_
                                      refine zk_iconst hc (nI 1) dL_areTracks_164 rfl ?_
                                      refine zk_isubN hc dL_areTracks_165 (by omega) ?_
                                      refine zk_goto hc 171 dL_areTracks_166 (by decide) ?_
                                      refine zk_istore hc (lv2 := [(6, .int (nI ((k - j) - 1))), (10, .int (nI 1)), (9, .int (nI (knd S.1 t k))), (8, .int (nI (num S.1 t k))), (0, .ref b), (1, .int (nI (wgs S.1 t))), (2, .int (nI (unsN S.1 t))), (3, .int (nI t)), (4, .int (nI (mny S.1 t))), (5, .int (nI j)), (7, .int (nI k))]) dL_areTracks_171 (by decide) rfl ?_
                                      refine zk_iload hc dL_areTracks_173 2 rfl ?_
                                      refine zk_if_leN hc 183 dL_areTracks_175 (by decide) (by omega) (fun h175 => ?_) (fun h175 => ?_)
                                      · exact absurd h175 (by omega)
                                      · refine zk_iload hc dL_areTracks_178 10 rfl ?_
                                        refine zk_goto hc 185 dL_areTracks_180 (by decide) ?_
                                        refine zk_istore hc (lv2 := [(5, .int (nI k)), (6, .int (nI ((k - j) - 1))), (10, .int (nI 1)), (9, .int (nI (knd S.1 t k))), (8, .int (nI (num S.1 t k))), (0, .ref b), (1, .int (nI (wgs S.1 t))), (2, .int (nI (unsN S.1 t))), (3, .int (nI t)), (4, .int (nI (mny S.1 t))), (7, .int (nI k))]) dL_areTracks_185 (by decide) rfl ?_
                                        refine zk_iinc hc (v := nI (k + 1)) (lv2 := [(7, .int (nI (k + 1))), (5, .int (nI k)), (6, .int (nI ((k - j) - 1))), (10, .int (nI 1)), (9, .int (nI (knd S.1 t k))), (8, .int (nI (num S.1 t k))), (0, .ref b), (1, .int (nI (wgs S.1 t))), (2, .int (nI (unsN S.1 t))), (3, .int (nI t)), (4, .int (nI (mny S.1 t)))]) dL_areTracks_187 10 rfl (nq_inc rfl) (by decide) rfl ?_
                                        refine zk_goto hc 33 dL_areTracks_190 (by decide) ?_
                                        refine zk_lv [6, 7, 8, 9, 10, 1, 2, 0] (lv2 := [(0, .ref b), (1, .int (nI (wgs S.1 t))), (2, .int (nI (unsN S.1 t))), (3, .int (nI t)), (4, .int (nI (mny S.1 t))), (5, .int (nI k)), (6, .int (nI ((k - j) - 1))), (7, .int (nI (k + 1)))]) rfl ?_
                                        exact ih33 (k + 1) (nI k) (nI ((k - j) - 1)) W_187 (by omega) (by omega) (LA_d (by omega)) (LE_n (by omega) (by omega) hj hl0 (fun y => h127 (hkj.trans y)) hl2 (by omega)) hS_188
                                    · exact absurd (by decide) h144
                          · exact absurd h_185 (by omega)
                · have hLE : LE S.1 t k (nI mm) := Or.inr ⟨mm, hmm, hg, rfl⟩
                  refine zk_iload_n hc dL_areTracks_41 3 rfl ?_
                  refine zk_iload hc dL_areTracks_42 7 rfl ?_
                  refine zk_iconst hc (nI 0) dL_areTracks_44 rfl ?_
                  obtain ⟨hat_194_f, hat_194⟩ := cs_at hSk
                  refine zk_callVi hc (rest := []) (kx_wagon g l b S Wk cN (by omega) hI hSk (nI t) (nI k) (nI 0)) gg_L_74 cd_X6_wagon ⟨Nat.le_of_ble_eq_true rfl, Nat.le_of_ble_eq_true rfl⟩ ⟨Nat.le_of_ble_eq_true rfl, Nat.le_of_ble_eq_true rfl⟩ ([]) ([]) (by simp only [List.append_nil, List.nil_append]) 0 hat_194 rfl rfl (Nat.le_of_ble_eq_true rfl) dL_areTracks_45 (fun r W_192 hp => ?_)
                  obtain ⟨rfl, hS_193⟩ := hp
                  refine zk_ws (ws2 := W_192) (by simp only [List.append_nil, List.nil_append]) ?_
                  refine zk_top (y := nI (num S.1 t k)) (wag_n h4.2 (by omega) (by omega) (by omega) (by omega)) ?_
                  refine zk_istore hc (lv2 := [(8, .int (nI (num S.1 t k))), (0, .ref b), (1, .int (nI (wgs S.1 t))), (2, .int (nI (unsN S.1 t))), (3, .int (nI t)), (4, .int (nI (mny S.1 t))), (5, .int (nI j)), (6, .int (nI mm)), (7, .int (nI k))]) dL_areTracks_48 (by decide) rfl ?_
                  refine zk_aload_n hc dL_areTracks_50 1 rfl ?_
                  refine zk_iload_n hc dL_areTracks_51 4 rfl ?_
                  refine zk_iload hc dL_areTracks_52 8 rfl ?_
                  refine zk_iconst hc (nI 2) dL_areTracks_54 rfl ?_
                  obtain ⟨hat_197_f, hat_197⟩ := cs_at hS_193
                  refine zk_callVi hc (rest := []) (kx_wagon g l b S W_192 cN (by omega) hI hS_193 (nI t) (nI k) (nI 2)) gg_L_74 cd_X6_wagon ⟨Nat.le_of_ble_eq_true rfl, Nat.le_of_ble_eq_true rfl⟩ ⟨Nat.le_of_ble_eq_true rfl, Nat.le_of_ble_eq_true rfl⟩ ([]) ([]) (by simp only [List.append_nil, List.nil_append]) 0 hat_197 rfl rfl (Nat.le_of_ble_eq_true rfl) dL_areTracks_55 (fun r W_195 hp => ?_)
                  obtain ⟨rfl, hS_196⟩ := hp
                  refine zk_ws (ws2 := W_195) (by simp only [List.append_nil, List.nil_append]) ?_
                  refine zk_top (y := nI (knd S.1 t k)) (wag_n h4.2 (by omega) (by omega) (by omega) (by omega)) ?_
                  refine zk_istore hc (lv2 := [(9, .int (nI (knd S.1 t k))), (8, .int (nI (num S.1 t k))), (0, .ref b), (1, .int (nI (wgs S.1 t))), (2, .int (nI (unsN S.1 t))), (3, .int (nI t)), (4, .int (nI (mny S.1 t))), (5, .int (nI j)), (6, .int (nI mm)), (7, .int (nI k))]) dL_areTracks_58 (by decide) rfl ?_
                  refine zk_aload_n hc dL_areTracks_60 2 rfl ?_
                  refine zk_iload hc dL_areTracks_61 1 rfl ?_
                  refine zk_iconst hc (nI 0) dL_areTracks_63 rfl ?_
                  obtain ⟨hat_200_f, hat_200⟩ := cs_at hS_196
                  refine zk_callVi hc (rest := []) (kx_find g l b S W_195 cN (by omega) hI hS_196 (nI (num S.1 t k)) (nI 0)) gg_L_77 cd_X6_find ⟨Nat.le_of_ble_eq_true rfl, Nat.le_of_ble_eq_true rfl⟩ ⟨Nat.le_of_ble_eq_true rfl, Nat.le_of_ble_eq_true rfl⟩ ([]) ([]) (by simp only [List.append_nil, List.nil_append]) 0 hat_200 rfl rfl (Nat.le_of_ble_eq_true rfl) dL_areTracks_64 (fun r W_198 hp => ?_)
                  obtain ⟨rfl, hS_199⟩ := hp
                  refine zk_ws (ws2 := W_198) (by simp only [List.append_nil, List.nil_append]) ?_
                  refine zk_top (y := nI t) ((fin_n hW (by omega) h4.2 (by omega) (by omega) (by omega)).trans (if_pos rfl)) ?_
                  refine zk_iload_n hc dL_areTracks_67 5 rfl ?_
                  refine zk_icmp_neN hc 105 dL_areTracks_68 (by decide) (by omega) (by omega) (fun h_201 => ?_) (fun h_201 => ?_)
                  · exact absurd h_201 (by omega)
                  · refine zk_aload_n hc dL_areTracks_71 2 rfl ?_
                    refine zk_iload hc dL_areTracks_72 1 rfl ?_
                    refine zk_iconst hc (nI 1) dL_areTracks_74 rfl ?_
                    obtain ⟨hat_204_f, hat_204⟩ := cs_at hS_199
                    refine zk_callVi hc (rest := []) (kx_find g l b S W_198 cN (by omega) hI hS_199 (nI (num S.1 t k)) (nI 1)) gg_L_77 cd_X6_find ⟨Nat.le_of_ble_eq_true rfl, Nat.le_of_ble_eq_true rfl⟩ ⟨Nat.le_of_ble_eq_true rfl, Nat.le_of_ble_eq_true rfl⟩ ([]) ([]) (by simp only [List.append_nil, List.nil_append]) 0 hat_204 rfl rfl (Nat.le_of_ble_eq_true rfl) dL_areTracks_75 (fun r W_202 hp => ?_)
                    obtain ⟨rfl, hS_203⟩ := hp
                    refine zk_ws (ws2 := W_202) (by simp only [List.append_nil, List.nil_append]) ?_
                    refine zk_top (y := nI k) ((fin_n hW (by omega) h4.2 (by omega) (by omega) (by omega)).trans (if_neg (by decide))) ?_
                    refine zk_iload hc dL_areTracks_78 9 rfl ?_
                    refine zk_icmp_neN hc 105 dL_areTracks_80 (by decide) (by omega) (by omega) (fun h_205 => ?_) (fun h_205 => ?_)
                    · exact absurd h_205 (by omega)
                    · have hnum := hW.1 t k (by omega) (by omega)
                      have hkdk := (hkd t k (by omega) (by omega)).2
                      refine zk_iload hc dL_areTracks_83 1 rfl ?_
                      refine zk_aload_n hc dL_areTracks_85 2 rfl ?_
                      refine zk_bipush hc (nI 10) dL_areTracks_86 rfl ?_
                      obtain ⟨hat_208_f, hat_208⟩ := cs_at hS_203
                      refine zk_callVi hc (rest := [.int (nI (num S.1 t k))]) (kx_told g l b S W_202 cN (by omega) hI hS_203 (nI 10)) gg_L_25 cd_X6_told ⟨Nat.le_of_ble_eq_true rfl, Nat.le_of_ble_eq_true rfl⟩ ⟨Nat.le_of_ble_eq_true rfl, Nat.le_of_ble_eq_true rfl⟩ ([]) ([]) (by simp only [List.append_nil, List.nil_append]) 0 hat_208 rfl rfl (Nat.le_of_ble_eq_true rfl) dL_areTracks_88 (fun r W_206 hp => ?_)
                      obtain ⟨rfl, hS_207⟩ := hp
                      refine zk_ws (ws2 := W_206) (by simp only [List.append_nil, List.nil_append]) ?_
                      refine zk_top (y := nI (S.1 7)) (tol_n _ (by omega)) ?_
                      refine zk_icmp_geN hc 105 dL_areTracks_91 (by decide) (by omega) (by omega) (fun h_209 => ?_) (fun h_209 => ?_)
                      · exact absurd h_209 (by omega)
                      · refine zk_iload hc dL_areTracks_94 0 rfl ?_
                        refine zk_if_lt hc 105 dL_areTracks_96 (by decide) (fun h96 => ?_) (fun h96 => ?_)
                        · exact absurd h96 (nI_pos (by omega))
                        · refine zk_iload hc dL_areTracks_99 0 rfl ?_
                          refine zk_iconst hc (nI 2) dL_areTracks_101 rfl ?_
                          refine zk_icmp_leN hc 107 dL_areTracks_102 (by decide) (by omega) (by omega) (fun h_210 => ?_) (fun h_210 => ?_)
                          · refine zk_iload hc dL_areTracks_107 0 rfl ?_
                            refine zk_if_leN hc 134 dL_areTracks_109 (by decide) (by omega) (fun h109 => ?_) (fun h109 => ?_)
                            · refine zk_iconst hc (nI 0) dL_areTracks_134 rfl ?_
                              refine zk_istore hc (lv2 := [(10, .int (nI 0)), (9, .int (nI (knd S.1 t k))), (8, .int (nI (num S.1 t k))), (0, .ref b), (1, .int (nI (wgs S.1 t))), (2, .int (nI (unsN S.1 t))), (3, .int (nI t)), (4, .int (nI (mny S.1 t))), (5, .int (nI j)), (6, .int (nI mm)), (7, .int (nI k))]) dL_areTracks_135 (by decide) rfl ?_
                              refine zk_iload hc dL_areTracks_137 0 rfl ?_
                              refine zk_if_eqN hc 169 dL_areTracks_139 (by decide) (by omega) (fun h_211 => ?_) (fun h_211 => ?_)
                              · refine zk_iload hc dL_areTracks_169 9 rfl ?_
                                refine zk_istore hc (lv2 := [(6, .int (nI mm)), (10, .int (nI 0)), (9, .int (nI (knd S.1 t k))), (8, .int (nI (num S.1 t k))), (0, .ref b), (1, .int (nI (wgs S.1 t))), (2, .int (nI (unsN S.1 t))), (3, .int (nI t)), (4, .int (nI (mny S.1 t))), (5, .int (nI j)), (7, .int (nI k))]) dL_areTracks_171 (by decide) rfl ?_
                                refine zk_iload hc dL_areTracks_173 2 rfl ?_
                                refine zk_if_leN hc 183 dL_areTracks_175 (by decide) (by omega) (fun h175 => ?_) (fun h175 => ?_)
                                · refine zk_iload hc dL_areTracks_183 9 rfl ?_
                                  refine zk_istore hc (lv2 := [(5, .int (nI j)), (6, .int (nI mm)), (10, .int (nI 0)), (9, .int (nI (knd S.1 t k))), (8, .int (nI (num S.1 t k))), (0, .ref b), (1, .int (nI (wgs S.1 t))), (2, .int (nI (unsN S.1 t))), (3, .int (nI t)), (4, .int (nI (mny S.1 t))), (7, .int (nI k))]) dL_areTracks_185 (by decide) rfl ?_
                                  refine zk_iinc hc (v := nI (k + 1)) (lv2 := [(7, .int (nI (k + 1))), (5, .int (nI j)), (6, .int (nI mm)), (10, .int (nI 0)), (9, .int (nI (knd S.1 t k))), (8, .int (nI (num S.1 t k))), (0, .ref b), (1, .int (nI (wgs S.1 t))), (2, .int (nI (unsN S.1 t))), (3, .int (nI t)), (4, .int (nI (mny S.1 t)))]) dL_areTracks_187 10 rfl (nq_inc rfl) (by decide) rfl ?_
                                  refine zk_goto hc 33 dL_areTracks_190 (by decide) ?_
                                  refine zk_lv [6, 7, 8, 9, 10, 1, 2, 0] (lv2 := [(0, .ref b), (1, .int (nI (wgs S.1 t))), (2, .int (nI (unsN S.1 t))), (3, .int (nI t)), (4, .int (nI (mny S.1 t))), (5, .int (nI j)), (6, .int (nI mm)), (7, .int (nI (k + 1)))]) rfl ?_
                                  exact ih33 (k + 1) (nI j) (nI mm) W_206 (by omega) (by omega) (LA_z (by omega) hLA) (LE_z (by omega) hLE) hS_207
                                · exact absurd h175 (by omega)
                              · exact absurd h_211 (by decide)
                            · refine zk_iload hc dL_areTracks_112 7 rfl ?_
                              refine zk_if_lt hc 134 dL_areTracks_114 (by decide) (fun h114 => ?_) (fun h114 => ?_)
                              · exact absurd h114 (nI_pos (by omega))
                              · have hkdj := (hkd t j (by omega) (by omega)).2
                                refine zk_aload_n hc dL_areTracks_117 2 rfl ?_
                                refine zk_iload_n hc dL_areTracks_118 5 rfl ?_
                                refine zk_iload hc dL_areTracks_119 7 rfl ?_
                                refine zk_iconst hc (nI 2) dL_areTracks_121 rfl ?_
                                obtain ⟨hat_214_f, hat_214⟩ := cs_at hS_207
                                refine zk_callVi hc (rest := []) (kx_wagon g l b S W_206 cN (by omega) hI hS_207 (nI t) (nI j) (nI 2)) gg_L_74 cd_X6_wagon ⟨Nat.le_of_ble_eq_true rfl, Nat.le_of_ble_eq_true rfl⟩ ⟨Nat.le_of_ble_eq_true rfl, Nat.le_of_ble_eq_true rfl⟩ ([]) ([]) (by simp only [List.append_nil, List.nil_append]) 0 hat_214 rfl rfl (Nat.le_of_ble_eq_true rfl) dL_areTracks_122 (fun r W_212 hp => ?_)
                                obtain ⟨rfl, hS_213⟩ := hp
                                refine zk_ws (ws2 := W_212) (by simp only [List.append_nil, List.nil_append]) ?_
                                refine zk_top (y := nI (knd S.1 t j)) (wag_n h4.2 (by omega) (by omega) (by omega) (by omega)) ?_
                                refine zk_iload hc dL_areTracks_125 0 rfl ?_
                                refine zk_icmp_eqN hc 134 dL_areTracks_127 (by decide) (by omega) (by omega) (fun h127 => ?_) (fun h127 => ?_)
                                · refine zk_iconst hc (nI 0) dL_areTracks_134 rfl ?_
                                  refine zk_istore hc (lv2 := [(10, .int (nI 0)), (9, .int (nI (knd S.1 t k))), (8, .int (nI (num S.1 t k))), (0, .ref b), (1, .int (nI (wgs S.1 t))), (2, .int (nI (unsN S.1 t))), (3, .int (nI t)), (4, .int (nI (mny S.1 t))), (5, .int (nI j)), (6, .int (nI mm)), (7, .int (nI k))]) dL_areTracks_135 (by decide) rfl ?_
                                  refine zk_iload hc dL_areTracks_137 0 rfl ?_
                                  refine zk_if_eqN hc 169 dL_areTracks_139 (by decide) (by omega) (fun h_215 => ?_) (fun h_215 => ?_)
                                  · refine zk_iload hc dL_areTracks_169 9 rfl ?_
                                    refine zk_istore hc (lv2 := [(6, .int (nI mm)), (10, .int (nI 0)), (9, .int (nI (knd S.1 t k))), (8, .int (nI (num S.1 t k))), (0, .ref b), (1, .int (nI (wgs S.1 t))), (2, .int (nI (unsN S.1 t))), (3, .int (nI t)), (4, .int (nI (mny S.1 t))), (5, .int (nI j)), (7, .int (nI k))]) dL_areTracks_171 (by decide) rfl ?_
                                    refine zk_iload hc dL_areTracks_173 2 rfl ?_
                                    refine zk_if_leN hc 183 dL_areTracks_175 (by decide) (by omega) (fun h175 => ?_) (fun h175 => ?_)
                                    · exact absurd h175 (by omega)
                                    · refine zk_iload hc dL_areTracks_178 10 rfl ?_
                                      refine zk_goto hc 185 dL_areTracks_180 (by decide) ?_
                                      refine zk_istore hc (lv2 := [(5, .int (nI k)), (6, .int (nI mm)), (10, .int (nI 0)), (9, .int (nI (knd S.1 t k))), (8, .int (nI (num S.1 t k))), (0, .ref b), (1, .int (nI (wgs S.1 t))), (2, .int (nI (unsN S.1 t))), (3, .int (nI t)), (4, .int (nI (mny S.1 t))), (7, .int (nI k))]) dL_areTracks_185 (by decide) rfl ?_
                                      refine zk_iinc hc (v := nI (k + 1)) (lv2 := [(7, .int (nI (k + 1))), (5, .int (nI k)), (6, .int (nI mm)), (10, .int (nI 0)), (9, .int (nI (knd S.1 t k))), (8, .int (nI (num S.1 t k))), (0, .ref b), (1, .int (nI (wgs S.1 t))), (2, .int (nI (unsN S.1 t))), (3, .int (nI t)), (4, .int (nI (mny S.1 t)))]) dL_areTracks_187 10 rfl (nq_inc rfl) (by decide) rfl ?_
                                      refine zk_goto hc 33 dL_areTracks_190 (by decide) ?_
                                      refine zk_lv [6, 7, 8, 9, 10, 1, 2, 0] (lv2 := [(0, .ref b), (1, .int (nI (wgs S.1 t))), (2, .int (nI (unsN S.1 t))), (3, .int (nI t)), (4, .int (nI (mny S.1 t))), (5, .int (nI k)), (6, .int (nI mm)), (7, .int (nI (k + 1)))]) rfl ?_
                                      exact ih33 (k + 1) (nI k) (nI mm) W_212 (by omega) (by omega) (LA_d (by omega)) (LE_s (by omega) (Or.inr (hkj.symm.trans h127)) hLE) hS_213
                                  · exact absurd h_215 (by decide)
                                · refine zk_iconst hc (nI 1) dL_areTracks_130 rfl ?_
                                  refine zk_goto hc 135 dL_areTracks_131 (by decide) ?_
                                  refine zk_istore hc (lv2 := [(10, .int (nI 1)), (9, .int (nI (knd S.1 t k))), (8, .int (nI (num S.1 t k))), (0, .ref b), (1, .int (nI (wgs S.1 t))), (2, .int (nI (unsN S.1 t))), (3, .int (nI t)), (4, .int (nI (mny S.1 t))), (5, .int (nI j)), (6, .int (nI mm)), (7, .int (nI k))]) dL_areTracks_135 (by decide) rfl ?_
                                  refine zk_iload hc dL_areTracks_137 0 rfl ?_
                                  refine zk_if_eqN hc 169 dL_areTracks_139 (by decide) (by omega) (fun h_216 => ?_) (fun h_216 => ?_)
                                  · exact absurd h_216 (by decide)
                                  · refine zk_iload hc dL_areTracks_142 9 rfl ?_
                                    refine zk_if_lt hc 159 dL_areTracks_144 (by decide) (fun h144 => ?_) (fun h144 => ?_)
                                    · exact absurd h144 (nI_pos (by omega))
                                    · refine zk_iload hc dL_areTracks_147 10 rfl ?_
                                      refine zk_iload hc dL_areTracks_149 8 rfl ?_
                                      refine zk_isubN hc dL_areTracks_151 (by omega) ?_
                                      refine zk_iconst hc (nI 1) dL_areTracks_152 rfl ?_
                                      refine zk_isubN hc dL_areTracks_153 (by omega) ?_
                                      refine zk_iload hc dL_areTracks_154 9 rfl ?_
                                      refine zk_icmp_geN hc 169 dL_areTracks_156 (by decide) (by omega) (by omega) (fun h156 => ?_) (fun h156 => ?_)
                                      · refine zk_iload hc dL_areTracks_169 9 rfl ?_
                                        refine zk_istore hc (lv2 := [(6, .int (nI mm)), (10, .int (nI 1)), (9, .int (nI (knd S.1 t k))), (8, .int (nI (num S.1 t k))), (0, .ref b), (1, .int (nI (wgs S.1 t))), (2, .int (nI (unsN S.1 t))), (3, .int (nI t)), (4, .int (nI (mny S.1 t))), (5, .int (nI j)), (7, .int (nI k))]) dL_areTracks_171 (by decide) rfl ?_
                                        refine zk_iload hc dL_areTracks_173 2 rfl ?_
                                        refine zk_if_leN hc 183 dL_areTracks_175 (by decide) (by omega) (fun h175 => ?_) (fun h175 => ?_)
                                        · exact absurd h175 (by omega)
                                        · refine zk_iload hc dL_areTracks_178 10 rfl ?_
                                          refine zk_goto hc 185 dL_areTracks_180 (by decide) ?_
                                          refine zk_istore hc (lv2 := [(5, .int (nI k)), (6, .int (nI mm)), (10, .int (nI 1)), (9, .int (nI (knd S.1 t k))), (8, .int (nI (num S.1 t k))), (0, .ref b), (1, .int (nI (wgs S.1 t))), (2, .int (nI (unsN S.1 t))), (3, .int (nI t)), (4, .int (nI (mny S.1 t))), (7, .int (nI k))]) dL_areTracks_185 (by decide) rfl ?_
                                          refine zk_iinc hc (v := nI (k + 1)) (lv2 := [(7, .int (nI (k + 1))), (5, .int (nI k)), (6, .int (nI mm)), (10, .int (nI 1)), (9, .int (nI (knd S.1 t k))), (8, .int (nI (num S.1 t k))), (0, .ref b), (1, .int (nI (wgs S.1 t))), (2, .int (nI (unsN S.1 t))), (3, .int (nI t)), (4, .int (nI (mny S.1 t)))]) dL_areTracks_187 10 rfl (nq_inc rfl) (by decide) rfl ?_
                                          refine zk_goto hc 33 dL_areTracks_190 (by decide) ?_
                                          refine zk_lv [6, 7, 8, 9, 10, 1, 2, 0] (lv2 := [(0, .ref b), (1, .int (nI (wgs S.1 t))), (2, .int (nI (unsN S.1 t))), (3, .int (nI t)), (4, .int (nI (mny S.1 t))), (5, .int (nI k)), (6, .int (nI mm)), (7, .int (nI (k + 1)))]) rfl ?_
                                          exact ih33 (k + 1) (nI k) (nI mm) W_212 (by omega) (by omega) (LA_d (by omega)) (LE_k (by omega) hl0 (fun y => h127 (hkj.trans y)) hl2 (by omega) hLE) hS_213
                                      · refine zk_iload hc dL_areTracks_159 10 rfl ?_
                                        refine zk_iload hc dL_areTracks_161 8 rfl ?_
                                        refine zk_isubN hc dL_areTracks_163 (by omega) ?_
                                        refine zk_iconst hc (nI 1) dL_areTracks_164 rfl ?_
                                        refine zk_isubN hc dL_areTracks_165 (by omega) ?_
                                        refine zk_goto hc 171 dL_areTracks_166 (by decide) ?_
                                        refine zk_istore hc (lv2 := [(6, .int (nI ((k - j) - 1))), (10, .int (nI 1)), (9, .int (nI (knd S.1 t k))), (8, .int (nI (num S.1 t k))), (0, .ref b), (1, .int (nI (wgs S.1 t))), (2, .int (nI (unsN S.1 t))), (3, .int (nI t)), (4, .int (nI (mny S.1 t))), (5, .int (nI j)), (7, .int (nI k))]) dL_areTracks_171 (by decide) rfl ?_
                                        refine zk_iload hc dL_areTracks_173 2 rfl ?_
                                        refine zk_if_leN hc 183 dL_areTracks_175 (by decide) (by omega) (fun h175 => ?_) (fun h175 => ?_)
                                        · exact absurd h175 (by omega)
                                        · refine zk_iload hc dL_areTracks_178 10 rfl ?_
                                          refine zk_goto hc 185 dL_areTracks_180 (by decide) ?_
                                          refine zk_istore hc (lv2 := [(5, .int (nI k)), (6, .int (nI ((k - j) - 1))), (10, .int (nI 1)), (9, .int (nI (knd S.1 t k))), (8, .int (nI (num S.1 t k))), (0, .ref b), (1, .int (nI (wgs S.1 t))), (2, .int (nI (unsN S.1 t))), (3, .int (nI t)), (4, .int (nI (mny S.1 t))), (7, .int (nI k))]) dL_areTracks_185 (by decide) rfl ?_
                                          refine zk_iinc hc (v := nI (k + 1)) (lv2 := [(7, .int (nI (k + 1))), (5, .int (nI k)), (6, .int (nI ((k - j) - 1))), (10, .int (nI 1)), (9, .int (nI (knd S.1 t k))), (8, .int (nI (num S.1 t k))), (0, .ref b), (1, .int (nI (wgs S.1 t))), (2, .int (nI (unsN S.1 t))), (3, .int (nI t)), (4, .int (nI (mny S.1 t)))]) dL_areTracks_187 10 rfl (nq_inc rfl) (by decide) rfl ?_
                                          refine zk_goto hc 33 dL_areTracks_190 (by decide) ?_
                                          refine zk_lv [6, 7, 8, 9, 10, 1, 2, 0] (lv2 := [(0, .ref b), (1, .int (nI (wgs S.1 t))), (2, .int (nI (unsN S.1 t))), (3, .int (nI t)), (4, .int (nI (mny S.1 t))), (5, .int (nI k)), (6, .int (nI ((k - j) - 1))), (7, .int (nI (k + 1)))]) rfl ?_
                                          exact ih33 (k + 1) (nI k) (nI ((k - j) - 1)) W_212 (by omega) (by omega) (LA_d (by omega)) (LE_n (by omega) (by omega) hj hl0 (fun y => h127 (hkj.trans y)) hl2 (by omega)) hS_213
                          · exact absurd h_210 (by omega)
        refine zk_lv [4, 5, 6, 7, 3, 2, 1, 0] (lv2 := [(0, .ref b), (1, .int (nI (wgs S.1 t))), (2, .int (nI (unsN S.1 t))), (3, .int (nI t)), (4, .int (nI (mny S.1 t))), (5, .int (-1)), (6, .int (-9)), (7, .int (nI 0))]) rfl ?_
        exact loop33 ((mny S.1 t - 0) + 1) 0 (-1) (-9) W_41 (Nat.lt_succ_self _) (Nat.zero_le _) (LA_0 _ _) (LE_0 _ _) hS_42
  refine zk_lv [3, 2, 1, 0] (lv2 := [(0, .ref b), (1, .int (nI 0)), (2, .int (nI 0)), (3, .int (nI 0))]) rfl ?_
  exact loop6 ((S.1 4 - 0) + 1) 0 W (Nat.lt_succ_self _) (Nat.zero_le _) hS
