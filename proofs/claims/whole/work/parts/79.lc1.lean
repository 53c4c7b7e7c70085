theorem lk_c6 {g : GG} {p : Program} {l : Launch} {e : Env} {s : State} {m : MethodId} {args : Array Value} {below : List Frame} {meth : Method} {c : Code} {A : Nat → Prop} {H0 : Heap} {Q : State → Prop} {sb L : Nat} {xs : Nat → Int32} (hk : LK g p s m args c A H0 meth sb L xs) {cells slots N : Nat} (hN : N ≤ 511) (hc1 : cells + 7 ≤ 600000) (hs1 : slots + 72 ≤ 7302250) {b : Nat} {a : Nat → Nat} {S : AS} {X : SC} {W : va_W} (hI : INV N S) (hS : CSt g b S W) {i : Nat} (hi : i + 4 ≤ L) (kk : ∀ S2 X2 W2, INV (N + 1) S2 → CSt g b S2 W2 → KW g p l e room_1 s m args below meth c 8 A H0 (cells + 7) (slots + 72) Q (MSW g.2.1 a S2 X2 ++ W2) [(0, .ref sb), (1, .ref b), (2, .ref (a 0)), (3, .int (nI i))] 796 []) : KW g p l e room_1 s m args below meth c 8 A H0 cells slots Q (MSW g.2.1 a S X ++ W) [(0, .ref sb), (1, .ref b), (2, .ref (a 0)), (3, .int (nI i))] 312 [] := by
  have hc := hk.1
  obtain ⟨fb, hb⟩ := lk_at (S0 := S) (X := X) (a := a) hS
  refine zk_aload_n hc dL_law_312 1 rfl ?_
  refine zk_aload_n hc dL_law_313 0 rfl ?_
  refine zk_iload_n hc dL_law_314 3 rfl ?_
  refine zk_iconst hc (nI 1) dL_law_315 rfl ?_
  refine zk_iaddN hc dL_law_316 ?_
  refine lk_ld hk (by omega) dL_law_317 ?_
  refine zk_callVi hc (rest := []) (kx_pause g l b S W N (by omega) hI hS (xs (i + 1))) gg_L_41 cd_X6_pause ⟨Nat.le_of_ble_eq_true rfl, Nat.le_of_ble_eq_true rfl⟩ ⟨(by show cells + 7 ≤ 600000; omega), (by show slots + 72 ≤ 7302250; omega)⟩ (MSW g.2.1 a S X) [] (by rw [List.append_nil]) 13 hb rfl rfl (Nat.le_of_ble_eq_true rfl) dL_law_318 (fun r W1 hp => ?_)
  obtain ⟨rfl, hS2⟩ := hp
  obtain ⟨fm, hm⟩ := lk_am (g := g) (a := a) (S0 := S) (X := X) (W := W1 ++ [])
  refine zk_aload_n hc dL_law_321 2 rfl ?_
  refine zk_aload_n hc dL_law_322 0 rfl ?_
  refine zk_iload_n hc dL_law_323 3 rfl ?_
  refine zk_iconst hc (nI 1) dL_law_324 rfl ?_
  refine zk_iaddN hc dL_law_325 ?_
  refine lk_ld hk (by omega) dL_law_326 ?_
  refine zk_callVi hc (rest := [.int (aPau S.1 (xs (i + 1)))]) (km_pause g l a S X N (by omega) hI (xs (i + 1))) gg_L_44 cd_X7_pause ⟨Nat.le_of_ble_eq_true rfl, Nat.le_of_ble_eq_true rfl⟩ ⟨(by show cells + 7 + 0 ≤ 600000; omega), (by show slots + 72 + 0 ≤ 7302250; omega)⟩ [] (W1 ++ []) rfl 0 hm rfl rfl (Nat.le_of_ble_eq_true rfl) dL_law_327 (fun r W2 hp => ?_)
  obtain ⟨rfl, X2, rfl⟩ := hp
  refine zk_icmp_eq hc 796 dL_law_330 (by decide) (fun _ => ?_) (fun h => absurd rfl h)
  refine zk_widen (k2 := cells + 7) (n2 := slots + 72) (by show cells + 7 + 0 ≤ cells + 7; omega) (by show slots + 72 + 0 ≤ slots + 72; omega) ?_
  refine zk_ws (ws2 := MSW g.2.1 a (nPau S (xs (i + 1))) X2 ++ W1) (by rw [List.append_nil, List.nil_append]) ?_
  exact kk _ X2 W1 (INV_pau hI (xs (i + 1))) hS2

theorem lk_c7 {g : GG} {p : Program} {l : Launch} {e : Env} {s : State} {m : MethodId} {args : Array Value} {below : List Frame} {meth : Method} {c : Code} {A : Nat → Prop} {H0 : Heap} {Q : State → Prop} {sb L : Nat} {xs : Nat → Int32} (hk : LK g p s m args c A H0 meth sb L xs) {cells slots N : Nat} (hN : N ≤ 511) (hc1 : cells + 7 ≤ 600000) (hs1 : slots + 72 ≤ 7302250) {b : Nat} {a : Nat → Nat} {S : AS} {X : SC} {W : va_W} (hI : INV N S) (hS : CSt g b S W) {i : Nat} (hi : i + 4 ≤ L) (kk : ∀ S2 X2 W2, INV (N + 1) S2 → CSt g b S2 W2 → KW g p l e room_1 s m args below meth c 8 A H0 (cells + 7) (slots + 72) Q (MSW g.2.1 a S2 X2 ++ W2) [(0, .ref sb), (1, .ref b), (2, .ref (a 0)), (3, .int (nI i))] 796 []) : KW g p l e room_1 s m args below meth c 8 A H0 cells slots Q (MSW g.2.1 a S X ++ W) [(0, .ref sb), (1, .ref b), (2, .ref (a 0)), (3, .int (nI i))] 335 [] := by
  have hc := hk.1
  obtain ⟨fb, hb⟩ := lk_at (S0 := S) (X := X) (a := a) hS
  refine zk_aload_n hc dL_law_335 1 rfl ?_
  refine zk_aload_n hc dL_law_336 0 rfl ?_
  refine zk_iload_n hc dL_law_337 3 rfl ?_
  refine zk_iconst hc (nI 1) dL_law_338 rfl ?_
  refine zk_iaddN hc dL_law_339 ?_
  refine lk_ld hk (by omega) dL_law_340 ?_
  refine zk_callVi hc (rest := []) (kx_depart g l b S W N (by omega) hI hS (xs (i + 1))) gg_L_45 cd_X6_depart ⟨Nat.le_of_ble_eq_true rfl, Nat.le_of_ble_eq_true rfl⟩ ⟨(by show cells + 7 ≤ 600000; omega), (by show slots + 72 ≤ 7302250; omega)⟩ (MSW g.2.1 a S X) [] (by rw [List.append_nil]) 13 hb rfl rfl (Nat.le_of_ble_eq_true rfl) dL_law_341 (fun r W1 hp => ?_)
  obtain ⟨rfl, hS2⟩ := hp
  obtain ⟨fm, hm⟩ := lk_am (g := g) (a := a) (S0 := S) (X := X) (W := W1 ++ [])
  refine zk_aload_n hc dL_law_344 2 rfl ?_
  refine zk_aload_n hc dL_law_345 0 rfl ?_
  refine zk_iload_n hc dL_law_346 3 rfl ?_
  refine zk_iconst hc (nI 1) dL_law_347 rfl ?_
  refine zk_iaddN hc dL_law_348 ?_
  refine lk_ld hk (by omega) dL_law_349 ?_
  refine zk_callVi hc (rest := [.int (aDep S.1 (xs (i + 1)))]) (km_depart g l a S X N (by omega) hI (xs (i + 1))) gg_L_48 cd_X7_depart ⟨Nat.le_of_ble_eq_true rfl, Nat.le_of_ble_eq_true rfl⟩ ⟨(by show cells + 7 + 0 ≤ 600000; omega), (by show slots + 72 + 0 ≤ 7302250; omega)⟩ [] (W1 ++ []) rfl 0 hm rfl rfl (Nat.le_of_ble_eq_true rfl) dL_law_350 (fun r W2 hp => ?_)
  obtain ⟨rfl, X2, rfl⟩ := hp
  refine zk_icmp_eq hc 796 dL_law_353 (by decide) (fun _ => ?_) (fun h => absurd rfl h)
  refine zk_widen (k2 := cells + 7) (n2 := slots + 72) (by show cells + 7 + 0 ≤ cells + 7; omega) (by show slots + 72 + 0 ≤ slots + 72; omega) ?_
  refine zk_ws (ws2 := MSW g.2.1 a (nDep S (xs (i + 1))) X2 ++ W1) (by rw [List.append_nil, List.nil_append]) ?_
  exact kk _ X2 W1 (INV_dep hI (xs (i + 1))) hS2

theorem lk_c8 {g : GG} {p : Program} {l : Launch} {e : Env} {s : State} {m : MethodId} {args : Array Value} {below : List Frame} {meth : Method} {c : Code} {A : Nat → Prop} {H0 : Heap} {Q : State → Prop} {sb L : Nat} {xs : Nat → Int32} (hk : LK g p s m args c A H0 meth sb L xs) {cells slots N : Nat} (hN : N ≤ 511) (hc1 : cells + 7 ≤ 600000) (hs1 : slots + 72 ≤ 7302250) {b : Nat} {a : Nat → Nat} {S : AS} {X : SC} {W : va_W} (hI : INV N S) (hS : CSt g b S W) {i : Nat} (hi : i + 4 ≤ L) (kk : ∀ S2 X2 W2, INV (N + 1) S2 → CSt g b S2 W2 → KW g p l e room_1 s m args below meth c 8 A H0 (cells + 7) (slots + 72) Q (MSW g.2.1 a S2 X2 ++ W2) [(0, .ref sb), (1, .ref b), (2, .ref (a 0)), (3, .int (nI i))] 796 []) : KW g p l e room_1 s m args below meth c 8 A H0 cells slots Q (MSW g.2.1 a S X ++ W) [(0, .ref sb), (1, .ref b), (2, .ref (a 0)), (3, .int (nI i))] 358 [] := by
  have hc := hk.1
  obtain ⟨fb, hb⟩ := lk_at (S0 := S) (X := X) (a := a) hS
  refine zk_aload_n hc dL_law_358 1 rfl ?_
  refine zk_aload_n hc dL_law_359 0 rfl ?_
  refine zk_iload_n hc dL_law_360 3 rfl ?_
  refine zk_iconst hc (nI 1) dL_law_361 rfl ?_
  refine zk_iaddN hc dL_law_362 ?_
  refine lk_ld hk (by omega) dL_law_363 ?_
  refine zk_callVi hc (rest := []) (kx_makeUp g l b S W N (by omega) hI hS (xs (i + 1))) gg_L_49 cd_X6_makeUp ⟨Nat.le_of_ble_eq_true rfl, Nat.le_of_ble_eq_true rfl⟩ ⟨(by show cells + 7 ≤ 600000; omega), (by show slots + 72 ≤ 7302250; omega)⟩ (MSW g.2.1 a S X) [] (by rw [List.append_nil]) 13 hb rfl rfl (Nat.le_of_ble_eq_true rfl) dL_law_364 (fun r W1 hp => ?_)
  obtain ⟨rfl, hS2⟩ := hp
  obtain ⟨fm, hm⟩ := lk_am (g := g) (a := a) (S0 := S) (X := X) (W := W1 ++ [])
  refine zk_aload_n hc dL_law_367 2 rfl ?_
  refine zk_aload_n hc dL_law_368 0 rfl ?_
  refine zk_iload_n hc dL_law_369 3 rfl ?_
  refine zk_iconst hc (nI 1) dL_law_370 rfl ?_
  refine zk_iaddN hc dL_law_371 ?_
  refine lk_ld hk (by omega) dL_law_372 ?_
  refine zk_callVi hc (rest := [.int (aMak S.1 (xs (i + 1)))]) (km_makeUp g l a S X N (by omega) hI (xs (i + 1))) gg_L_52 cd_X7_makeUp ⟨Nat.le_of_ble_eq_true rfl, Nat.le_of_ble_eq_true rfl⟩ ⟨(by show cells + 7 + 0 ≤ 600000; omega), (by show slots + 72 + 0 ≤ 7302250; omega)⟩ [] (W1 ++ []) rfl 0 hm rfl rfl (Nat.le_of_ble_eq_true rfl) dL_law_373 (fun r W2 hp => ?_)
  obtain ⟨rfl, X2, rfl⟩ := hp
  refine zk_icmp_eq hc 796 dL_law_376 (by decide) (fun _ => ?_) (fun h => absurd rfl h)
  refine zk_widen (k2 := cells + 7) (n2 := slots + 72) (by show cells + 7 + 0 ≤ cells + 7; omega) (by show slots + 72 + 0 ≤ slots + 72; omega) ?_
  refine zk_ws (ws2 := MSW g.2.1 a (nMak S (xs (i + 1))) X2 ++ W1) (by rw [List.append_nil, List.nil_append]) ?_
  exact kk _ X2 W1 (INV_mak hI (xs (i + 1))) hS2

theorem lk_c9 {g : GG} {p : Program} {l : Launch} {e : Env} {s : State} {m : MethodId} {args : Array Value} {below : List Frame} {meth : Method} {c : Code} {A : Nat → Prop} {H0 : Heap} {Q : State → Prop} {sb L : Nat} {xs : Nat → Int32} (hk : LK g p s m args c A H0 meth sb L xs) {cells slots N : Nat} (hN : N ≤ 511) (hc1 : cells + 7 ≤ 600000) (hs1 : slots + 72 ≤ 7302250) {b : Nat} {a : Nat → Nat} {S : AS} {X : SC} {W : va_W} (hI : INV N S) (hS : CSt g b S W) {i : Nat} (hi : i + 4 ≤ L) (kk : ∀ S2 X2 W2, INV (N + 1) S2 → CSt g b S2 W2 → KW g p l e room_1 s m args below meth c 8 A H0 (cells + 7) (slots + 72) Q (MSW g.2.1 a S2 X2 ++ W2) [(0, .ref sb), (1, .ref b), (2, .ref (a 0)), (3, .int (nI i))] 796 []) : KW g p l e room_1 s m args below meth c 8 A H0 cells slots Q (MSW g.2.1 a S X ++ W) [(0, .ref sb), (1, .ref b), (2, .ref (a 0)), (3, .int (nI i))] 381 [] := by
  have hc := hk.1
  obtain ⟨fb, hb⟩ := lk_at (S0 := S) (X := X) (a := a) hS
  refine zk_aload_n hc dL_law_381 1 rfl ?_
  refine zk_callVi hc (rest := []) (kx_undo g l b S W N (by omega) hI hS) gg_L_53 cd_X6_undo ⟨Nat.le_of_ble_eq_true rfl, Nat.le_of_ble_eq_true rfl⟩ ⟨(by show cells + 0 ≤ 600000; omega), (by show slots + 0 ≤ 7302250; omega)⟩ (MSW g.2.1 a S X) [] (by rw [List.append_nil]) 13 hb rfl rfl (Nat.le_of_ble_eq_true rfl) dL_law_382 (fun r W1 hp => ?_)
  obtain ⟨rfl, hS2⟩ := hp
  obtain ⟨fm, hm⟩ := lk_am (g := g) (a := a) (S0 := S) (X := X) (W := W1 ++ [])
  refine zk_aload_n hc dL_law_385 2 rfl ?_
  refine zk_callVi hc (rest := [.int (aUnd S.2.2.1)]) (km_undo g l a S X N (by omega) hI) gg_L_56 cd_X7_undo ⟨Nat.le_of_ble_eq_true rfl, Nat.le_of_ble_eq_true rfl⟩ ⟨(by show cells + 0 + 0 ≤ 600000; omega), (by show slots + 0 + 0 ≤ 7302250; omega)⟩ [] (W1 ++ []) rfl 0 hm rfl rfl (Nat.le_of_ble_eq_true rfl) dL_law_386 (fun r W2 hp => ?_)
  obtain ⟨rfl, X2, rfl⟩ := hp
  refine zk_icmp_eq hc 796 dL_law_389 (by decide) (fun _ => ?_) (fun h => absurd rfl h)
  refine zk_widen (k2 := cells + 7) (n2 := slots + 72) (by show cells + 0 + 0 ≤ cells + 7; omega) (by show slots + 0 + 0 ≤ slots + 72; omega) ?_
  refine zk_ws (ws2 := MSW g.2.1 a (nUnd S) X2 ++ W1) (by rw [List.append_nil, List.nil_append]) ?_
  exact kk _ X2 W1 (INV_und hI) hS2

theorem lk_c10 {g : GG} {p : Program} {l : Launch} {e : Env} {s : State} {m : MethodId} {args : Array Value} {below : List Frame} {meth : Method} {c : Code} {A : Nat → Prop} {H0 : Heap} {Q : State → Prop} {sb L : Nat} {xs : Nat → Int32} (hk : LK g p s m args c A H0 meth sb L xs) {cells slots N : Nat} (hN : N ≤ 511) (hc1 : cells + 7 ≤ 600000) (hs1 : slots + 72 ≤ 7302250) {b : Nat} {a : Nat → Nat} {S : AS} {X : SC} {W : va_W} (hI : INV N S) (hS : CSt g b S W) {i : Nat} (hi : i + 4 ≤ L) (kk : ∀ S2 X2 W2, INV (N + 1) S2 → CSt g b S2 W2 → KW g p l e room_1 s m args below meth c 8 A H0 (cells + 7) (slots + 72) Q (MSW g.2.1 a S2 X2 ++ W2) [(0, .ref sb), (1, .ref b), (2, .ref (a 0)), (3, .int (nI i))] 796 []) : KW g p l e room_1 s m args below meth c 8 A H0 cells slots Q (MSW g.2.1 a S X ++ W) [(0, .ref sb), (1, .ref b), (2, .ref (a 0)), (3, .int (nI i))] 394 [] := by
  have hc := hk.1
  obtain ⟨fb, hb⟩ := lk_at (S0 := S) (X := X) (a := a) hS
  refine zk_aload_n hc dL_law_394 1 rfl ?_
  refine zk_aload_n hc dL_law_395 0 rfl ?_
  refine zk_iload_n hc dL_law_396 3 rfl ?_
  refine zk_iconst hc (nI 1) dL_law_397 rfl ?_
  refine zk_iaddN hc dL_law_398 ?_
  refine lk_ld hk (by omega) dL_law_399 ?_
  refine zk_callVi hc (rest := []) (kx_write g l b S W N (by omega) hI hS (xs (i + 1))) gg_L_57 cd_X6_write ⟨Nat.le_of_ble_eq_true rfl, Nat.le_of_ble_eq_true rfl⟩ ⟨(by show cells + 0 ≤ 600000; omega), (by show slots + 0 ≤ 7302250; omega)⟩ (MSW g.2.1 a S X) [] (by rw [List.append_nil]) 13 hb rfl rfl (Nat.le_of_ble_eq_true rfl) dL_law_400 (fun r W1 hp => ?_)
  obtain ⟨rfl, hS2⟩ := hp
  obtain ⟨fm, hm⟩ := lk_am (g := g) (a := a) (S0 := S) (X := X) (W := W1 ++ [])
  refine zk_aload_n hc dL_law_403 2 rfl ?_
  refine zk_aload_n hc dL_law_404 0 rfl ?_
  refine zk_iload_n hc dL_law_405 3 rfl ?_
  refine zk_iconst hc (nI 1) dL_law_406 rfl ?_
  refine zk_iaddN hc dL_law_407 ?_
  refine lk_ld hk (by omega) dL_law_408 ?_
  refine zk_callVi hc (rest := [.int (aWri S.2.2.2.2.2.2.1 (xs (i + 1)))]) (km_write g l a S X N (by omega) hI (xs (i + 1))) gg_L_60 cd_X7_write ⟨Nat.le_of_ble_eq_true rfl, Nat.le_of_ble_eq_true rfl⟩ ⟨(by show cells + 0 + 0 ≤ 600000; omega), (by show slots + 0 + 0 ≤ 7302250; omega)⟩ [] (W1 ++ []) rfl 0 hm rfl rfl (Nat.le_of_ble_eq_true rfl) dL_law_409 (fun r W2 hp => ?_)
  obtain ⟨rfl, X2, rfl⟩ := hp
  refine zk_icmp_eq hc 796 dL_law_412 (by decide) (fun _ => ?_) (fun h => absurd rfl h)
  refine zk_widen (k2 := cells + 7) (n2 := slots + 72) (by show cells + 0 + 0 ≤ cells + 7; omega) (by show slots + 0 + 0 ≤ slots + 72; omega) ?_
  refine zk_ws (ws2 := MSW g.2.1 a (nWri S (xs (i + 1))) X2 ++ W1) (by rw [List.append_nil, List.nil_append]) ?_
  exact kk _ X2 W1 (INV_wri hI (xs (i + 1))) hS2

theorem lk_c11 {g : GG} {p : Program} {l : Launch} {e : Env} {s : State} {m : MethodId} {args : Array Value} {below : List Frame} {meth : Method} {c : Code} {A : Nat → Prop} {H0 : Heap} {Q : State → Prop} {sb L : Nat} {xs : Nat → Int32} (hk : LK g p s m args c A H0 meth sb L xs) {cells slots N : Nat} (hN : N ≤ 511) (hc1 : cells + 7 ≤ 600000) (hs1 : slots + 72 ≤ 7302250) {b : Nat} {a : Nat → Nat} {S : AS} {X : SC} {W : va_W} (hI : INV N S) (hS : CSt g b S W) {i : Nat} (hi : i + 4 ≤ L) (kk : ∀ S2 X2 W2, INV (N + 1) S2 → CSt g b S2 W2 → KW g p l e room_1 s m args below meth c 8 A H0 (cells + 7) (slots + 72) Q (MSW g.2.1 a S2 X2 ++ W2) [(0, .ref sb), (1, .ref b), (2, .ref (a 0)), (3, .int (nI i))] 796 []) : KW g p l e room_1 s m args below meth c 8 A H0 cells slots Q (MSW g.2.1 a S X ++ W) [(0, .ref sb), (1, .ref b), (2, .ref (a 0)), (3, .int (nI i))] 417 [] := by
  have hc := hk.1
  obtain ⟨fb, hb⟩ := lk_at (S0 := S) (X := X) (a := a) hS
  refine zk_aload_n hc dL_law_417 1 rfl ?_
  refine zk_callVi hc (rest := []) (kx_wipe g l b S W N (by omega) hI hS) gg_L_61 cd_X6_wipe ⟨Nat.le_of_ble_eq_true rfl, Nat.le_of_ble_eq_true rfl⟩ ⟨(by show cells + 0 ≤ 600000; omega), (by show slots + 0 ≤ 7302250; omega)⟩ (MSW g.2.1 a S X) [] (by rw [List.append_nil]) 13 hb rfl rfl (Nat.le_of_ble_eq_true rfl) dL_law_418 (fun r W1 hp => ?_)
  obtain ⟨rfl, hS2⟩ := hp
  obtain ⟨fm, hm⟩ := lk_am (g := g) (a := a) (S0 := S) (X := X) (W := W1 ++ [])
  refine zk_aload_n hc dL_law_421 2 rfl ?_
  refine zk_callVi hc (rest := [.int (nI S.2.2.2.2.2.2.1)]) (km_wipe g l a S X N (by omega) hI) gg_L_64 cd_X7_wipe ⟨Nat.le_of_ble_eq_true rfl, Nat.le_of_ble_eq_true rfl⟩ ⟨(by show cells + 0 + 0 ≤ 600000; omega), (by show slots + 0 + 0 ≤ 7302250; omega)⟩ [] (W1 ++ []) rfl 0 hm rfl rfl (Nat.le_of_ble_eq_true rfl) dL_law_422 (fun r W2 hp => ?_)
  obtain ⟨rfl, X2, rfl⟩ := hp
  refine zk_icmp_eq hc 796 dL_law_425 (by decide) (fun _ => ?_) (fun h => absurd rfl h)
  refine zk_widen (k2 := cells + 7) (n2 := slots + 72) (by show cells + 0 + 0 ≤ cells + 7; omega) (by show slots + 0 + 0 ≤ slots + 72; omega) ?_
  refine zk_ws (ws2 := MSW g.2.1 a (nWip S) X2 ++ W1) (by rw [List.append_nil, List.nil_append]) ?_
  exact kk _ X2 W1 (INV_wip hI) hS2
