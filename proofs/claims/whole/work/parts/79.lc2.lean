theorem lk_c12 {g : GG} {p : Program} {l : Launch} {e : Env} {s : State} {m : MethodId} {args : Array Value} {below : List Frame} {meth : Method} {c : Code} {A : Nat → Prop} {H0 : Heap} {Q : State → Prop} {sb L : Nat} {xs : Nat → Int32} (hk : LK g p s m args c A H0 meth sb L xs) {cells slots N : Nat} (hN : N ≤ 511) (hc1 : cells + 7 ≤ 600000) (hs1 : slots + 72 ≤ 7302250) {b : Nat} {a : Nat → Nat} {S : AS} {X : SC} {W : va_W} (hI : INV N S) (hS : CSt g b S W) {i : Nat} (hi : i + 4 ≤ L) (kk : ∀ S2 X2 W2, INV (N + 1) S2 → CSt g b S2 W2 → KW g p l e room_1 s m args below meth c 8 A H0 (cells + 7) (slots + 72) Q (MSW g.2.1 a S2 X2 ++ W2) [(0, .ref sb), (1, .ref b), (2, .ref (a 0)), (3, .int (nI i))] 796 []) : KW g p l e room_1 s m args below meth c 8 A H0 cells slots Q (MSW g.2.1 a S X ++ W) [(0, .ref sb), (1, .ref b), (2, .ref (a 0)), (3, .int (nI i))] 430 [] := by
  have hc := hk.1
  obtain ⟨fb, hb⟩ := lk_at (S0 := S) (X := X) (a := a) hS
  refine zk_aload_n hc dL_law_430 1 rfl ?_
  refine zk_aload_n hc dL_law_431 0 rfl ?_
  refine zk_iload_n hc dL_law_432 3 rfl ?_
  refine zk_iconst hc (nI 1) dL_law_433 rfl ?_
  refine zk_iaddN hc dL_law_434 ?_
  refine lk_ld hk (by omega) dL_law_435 ?_
  refine zk_callVi hc (rest := []) (kx_fault g l b S W N (by omega) hI hS (xs (i + 1))) gg_L_65 cd_X6_fault ⟨Nat.le_of_ble_eq_true rfl, Nat.le_of_ble_eq_true rfl⟩ ⟨(by show cells + 0 ≤ 600000; omega), (by show slots + 0 ≤ 7302250; omega)⟩ (MSW g.2.1 a S X) [] (by rw [List.append_nil]) 13 hb rfl rfl (Nat.le_of_ble_eq_true rfl) dL_law_436 (fun r W1 hp => ?_)
  obtain ⟨rfl, hS2⟩ := hp
  obtain ⟨fm, hm⟩ := lk_am (g := g) (a := a) (S0 := S) (X := X) (W := W1 ++ [])
  refine zk_aload_n hc dL_law_439 2 rfl ?_
  refine zk_aload_n hc dL_law_440 0 rfl ?_
  refine zk_iload_n hc dL_law_441 3 rfl ?_
  refine zk_iconst hc (nI 1) dL_law_442 rfl ?_
  refine zk_iaddN hc dL_law_443 ?_
  refine lk_ld hk (by omega) dL_law_444 ?_
  refine zk_callVi hc (rest := [.int (aFau S.2.2.2.2.2.2.2.1 S.2.2.2.2.2.2.2.2.1 (xs (i + 1)))]) (km_fault g l a S X N (by omega) hI (xs (i + 1))) gg_L_68 cd_X7_fault ⟨Nat.le_of_ble_eq_true rfl, Nat.le_of_ble_eq_true rfl⟩ ⟨(by show cells + 0 + 0 ≤ 600000; omega), (by show slots + 0 + 0 ≤ 7302250; omega)⟩ [] (W1 ++ []) rfl 0 hm rfl rfl (Nat.le_of_ble_eq_true rfl) dL_law_445 (fun r W2 hp => ?_)
  obtain ⟨rfl, X2, rfl⟩ := hp
  refine zk_icmp_eq hc 796 dL_law_448 (by decide) (fun _ => ?_) (fun h => absurd rfl h)
  refine zk_widen (k2 := cells + 7) (n2 := slots + 72) (by show cells + 0 + 0 ≤ cells + 7; omega) (by show slots + 0 + 0 ≤ slots + 72; omega) ?_
  refine zk_ws (ws2 := MSW g.2.1 a S X2 ++ W1) (by rw [List.append_nil, List.nil_append]) ?_
  exact kk _ X2 W1 (INV_up hI) hS2

theorem lk_c13 {g : GG} {p : Program} {l : Launch} {e : Env} {s : State} {m : MethodId} {args : Array Value} {below : List Frame} {meth : Method} {c : Code} {A : Nat → Prop} {H0 : Heap} {Q : State → Prop} {sb L : Nat} {xs : Nat → Int32} (hk : LK g p s m args c A H0 meth sb L xs) {cells slots N : Nat} (hN : N ≤ 511) (hc1 : cells + 7 ≤ 600000) (hs1 : slots + 72 ≤ 7302250) {b : Nat} {a : Nat → Nat} {S : AS} {X : SC} {W : va_W} (hI : INV N S) (hS : CSt g b S W) {i : Nat} (hi : i + 4 ≤ L) (kk : ∀ S2 X2 W2, INV (N + 1) S2 → CSt g b S2 W2 → KW g p l e room_1 s m args below meth c 8 A H0 (cells + 7) (slots + 72) Q (MSW g.2.1 a S2 X2 ++ W2) [(0, .ref sb), (1, .ref b), (2, .ref (a 0)), (3, .int (nI i))] 796 []) : KW g p l e room_1 s m args below meth c 8 A H0 cells slots Q (MSW g.2.1 a S X ++ W) [(0, .ref sb), (1, .ref b), (2, .ref (a 0)), (3, .int (nI i))] 453 [] := by
  have hc := hk.1
  obtain ⟨fb, hb⟩ := lk_at (S0 := S) (X := X) (a := a) hS
  refine zk_aload_n hc dL_law_453 1 rfl ?_
  refine zk_aload_n hc dL_law_454 0 rfl ?_
  refine zk_iload_n hc dL_law_455 3 rfl ?_
  refine zk_iconst hc (nI 1) dL_law_456 rfl ?_
  refine zk_iaddN hc dL_law_457 ?_
  refine lk_ld hk (by omega) dL_law_458 ?_
  refine zk_callVi hc (rest := []) (kx_told g l b S W N (by omega) hI hS (xs (i + 1))) gg_L_69 cd_X6_told ⟨Nat.le_of_ble_eq_true rfl, Nat.le_of_ble_eq_true rfl⟩ ⟨(by show cells + 0 ≤ 600000; omega), (by show slots + 0 ≤ 7302250; omega)⟩ (MSW g.2.1 a S X) [] (by rw [List.append_nil]) 13 hb rfl rfl (Nat.le_of_ble_eq_true rfl) dL_law_459 (fun r W1 hp => ?_)
  obtain ⟨rfl, hS2⟩ := hp
  obtain ⟨fm, hm⟩ := lk_am (g := g) (a := a) (S0 := S) (X := X) (W := W1 ++ [])
  refine zk_aload_n hc dL_law_462 2 rfl ?_
  refine zk_aload_n hc dL_law_463 0 rfl ?_
  refine zk_iload_n hc dL_law_464 3 rfl ?_
  refine zk_iconst hc (nI 1) dL_law_465 rfl ?_
  refine zk_iaddN hc dL_law_466 ?_
  refine lk_ld hk (by omega) dL_law_467 ?_
  refine zk_callVi hc (rest := [.int (aTol S (xs (i + 1)))]) (km_told g l a S X N (by omega) hI (xs (i + 1))) gg_L_72 cd_X7_told ⟨Nat.le_of_ble_eq_true rfl, Nat.le_of_ble_eq_true rfl⟩ ⟨(by show cells + 0 + 0 ≤ 600000; omega), (by show slots + 0 + 0 ≤ 7302250; omega)⟩ [] (W1 ++ []) rfl 0 hm rfl rfl (Nat.le_of_ble_eq_true rfl) dL_law_468 (fun r W2 hp => ?_)
  obtain ⟨rfl, X2, rfl⟩ := hp
  refine zk_icmp_eq hc 796 dL_law_471 (by decide) (fun _ => ?_) (fun h => absurd rfl h)
  refine zk_widen (k2 := cells + 7) (n2 := slots + 72) (by show cells + 0 + 0 ≤ cells + 7; omega) (by show slots + 0 + 0 ≤ slots + 72; omega) ?_
  refine zk_ws (ws2 := MSW g.2.1 a S X2 ++ W1) (by rw [List.append_nil, List.nil_append]) ?_
  exact kk _ X2 W1 (INV_up hI) hS2

theorem lk_c14 {g : GG} {p : Program} {l : Launch} {e : Env} {s : State} {m : MethodId} {args : Array Value} {below : List Frame} {meth : Method} {c : Code} {A : Nat → Prop} {H0 : Heap} {Q : State → Prop} {sb L : Nat} {xs : Nat → Int32} (hk : LK g p s m args c A H0 meth sb L xs) {cells slots N : Nat} (hN : N ≤ 511) (hc1 : cells + 7 ≤ 600000) (hs1 : slots + 72 ≤ 7302250) {b : Nat} {a : Nat → Nat} {S : AS} {X : SC} {W : va_W} (hI : INV N S) (hS : CSt g b S W) {i : Nat} (hi : i + 4 ≤ L) (kk : ∀ S2 X2 W2, INV (N + 1) S2 → CSt g b S2 W2 → KW g p l e room_1 s m args below meth c 8 A H0 (cells + 7) (slots + 72) Q (MSW g.2.1 a S2 X2 ++ W2) [(0, .ref sb), (1, .ref b), (2, .ref (a 0)), (3, .int (nI i))] 796 []) : KW g p l e room_1 s m args below meth c 8 A H0 cells slots Q (MSW g.2.1 a S X ++ W) [(0, .ref sb), (1, .ref b), (2, .ref (a 0)), (3, .int (nI i))] 476 [] := by
  have hc := hk.1
  obtain ⟨fb, hb⟩ := lk_at (S0 := S) (X := X) (a := a) hS
  refine zk_aload_n hc dL_law_476 1 rfl ?_
  refine zk_aload_n hc dL_law_477 0 rfl ?_
  refine zk_iload_n hc dL_law_478 3 rfl ?_
  refine zk_iconst hc (nI 1) dL_law_479 rfl ?_
  refine zk_iaddN hc dL_law_480 ?_
  refine lk_ld hk (by omega) dL_law_481 ?_
  refine zk_callVi hc (rest := []) (kx_setting g l b S W N (by omega) hI hS (xs (i + 1))) gg_L_73 cd_X6_setting ⟨Nat.le_of_ble_eq_true rfl, Nat.le_of_ble_eq_true rfl⟩ ⟨(by show cells + 0 ≤ 600000; omega), (by show slots + 0 ≤ 7302250; omega)⟩ (MSW g.2.1 a S X) [] (by rw [List.append_nil]) 13 hb rfl rfl (Nat.le_of_ble_eq_true rfl) dL_law_482 (fun r W1 hp => ?_)
  obtain ⟨rfl, hS2⟩ := hp
  obtain ⟨fm, hm⟩ := lk_am (g := g) (a := a) (S0 := S) (X := X) (W := W1 ++ [])
  refine zk_aload_n hc dL_law_485 2 rfl ?_
  refine zk_aload_n hc dL_law_486 0 rfl ?_
  refine zk_iload_n hc dL_law_487 3 rfl ?_
  refine zk_iconst hc (nI 1) dL_law_488 rfl ?_
  refine zk_iaddN hc dL_law_489 ?_
  refine lk_ld hk (by omega) dL_law_490 ?_
  refine zk_callVi hc (rest := [.int (aSti S.1 (xs (i + 1)))]) (km_setting g l a S X N (by omega) hI (xs (i + 1))) gg_L_76 cd_X7_setting ⟨Nat.le_of_ble_eq_true rfl, Nat.le_of_ble_eq_true rfl⟩ ⟨(by show cells + 0 + 0 ≤ 600000; omega), (by show slots + 0 + 0 ≤ 7302250; omega)⟩ [] (W1 ++ []) rfl 0 hm rfl rfl (Nat.le_of_ble_eq_true rfl) dL_law_491 (fun r W2 hp => ?_)
  obtain ⟨rfl, X2, rfl⟩ := hp
  refine zk_icmp_eq hc 796 dL_law_494 (by decide) (fun _ => ?_) (fun h => absurd rfl h)
  refine zk_widen (k2 := cells + 7) (n2 := slots + 72) (by show cells + 0 + 0 ≤ cells + 7; omega) (by show slots + 0 + 0 ≤ slots + 72; omega) ?_
  refine zk_ws (ws2 := MSW g.2.1 a S X2 ++ W1) (by rw [List.append_nil, List.nil_append]) ?_
  exact kk _ X2 W1 (INV_up hI) hS2

theorem lk_c15 {g : GG} {p : Program} {l : Launch} {e : Env} {s : State} {m : MethodId} {args : Array Value} {below : List Frame} {meth : Method} {c : Code} {A : Nat → Prop} {H0 : Heap} {Q : State → Prop} {sb L : Nat} {xs : Nat → Int32} (hk : LK g p s m args c A H0 meth sb L xs) {cells slots N : Nat} (hN : N ≤ 511) (hc1 : cells + 7 ≤ 600000) (hs1 : slots + 72 ≤ 7302250) {b : Nat} {a : Nat → Nat} {S : AS} {X : SC} {W : va_W} (hI : INV N S) (hS : CSt g b S W) {i : Nat} (hi : i + 4 ≤ L) (kk : ∀ S2 X2 W2, INV (N + 1) S2 → CSt g b S2 W2 → KW g p l e room_1 s m args below meth c 8 A H0 (cells + 7) (slots + 72) Q (MSW g.2.1 a S2 X2 ++ W2) [(0, .ref sb), (1, .ref b), (2, .ref (a 0)), (3, .int (nI i))] 796 []) : KW g p l e room_1 s m args below meth c 8 A H0 cells slots Q (MSW g.2.1 a S X ++ W) [(0, .ref sb), (1, .ref b), (2, .ref (a 0)), (3, .int (nI i))] 499 [] := by
  have hc := hk.1
  obtain ⟨fb, hb⟩ := lk_at (S0 := S) (X := X) (a := a) hS
  refine zk_aload_n hc dL_law_499 1 rfl ?_
  refine zk_aload_n hc dL_law_500 0 rfl ?_
  refine zk_iload_n hc dL_law_501 3 rfl ?_
  refine zk_iconst hc (nI 1) dL_law_502 rfl ?_
  refine zk_iaddN hc dL_law_503 ?_
  refine lk_ld hk (by omega) dL_law_504 ?_
  refine zk_aload_n hc dL_law_505 0 rfl ?_
  refine zk_iload_n hc dL_law_506 3 rfl ?_
  refine zk_iconst hc (nI 2) dL_law_507 rfl ?_
  refine zk_iaddN hc dL_law_508 ?_
  refine lk_ld hk (by omega) dL_law_509 ?_
  refine zk_callVi hc (rest := []) (kx_track g l b S W N (by omega) hI hS (xs (i + 1)) (xs (i + 2))) gg_L_77 cd_X6_track ⟨Nat.le_of_ble_eq_true rfl, Nat.le_of_ble_eq_true rfl⟩ ⟨(by show cells + 0 ≤ 600000; omega), (by show slots + 0 ≤ 7302250; omega)⟩ (MSW g.2.1 a S X) [] (by rw [List.append_nil]) 13 hb rfl rfl (Nat.le_of_ble_eq_true rfl) dL_law_510 (fun r W1 hp => ?_)
  obtain ⟨rfl, hS2⟩ := hp
  obtain ⟨fm, hm⟩ := lk_am (g := g) (a := a) (S0 := S) (X := X) (W := W1 ++ [])
  refine zk_aload_n hc dL_law_513 2 rfl ?_
  refine zk_aload_n hc dL_law_514 0 rfl ?_
  refine zk_iload_n hc dL_law_515 3 rfl ?_
  refine zk_iconst hc (nI 1) dL_law_516 rfl ?_
  refine zk_iaddN hc dL_law_517 ?_
  refine lk_ld hk (by omega) dL_law_518 ?_
  refine zk_aload_n hc dL_law_519 0 rfl ?_
  refine zk_iload_n hc dL_law_520 3 rfl ?_
  refine zk_iconst hc (nI 2) dL_law_521 rfl ?_
  refine zk_iaddN hc dL_law_522 ?_
  refine lk_ld hk (by omega) dL_law_523 ?_
  refine zk_callVi hc (rest := [.int (aTrk S.1 (xs (i + 1)) (xs (i + 2)))]) (km_track g l a S X N (by omega) hI (xs (i + 1)) (xs (i + 2))) gg_L_80 cd_X7_track ⟨Nat.le_of_ble_eq_true rfl, Nat.le_of_ble_eq_true rfl⟩ ⟨(by show cells + 0 + 0 ≤ 600000; omega), (by show slots + 0 + 0 ≤ 7302250; omega)⟩ [] (W1 ++ []) rfl 0 hm rfl rfl (Nat.le_of_ble_eq_true rfl) dL_law_524 (fun r W2 hp => ?_)
  obtain ⟨rfl, X2, rfl⟩ := hp
  refine zk_icmp_eq hc 796 dL_law_527 (by decide) (fun _ => ?_) (fun h => absurd rfl h)
  refine zk_widen (k2 := cells + 7) (n2 := slots + 72) (by show cells + 0 + 0 ≤ cells + 7; omega) (by show slots + 0 + 0 ≤ slots + 72; omega) ?_
  refine zk_ws (ws2 := MSW g.2.1 a S X2 ++ W1) (by rw [List.append_nil, List.nil_append]) ?_
  exact kk _ X2 W1 (INV_up hI) hS2

theorem lk_c16 {g : GG} {p : Program} {l : Launch} {e : Env} {s : State} {m : MethodId} {args : Array Value} {below : List Frame} {meth : Method} {c : Code} {A : Nat → Prop} {H0 : Heap} {Q : State → Prop} {sb L : Nat} {xs : Nat → Int32} (hk : LK g p s m args c A H0 meth sb L xs) {cells slots N : Nat} (hN : N ≤ 511) (hc1 : cells + 7 ≤ 600000) (hs1 : slots + 72 ≤ 7302250) {b : Nat} {a : Nat → Nat} {S : AS} {X : SC} {W : va_W} (hI : INV N S) (hS : CSt g b S W) {i : Nat} (hi : i + 4 ≤ L) (kk : ∀ S2 X2 W2, INV (N + 1) S2 → CSt g b S2 W2 → KW g p l e room_1 s m args below meth c 8 A H0 (cells + 7) (slots + 72) Q (MSW g.2.1 a S2 X2 ++ W2) [(0, .ref sb), (1, .ref b), (2, .ref (a 0)), (3, .int (nI i))] 796 []) : KW g p l e room_1 s m args below meth c 8 A H0 cells slots Q (MSW g.2.1 a S X ++ W) [(0, .ref sb), (1, .ref b), (2, .ref (a 0)), (3, .int (nI i))] 532 [] := by
  have hc := hk.1
  obtain ⟨fb, hb⟩ := lk_at (S0 := S) (X := X) (a := a) hS
  refine zk_aload_n hc dL_law_532 1 rfl ?_
  refine zk_aload_n hc dL_law_533 0 rfl ?_
  refine zk_iload_n hc dL_law_534 3 rfl ?_
  refine zk_iconst hc (nI 1) dL_law_535 rfl ?_
  refine zk_iaddN hc dL_law_536 ?_
  refine lk_ld hk (by omega) dL_law_537 ?_
  refine zk_aload_n hc dL_law_538 0 rfl ?_
  refine zk_iload_n hc dL_law_539 3 rfl ?_
  refine zk_iconst hc (nI 2) dL_law_540 rfl ?_
  refine zk_iaddN hc dL_law_541 ?_
  refine lk_ld hk (by omega) dL_law_542 ?_
  refine zk_aload_n hc dL_law_543 0 rfl ?_
  refine zk_iload_n hc dL_law_544 3 rfl ?_
  refine zk_iconst hc (nI 3) dL_law_545 rfl ?_
  refine zk_iaddN hc dL_law_546 ?_
  refine lk_ld hk (by omega) dL_law_547 ?_
  refine zk_callVi hc (rest := []) (kx_wagon g l b S W N (by omega) hI hS (xs (i + 1)) (xs (i + 2)) (xs (i + 3))) gg_L_81 cd_X6_wagon ⟨Nat.le_of_ble_eq_true rfl, Nat.le_of_ble_eq_true rfl⟩ ⟨(by show cells + 0 ≤ 600000; omega), (by show slots + 0 ≤ 7302250; omega)⟩ (MSW g.2.1 a S X) [] (by rw [List.append_nil]) 13 hb rfl rfl (Nat.le_of_ble_eq_true rfl) dL_law_548 (fun r W1 hp => ?_)
  obtain ⟨rfl, hS2⟩ := hp
  obtain ⟨fm, hm⟩ := lk_am (g := g) (a := a) (S0 := S) (X := X) (W := W1 ++ [])
  refine zk_aload_n hc dL_law_551 2 rfl ?_
  refine zk_aload_n hc dL_law_552 0 rfl ?_
  refine zk_iload_n hc dL_law_553 3 rfl ?_
  refine zk_iconst hc (nI 1) dL_law_554 rfl ?_
  refine zk_iaddN hc dL_law_555 ?_
  refine lk_ld hk (by omega) dL_law_556 ?_
  refine zk_aload_n hc dL_law_557 0 rfl ?_
  refine zk_iload_n hc dL_law_558 3 rfl ?_
  refine zk_iconst hc (nI 2) dL_law_559 rfl ?_
  refine zk_iaddN hc dL_law_560 ?_
  refine lk_ld hk (by omega) dL_law_561 ?_
  refine zk_aload_n hc dL_law_562 0 rfl ?_
  refine zk_iload_n hc dL_law_563 3 rfl ?_
  refine zk_iconst hc (nI 3) dL_law_564 rfl ?_
  refine zk_iaddN hc dL_law_565 ?_
  refine lk_ld hk (by omega) dL_law_566 ?_
  refine zk_callVi hc (rest := [.int (aWag S.1 (xs (i + 1)) (xs (i + 2)) (xs (i + 3)))]) (km_wagon g l a S X N (by omega) hI (xs (i + 1)) (xs (i + 2)) (xs (i + 3))) gg_L_84 cd_X7_wagon ⟨Nat.le_of_ble_eq_true rfl, Nat.le_of_ble_eq_true rfl⟩ ⟨(by show cells + 0 + 0 ≤ 600000; omega), (by show slots + 0 + 0 ≤ 7302250; omega)⟩ [] (W1 ++ []) rfl 0 hm rfl rfl (Nat.le_of_ble_eq_true rfl) dL_law_567 (fun r W2 hp => ?_)
  obtain ⟨rfl, X2, rfl⟩ := hp
  refine zk_icmp_eq hc 796 dL_law_570 (by decide) (fun _ => ?_) (fun h => absurd rfl h)
  refine zk_widen (k2 := cells + 7) (n2 := slots + 72) (by show cells + 0 + 0 ≤ cells + 7; omega) (by show slots + 0 + 0 ≤ slots + 72; omega) ?_
  refine zk_ws (ws2 := MSW g.2.1 a S X2 ++ W1) (by rw [List.append_nil, List.nil_append]) ?_
  exact kk _ X2 W1 (INV_up hI) hS2

theorem lk_c17 {g : GG} {p : Program} {l : Launch} {e : Env} {s : State} {m : MethodId} {args : Array Value} {below : List Frame} {meth : Method} {c : Code} {A : Nat → Prop} {H0 : Heap} {Q : State → Prop} {sb L : Nat} {xs : Nat → Int32} (hk : LK g p s m args c A H0 meth sb L xs) {cells slots N : Nat} (hN : N ≤ 511) (hc1 : cells + 7 ≤ 600000) (hs1 : slots + 72 ≤ 7302250) {b : Nat} {a : Nat → Nat} {S : AS} {X : SC} {W : va_W} (hI : INV N S) (hS : CSt g b S W) {i : Nat} (hi : i + 4 ≤ L) (kk : ∀ S2 X2 W2, INV (N + 1) S2 → CSt g b S2 W2 → KW g p l e room_1 s m args below meth c 8 A H0 (cells + 7) (slots + 72) Q (MSW g.2.1 a S2 X2 ++ W2) [(0, .ref sb), (1, .ref b), (2, .ref (a 0)), (3, .int (nI i))] 796 []) : KW g p l e room_1 s m args below meth c 8 A H0 cells slots Q (MSW g.2.1 a S X ++ W) [(0, .ref sb), (1, .ref b), (2, .ref (a 0)), (3, .int (nI i))] 575 [] := by
  have hc := hk.1
  obtain ⟨fb, hb⟩ := lk_at (S0 := S) (X := X) (a := a) hS
  refine zk_aload_n hc dL_law_575 1 rfl ?_
  refine zk_aload_n hc dL_law_576 0 rfl ?_
  refine zk_iload_n hc dL_law_577 3 rfl ?_
  refine zk_iconst hc (nI 1) dL_law_578 rfl ?_
  refine zk_iaddN hc dL_law_579 ?_
  refine lk_ld hk (by omega) dL_law_580 ?_
  refine zk_callVi hc (rest := []) (kx_train g l b S W N (by omega) hI hS (xs (i + 1))) gg_L_85 cd_X6_train ⟨Nat.le_of_ble_eq_true rfl, Nat.le_of_ble_eq_true rfl⟩ ⟨(by show cells + 0 ≤ 600000; omega), (by show slots + 0 ≤ 7302250; omega)⟩ (MSW g.2.1 a S X) [] (by rw [List.append_nil]) 13 hb rfl rfl (Nat.le_of_ble_eq_true rfl) dL_law_581 (fun r W1 hp => ?_)
  obtain ⟨rfl, hS2⟩ := hp
  obtain ⟨fm, hm⟩ := lk_am (g := g) (a := a) (S0 := S) (X := X) (W := W1 ++ [])
  refine zk_aload_n hc dL_law_584 2 rfl ?_
  refine zk_aload_n hc dL_law_585 0 rfl ?_
  refine zk_iload_n hc dL_law_586 3 rfl ?_
  refine zk_iconst hc (nI 1) dL_law_587 rfl ?_
  refine zk_iaddN hc dL_law_588 ?_
  refine lk_ld hk (by omega) dL_law_589 ?_
  refine zk_callVi hc (rest := [.int (aTra S.1 (xs (i + 1)))]) (km_train g l a S X N (by omega) hI (xs (i + 1))) gg_L_88 cd_X7_train ⟨Nat.le_of_ble_eq_true rfl, Nat.le_of_ble_eq_true rfl⟩ ⟨(by show cells + 0 + 0 ≤ 600000; omega), (by show slots + 0 + 0 ≤ 7302250; omega)⟩ [] (W1 ++ []) rfl 0 hm rfl rfl (Nat.le_of_ble_eq_true rfl) dL_law_590 (fun r W2 hp => ?_)
  obtain ⟨rfl, X2, rfl⟩ := hp
  refine zk_icmp_eq hc 796 dL_law_593 (by decide) (fun _ => ?_) (fun h => absurd rfl h)
  refine zk_widen (k2 := cells + 7) (n2 := slots + 72) (by show cells + 0 + 0 ≤ cells + 7; omega) (by show slots + 0 + 0 ≤ slots + 72; omega) ?_
  refine zk_ws (ws2 := MSW g.2.1 a S X2 ++ W1) (by rw [List.append_nil, List.nil_append]) ?_
  exact kk _ X2 W1 (INV_up hI) hS2
