theorem lk_c18 {g : GG} {p : Program} {l : Launch} {e : Env} {s : State} {m : MethodId} {args : Array Value} {below : List Frame} {meth : Method} {c : Code} {A : Nat → Prop} {H0 : Heap} {Q : State → Prop} {sb L : Nat} {xs : Nat → Int32} (hk : LK g p s m args c A H0 meth sb L xs) {cells slots N : Nat} (hN : N ≤ 511) (hc1 : cells + 7 ≤ 600000) (hs1 : slots + 72 ≤ 7302250) {b : Nat} {a : Nat → Nat} {S : AS} {X : SC} {W : va_W} (hI : INV N S) (hS : CSt g b S W) {i : Nat} (hi : i + 4 ≤ L) (kk : ∀ S2 X2 W2, INV (N + 1) S2 → CSt g b S2 W2 → KW g p l e room_1 s m args below meth c 8 A H0 (cells + 7) (slots + 72) Q (MSW g.2.1 a S2 X2 ++ W2) [(0, .ref sb), (1, .ref b), (2, .ref (a 0)), (3, .int (nI i))] 796 []) : KW g p l e room_1 s m args below meth c 8 A H0 cells slots Q (MSW g.2.1 a S X ++ W) [(0, .ref sb), (1, .ref b), (2, .ref (a 0)), (3, .int (nI i))] 598 [] := by
  have hc := hk.1
  obtain ⟨fb, hb⟩ := lk_at (S0 := S) (X := X) (a := a) hS
  refine zk_aload_n hc dL_law_598 1 rfl ?_
  refine zk_aload_n hc dL_law_599 0 rfl ?_
  refine zk_iload_n hc dL_law_600 3 rfl ?_
  refine zk_iconst hc (nI 1) dL_law_601 rfl ?_
  refine zk_iaddN hc dL_law_602 ?_
  refine lk_ld hk (by omega) dL_law_603 ?_
  refine zk_aload_n hc dL_law_604 0 rfl ?_
  refine zk_iload_n hc dL_law_605 3 rfl ?_
  refine zk_iconst hc (nI 2) dL_law_606 rfl ?_
  refine zk_iaddN hc dL_law_607 ?_
  refine lk_ld hk (by omega) dL_law_608 ?_
  refine zk_callVi hc (rest := []) (kx_find g l b S W N (by omega) hI hS (xs (i + 1)) (xs (i + 2))) gg_L_89 cd_X6_find ⟨Nat.le_of_ble_eq_true rfl, Nat.le_of_ble_eq_true rfl⟩ ⟨(by show cells + 0 ≤ 600000; omega), (by show slots + 0 ≤ 7302250; omega)⟩ (MSW g.2.1 a S X) [] (by rw [List.append_nil]) 13 hb rfl rfl (Nat.le_of_ble_eq_true rfl) dL_law_609 (fun r W1 hp => ?_)
  obtain ⟨rfl, hS2⟩ := hp
  obtain ⟨fm, hm⟩ := lk_am (g := g) (a := a) (S0 := S) (X := X) (W := W1 ++ [])
  refine zk_aload_n hc dL_law_612 2 rfl ?_
  refine zk_aload_n hc dL_law_613 0 rfl ?_
  refine zk_iload_n hc dL_law_614 3 rfl ?_
  refine zk_iconst hc (nI 1) dL_law_615 rfl ?_
  refine zk_iaddN hc dL_law_616 ?_
  refine lk_ld hk (by omega) dL_law_617 ?_
  refine zk_aload_n hc dL_law_618 0 rfl ?_
  refine zk_iload_n hc dL_law_619 3 rfl ?_
  refine zk_iconst hc (nI 2) dL_law_620 rfl ?_
  refine zk_iaddN hc dL_law_621 ?_
  refine lk_ld hk (by omega) dL_law_622 ?_
  refine zk_callVi hc (rest := [.int (aFin S.1 (xs (i + 1)) (xs (i + 2)))]) (km_find g l a S X N (by omega) hI (xs (i + 1)) (xs (i + 2))) gg_L_92 cd_X7_find ⟨Nat.le_of_ble_eq_true rfl, Nat.le_of_ble_eq_true rfl⟩ ⟨(by show cells + 0 + 0 ≤ 600000; omega), (by show slots + 0 + 0 ≤ 7302250; omega)⟩ [] (W1 ++ []) rfl 0 hm rfl rfl (Nat.le_of_ble_eq_true rfl) dL_law_623 (fun r W2 hp => ?_)
  obtain ⟨rfl, X2, rfl⟩ := hp
  refine zk_icmp_eq hc 796 dL_law_626 (by decide) (fun _ => ?_) (fun h => absurd rfl h)
  refine zk_widen (k2 := cells + 7) (n2 := slots + 72) (by show cells + 0 + 0 ≤ cells + 7; omega) (by show slots + 0 + 0 ≤ slots + 72; omega) ?_
  refine zk_ws (ws2 := MSW g.2.1 a S X2 ++ W1) (by rw [List.append_nil, List.nil_append]) ?_
  exact kk _ X2 W1 (INV_up hI) hS2

theorem lk_c19 {g : GG} {p : Program} {l : Launch} {e : Env} {s : State} {m : MethodId} {args : Array Value} {below : List Frame} {meth : Method} {c : Code} {A : Nat → Prop} {H0 : Heap} {Q : State → Prop} {sb L : Nat} {xs : Nat → Int32} (hk : LK g p s m args c A H0 meth sb L xs) {cells slots N : Nat} (hN : N ≤ 511) (hc1 : cells + 7 ≤ 600000) (hs1 : slots + 72 ≤ 7302250) {b : Nat} {a : Nat → Nat} {S : AS} {X : SC} {W : va_W} (hI : INV N S) (hS : CSt g b S W) {i : Nat} (hi : i + 4 ≤ L) (kk : ∀ S2 X2 W2, INV (N + 1) S2 → CSt g b S2 W2 → KW g p l e room_1 s m args below meth c 8 A H0 (cells + 7) (slots + 72) Q (MSW g.2.1 a S2 X2 ++ W2) [(0, .ref sb), (1, .ref b), (2, .ref (a 0)), (3, .int (nI i))] 796 []) : KW g p l e room_1 s m args below meth c 8 A H0 cells slots Q (MSW g.2.1 a S X ++ W) [(0, .ref sb), (1, .ref b), (2, .ref (a 0)), (3, .int (nI i))] 631 [] := by
  have hc := hk.1
  obtain ⟨fb, hb⟩ := lk_at (S0 := S) (X := X) (a := a) hS
  refine zk_aload_n hc dL_law_631 1 rfl ?_
  refine zk_callVf hc (rest := []) (kx_mean g l b S W N (by omega) hI hS) gg_L_93 cd_X6_mean ⟨Nat.le_of_ble_eq_true rfl, Nat.le_of_ble_eq_true rfl⟩ ⟨(by show cells + 0 ≤ 600000; omega), (by show slots + 0 ≤ 7302250; omega)⟩ (MSW g.2.1 a S X) [] (by rw [List.append_nil]) 13 hb rfl rfl (Nat.le_of_ble_eq_true rfl) dL_law_632 (fun r W1 hp => ?_)
  obtain ⟨rfl, hS2⟩ := hp
  obtain ⟨fm, hm⟩ := lk_am (g := g) (a := a) (S0 := S) (X := X) (W := W1 ++ [])
  have h8 := hI.1.2.2.2.2.2.2.2.2.2.2.2 8 (by omega)
  have hn := f2d_n64 (men_n32 (u := S.1) (by omega))
  refine zk_f2d hc hn dL_law_635 ?_
  refine zk_dstore hc (lv2 := [(4, .double (FP.f2d (menV S.1))), (0, .ref sb), (1, .ref b), (2, .ref (a 0)), (3, .int (nI i))]) dL_law_636 (by decide) rfl ?_
  refine zk_aload_n hc dL_law_638 3 rfl ?_
  refine zk_callVf hc (rest := []) (km_mean g l a S X N (by omega) hI) gg_L_97 cd_X7_mean ⟨Nat.le_of_ble_eq_true rfl, Nat.le_of_ble_eq_true rfl⟩ ⟨(by show cells + 0 + 0 ≤ 600000; omega), (by show slots + 0 + 0 ≤ 7302250; omega)⟩ [] (W1 ++ []) rfl 0 hm rfl rfl (Nat.le_of_ble_eq_true rfl) dL_law_639 (fun r W2 hp => ?_)
  obtain ⟨rfl, X2, rfl⟩ := hp
  refine zk_f2d hc hn dL_law_642 ?_
  refine zk_dstore hc (lv2 := [(6, .double (FP.f2d (menV S.1))), (4, .double (FP.f2d (menV S.1))), (0, .ref sb), (1, .ref b), (2, .ref (a 0)), (3, .int (nI i))]) dL_law_643 (by decide) rfl ?_
  refine zk_dload hc dL_law_645 1 rfl ?_
  refine zk_dload hc dL_law_647 0 rfl ?_
  refine zk_dcmp hc dL_law_649 ?_
  refine zk_top (y := (0 : Int32)) (by rw [dcmp_eq hn]; rfl) ?_
  refine zk_if_eq hc 671 dL_law_650 (by decide) (fun _ => ?_) (fun h => absurd rfl h)
  refine zk_goto hc 796 dL_law_671 (by decide) ?_
  refine zk_lv [2, 3, 4, 5] (lv2 := [(0, .ref sb), (1, .ref b), (2, .ref (a 0)), (3, .int (nI i))]) rfl ?_
  refine zk_widen (k2 := cells + 7) (n2 := slots + 72) (by show cells + 0 + 0 ≤ cells + 7; omega) (by show slots + 0 + 0 ≤ slots + 72; omega) ?_
  refine zk_ws (ws2 := MSW g.2.1 a S X2 ++ W1) (by rw [List.append_nil, List.nil_append]) ?_
  exact kk _ X2 W1 (INV_up hI) hS2

theorem lk_c20 {g : GG} {p : Program} {l : Launch} {e : Env} {s : State} {m : MethodId} {args : Array Value} {below : List Frame} {meth : Method} {c : Code} {A : Nat → Prop} {H0 : Heap} {Q : State → Prop} {sb L : Nat} {xs : Nat → Int32} (hk : LK g p s m args c A H0 meth sb L xs) {cells slots N : Nat} (hN : N ≤ 511) (hc1 : cells + 7 ≤ 600000) (hs1 : slots + 72 ≤ 7302250) {b : Nat} {a : Nat → Nat} {S : AS} {X : SC} {W : va_W} (hI : INV N S) (hS : CSt g b S W) {i : Nat} (hi : i + 4 ≤ L) (kk : ∀ S2 X2 W2, INV (N + 1) S2 → CSt g b S2 W2 → KW g p l e room_1 s m args below meth c 8 A H0 (cells + 7) (slots + 72) Q (MSW g.2.1 a S2 X2 ++ W2) [(0, .ref sb), (1, .ref b), (2, .ref (a 0)), (3, .int (nI i))] 796 []) : KW g p l e room_1 s m args below meth c 8 A H0 cells slots Q (MSW g.2.1 a S X ++ W) [(0, .ref sb), (1, .ref b), (2, .ref (a 0)), (3, .int (nI i))] 674 [] := by
  have hc := hk.1
  obtain ⟨fb, hb⟩ := lk_at (S0 := S) (X := X) (a := a) hS
  refine zk_aload_n hc dL_law_674 1 rfl ?_
  refine zk_aload_n hc dL_law_675 0 rfl ?_
  refine zk_iload_n hc dL_law_676 3 rfl ?_
  refine zk_iconst hc (nI 1) dL_law_677 rfl ?_
  refine zk_iaddN hc dL_law_678 ?_
  refine lk_ld hk (by omega) dL_law_679 ?_
  refine zk_aload_n hc dL_law_680 0 rfl ?_
  refine zk_iload_n hc dL_law_681 3 rfl ?_
  refine zk_iconst hc (nI 2) dL_law_682 rfl ?_
  refine zk_iaddN hc dL_law_683 ?_
  refine lk_ld hk (by omega) dL_law_684 ?_
  refine zk_aload_n hc dL_law_685 0 rfl ?_
  refine zk_iload_n hc dL_law_686 3 rfl ?_
  refine zk_iconst hc (nI 3) dL_law_687 rfl ?_
  refine zk_iaddN hc dL_law_688 ?_
  refine lk_ld hk (by omega) dL_law_689 ?_
  refine zk_callVi hc (rest := []) (kx_cost g l b S W N (by omega) hI hS (xs (i + 1)) (xs (i + 2)) (xs (i + 3))) gg_L_98 cd_X6_cost ⟨Nat.le_of_ble_eq_true rfl, Nat.le_of_ble_eq_true rfl⟩ ⟨(by show cells + 0 ≤ 600000; omega), (by show slots + 0 ≤ 7302250; omega)⟩ (MSW g.2.1 a S X) [] (by rw [List.append_nil]) 13 hb rfl rfl (Nat.le_of_ble_eq_true rfl) dL_law_690 (fun r W1 hp => ?_)
  obtain ⟨rfl, hS2⟩ := hp
  obtain ⟨fm, hm⟩ := lk_am (g := g) (a := a) (S0 := S) (X := X) (W := W1 ++ [])
  refine zk_aload_n hc dL_law_693 2 rfl ?_
  refine zk_aload_n hc dL_law_694 0 rfl ?_
  refine zk_iload_n hc dL_law_695 3 rfl ?_
  refine zk_iconst hc (nI 1) dL_law_696 rfl ?_
  refine zk_iaddN hc dL_law_697 ?_
  refine lk_ld hk (by omega) dL_law_698 ?_
  refine zk_aload_n hc dL_law_699 0 rfl ?_
  refine zk_iload_n hc dL_law_700 3 rfl ?_
  refine zk_iconst hc (nI 2) dL_law_701 rfl ?_
  refine zk_iaddN hc dL_law_702 ?_
  refine lk_ld hk (by omega) dL_law_703 ?_
  refine zk_aload_n hc dL_law_704 0 rfl ?_
  refine zk_iload_n hc dL_law_705 3 rfl ?_
  refine zk_iconst hc (nI 3) dL_law_706 rfl ?_
  refine zk_iaddN hc dL_law_707 ?_
  refine lk_ld hk (by omega) dL_law_708 ?_
  refine zk_callVi hc (rest := [.int (aCos S.1 (xs (i + 1)) (xs (i + 2)) (xs (i + 3)))]) (km_cost g l a S X N (by omega) hI (xs (i + 1)) (xs (i + 2)) (xs (i + 3))) gg_L_101 cd_X7_cost ⟨Nat.le_of_ble_eq_true rfl, Nat.le_of_ble_eq_true rfl⟩ ⟨(by show cells + 0 + 0 ≤ 600000; omega), (by show slots + 0 + 0 ≤ 7302250; omega)⟩ [] (W1 ++ []) rfl 0 hm rfl rfl (Nat.le_of_ble_eq_true rfl) dL_law_709 (fun r W2 hp => ?_)
  obtain ⟨rfl, X2, rfl⟩ := hp
  refine zk_icmp_eq hc 796 dL_law_712 (by decide) (fun _ => ?_) (fun h => absurd rfl h)
  refine zk_widen (k2 := cells + 7) (n2 := slots + 72) (by show cells + 0 + 0 ≤ cells + 7; omega) (by show slots + 0 + 0 ≤ slots + 72; omega) ?_
  refine zk_ws (ws2 := MSW g.2.1 a S X2 ++ W1) (by rw [List.append_nil, List.nil_append]) ?_
  exact kk _ X2 W1 (INV_up hI) hS2

theorem lk_c21 {g : GG} {p : Program} {l : Launch} {e : Env} {s : State} {m : MethodId} {args : Array Value} {below : List Frame} {meth : Method} {c : Code} {A : Nat → Prop} {H0 : Heap} {Q : State → Prop} {sb L : Nat} {xs : Nat → Int32} (hk : LK g p s m args c A H0 meth sb L xs) {cells slots N : Nat} (hN : N ≤ 511) (hc1 : cells + 7 ≤ 600000) (hs1 : slots + 72 ≤ 7302250) {b : Nat} {a : Nat → Nat} {S : AS} {X : SC} {W : va_W} (hI : INV N S) (hS : CSt g b S W) {i : Nat} (hi : i + 4 ≤ L) (kk : ∀ S2 X2 W2, INV (N + 1) S2 → CSt g b S2 W2 → KW g p l e room_1 s m args below meth c 8 A H0 (cells + 7) (slots + 72) Q (MSW g.2.1 a S2 X2 ++ W2) [(0, .ref sb), (1, .ref b), (2, .ref (a 0)), (3, .int (nI i))] 796 []) : KW g p l e room_1 s m args below meth c 8 A H0 cells slots Q (MSW g.2.1 a S X ++ W) [(0, .ref sb), (1, .ref b), (2, .ref (a 0)), (3, .int (nI i))] 717 [] := by
  have hc := hk.1
  obtain ⟨fb, hb⟩ := lk_at (S0 := S) (X := X) (a := a) hS
  refine zk_aload_n hc dL_law_717 1 rfl ?_
  refine zk_aload_n hc dL_law_718 0 rfl ?_
  refine zk_iload_n hc dL_law_719 3 rfl ?_
  refine zk_iconst hc (nI 1) dL_law_720 rfl ?_
  refine zk_iaddN hc dL_law_721 ?_
  refine lk_ld hk (by omega) dL_law_722 ?_
  refine zk_aload_n hc dL_law_723 0 rfl ?_
  refine zk_iload_n hc dL_law_724 3 rfl ?_
  refine zk_iconst hc (nI 2) dL_law_725 rfl ?_
  refine zk_iaddN hc dL_law_726 ?_
  refine lk_ld hk (by omega) dL_law_727 ?_
  refine zk_callVi hc (rest := []) (kx_cheapest g l b S W N (by omega) hI hS (xs (i + 1)) (xs (i + 2))) gg_L_102 cd_X6_cheapest ⟨Nat.le_of_ble_eq_true rfl, Nat.le_of_ble_eq_true rfl⟩ ⟨(by show cells + 0 ≤ 600000; omega), (by show slots + 0 ≤ 7302250; omega)⟩ (MSW g.2.1 a S X) [] (by rw [List.append_nil]) 13 hb rfl rfl (Nat.le_of_ble_eq_true rfl) dL_law_728 (fun r W1 hp => ?_)
  obtain ⟨rfl, hS2⟩ := hp
  obtain ⟨fm, hm⟩ := lk_am (g := g) (a := a) (S0 := S) (X := X) (W := W1 ++ [])
  refine zk_aload_n hc dL_law_731 2 rfl ?_
  refine zk_aload_n hc dL_law_732 0 rfl ?_
  refine zk_iload_n hc dL_law_733 3 rfl ?_
  refine zk_iconst hc (nI 1) dL_law_734 rfl ?_
  refine zk_iaddN hc dL_law_735 ?_
  refine lk_ld hk (by omega) dL_law_736 ?_
  refine zk_aload_n hc dL_law_737 0 rfl ?_
  refine zk_iload_n hc dL_law_738 3 rfl ?_
  refine zk_iconst hc (nI 2) dL_law_739 rfl ?_
  refine zk_iaddN hc dL_law_740 ?_
  refine lk_ld hk (by omega) dL_law_741 ?_
  refine zk_callVi hc (rest := [.int (aChe S.1 (xs (i + 1)) (xs (i + 2)))]) (km_cheapest g l a S X N (by omega) hI (xs (i + 1)) (xs (i + 2))) gg_L_105 cd_X7_cheapest ⟨Nat.le_of_ble_eq_true rfl, Nat.le_of_ble_eq_true rfl⟩ ⟨(by show cells + 0 + 0 ≤ 600000; omega), (by show slots + 0 + 0 ≤ 7302250; omega)⟩ [] (W1 ++ []) rfl 0 hm rfl rfl (Nat.le_of_ble_eq_true rfl) dL_law_742 (fun r W2 hp => ?_)
  obtain ⟨rfl, X2, rfl⟩ := hp
  refine zk_icmp_eq hc 796 dL_law_745 (by decide) (fun _ => ?_) (fun h => absurd rfl h)
  refine zk_widen (k2 := cells + 7) (n2 := slots + 72) (by show cells + 0 + 0 ≤ cells + 7; omega) (by show slots + 0 + 0 ≤ slots + 72; omega) ?_
  refine zk_ws (ws2 := MSW g.2.1 a S X2 ++ W1) (by rw [List.append_nil, List.nil_append]) ?_
  exact kk _ X2 W1 (INV_up hI) hS2

theorem lk_c22 {g : GG} {p : Program} {l : Launch} {e : Env} {s : State} {m : MethodId} {args : Array Value} {below : List Frame} {meth : Method} {c : Code} {A : Nat → Prop} {H0 : Heap} {Q : State → Prop} {sb L : Nat} {xs : Nat → Int32} (hk : LK g p s m args c A H0 meth sb L xs) {cells slots N : Nat} (hN : N ≤ 511) (hc1 : cells + 7 ≤ 600000) (hs1 : slots + 72 ≤ 7302250) {b : Nat} {a : Nat → Nat} {S : AS} {X : SC} {W : va_W} (hI : INV N S) (hS : CSt g b S W) {i : Nat} (hi : i + 4 ≤ L) (kk : ∀ S2 X2 W2, INV (N + 1) S2 → CSt g b S2 W2 → KW g p l e room_1 s m args below meth c 8 A H0 (cells + 7) (slots + 72) Q (MSW g.2.1 a S2 X2 ++ W2) [(0, .ref sb), (1, .ref b), (2, .ref (a 0)), (3, .int (nI i))] 796 []) : KW g p l e room_1 s m args below meth c 8 A H0 cells slots Q (MSW g.2.1 a S X ++ W) [(0, .ref sb), (1, .ref b), (2, .ref (a 0)), (3, .int (nI i))] 750 [] := by
  have hc := hk.1
  obtain ⟨fb, hb⟩ := lk_at (S0 := S) (X := X) (a := a) hS
  refine zk_aload_n hc dL_law_750 1 rfl ?_
  refine zk_aload_n hc dL_law_751 0 rfl ?_
  refine zk_iload_n hc dL_law_752 3 rfl ?_
  refine zk_iconst hc (nI 1) dL_law_753 rfl ?_
  refine zk_iaddN hc dL_law_754 ?_
  refine lk_ld hk (by omega) dL_law_755 ?_
  refine zk_callVi hc (rest := []) (kx_keep g l b S W N (by omega) hI hS (xs (i + 1))) gg_L_106 cd_X6_keep ⟨Nat.le_of_ble_eq_true rfl, Nat.le_of_ble_eq_true rfl⟩ ⟨(by show cells + 7 ≤ 600000; omega), (by show slots + 72 ≤ 7302250; omega)⟩ (MSW g.2.1 a S X) [] (by rw [List.append_nil]) 13 hb rfl rfl (Nat.le_of_ble_eq_true rfl) dL_law_756 (fun r W1 hp => ?_)
  obtain ⟨rfl, hS2⟩ := hp
  obtain ⟨fm, hm⟩ := lk_am (g := g) (a := a) (S0 := S) (X := X) (W := W1 ++ [])
  refine zk_aload_n hc dL_law_759 2 rfl ?_
  refine zk_aload_n hc dL_law_760 0 rfl ?_
  refine zk_iload_n hc dL_law_761 3 rfl ?_
  refine zk_iconst hc (nI 1) dL_law_762 rfl ?_
  refine zk_iaddN hc dL_law_763 ?_
  refine lk_ld hk (by omega) dL_law_764 ?_
  refine zk_callVi hc (rest := [.int (aKee S.1 (xs (i + 1)))]) (km_keep g l a S X N (by omega) hI (xs (i + 1))) gg_L_109 cd_X7_keep ⟨Nat.le_of_ble_eq_true rfl, Nat.le_of_ble_eq_true rfl⟩ ⟨(by show cells + 7 + 0 ≤ 600000; omega), (by show slots + 72 + 0 ≤ 7302250; omega)⟩ [] (W1 ++ []) rfl 0 hm rfl rfl (Nat.le_of_ble_eq_true rfl) dL_law_765 (fun r W2 hp => ?_)
  obtain ⟨rfl, X2, rfl⟩ := hp
  refine zk_icmp_eq hc 796 dL_law_768 (by decide) (fun _ => ?_) (fun h => absurd rfl h)
  refine zk_widen (k2 := cells + 7) (n2 := slots + 72) (by show cells + 7 + 0 ≤ cells + 7; omega) (by show slots + 72 + 0 ≤ slots + 72; omega) ?_
  refine zk_ws (ws2 := MSW g.2.1 a (nKee S (xs (i + 1))) X2 ++ W1) (by rw [List.append_nil, List.nil_append]) ?_
  exact kk _ X2 W1 (INV_kee hI (xs (i + 1))) hS2

theorem lk_c23 {g : GG} {p : Program} {l : Launch} {e : Env} {s : State} {m : MethodId} {args : Array Value} {below : List Frame} {meth : Method} {c : Code} {A : Nat → Prop} {H0 : Heap} {Q : State → Prop} {sb L : Nat} {xs : Nat → Int32} (hk : LK g p s m args c A H0 meth sb L xs) {cells slots N : Nat} (hN : N ≤ 511) (hc1 : cells + 7 ≤ 600000) (hs1 : slots + 72 ≤ 7302250) {b : Nat} {a : Nat → Nat} {S : AS} {X : SC} {W : va_W} (hI : INV N S) (hS : CSt g b S W) {i : Nat} (hi : i + 4 ≤ L) (kk : ∀ S2 X2 W2, INV (N + 1) S2 → CSt g b S2 W2 → KW g p l e room_1 s m args below meth c 8 A H0 (cells + 7) (slots + 72) Q (MSW g.2.1 a S2 X2 ++ W2) [(0, .ref sb), (1, .ref b), (2, .ref (a 0)), (3, .int (nI i))] 796 []) : KW g p l e room_1 s m args below meth c 8 A H0 cells slots Q (MSW g.2.1 a S X ++ W) [(0, .ref sb), (1, .ref b), (2, .ref (a 0)), (3, .int (nI i))] 773 [] := by
  have hc := hk.1
  obtain ⟨fb, hb⟩ := lk_at (S0 := S) (X := X) (a := a) hS
  refine zk_aload_n hc dL_law_773 1 rfl ?_
  refine zk_aload_n hc dL_law_774 0 rfl ?_
  refine zk_iload_n hc dL_law_775 3 rfl ?_
  refine zk_iconst hc (nI 1) dL_law_776 rfl ?_
  refine zk_iaddN hc dL_law_777 ?_
  refine lk_ld hk (by omega) dL_law_778 ?_
  refine zk_callVi hc (rest := []) (kx_back g l b S W N (by omega) hI hS (xs (i + 1))) gg_L_110 cd_X6_back ⟨Nat.le_of_ble_eq_true rfl, Nat.le_of_ble_eq_true rfl⟩ ⟨(by show cells + 7 ≤ 600000; omega), (by show slots + 72 ≤ 7302250; omega)⟩ (MSW g.2.1 a S X) [] (by rw [List.append_nil]) 13 hb rfl rfl (Nat.le_of_ble_eq_true rfl) dL_law_779 (fun r W1 hp => ?_)
  obtain ⟨rfl, hS2⟩ := hp
  obtain ⟨fm, hm⟩ := lk_am (g := g) (a := a) (S0 := S) (X := X) (W := W1 ++ [])
  refine zk_aload_n hc dL_law_782 2 rfl ?_
  refine zk_aload_n hc dL_law_783 0 rfl ?_
  refine zk_iload_n hc dL_law_784 3 rfl ?_
  refine zk_iconst hc (nI 1) dL_law_785 rfl ?_
  refine zk_iaddN hc dL_law_786 ?_
  refine lk_ld hk (by omega) dL_law_787 ?_
  refine zk_callVi hc (rest := [.int (aBak S.1 S.2.2.2.1 S.2.2.2.2.1 (xs (i + 1)))]) (km_back g l a S X N (by omega) hI (xs (i + 1))) gg_L_113 cd_X7_back ⟨Nat.le_of_ble_eq_true rfl, Nat.le_of_ble_eq_true rfl⟩ ⟨(by show cells + 7 + 0 ≤ 600000; omega), (by show slots + 72 + 0 ≤ 7302250; omega)⟩ [] (W1 ++ []) rfl 0 hm rfl rfl (Nat.le_of_ble_eq_true rfl) dL_law_788 (fun r W2 hp => ?_)
  obtain ⟨rfl, X2, rfl⟩ := hp
  refine zk_icmp_eq hc 796 dL_law_791 (by decide) (fun _ => ?_) (fun h => absurd rfl h)
  refine zk_widen (k2 := cells + 7) (n2 := slots + 72) (by show cells + 7 + 0 ≤ cells + 7; omega) (by show slots + 72 + 0 ≤ slots + 72; omega) ?_
  refine zk_ws (ws2 := MSW g.2.1 a (nBak S (xs (i + 1))) X2 ++ W1) (by rw [List.append_nil, List.nil_append]) ?_
  exact kk _ X2 W1 (INV_bak hI (xs (i + 1))) hS2
