set_option maxHeartbeats 4000000 in
set_option maxRecDepth 100000 in
theorem ct_X7_carry (g : GG) (l : Launch) (a : Nat → Nat) (u pa im tx rw rb rk rt he tr be sp : Nat → Nat) (pm fl ln rm rd bn : Nat) (fk fp rs wk wp bm : Int32) (f t n mi : Nat) (hf : f < 4) (ht : t < 4) (hne : f ≠ t) (hn : n ≤ mny u f) (hmf : mny u f ≤ 8) (hmt : mny u t + n ≤ 8) : CtV g l yX7_carry cX7_carry 8 (rmK 2 0 0) (MW g.2.1 a u pa im tx rw rb rk rt he tr be sp pm fl ln rm rd bn fk fp rs wk wp bm) [.ref (a 0), .int (nI f), .int (nI t), .int (nI n), .int (nI mi)] (fun W1 => W1 = MW g.2.1 a (carU u f t n mi) pa im tx rw rb rk rt he tr be sp pm fl ln rm rd bn fk fp rs wk wp bm) := by
  refine CtV.go RX7 rfl (by decide +kernel) (Nat.le_of_ble_eq_true rfl) ?_
  intro p e s m args below meth c A H0 Q hc hnm fin
  show KW g p l e (rmK 2 0 0) s m args below meth c 8 A H0 0 0 Q (MW g.2.1 a u pa im tx rw rb rk rt he tr be sp pm fl ln rm rd bn fk fp rs wk wp bm) [(0, .ref (a 0)), (1, .int (nI f)), (2, .int (nI t)), (3, .int (nI n)), (4, .int (nI mi))] 0 []
  refine zk_aload_n hc dX7_carry_0 0 rfl ?_
  refine zk_iload_n hc dX7_carry_1 1 rfl ?_
  refine zk_iconst hc (nI 0) dX7_carry_2 rfl ?_
  refine zk_callVi hc (rest := []) (ct_X7_of g l a u pa im tx rw rb rk rt he tr be sp pm fl ln rm rd bn fk fp rs wk wp bm f 0 (by omega)) gg_X7_63 cd_X7_of ⟨Nat.le_of_ble_eq_true rfl, Nat.le_of_ble_eq_true rfl⟩ ⟨Nat.le_of_ble_eq_true rfl, Nat.le_of_ble_eq_true rfl⟩ ([]) ([]) rfl 0 rfl rfl rfl (Nat.le_of_ble_eq_true rfl) dX7_carry_3 (fun r W1 hp => ?_)
  obtain ⟨rfl, rfl⟩ := hp
  refine zk_ws (ws2 := MW g.2.1 a u pa im tx rw rb rk rt he tr be sp pm fl ln rm rd bn fk fp rs wk wp bm) rfl ?_
  refine zk_top (y := nI (mny u f)) rfl ?_
  refine zk_iload_n hc dX7_carry_6 3 rfl ?_
  refine zk_isubN hc dX7_carry_7 (by omega) ?_
  refine zk_istore hc (lv2 := [(5, .int (nI ((mny u f) - n))), (0, .ref (a 0)), (1, .int (nI f)), (2, .int (nI t)), (3, .int (nI n)), (4, .int (nI mi))]) dX7_carry_8 (by decide) rfl ?_
  refine zk_iconst hc (nI 0) dX7_carry_10 rfl ?_
  refine zk_istore hc (lv2 := [(6, .int (nI 0)), (5, .int (nI ((mny u f) - n))), (0, .ref (a 0)), (1, .int (nI f)), (2, .int (nI t)), (3, .int (nI n)), (4, .int (nI mi))]) dX7_carry_11 (by decide) rfl ?_
  refine zk_ws (ws2 := MW g.2.1 a (carB u f t n (3 * 0)) pa im tx rw rb rk rt he tr be sp pm fl ln rm rd bn fk fp rs wk wp bm) (congrArg (fun zz => MW g.2.1 a zz pa im tx rw rb rk rt he tr be sp pm fl ln rm rd bn fk fp rs wk wp bm) (show u = carB u f t n (3 * 0) from cpy_zero _ _ _ _)) ?_
  have loop13 : ∀ (N : Nat) (q : Nat), n - q < N → (q ≤ n) → KW g p l e (rmK 2 0 0) s m args below meth c 8 A H0 0 0 Q (MW g.2.1 a (carB u f t n (3 * q)) pa im tx rw rb rk rt he tr be sp pm fl ln rm rd bn fk fp rs wk wp bm) [(0, .ref (a 0)), (1, .int (nI f)), (2, .int (nI t)), (3, .int (nI n)), (4, .int (nI mi)), (5, .int (nI ((mny u f) - n))), (6, .int (nI q))] 13 [] := by
    intro N
    induction N with
    | zero => intro q hm; exact absurd hm (Nat.not_lt_zero _)
    | succ N ih13 =>
      intro q hm13 hq
      refine zk_iload hc dX7_carry_13 6 rfl ?_
      refine zk_iload_n hc dX7_carry_15 3 rfl ?_
      refine zk_icmp_geN hc 78 dX7_carry_16 (by decide) (by omega) (by omega) (fun h_1 => ?_) (fun h_1 => ?_)
      · refine zk_ws (ws2 := MW g.2.1 a (carB u f t n (3 * n)) pa im tx rw rb rk rt he tr be sp pm fl ln rm rd bn fk fp rs wk wp bm) (congrArg (fun zz => MW g.2.1 a zz pa im tx rw rb rk rt he tr be sp pm fl ln rm rd bn fk fp rs wk wp bm) (show carB u f t n (3 * q) = carB u f t n (3 * n) from congrArg (carB u f t n) (by omega))) ?_
        refine zk_aload_n hc dX7_carry_78 0 rfl ?_
        refine zk_iload_n hc dX7_carry_79 1 rfl ?_
        refine zk_iconst hc (nI 0) dX7_carry_80 rfl ?_
        refine zk_iload hc dX7_carry_81 5 rfl ?_
        refine zk_callVv hc (rest := []) (ct_X7_put g l a (carB u f t n (3 * n)) pa im tx rw rb rk rt he tr be sp pm fl ln rm rd bn fk fp rs wk wp bm f 0 ((mny u f) - n) (by omega)) gg_X7_93 cd_X7_put ⟨Nat.le_of_ble_eq_true rfl, Nat.le_of_ble_eq_true rfl⟩ ⟨Nat.le_of_ble_eq_true rfl, Nat.le_of_ble_eq_true rfl⟩ ([]) ([]) rfl 0 rfl rfl rfl (Nat.le_of_ble_eq_true rfl) dX7_carry_83 (fun W1 hp => ?_)
        obtain rfl := hp
        refine zk_ws (ws2 := MW g.2.1 a (va_up (carB u f t n (3 * n)) (23 + 27 * f + 0) ((mny u f) - n)) pa im tx rw rb rk rt he tr be sp pm fl ln rm rd bn fk fp rs wk wp bm) rfl ?_
        refine zk_aload_n hc dX7_carry_86 0 rfl ?_
        refine zk_iload_n hc dX7_carry_87 2 rfl ?_
        refine zk_iconst hc (nI 0) dX7_carry_88 rfl ?_
        refine zk_aload_n hc dX7_carry_89 0 rfl ?_
        refine zk_iload_n hc dX7_carry_90 2 rfl ?_
        refine zk_iconst hc (nI 0) dX7_carry_91 rfl ?_
        refine zk_callVi hc (rest := [.int (nI 0), .int (nI t), .ref (a 0)]) (ct_X7_of g l a (va_up (carB u f t n (3 * n)) (23 + 27 * f + 0) ((mny u f) - n)) pa im tx rw rb rk rt he tr be sp pm fl ln rm rd bn fk fp rs wk wp bm t 0 (by omega)) gg_X7_63 cd_X7_of ⟨Nat.le_of_ble_eq_true rfl, Nat.le_of_ble_eq_true rfl⟩ ⟨Nat.le_of_ble_eq_true rfl, Nat.le_of_ble_eq_true rfl⟩ ([]) ([]) rfl 0 rfl rfl rfl (Nat.le_of_ble_eq_true rfl) dX7_carry_92 (fun r W1 hp => ?_)
        obtain ⟨rfl, rfl⟩ := hp
        refine zk_ws (ws2 := MW g.2.1 a (va_up (carB u f t n (3 * n)) (23 + 27 * f + 0) ((mny u f) - n)) pa im tx rw rb rk rt he tr be sp pm fl ln rm rd bn fk fp rs wk wp bm) rfl ?_
        refine zk_top (y := nI (mny (va_up (carB u f t n (3 * n)) (23 + 27 * f + 0) ((mny u f) - n)) t)) rfl ?_
        refine zk_top (y := nI (mny u t)) (congrArg nI (carB_o2 hne)) ?_
        refine zk_iload_n hc dX7_carry_95 3 rfl ?_
        refine zk_iaddN hc dX7_carry_96 ?_
        refine zk_callVv hc (rest := []) (ct_X7_put g l a (va_up (carB u f t n (3 * n)) (23 + 27 * f + 0) ((mny u f) - n)) pa im tx rw rb rk rt he tr be sp pm fl ln rm rd bn fk fp rs wk wp bm t 0 ((mny u t) + n) (by omega)) gg_X7_93 cd_X7_put ⟨Nat.le_of_ble_eq_true rfl, Nat.le_of_ble_eq_true rfl⟩ ⟨Nat.le_of_ble_eq_true rfl, Nat.le_of_ble_eq_true rfl⟩ ([]) ([]) rfl 0 rfl rfl rfl (Nat.le_of_ble_eq_true rfl) dX7_carry_97 (fun W1 hp => ?_)
        obtain rfl := hp
        refine zk_ws (ws2 := MW g.2.1 a (va_up (va_up (carB u f t n (3 * n)) (23 + 27 * f + 0) ((mny u f) - n)) (23 + 27 * t + 0) ((mny u t) + n)) pa im tx rw rb rk rt he tr be sp pm fl ln rm rd bn fk fp rs wk wp bm) rfl ?_
        refine zk_aload_n hc dX7_carry_100 0 rfl ?_
        refine zk_iload_n hc dX7_carry_101 1 rfl ?_
        refine zk_iconst hc (nI 1) dX7_carry_102 rfl ?_
        refine zk_iconst hc (nI 0) dX7_carry_103 rfl ?_
        refine zk_callVv hc (rest := []) (ct_X7_put g l a (va_up (va_up (carB u f t n (3 * n)) (23 + 27 * f + 0) ((mny u f) - n)) (23 + 27 * t + 0) ((mny u t) + n)) pa im tx rw rb rk rt he tr be sp pm fl ln rm rd bn fk fp rs wk wp bm f 1 0 (by omega)) gg_X7_93 cd_X7_put ⟨Nat.le_of_ble_eq_true rfl, Nat.le_of_ble_eq_true rfl⟩ ⟨Nat.le_of_ble_eq_true rfl, Nat.le_of_ble_eq_true rfl⟩ ([]) ([]) rfl 0 rfl rfl rfl (Nat.le_of_ble_eq_true rfl) dX7_carry_104 (fun W1 hp => ?_)
        obtain rfl := hp
        refine zk_ws (ws2 := MW g.2.1 a (va_up (va_up (va_up (carB u f t n (3 * n)) (23 + 27 * f + 0) ((mny u f) - n)) (23 + 27 * t + 0) ((mny u t) + n)) (23 + 27 * f + 1) 0) pa im tx rw rb rk rt he tr be sp pm fl ln rm rd bn fk fp rs wk wp bm) rfl ?_
        refine zk_aload_n hc dX7_carry_107 0 rfl ?_
        refine zk_iload_n hc dX7_carry_108 2 rfl ?_
        refine zk_iconst hc (nI 1) dX7_carry_109 rfl ?_
        refine zk_iconst hc (nI 0) dX7_carry_110 rfl ?_
        refine zk_callVv hc (rest := []) (ct_X7_put g l a (va_up (va_up (va_up (carB u f t n (3 * n)) (23 + 27 * f + 0) ((mny u f) - n)) (23 + 27 * t + 0) ((mny u t) + n)) (23 + 27 * f + 1) 0) pa im tx rw rb rk rt he tr be sp pm fl ln rm rd bn fk fp rs wk wp bm t 1 0 (by omega)) gg_X7_93 cd_X7_put ⟨Nat.le_of_ble_eq_true rfl, Nat.le_of_ble_eq_true rfl⟩ ⟨Nat.le_of_ble_eq_true rfl, Nat.le_of_ble_eq_true rfl⟩ ([]) ([]) rfl 0 rfl rfl rfl (Nat.le_of_ble_eq_true rfl) dX7_carry_111 (fun W1 hp => ?_)
        obtain rfl := hp
        refine zk_ws (ws2 := MW g.2.1 a (va_up (va_up (va_up (va_up (carB u f t n (3 * n)) (23 + 27 * f + 0) ((mny u f) - n)) (23 + 27 * t + 0) ((mny u t) + n)) (23 + 27 * f + 1) 0) (23 + 27 * t + 1) 0) pa im tx rw rb rk rt he tr be sp pm fl ln rm rd bn fk fp rs wk wp bm) rfl ?_
        refine zk_ws (ws2 := MW g.2.1 a (car4 u f t n) pa im tx rw rb rk rt he tr be sp pm fl ln rm rd bn fk fp rs wk wp bm) (congrArg (fun zz => MW g.2.1 a zz pa im tx rw rb rk rt he tr be sp pm fl ln rm rd bn fk fp rs wk wp bm) (show va_up (va_up (va_up (va_up (carB u f t n (3 * n)) (23 + 27 * f + 0) ((mny u f) - n)) (23 + 27 * t + 0) ((mny u t) + n)) (23 + 27 * f + 1) 0) (23 + 27 * t + 1) 0 = car4 u f t n from rfl)) ?_
        refine zk_aload_n hc dX7_carry_114 0 rfl ?_
        refine zk_get hc inlX7 (ci := 7) rfl 0 0 (by decide) mw_4_11 rfl rfl rfl dX7_carry_115 ?_
        refine zk_bipush hc (nI 6) dX7_carry_118 rfl ?_
        refine zk_dup2 hc dX7_carry_120 rfl rfl ?_
        refine zk_ialdN hc 1 rfl (by omega) (by decide) dX7_carry_121 ?_
        refine zk_top (y := nI (u 6)) (congrArg nI (car4_lo (by omega))) ?_
        refine zk_iload hc dX7_carry_122 4 rfl ?_
        refine zk_iaddN hc dX7_carry_124 ?_
        refine zk_iastN hc 1 rfl (by omega) (by decide) (ws2 := MW g.2.1 a (va_up (car4 u f t n) 6 ((u 6) + mi)) pa im tx rw rb rk rt he tr be sp pm fl ln rm rd bn fk fp rs wk wp bm) rfl dX7_carry_125 ?_
        refine zk_aload_n hc dX7_carry_126 0 rfl ?_
        refine zk_get hc inlX7 (ci := 7) rfl 0 0 (by decide) mw_4_11 rfl rfl rfl dX7_carry_127 ?_
        refine zk_bipush hc (nI 8) dX7_carry_130 rfl ?_
        refine zk_dup2 hc dX7_carry_132 rfl rfl ?_
        refine zk_ialdN hc 1 rfl (by omega) (by decide) dX7_carry_133 ?_
        refine zk_top (y := nI (u 8)) (congrArg nI (show car4 u f t n 8 = u 8 from car4_lo (by omega))) ?_
        refine zk_iconst hc (nI 1) dX7_carry_134 rfl ?_
        refine zk_iaddN hc dX7_carry_135 ?_
        refine zk_iastN hc 1 rfl (by omega) (by decide) (ws2 := MW g.2.1 a (va_up (va_up (car4 u f t n) 6 ((u 6) + mi)) 8 ((u 8) + 1)) pa im tx rw rb rk rt he tr be sp pm fl ln rm rd bn fk fp rs wk wp bm) rfl dX7_carry_136 ?_
        refine zk_aload_n hc dX7_carry_137 0 rfl ?_
        refine zk_get hc inlX7 (ci := 7) rfl 0 0 (by decide) mw_4_11 rfl rfl rfl dX7_carry_138 ?_
        refine zk_bipush hc (nI 9) dX7_carry_141 rfl ?_
        refine zk_dup2 hc dX7_carry_143 rfl rfl ?_
        refine zk_ialdN hc 1 rfl (by omega) (by decide) dX7_carry_144 ?_
        refine zk_top (y := nI (u 9)) (congrArg nI (show car4 u f t n 9 = u 9 from car4_lo (by omega))) ?_
        refine zk_iload hc dX7_carry_145 4 rfl ?_
        refine zk_iaddN hc dX7_carry_147 ?_
        refine zk_iastN hc 1 rfl (by omega) (by decide) (ws2 := MW g.2.1 a (va_up (va_up (va_up (car4 u f t n) 6 ((u 6) + mi)) 8 ((u 8) + 1)) 9 ((u 9) + mi)) pa im tx rw rb rk rt he tr be sp pm fl ln rm rd bn fk fp rs wk wp bm) rfl dX7_carry_148 ?_
        exact fin 0 0 _ _ _ (by decide) (by decide) dX7_carry_149 (rfl)
      · refine zk_iconst hc (nI 0) dX7_carry_19 rfl ?_
        refine zk_istore hc (lv2 := [(7, .int (nI 0)), (0, .ref (a 0)), (1, .int (nI f)), (2, .int (nI t)), (3, .int (nI n)), (4, .int (nI mi)), (5, .int (nI ((mny u f) - n))), (6, .int (nI q))]) dX7_carry_20 (by decide) rfl ?_
        have loop22 : ∀ (N : Nat) (i : Nat), 3 - i < N → (i ≤ 3) → KW g p l e (rmK 2 0 0) s m args below meth c 8 A H0 0 0 Q (MW g.2.1 a (carB u f t n (3 * q + i)) pa im tx rw rb rk rt he tr be sp pm fl ln rm rd bn fk fp rs wk wp bm) [(0, .ref (a 0)), (1, .int (nI f)), (2, .int (nI t)), (3, .int (nI n)), (4, .int (nI mi)), (5, .int (nI ((mny u f) - n))), (6, .int (nI q)), (7, .int (nI i))] 22 [] := by
          intro N
          induction N with
          | zero => intro i hm; exact absurd hm (Nat.not_lt_zero _)
          | succ N ih22 =>
            intro i hm22 hi
            refine zk_iload hc dX7_carry_22 7 rfl ?_
            refine zk_iconst hc (nI 3) dX7_carry_24 rfl ?_
            refine zk_icmp_geN hc 72 dX7_carry_25 (by decide) (by omega) (by omega) (fun h_2 => ?_) (fun h_2 => ?_)
            · refine zk_ws (ws2 := MW g.2.1 a (carB u f t n (3 * (q + 1))) pa im tx rw rb rk rt he tr be sp pm fl ln rm rd bn fk fp rs wk wp bm) (congrArg (fun zz => MW g.2.1 a zz pa im tx rw rb rk rt he tr be sp pm fl ln rm rd bn fk fp rs wk wp bm) (show carB u f t n (3 * q + i) = carB u f t n (3 * (q + 1)) from congrArg (carB u f t n) (by omega))) ?_
              refine zk_iinc hc (v := nI (q + 1)) (lv2 := [(6, .int (nI (q + 1))), (0, .ref (a 0)), (1, .int (nI f)), (2, .int (nI t)), (3, .int (nI n)), (4, .int (nI mi)), (5, .int (nI ((mny u f) - n))), (7, .int (nI i))]) dX7_carry_72 6 rfl (nq_inc rfl) (by decide) rfl ?_
              refine zk_goto hc 13 dX7_carry_75 (by decide) ?_
              refine zk_lv [1, 2, 3, 4, 5, 6, 0] (lv2 := [(0, .ref (a 0)), (1, .int (nI f)), (2, .int (nI t)), (3, .int (nI n)), (4, .int (nI mi)), (5, .int (nI ((mny u f) - n))), (6, .int (nI (q + 1)))]) rfl ?_
              exact ih13 (q + 1) (by omega) (by omega)
            · refine zk_aload_n hc dX7_carry_28 0 rfl ?_
              refine zk_iload_n hc dX7_carry_29 2 rfl ?_
              refine zk_iconst hc (nI 3) dX7_carry_30 rfl ?_
              refine zk_iconst hc (nI 3) dX7_carry_31 rfl ?_
              refine zk_aload_n hc dX7_carry_32 0 rfl ?_
              refine zk_iload_n hc dX7_carry_33 2 rfl ?_
              refine zk_iconst hc (nI 0) dX7_carry_34 rfl ?_
              refine zk_callVi hc (rest := [.int (nI 3), .int (nI 3), .int (nI t), .ref (a 0)]) (ct_X7_of g l a (carB u f t n (3 * q + i)) pa im tx rw rb rk rt he tr be sp pm fl ln rm rd bn fk fp rs wk wp bm t 0 (by omega)) gg_X7_63 cd_X7_of ⟨Nat.le_of_ble_eq_true rfl, Nat.le_of_ble_eq_true rfl⟩ ⟨Nat.le_of_ble_eq_true rfl, Nat.le_of_ble_eq_true rfl⟩ ([]) ([]) rfl 0 rfl rfl rfl (Nat.le_of_ble_eq_true rfl) dX7_carry_35 (fun r W1 hp => ?_)
              obtain ⟨rfl, rfl⟩ := hp
              refine zk_ws (ws2 := MW g.2.1 a (carB u f t n (3 * q + i)) pa im tx rw rb rk rt he tr be sp pm fl ln rm rd bn fk fp rs wk wp bm) rfl ?_
              refine zk_top (y := nI (mny (carB u f t n (3 * q + i)) t)) rfl ?_
              refine zk_top (y := nI (mny u t)) (show nI (carB u f t n (3 * q + i) (23 + 27 * t + 0)) = nI (u (23 + 27 * t + 0)) from carB_o (by omega)) ?_
              refine zk_iload hc dX7_carry_38 6 rfl ?_
              refine zk_iaddN hc dX7_carry_40 ?_
              refine zk_imulN hc dX7_carry_41 ?_
              refine zk_iaddN hc dX7_carry_42 ?_
              refine zk_iload hc dX7_carry_43 7 rfl ?_
              refine zk_iaddN hc dX7_carry_45 ?_
              refine zk_aload_n hc dX7_carry_46 0 rfl ?_
              refine zk_iload_n hc dX7_carry_47 1 rfl ?_
              refine zk_iconst hc (nI 3) dX7_carry_48 rfl ?_
              refine zk_iconst hc (nI 3) dX7_carry_49 rfl ?_
              refine zk_iload hc dX7_carry_50 5 rfl ?_
              refine zk_iload hc dX7_carry_52 6 rfl ?_
              refine zk_iaddN hc dX7_carry_54 ?_
              refine zk_imulN hc dX7_carry_55 ?_
              refine zk_iaddN hc dX7_carry_56 ?_
              refine zk_iload hc dX7_carry_57 7 rfl ?_
              refine zk_iaddN hc dX7_carry_59 ?_
              refine zk_callVi hc (rest := [.int (nI ((3 + (3 * ((mny u t) + q))) + i)), .int (nI t), .ref (a 0)]) (ct_X7_of g l a (carB u f t n (3 * q + i)) pa im tx rw rb rk rt he tr be sp pm fl ln rm rd bn fk fp rs wk wp bm f ((3 + (3 * (((mny u f) - n) + q))) + i) (by omega)) gg_X7_63 cd_X7_of ⟨Nat.le_of_ble_eq_true rfl, Nat.le_of_ble_eq_true rfl⟩ ⟨Nat.le_of_ble_eq_true rfl, Nat.le_of_ble_eq_true rfl⟩ ([]) ([]) rfl 0 rfl rfl rfl (Nat.le_of_ble_eq_true rfl) dX7_carry_60 (fun r W1 hp => ?_)
              obtain ⟨rfl, rfl⟩ := hp
              refine zk_ws (ws2 := MW g.2.1 a (carB u f t n (3 * q + i)) pa im tx rw rb rk rt he tr be sp pm fl ln rm rd bn fk fp rs wk wp bm) rfl ?_
              refine zk_top (y := nI (u (23 + 27 * f + ((3 + (3 * ((mny u f - n) + q))) + i)))) (carB_o (by omega)) ?_
              refine zk_callVv hc (rest := []) (ct_X7_put g l a (carB u f t n (3 * q + i)) pa im tx rw rb rk rt he tr be sp pm fl ln rm rd bn fk fp rs wk wp bm t ((3 + (3 * ((mny u t) + q))) + i) (u (23 + 27 * f + ((3 + (3 * ((mny u f - n) + q))) + i))) (by omega)) gg_X7_93 cd_X7_put ⟨Nat.le_of_ble_eq_true rfl, Nat.le_of_ble_eq_true rfl⟩ ⟨Nat.le_of_ble_eq_true rfl, Nat.le_of_ble_eq_true rfl⟩ ([]) ([]) rfl 0 rfl rfl rfl (Nat.le_of_ble_eq_true rfl) dX7_carry_63 (fun W1 hp => ?_)
              obtain rfl := hp
              refine zk_ws (ws2 := MW g.2.1 a (va_up (carB u f t n (3 * q + i)) (23 + 27 * t + ((3 + (3 * ((mny u t) + q))) + i)) (u (23 + 27 * f + ((3 + (3 * ((mny u f - n) + q))) + i)))) pa im tx rw rb rk rt he tr be sp pm fl ln rm rd bn fk fp rs wk wp bm) rfl ?_
              refine zk_ws (ws2 := MW g.2.1 a (carB u f t n (3 * q + (i + 1))) pa im tx rw rb rk rt he tr be sp pm fl ln rm rd bn fk fp rs wk wp bm) (congrArg (fun zz => MW g.2.1 a zz pa im tx rw rb rk rt he tr be sp pm fl ln rm rd bn fk fp rs wk wp bm) (show va_up (carB u f t n (3 * q + i)) (23 + 27 * t + ((3 + (3 * ((mny u t) + q))) + i)) (u (23 + 27 * f + ((3 + (3 * ((mny u f - n) + q))) + i))) = carB u f t n (3 * q + (i + 1)) from cpy_step (by omega) (congrArg u (by omega)))) ?_
              refine zk_iinc hc (v := nI (i + 1)) (lv2 := [(7, .int (nI (i + 1))), (0, .ref (a 0)), (1, .int (nI f)), (2, .int (nI t)), (3, .int (nI n)), (4, .int (nI mi)), (5, .int (nI ((mny u f) - n))), (6, .int (nI q))]) dX7_carry_66 7 rfl (nq_inc rfl) (by decide) rfl ?_
              refine zk_goto hc 22 dX7_carry_69 (by decide) ?_
              refine zk_lv [1, 2, 3, 4, 5, 6, 7, 0] (lv2 := [(0, .ref (a 0)), (1, .int (nI f)), (2, .int (nI t)), (3, .int (nI n)), (4, .int (nI mi)), (5, .int (nI ((mny u f) - n))), (6, .int (nI q)), (7, .int (nI (i + 1)))]) rfl ?_
              exact ih22 (i + 1) (by omega) (by omega)
        refine zk_lv [1, 2, 3, 4, 5, 6, 7, 0] (lv2 := [(0, .ref (a 0)), (1, .int (nI f)), (2, .int (nI t)), (3, .int (nI n)), (4, .int (nI mi)), (5, .int (nI ((mny u f) - n))), (6, .int (nI q)), (7, .int (nI 0))]) rfl ?_
        exact loop22 ((3 - 0) + 1) 0 (Nat.lt_succ_self _) (Nat.zero_le _)
  refine zk_lv [2, 3, 4, 5, 6, 1, 0] (lv2 := [(0, .ref (a 0)), (1, .int (nI f)), (2, .int (nI t)), (3, .int (nI n)), (4, .int (nI mi)), (5, .int (nI ((mny u f) - n))), (6, .int (nI 0))]) rfl ?_
  exact loop13 ((n - 0) + 1) 0 (Nat.lt_succ_self _) (Nat.zero_le _)

set_option maxHeartbeats 4000000 in
set_option maxRecDepth 100000 in
theorem ct_X7_stillHolds (g : GG) (l : Launch) (a : Nat → Nat) (u pa im tx rw rb rk rt he tr be sp : Nat → Nat) (pm fl ln rm rd bn : Nat) (fk fp rs wk wp bm : Int32) (t : Nat) (ht : t < 4) (h1 : u 1 ≤ 600) (h6 : u 6 < 1073741824) (hta : tst u t ≠ 0 → tat u t ≤ u 6) (hs : tst u t < 2147483648) : CtI g l yX7_stillHolds cX7_stillHolds 3 (some .int) (rmK 2 0 0) (MW g.2.1 a u pa im tx rw rb rk rt he tr be sp pm fl ln rm rd bn fk fp rs wk wp bm) [.ref (a 0), .int (nI t)] (fun r W1 => r = nI (hold u t) ∧ W1 = MW g.2.1 a u pa im tx rw rb rk rt he tr be sp pm fl ln rm rd bn fk fp rs wk wp bm) := by
  refine CtI.go RX7 rfl (by decide +kernel) (Nat.le_of_ble_eq_true rfl) ?_
  intro p e s m args below meth c A H0 Q hc hnm fin
  show KW g p l e (rmK 2 0 0) s m args below meth c 3 A H0 0 0 Q (MW g.2.1 a u pa im tx rw rb rk rt he tr be sp pm fl ln rm rd bn fk fp rs wk wp bm) [(0, .ref (a 0)), (1, .int (nI t))] 0 []
  refine zk_aload_n hc dX7_stillHolds_0 0 rfl ?_
  refine zk_iload_n hc dX7_stillHolds_1 1 rfl ?_
  refine zk_iconst hc (nI 1) dX7_stillHolds_2 rfl ?_
  refine zk_callVi hc (rest := []) (ct_X7_of g l a u pa im tx rw rb rk rt he tr be sp pm fl ln rm rd bn fk fp rs wk wp bm t 1 (by omega)) gg_X7_63 cd_X7_of ⟨Nat.le_of_ble_eq_true rfl, Nat.le_of_ble_eq_true rfl⟩ ⟨Nat.le_of_ble_eq_true rfl, Nat.le_of_ble_eq_true rfl⟩ ([]) ([]) rfl 0 rfl rfl rfl (Nat.le_of_ble_eq_true rfl) dX7_stillHolds_3 (fun r W1 hp => ?_)
  obtain ⟨rfl, rfl⟩ := hp
  refine zk_ws (ws2 := MW g.2.1 a u pa im tx rw rb rk rt he tr be sp pm fl ln rm rd bn fk fp rs wk wp bm) rfl ?_
  refine zk_top (y := nI (tst u t)) rfl ?_
  refine zk_if_neN hc 13 dX7_stillHolds_6 (by decide) (by omega) (fun hz => ?_) (fun hz => ?_)
  · refine zk_aload_n hc dX7_stillHolds_13 0 rfl ?_
    refine zk_get hc inlX7 (ci := 7) rfl 0 0 (by decide) mw_4_11 rfl rfl rfl dX7_stillHolds_14 ?_
    refine zk_iconst hc (nI 1) dX7_stillHolds_17 rfl ?_
    refine zk_ialdN hc 1 rfl (by omega) (by decide) dX7_stillHolds_18 ?_
    refine zk_aload_n hc dX7_stillHolds_19 0 rfl ?_
    refine zk_get hc inlX7 (ci := 7) rfl 0 0 (by decide) mw_4_11 rfl rfl rfl dX7_stillHolds_20 ?_
    refine zk_bipush hc (nI 6) dX7_stillHolds_23 rfl ?_
    refine zk_ialdN hc 1 rfl (by omega) (by decide) dX7_stillHolds_25 ?_
    refine zk_aload_n hc dX7_stillHolds_26 0 rfl ?_
    refine zk_iload_n hc dX7_stillHolds_27 1 rfl ?_
    refine zk_iconst hc (nI 2) dX7_stillHolds_28 rfl ?_
    refine zk_callVi hc (rest := [.int (nI (u 6)), .int (nI (u 1))]) (ct_X7_of g l a u pa im tx rw rb rk rt he tr be sp pm fl ln rm rd bn fk fp rs wk wp bm t 2 (by omega)) gg_X7_63 cd_X7_of ⟨Nat.le_of_ble_eq_true rfl, Nat.le_of_ble_eq_true rfl⟩ ⟨Nat.le_of_ble_eq_true rfl, Nat.le_of_ble_eq_true rfl⟩ ([]) ([]) rfl 0 rfl rfl rfl (Nat.le_of_ble_eq_true rfl) dX7_stillHolds_29 (fun r W1 hp => ?_)
    obtain ⟨rfl, rfl⟩ := hp
    refine zk_ws (ws2 := MW g.2.1 a u pa im tx rw rb rk rt he tr be sp pm fl ln rm rd bn fk fp rs wk wp bm) rfl ?_
    refine zk_top (y := nI (tat u t)) rfl ?_
    refine zk_isubN hc dX7_stillHolds_32 (by have := hta hz; omega) ?_
    refine zk_isub hc dX7_stillHolds_33 ?_
    refine zk_istore_n hc (lv2 := [(2, .int ((nI (u 1)) - (nI ((u 6) - (tat u t))))), (0, .ref (a 0)), (1, .int (nI t))]) dX7_stillHolds_34 (by decide) rfl ?_
    refine zk_iload_n hc dX7_stillHolds_35 0 rfl ?_
    refine zk_if_ge hc 43 dX7_stillHolds_36 (by decide) (fun hg => ?_) (fun hg => ?_)
    · rw [pk_sub (sub_le (by omega) (by omega) hg)]
      refine zk_iload_n hc dX7_stillHolds_43 0 rfl ?_
      refine fin 0 0 _ _ _ _ (by decide) (by decide) dX7_stillHolds_44 (?_)
      exact ⟨congrArg nI (by unfold hold; rw [if_neg hz]), rfl⟩
    · have hq := sub_lt (by omega) (by omega) hg
      refine zk_iconst hc (nI 0) dX7_stillHolds_39 rfl ?_
      refine zk_goto hc 44 dX7_stillHolds_40 (by decide) ?_
      refine fin 0 0 _ _ _ _ (by decide) (by decide) dX7_stillHolds_44 (?_)
      exact ⟨congrArg nI (by unfold hold; rw [if_neg hz]; omega), rfl⟩
  · refine zk_iconst hc (nI 0) dX7_stillHolds_9 rfl ?_
    refine zk_goto hc 34 dX7_stillHolds_10 (by decide) ?_
    refine zk_istore_n hc (lv2 := [(2, .int (nI 0)), (0, .ref (a 0)), (1, .int (nI t))]) dX7_stillHolds_34 (by decide) rfl ?_
    refine zk_iload_n hc dX7_stillHolds_35 0 rfl ?_
    refine zk_if_ge hc 43 dX7_stillHolds_36 (by decide) (fun hg => ?_) (fun hg => ?_)
    · refine zk_iload_n hc dX7_stillHolds_43 0 rfl ?_
      refine fin 0 0 _ _ _ _ (by decide) (by decide) dX7_stillHolds_44 (?_)
      exact ⟨congrArg nI (by unfold hold; rw [if_pos hz]), rfl⟩
    · exact absurd hg (by decide)

set_option maxHeartbeats 4000000 in
set_option maxRecDepth 100000 in
theorem ct_X7_bound (g : GG) (l : Launch) (a : Nat → Nat) (u pa im tx rw rb rk rt he tr be sp : Nat → Nat) (pm fl ln rm rd bn : Nat) (fk fp rs wk wp bm : Int32) (t d : Nat) (ht : t < 4) (hm : mny u t ≤ 8) (hd : ∀ j, j < 8 → dst u t j < 2147483648) (hd2 : d < 2147483648) : CtI g l yX7_bound cX7_bound 5 (some .int) (rmK 3 0 0) (MW g.2.1 a u pa im tx rw rb rk rt he tr be sp pm fl ln rm rd bn fk fp rs wk wp bm) [.ref (a 0), .int (nI t), .int (nI d)] (fun r W1 => r = nI (bnd u t d (mny u t)) ∧ W1 = MW g.2.1 a u pa im tx rw rb rk rt he tr be sp pm fl ln rm rd bn fk fp rs wk wp bm) := by
  refine CtI.go RX7 rfl (by decide +kernel) (Nat.le_of_ble_eq_true rfl) ?_
  intro p e s m args below meth c A H0 Q hc hnm fin
  show KW g p l e (rmK 3 0 0) s m args below meth c 5 A H0 0 0 Q (MW g.2.1 a u pa im tx rw rb rk rt he tr be sp pm fl ln rm rd bn fk fp rs wk wp bm) [(0, .ref (a 0)), (1, .int (nI t)), (2, .int (nI d))] 0 []
  refine zk_iconst hc (nI 0) dX7_bound_0 rfl ?_
  refine zk_istore_n hc (lv2 := [(3, .int (nI 0)), (0, .ref (a 0)), (1, .int (nI t)), (2, .int (nI d))]) dX7_bound_1 (by decide) rfl ?_
  refine zk_iconst hc (nI 0) dX7_bound_2 rfl ?_
  refine zk_istore hc (lv2 := [(4, .int (nI 0)), (3, .int (nI 0)), (0, .ref (a 0)), (1, .int (nI t)), (2, .int (nI d))]) dX7_bound_3 (by decide) rfl ?_
  have loop5 : ∀ (N : Nat) (q : Nat) (x : Nat), mny u t - q < N → (q ≤ mny u t) → (x = bnd u t d q) → KW g p l e (rmK 3 0 0) s m args below meth c 5 A H0 0 0 Q (MW g.2.1 a u pa im tx rw rb rk rt he tr be sp pm fl ln rm rd bn fk fp rs wk wp bm) [(0, .ref (a 0)), (1, .int (nI t)), (2, .int (nI d)), (3, .int (nI x)), (4, .int (nI q))] 5 [] := by
    intro N
    induction N with
    | zero => intro q x hm; exact absurd hm (Nat.not_lt_zero _)
    | succ N ih5 =>
      intro q x hm5 hq hx
      refine zk_iload hc dX7_bound_5 4 rfl ?_
      refine zk_aload_n hc dX7_bound_7 0 rfl ?_
      refine zk_iload_n hc dX7_bound_8 1 rfl ?_
      refine zk_iconst hc (nI 0) dX7_bound_9 rfl ?_
      refine zk_callVi hc (rest := [.int (nI q)]) (ct_X7_of g l a u pa im tx rw rb rk rt he tr be sp pm fl ln rm rd bn fk fp rs wk wp bm t 0 (by omega)) gg_X7_63 cd_X7_of ⟨Nat.le_of_ble_eq_true rfl, Nat.le_of_ble_eq_true rfl⟩ ⟨Nat.le_of_ble_eq_true rfl, Nat.le_of_ble_eq_true rfl⟩ ([]) ([]) rfl 0 rfl rfl rfl (Nat.le_of_ble_eq_true rfl) dX7_bound_10 (fun r W1 hp => ?_)
      obtain ⟨rfl, rfl⟩ := hp
      refine zk_ws (ws2 := MW g.2.1 a u pa im tx rw rb rk rt he tr be sp pm fl ln rm rd bn fk fp rs wk wp bm) rfl ?_
      refine zk_top (y := nI (mny u t)) rfl ?_
      refine zk_icmp_geN hc 41 dX7_bound_13 (by decide) (by omega) (by omega) (fun h_1 => ?_) (fun h_1 => ?_)
      · refine zk_iload_n hc dX7_bound_41 3 rfl ?_
        refine fin 0 0 _ _ _ _ (by decide) (by decide) dX7_bound_42 (?_)
        exact ⟨by rw [hx, show q = mny u t by omega], rfl⟩
      · refine zk_iload_n hc dX7_bound_16 3 rfl ?_
        refine zk_aload_n hc dX7_bound_17 0 rfl ?_
        refine zk_iload_n hc dX7_bound_18 1 rfl ?_
        refine zk_iload hc dX7_bound_19 4 rfl ?_
        refine zk_callVi hc (rest := [.int (nI x)]) (ct_X7_destination g l a u pa im tx rw rb rk rt he tr be sp pm fl ln rm rd bn fk fp rs wk wp bm t q (by omega)) gg_X7_114 cd_X7_destination ⟨Nat.le_of_ble_eq_true rfl, Nat.le_of_ble_eq_true rfl⟩ ⟨Nat.le_of_ble_eq_true rfl, Nat.le_of_ble_eq_true rfl⟩ ([]) ([]) rfl 0 rfl rfl rfl (Nat.le_of_ble_eq_true rfl) dX7_bound_21 (fun r W1 hp => ?_)
        obtain ⟨rfl, rfl⟩ := hp
        refine zk_ws (ws2 := MW g.2.1 a u pa im tx rw rb rk rt he tr be sp pm fl ln rm rd bn fk fp rs wk wp bm) rfl ?_
        refine zk_iload_n hc dX7_bound_24 2 rfl ?_
        refine zk_icmp_neN hc 32 dX7_bound_25 (by decide) (by have := hd q (by omega); omega) (by have := hd q (by omega); omega) (fun h2 => ?_) (fun h2 => ?_)
        · refine zk_iconst hc (nI 0) dX7_bound_32 rfl ?_
          refine zk_iaddN hc dX7_bound_33 ?_
          refine zk_istore_n hc (lv2 := [(3, .int (nI (x + 0))), (0, .ref (a 0)), (1, .int (nI t)), (2, .int (nI d)), (4, .int (nI q))]) dX7_bound_34 (by decide) rfl ?_
          refine zk_iinc hc (v := nI (q + 1)) (lv2 := [(4, .int (nI (q + 1))), (3, .int (nI (x + 0))), (0, .ref (a 0)), (1, .int (nI t)), (2, .int (nI d))]) dX7_bound_35 4 rfl (nq_inc rfl) (by decide) rfl ?_
          refine zk_goto hc 5 dX7_bound_38 (by decide) ?_
          refine zk_lv [2, 3, 4, 1, 0] (lv2 := [(0, .ref (a 0)), (1, .int (nI t)), (2, .int (nI d)), (3, .int (nI (x + 0))), (4, .int (nI (q + 1)))]) rfl ?_
          exact ih5 (q + 1) (x + 0) (by omega) (by omega) (by unfold bnd; rw [hx]; simp [h2])
        · refine zk_iconst hc (nI 1) dX7_bound_28 rfl ?_
          refine zk_goto hc 33 dX7_bound_29 (by decide) ?_
          refine zk_iaddN hc dX7_bound_33 ?_
          refine zk_istore_n hc (lv2 := [(3, .int (nI (x + 1))), (0, .ref (a 0)), (1, .int (nI t)), (2, .int (nI d)), (4, .int (nI q))]) dX7_bound_34 (by decide) rfl ?_
          refine zk_iinc hc (v := nI (q + 1)) (lv2 := [(4, .int (nI (q + 1))), (3, .int (nI (x + 1))), (0, .ref (a 0)), (1, .int (nI t)), (2, .int (nI d))]) dX7_bound_35 4 rfl (nq_inc rfl) (by decide) rfl ?_
          refine zk_goto hc 5 dX7_bound_38 (by decide) ?_
          refine zk_lv [2, 3, 4, 1, 0] (lv2 := [(0, .ref (a 0)), (1, .int (nI t)), (2, .int (nI d)), (3, .int (nI (x + 1))), (4, .int (nI (q + 1)))]) rfl ?_
          exact ih5 (q + 1) (x + 1) (by omega) (by omega) (by unfold bnd; rw [hx]; simp [h2])
  refine zk_lv [2, 3, 4, 1, 0] (lv2 := [(0, .ref (a 0)), (1, .int (nI t)), (2, .int (nI d)), (3, .int (nI 0)), (4, .int (nI 0))]) rfl ?_
  exact loop5 ((mny u t - 0) + 1) 0 0 (Nat.lt_succ_self _) (Nat.zero_le _) rfl

set_option maxHeartbeats 4000000 in
set_option maxRecDepth 100000 in
theorem ct_X7_reasonAgainst (g : GG) (l : Launch) (a : Nat → Nat) (u pa im tx rw rb rk rt he tr be sp : Nat → Nat) (pm fl ln rm rd bn : Nat) (fk fp rs wk wp bm : Int32) (t : Nat) (ht : t < u 4) (h4 : u 4 ≤ 4) (hm : ∀ t, t < u 4 → mny u t ≤ 8) (hd : ∀ t j, t < 4 → j < 8 → dst u t j < 6) (h13 : u 13 < 6) (hk : ∀ t j, t < 4 → j < 8 → knd u t j < 3) (h12 : u 12 ≤ 10) (hg : u 0 ≤ 3) (h1x : u 1 ≤ 600) (h6x : u 6 < 1073741824) (hta : tst u t ≠ 0 → tat u t ≤ u 6) (htb : tst u t < 2147483648) : CtI g l yX7_reasonAgainst cX7_reasonAgainst 3 (some .int) (rmK 5 0 0) (MW g.2.1 a u pa im tx rw rb rk rt he tr be sp pm fl ln rm rd bn fk fp rs wk wp bm) [.ref (a 0), .int (nI t)] (fun r W1 => r = nI (rea u t) ∧ ∃ r2 n2, W1 = MW g.2.1 a u pa im tx r2 rb rk rt he tr be sp pm fl ln n2 rd bn fk fp rs wk wp bm) := by
  refine CtI.go RX7 rfl (by decide +kernel) (Nat.le_of_ble_eq_true rfl) ?_
  intro p e s m args below meth c A H0 Q hc hnm fin
  show KW g p l e (rmK 5 0 0) s m args below meth c 3 A H0 0 0 Q (MW g.2.1 a u pa im tx rw rb rk rt he tr be sp pm fl ln rm rd bn fk fp rs wk wp bm) [(0, .ref (a 0)), (1, .int (nI t))] 0 []
  refine zk_aload_n hc dX7_reasonAgainst_0 0 rfl ?_
  refine zk_get hc inlX7 (ci := 7) rfl 0 0 (by decide) mw_4_11 rfl rfl rfl dX7_reasonAgainst_1 ?_
  refine zk_bipush hc (nI 12) dX7_reasonAgainst_4 rfl ?_
  refine zk_ialdN hc 1 rfl (by omega) (by decide) dX7_reasonAgainst_6 ?_
  refine zk_if_neN hc 12 dX7_reasonAgainst_7 (by decide) (by omega) (fun h1 => ?_) (fun h1 => ?_)
  · refine zk_aload_n hc dX7_reasonAgainst_12 0 rfl ?_
    refine zk_iload_n hc dX7_reasonAgainst_13 1 rfl ?_
    refine zk_iconst hc (nI 0) dX7_reasonAgainst_14 rfl ?_
    refine zk_callVi hc (rest := []) (ct_X7_of g l a u pa im tx rw rb rk rt he tr be sp pm fl ln rm rd bn fk fp rs wk wp bm t 0 (by omega)) gg_X7_63 cd_X7_of ⟨Nat.le_of_ble_eq_true rfl, Nat.le_of_ble_eq_true rfl⟩ ⟨Nat.le_of_ble_eq_true rfl, Nat.le_of_ble_eq_true rfl⟩ ([]) ([]) rfl 0 rfl rfl rfl (Nat.le_of_ble_eq_true rfl) dX7_reasonAgainst_15 (fun r W1 hp => ?_)
    obtain ⟨rfl, rfl⟩ := hp
    refine zk_ws (ws2 := MW g.2.1 a u pa im tx rw rb rk rt he tr be sp pm fl ln rm rd bn fk fp rs wk wp bm) rfl ?_
    refine zk_top (y := nI (mny u t)) rfl ?_
    refine zk_if_neN hc 23 dX7_reasonAgainst_18 (by decide) (by have := hm t ht; omega) (fun h2 => ?_) (fun h2 => ?_)
    · refine zk_aload_n hc dX7_reasonAgainst_23 0 rfl ?_
      refine zk_iload_n hc dX7_reasonAgainst_24 1 rfl ?_
      refine zk_aload_n hc dX7_reasonAgainst_25 0 rfl ?_
      refine zk_get hc inlX7 (ci := 7) rfl 0 0 (by decide) mw_4_11 rfl rfl rfl dX7_reasonAgainst_26 ?_
      refine zk_bipush hc (nI 13) dX7_reasonAgainst_29 rfl ?_
      refine zk_ialdN hc 1 rfl (by omega) (by decide) dX7_reasonAgainst_31 ?_
      refine zk_callVi hc (rest := []) (ct_X7_bound g l a u pa im tx rw rb rk rt he tr be sp pm fl ln rm rd bn fk fp rs wk wp bm t (u 13) (by omega) (hm t ht) (fun j hj => by have := hd t j (by omega) hj; omega) (by omega)) gg_X7_117 cd_X7_bound ⟨Nat.le_of_ble_eq_true rfl, Nat.le_of_ble_eq_true rfl⟩ ⟨Nat.le_of_ble_eq_true rfl, Nat.le_of_ble_eq_true rfl⟩ ([]) ([]) rfl 0 rfl rfl rfl (Nat.le_of_ble_eq_true rfl) dX7_reasonAgainst_32 (fun r W1 hp => ?_)
      obtain ⟨rfl, rfl⟩ := hp
      refine zk_ws (ws2 := MW g.2.1 a u pa im tx rw rb rk rt he tr be sp pm fl ln rm rd bn fk fp rs wk wp bm) rfl ?_
      refine zk_aload_n hc dX7_reasonAgainst_35 0 rfl ?_
      refine zk_iload_n hc dX7_reasonAgainst_36 1 rfl ?_
      refine zk_iconst hc (nI 0) dX7_reasonAgainst_37 rfl ?_
      refine zk_callVi hc (rest := [.int (nI (bnd u t (u 13) (mny u t)))]) (ct_X7_of g l a u pa im tx rw rb rk rt he tr be sp pm fl ln rm rd bn fk fp rs wk wp bm t 0 (by omega)) gg_X7_63 cd_X7_of ⟨Nat.le_of_ble_eq_true rfl, Nat.le_of_ble_eq_true rfl⟩ ⟨Nat.le_of_ble_eq_true rfl, Nat.le_of_ble_eq_true rfl⟩ ([]) ([]) rfl 0 rfl rfl rfl (Nat.le_of_ble_eq_true rfl) dX7_reasonAgainst_38 (fun r W1 hp => ?_)
      obtain ⟨rfl, rfl⟩ := hp
      refine zk_ws (ws2 := MW g.2.1 a u pa im tx rw rb rk rt he tr be sp pm fl ln rm rd bn fk fp rs wk wp bm) rfl ?_
      refine zk_top (y := nI (mny u t)) rfl ?_
      refine zk_icmp_geN hc 46 dX7_reasonAgainst_41 (by decide) (by have := hm t ht; have := bnd_le u t (u 13) (mny u t); omega) (by have := hm t ht; have := bnd_le u t (u 13) (mny u t); omega) (fun h3 => ?_) (fun h3 => ?_)
      · refine zk_iconst hc (nI 0) dX7_reasonAgainst_46 rfl ?_
        refine zk_istore_n hc (lv2 := [(2, .int (nI 0)), (0, .ref (a 0)), (1, .int (nI t))]) dX7_reasonAgainst_47 (by decide) rfl ?_
        have loop48 : ∀ (N : Nat) (q : Nat), u 4 - q < N → (q ≤ u 4) → (oth u t q = false) → KW g p l e (rmK 5 0 0) s m args below meth c 3 A H0 0 0 Q (MW g.2.1 a u pa im tx rw rb rk rt he tr be sp pm fl ln rm rd bn fk fp rs wk wp bm) [(0, .ref (a 0)), (1, .int (nI t)), (2, .int (nI q))] 48 [] := by
          intro N
          induction N with
          | zero => intro q hm; exact absurd hm (Nat.not_lt_zero _)
          | succ N ih48 =>
            intro q hm48 hq ho
            refine zk_iload_n hc dX7_reasonAgainst_48 2 rfl ?_
            refine zk_aload_n hc dX7_reasonAgainst_49 0 rfl ?_
            refine zk_get hc inlX7 (ci := 7) rfl 0 0 (by decide) mw_4_11 rfl rfl rfl dX7_reasonAgainst_50 ?_
            refine zk_iconst hc (nI 4) dX7_reasonAgainst_53 rfl ?_
            refine zk_ialdN hc 1 rfl (by omega) (by decide) dX7_reasonAgainst_54 ?_
            refine zk_icmp_geN hc 86 dX7_reasonAgainst_55 (by decide) (by omega) (by omega) (fun h_1 => ?_) (fun h_1 => ?_)
            · refine zk_aload_n hc dX7_reasonAgainst_86 0 rfl ?_
              refine zk_iload_n hc dX7_reasonAgainst_87 1 rfl ?_
              refine zk_callVi hc (rest := []) (ct_X7_isSafe g l a u pa im tx rw rb rk rt he tr be sp pm fl ln rm rd bn fk fp rs wk wp bm t (by omega) (hm t ht) hk hg) gg_X7_120 cd_X7_isSafe ⟨Nat.le_of_ble_eq_true rfl, Nat.le_of_ble_eq_true rfl⟩ ⟨Nat.le_of_ble_eq_true rfl, Nat.le_of_ble_eq_true rfl⟩ ([]) ([]) rfl 0 rfl rfl rfl (Nat.le_of_ble_eq_true rfl) dX7_reasonAgainst_88 (fun r W1 hp => ?_)
              obtain ⟨rfl, r_2, n_3, rfl⟩ := hp
              refine zk_ws (ws2 := MW g.2.1 a u pa im tx r_2 rb rk rt he tr be sp pm fl ln n_3 rd bn fk fp rs wk wp bm) rfl ?_
              by_cases hs : u 0 ≤ gap (kds u t (mny u t))
              · refine zk_top (y := nI 1) (if_pos hs) ?_
                refine zk_if_neN hc 98 dX7_reasonAgainst_91 (by decide) (by omega) (fun h_4 => ?_) (fun h_4 => ?_)
                · refine zk_aload_n hc dX7_reasonAgainst_98 0 rfl ?_
                  refine zk_iload_n hc dX7_reasonAgainst_99 1 rfl ?_
                  refine zk_callVi hc (rest := []) (ct_X7_stillHolds g l a u pa im tx r_2 rb rk rt he tr be sp pm fl ln n_3 rd bn fk fp rs wk wp bm t (by omega) h1x h6x hta htb) gg_X7_123 cd_X7_stillHolds ⟨Nat.le_of_ble_eq_true rfl, Nat.le_of_ble_eq_true rfl⟩ ⟨Nat.le_of_ble_eq_true rfl, Nat.le_of_ble_eq_true rfl⟩ ([]) ([]) rfl 0 rfl rfl rfl (Nat.le_of_ble_eq_true rfl) dX7_reasonAgainst_100 (fun r W1 hp => ?_)
                  obtain ⟨rfl, rfl⟩ := hp
                  refine zk_ws (ws2 := MW g.2.1 a u pa im tx r_2 rb rk rt he tr be sp pm fl ln n_3 rd bn fk fp rs wk wp bm) rfl ?_
                  refine zk_if_neN hc 111 dX7_reasonAgainst_103 (by decide) (by unfold hold; split <;> omega) (fun h8 => ?_) (fun h8 => ?_)
                  · refine zk_iconst hc (nI 0) dX7_reasonAgainst_111 rfl ?_
                    refine fin 0 0 _ _ _ _ (by decide) (by decide) dX7_reasonAgainst_112 (?_)
                    exact ⟨congrArg nI (by unfold rea; rw [if_neg h1, if_neg h2, if_neg (show ¬ bnt u t < mny u t from Nat.not_lt.mpr h3), if_neg (by rw [show u 4 = q by omega, ho]; decide), if_neg (not_not_intro hs), if_neg h8]), _, _, rfl⟩
                  · refine zk_bipush hc (nI 6) dX7_reasonAgainst_106 rfl ?_
                    refine zk_goto hc 112 dX7_reasonAgainst_108 (by decide) ?_
                    refine fin 0 0 _ _ _ _ (by decide) (by decide) dX7_reasonAgainst_112 (?_)
                    exact ⟨congrArg nI (by unfold rea; rw [if_neg h1, if_neg h2, if_neg (show ¬ bnt u t < mny u t from Nat.not_lt.mpr h3), if_neg (by rw [show u 4 = q by omega, ho]; decide), if_neg (not_not_intro hs), if_pos h8]), _, _, rfl⟩
                · exact absurd h_4 (by decide)
              · refine zk_top (y := nI 0) (if_neg hs) ?_
                refine zk_if_neN hc 98 dX7_reasonAgainst_91 (by decide) (by omega) (fun h_5 => ?_) (fun h_5 => ?_)
                · exact absurd h_5 (by decide)
                · refine zk_iconst hc (nI 5) dX7_reasonAgainst_94 rfl ?_
                  refine zk_goto hc 112 dX7_reasonAgainst_95 (by decide) ?_
                  refine fin 0 0 _ _ _ _ (by decide) (by decide) dX7_reasonAgainst_112 (?_)
                  exact ⟨congrArg nI (by unfold rea; rw [if_neg h1, if_neg h2, if_neg (show ¬ bnt u t < mny u t from Nat.not_lt.mpr h3), if_neg (by rw [show u 4 = q by omega, ho]; decide), if_pos hs]), _, _, rfl⟩
            · refine zk_iload_n hc dX7_reasonAgainst_58 2 rfl ?_
              refine zk_iload_n hc dX7_reasonAgainst_59 1 rfl ?_
              refine zk_icmp_eqN hc 80 dX7_reasonAgainst_60 (by decide) (by omega) (by omega) (fun h5 => ?_) (fun h5 => ?_)
              · refine zk_iinc hc (v := nI (q + 1)) (lv2 := [(2, .int (nI (q + 1))), (0, .ref (a 0)), (1, .int (nI t))]) dX7_reasonAgainst_80 2 rfl (nq_inc rfl) (by decide) rfl ?_
                refine zk_goto hc 48 dX7_reasonAgainst_83 (by decide) ?_
                refine zk_lv [1, 2, 0] (lv2 := [(0, .ref (a 0)), (1, .int (nI t)), (2, .int (nI (q + 1)))]) rfl ?_
                exact ih48 (q + 1) (by omega) (by omega) (by unfold oth; rw [ho]; simp [h5])
              · refine zk_aload_n hc dX7_reasonAgainst_63 0 rfl ?_
                refine zk_iload_n hc dX7_reasonAgainst_64 2 rfl ?_
                refine zk_aload_n hc dX7_reasonAgainst_65 0 rfl ?_
                refine zk_get hc inlX7 (ci := 7) rfl 0 0 (by decide) mw_4_11 rfl rfl rfl dX7_reasonAgainst_66 ?_
                refine zk_bipush hc (nI 13) dX7_reasonAgainst_69 rfl ?_
                refine zk_ialdN hc 1 rfl (by omega) (by decide) dX7_reasonAgainst_71 ?_
                refine zk_callVi hc (rest := []) (ct_X7_bound g l a u pa im tx rw rb rk rt he tr be sp pm fl ln rm rd bn fk fp rs wk wp bm q (u 13) (by omega) (hm q (by omega)) (fun j hj => by have := hd q j (by omega) hj; omega) (by omega)) gg_X7_117 cd_X7_bound ⟨Nat.le_of_ble_eq_true rfl, Nat.le_of_ble_eq_true rfl⟩ ⟨Nat.le_of_ble_eq_true rfl, Nat.le_of_ble_eq_true rfl⟩ ([]) ([]) rfl 0 rfl rfl rfl (Nat.le_of_ble_eq_true rfl) dX7_reasonAgainst_72 (fun r W1 hp => ?_)
                obtain ⟨rfl, rfl⟩ := hp
                refine zk_ws (ws2 := MW g.2.1 a u pa im tx rw rb rk rt he tr be sp pm fl ln rm rd bn fk fp rs wk wp bm) rfl ?_
                refine zk_if_leN hc 80 dX7_reasonAgainst_75 (by decide) (by have := hm q (by omega); have := bnd_le u q (u 13) (mny u q); omega) (fun h6 => ?_) (fun h6 => ?_)
                · refine zk_iinc hc (v := nI (q + 1)) (lv2 := [(2, .int (nI (q + 1))), (0, .ref (a 0)), (1, .int (nI t))]) dX7_reasonAgainst_80 2 rfl (nq_inc rfl) (by decide) rfl ?_
                  refine zk_goto hc 48 dX7_reasonAgainst_83 (by decide) ?_
                  refine zk_lv [1, 2, 0] (lv2 := [(0, .ref (a 0)), (1, .int (nI t)), (2, .int (nI (q + 1)))]) rfl ?_
                  exact ih48 (q + 1) (by omega) (by omega) (by unfold oth; rw [ho]; simp [show bnt u q = 0 from h6])
                · refine zk_iconst hc (nI 4) dX7_reasonAgainst_78 rfl ?_
                  refine fin 0 0 _ _ _ _ (by decide) (by decide) dX7_reasonAgainst_79 (?_)
                  exact ⟨congrArg nI (by unfold rea; rw [if_neg h1, if_neg h2, if_neg (show ¬ bnt u t < mny u t from Nat.not_lt.mpr h3), if_pos (oth_at (n := u 4) (by omega) h5 h6)]), _, _, rfl⟩
        refine zk_lv [1, 2, 0] (lv2 := [(0, .ref (a 0)), (1, .int (nI t)), (2, .int (nI 0))]) rfl ?_
        exact loop48 ((u 4 - 0) + 1) 0 (Nat.lt_succ_self _) (Nat.zero_le _) rfl
      · refine zk_iconst hc (nI 3) dX7_reasonAgainst_44 rfl ?_
        refine fin 0 0 _ _ _ _ (by decide) (by decide) dX7_reasonAgainst_45 (?_)
        exact ⟨congrArg nI (by unfold rea; rw [if_neg h1, if_neg h2, if_pos (show bnt u t < mny u t from h3)]), _, _, rfl⟩
    · refine zk_iconst hc (nI 2) dX7_reasonAgainst_21 rfl ?_
      refine fin 0 0 _ _ _ _ (by decide) (by decide) dX7_reasonAgainst_22 (?_)
      exact ⟨congrArg nI (by unfold rea; rw [if_neg h1, if_pos h2]), _, _, rfl⟩
  · refine zk_iconst hc (nI 1) dX7_reasonAgainst_10 rfl ?_
    refine fin 0 0 _ _ _ _ (by decide) (by decide) dX7_reasonAgainst_11 (?_)
    exact ⟨congrArg nI (by unfold rea; rw [if_pos h1]), _, _, rfl⟩
