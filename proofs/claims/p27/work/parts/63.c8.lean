set_option maxHeartbeats 4000000 in
set_option maxRecDepth 100000 in
theorem ct_X0_init (g : GG) (l : Launch) (b : Nat) : CtV g l yX0_init cX0_init 1 (rmK 1 0 0) (([(b, .inr (0, [.int (nI 0), .int (nI 0), .int (nI 0)]))] : va_W)) [.ref b] (fun W1 => W1 = GW b 0 0 0) := by
  refine CtV.go RX0 rfl (by decide +kernel) (Nat.le_of_ble_eq_true rfl) ?_
  intro p e s m args below meth c A H0 Q hc hnm fin
  show KW g p l e (rmK 1 0 0) s m args below meth c 1 A H0 0 0 Q (([(b, .inr (0, [.int (nI 0), .int (nI 0), .int (nI 0)]))] : va_W)) [(0, .ref b)] 0 []
  refine zk_aload_n hc dX0_init_0 0 rfl ?_
  refine zk_objInit hc mw_2_20 mw_1_7 mw_1_8 ⟨by decide, by decide⟩ (Nat.le_of_ble_eq_true rfl) dX0_init_1 ?_
  exact fin 0 0 _ _ _ (by decide) (by decide) dX0_init_4 (rfl)

set_option maxHeartbeats 4000000 in
set_option maxRecDepth 100000 in
theorem ct_X1_init (g : GG) (l : Launch) (b : Nat) : CtV g l yX1_init cX1_init 1 (rmK 1 1 8) (([(b, .inr (1, [.null, .int (nI 0), .int (nI 0)]))] : va_W)) [.ref b] (fun W1 => ∃ a, a 0 = b ∧ W1 = HIW g.2.1 g.2.2 a (fun _ => none) 0 0) := by
  refine CtV.go RX1 rfl (by decide +kernel) (Nat.le_of_ble_eq_true rfl) ?_
  intro p e s m args below meth c A H0 Q hc hnm fin
  show KW g p l e (rmK 1 1 8) s m args below meth c 1 A H0 0 0 Q (([(b, .inr (1, [.null, .int (nI 0), .int (nI 0)]))] : va_W)) [(0, .ref b)] 0 []
  refine zk_aload_n hc dX1_init_0 0 rfl ?_
  refine zk_objInit hc mw_2_23 mw_1_7 mw_1_8 ⟨by decide, by decide⟩ (Nat.le_of_ble_eq_true rfl) dX1_init_1 ?_
  refine zk_aload_n hc dX1_init_4 0 rfl ?_
  refine zk_bipush hc (nI 8) dX1_init_5 rfl ?_
  refine zk_newY hc mw_3_0 (by decide) ⟨Nat.le_of_ble_eq_true rfl, Nat.le_of_ble_eq_true rfl⟩ dX1_init_7 (fun q_1 => ?_)
  refine zk_ws (ws2 := ([(b, .inr (1, [.null, .int (nI 0), .int (nI 0)]))] : va_W) ++ (AQ g.2.2 q_1 8 (fun _ => none))) rfl ?_
  refine zk_putF hc inlX1 (ci := 1) rfl tyX1 tyX1_ok nmX1 0 0 (by decide) mw_3_1 rfl rfl hnm rfl rfl rfl rfl (Nat.le_of_ble_eq_true rfl) (ws2 := ([(b, .inr (1, [.ref q_1, .int (nI 0), .int (nI 0)]))] : va_W) ++ (AQ g.2.2 q_1 8 (fun _ => none))) rfl dX1_init_10 ?_
  refine fin 1 8 _ _ _ (by decide) (by decide) dX1_init_13 (?_)
  exact ⟨av [b, q_1], rfl, rfl⟩

set_option maxHeartbeats 4000000 in
set_option maxRecDepth 100000 in
theorem ct_X5_init (g : GG) (l : Launch) (b : Nat) : CtV g l yX5_init cX5_init 1 (rmK 2 6 57) (([(b, .inr (5, [.int (nI 0), .int (nI 0), .int (nI 0), .int (nI 0), .int (nI 0), .int (nI 0), .int (nI 0), .int (nI 0), .int (nI 0), .null, .null, .null, .null, .null, .null]))] : va_W)) [.ref b] (fun W1 => ∃ a, a 0 = b ∧ W1 = YW g.2.1 a (va_up (va_up (va_up (va_up (fun _ => 0) 0 1) 1 120) 2 4) 3 5) (fun _ => 0) (fun _ => 0) (fun _ => 0) (upd (upd (upd (upd (aN (fun _ => 0)) 0 (-1)) 1 (-1)) 2 (-1)) 3 (-1)) 3 6 0 0 0 0 0 0 0 0 0 0) := by
  refine CtV.go RX5 rfl (by decide +kernel) (Nat.le_of_ble_eq_true rfl) ?_
  intro p e s m args below meth c A H0 Q hc hnm fin
  show KW g p l e (rmK 2 6 57) s m args below meth c 1 A H0 0 0 Q (([(b, .inr (5, [.int (nI 0), .int (nI 0), .int (nI 0), .int (nI 0), .int (nI 0), .int (nI 0), .int (nI 0), .int (nI 0), .int (nI 0), .null, .null, .null, .null, .null, .null]))] : va_W)) [(0, .ref b)] 0 []
  refine zk_aload_n hc dX5_init_0 0 rfl ?_
  refine zk_objInit hc mw_2_5 mw_1_7 mw_1_8 ⟨by decide, by decide⟩ (Nat.le_of_ble_eq_true rfl) dX5_init_1 ?_
  refine zk_aload_n hc dX5_init_4 0 rfl ?_
  refine zk_iconst hc (nI 3) dX5_init_5 rfl ?_
  refine zk_put hc inlX5 (ci := 5) rfl tyX5 tyX5_ok nmX5 0 0 (by decide) mw_2_6 rfl rfl rfl rfl rfl (Nat.le_of_ble_eq_true rfl) (ws2 := ([(b, .inr (5, [.int (nI 3), .int (nI 0), .int (nI 0), .int (nI 0), .int (nI 0), .int (nI 0), .int (nI 0), .int (nI 0), .int (nI 0), .null, .null, .null, .null, .null, .null]))] : va_W)) rfl dX5_init_6 ?_
  refine zk_aload_n hc dX5_init_9 0 rfl ?_
  refine zk_bipush hc (nI 6) dX5_init_10 rfl ?_
  refine zk_put hc inlX5 (ci := 5) rfl tyX5 tyX5_ok nmX5 0 1 (by decide) mw_2_7 rfl rfl rfl rfl rfl (Nat.le_of_ble_eq_true rfl) (ws2 := ([(b, .inr (5, [.int (nI 3), .int (nI 6), .int (nI 0), .int (nI 0), .int (nI 0), .int (nI 0), .int (nI 0), .int (nI 0), .int (nI 0), .null, .null, .null, .null, .null, .null]))] : va_W)) rfl dX5_init_12 ?_
  refine zk_aload_n hc dX5_init_15 0 rfl ?_
  refine zk_iconst hc (nI 4) dX5_init_16 rfl ?_
  refine zk_newI hc mw_2_8 (by decide) ⟨Nat.le_of_ble_eq_true rfl, Nat.le_of_ble_eq_true rfl⟩ dX5_init_17 (fun q_1 => ?_)
  refine zk_ws (ws2 := ([(b, .inr (5, [.int (nI 3), .int (nI 6), .int (nI 0), .int (nI 0), .int (nI 0), .int (nI 0), .int (nI 0), .int (nI 0), .int (nI 0), .null, .null, .null, .null, .null, .null]))] : va_W) ++ (AWN g.2.1 q_1 4 (fun _ => 0))) rfl ?_
  refine zk_dup hc dX5_init_19 rfl ?_
  refine zk_iconst hc (nI 0) dX5_init_20 rfl ?_
  refine zk_iconst hc (nI 1) dX5_init_21 rfl ?_
  refine zk_iastN hc 1 rfl (by omega) (by decide) (ws2 := ([(b, .inr (5, [.int (nI 3), .int (nI 6), .int (nI 0), .int (nI 0), .int (nI 0), .int (nI 0), .int (nI 0), .int (nI 0), .int (nI 0), .null, .null, .null, .null, .null, .null]))] : va_W) ++ (AWN g.2.1 q_1 4 (va_up (fun _ => 0) 0 1))) rfl dX5_init_22 ?_
  refine zk_dup hc dX5_init_23 rfl ?_
  refine zk_iconst hc (nI 1) dX5_init_24 rfl ?_
  refine zk_bipush hc (nI 120) dX5_init_25 rfl ?_
  refine zk_iastN hc 1 rfl (by omega) (by decide) (ws2 := ([(b, .inr (5, [.int (nI 3), .int (nI 6), .int (nI 0), .int (nI 0), .int (nI 0), .int (nI 0), .int (nI 0), .int (nI 0), .int (nI 0), .null, .null, .null, .null, .null, .null]))] : va_W) ++ (AWN g.2.1 q_1 4 (va_up (va_up (fun _ => 0) 0 1) 1 120))) rfl dX5_init_27 ?_
  refine zk_dup hc dX5_init_28 rfl ?_
  refine zk_iconst hc (nI 2) dX5_init_29 rfl ?_
  refine zk_iconst hc (nI 4) dX5_init_30 rfl ?_
  refine zk_iastN hc 1 rfl (by omega) (by decide) (ws2 := ([(b, .inr (5, [.int (nI 3), .int (nI 6), .int (nI 0), .int (nI 0), .int (nI 0), .int (nI 0), .int (nI 0), .int (nI 0), .int (nI 0), .null, .null, .null, .null, .null, .null]))] : va_W) ++ (AWN g.2.1 q_1 4 (va_up (va_up (va_up (fun _ => 0) 0 1) 1 120) 2 4))) rfl dX5_init_31 ?_
  refine zk_dup hc dX5_init_32 rfl ?_
  refine zk_iconst hc (nI 3) dX5_init_33 rfl ?_
  refine zk_iconst hc (nI 5) dX5_init_34 rfl ?_
  refine zk_iastN hc 1 rfl (by omega) (by decide) (ws2 := ([(b, .inr (5, [.int (nI 3), .int (nI 6), .int (nI 0), .int (nI 0), .int (nI 0), .int (nI 0), .int (nI 0), .int (nI 0), .int (nI 0), .null, .null, .null, .null, .null, .null]))] : va_W) ++ (AWN g.2.1 q_1 4 (va_up (va_up (va_up (va_up (fun _ => 0) 0 1) 1 120) 2 4) 3 5))) rfl dX5_init_35 ?_
  refine zk_putF hc inlX5 (ci := 5) rfl tyX5 tyX5_ok nmX5 0 9 (by decide) mw_2_9 rfl rfl hnm rfl rfl rfl rfl (Nat.le_of_ble_eq_true rfl) (ws2 := ([(b, .inr (5, [.int (nI 3), .int (nI 6), .int (nI 0), .int (nI 0), .int (nI 0), .int (nI 0), .int (nI 0), .int (nI 0), .int (nI 0), .ref q_1, .null, .null, .null, .null, .null]))] : va_W) ++ (AWN g.2.1 q_1 4 (va_up (va_up (va_up (va_up (fun _ => 0) 0 1) 1 120) 2 4) 3 5))) rfl dX5_init_36 ?_
  refine zk_aload_n hc dX5_init_39 0 rfl ?_
  refine zk_bipush hc (nI 10) dX5_init_40 rfl ?_
  refine zk_newI hc mw_2_8 (by decide) ⟨Nat.le_of_ble_eq_true rfl, Nat.le_of_ble_eq_true rfl⟩ dX5_init_42 (fun q_2 => ?_)
  refine zk_ws (ws2 := ([(b, .inr (5, [.int (nI 3), .int (nI 6), .int (nI 0), .int (nI 0), .int (nI 0), .int (nI 0), .int (nI 0), .int (nI 0), .int (nI 0), .ref q_1, .null, .null, .null, .null, .null]))] : va_W) ++ (AWN g.2.1 q_1 4 (va_up (va_up (va_up (va_up (fun _ => 0) 0 1) 1 120) 2 4) 3 5) ++ (AWN g.2.1 q_2 10 (fun _ => 0)))) rfl ?_
  refine zk_putF hc inlX5 (ci := 5) rfl tyX5 tyX5_ok nmX5 0 10 (by decide) mw_2_10 rfl rfl hnm rfl rfl rfl rfl (Nat.le_of_ble_eq_true rfl) (ws2 := ([(b, .inr (5, [.int (nI 3), .int (nI 6), .int (nI 0), .int (nI 0), .int (nI 0), .int (nI 0), .int (nI 0), .int (nI 0), .int (nI 0), .ref q_1, .ref q_2, .null, .null, .null, .null]))] : va_W) ++ (AWN g.2.1 q_1 4 (va_up (va_up (va_up (va_up (fun _ => 0) 0 1) 1 120) 2 4) 3 5) ++ (AWN g.2.1 q_2 10 (fun _ => 0)))) rfl dX5_init_44 ?_
  refine zk_aload_n hc dX5_init_47 0 rfl ?_
  refine zk_iconst hc (nI 4) dX5_init_48 rfl ?_
  refine zk_newI hc mw_2_8 (by decide) ⟨Nat.le_of_ble_eq_true rfl, Nat.le_of_ble_eq_true rfl⟩ dX5_init_49 (fun q_3 => ?_)
  refine zk_ws (ws2 := ([(b, .inr (5, [.int (nI 3), .int (nI 6), .int (nI 0), .int (nI 0), .int (nI 0), .int (nI 0), .int (nI 0), .int (nI 0), .int (nI 0), .ref q_1, .ref q_2, .null, .null, .null, .null]))] : va_W) ++ (AWN g.2.1 q_1 4 (va_up (va_up (va_up (va_up (fun _ => 0) 0 1) 1 120) 2 4) 3 5) ++ (AWN g.2.1 q_2 10 (fun _ => 0) ++ (AWN g.2.1 q_3 4 (fun _ => 0))))) rfl ?_
  refine zk_putF hc inlX5 (ci := 5) rfl tyX5 tyX5_ok nmX5 0 11 (by decide) mw_2_11 rfl rfl hnm rfl rfl rfl rfl (Nat.le_of_ble_eq_true rfl) (ws2 := ([(b, .inr (5, [.int (nI 3), .int (nI 6), .int (nI 0), .int (nI 0), .int (nI 0), .int (nI 0), .int (nI 0), .int (nI 0), .int (nI 0), .ref q_1, .ref q_2, .ref q_3, .null, .null, .null]))] : va_W) ++ (AWN g.2.1 q_1 4 (va_up (va_up (va_up (va_up (fun _ => 0) 0 1) 1 120) 2 4) 3 5) ++ (AWN g.2.1 q_2 10 (fun _ => 0) ++ (AWN g.2.1 q_3 4 (fun _ => 0))))) rfl dX5_init_51 ?_
  refine zk_aload_n hc dX5_init_54 0 rfl ?_
  refine zk_iconst hc (nI 4) dX5_init_55 rfl ?_
  refine zk_newI hc mw_2_8 (by decide) ⟨Nat.le_of_ble_eq_true rfl, Nat.le_of_ble_eq_true rfl⟩ dX5_init_56 (fun q_4 => ?_)
  refine zk_ws (ws2 := ([(b, .inr (5, [.int (nI 3), .int (nI 6), .int (nI 0), .int (nI 0), .int (nI 0), .int (nI 0), .int (nI 0), .int (nI 0), .int (nI 0), .ref q_1, .ref q_2, .ref q_3, .null, .null, .null]))] : va_W) ++ (AWN g.2.1 q_1 4 (va_up (va_up (va_up (va_up (fun _ => 0) 0 1) 1 120) 2 4) 3 5) ++ (AWN g.2.1 q_2 10 (fun _ => 0) ++ (AWN g.2.1 q_3 4 (fun _ => 0) ++ (AW g.2.1 q_4 4 (aN (fun _ => 0))))))) rfl ?_
  refine zk_dup hc dX5_init_58 rfl ?_
  refine zk_iconst hc (nI 0) dX5_init_59 rfl ?_
  refine zk_iconst hc ((-1)) dX5_init_60 rfl ?_
  refine zk_iastR hc 4 rfl (by omega) (by decide) (ws2 := ([(b, .inr (5, [.int (nI 3), .int (nI 6), .int (nI 0), .int (nI 0), .int (nI 0), .int (nI 0), .int (nI 0), .int (nI 0), .int (nI 0), .ref q_1, .ref q_2, .ref q_3, .null, .null, .null]))] : va_W) ++ (AWN g.2.1 q_1 4 (va_up (va_up (va_up (va_up (fun _ => 0) 0 1) 1 120) 2 4) 3 5) ++ (AWN g.2.1 q_2 10 (fun _ => 0) ++ (AWN g.2.1 q_3 4 (fun _ => 0) ++ (AW g.2.1 q_4 4 (upd (aN (fun _ => 0)) 0 (-1))))))) rfl dX5_init_61 ?_
  refine zk_dup hc dX5_init_62 rfl ?_
  refine zk_iconst hc (nI 1) dX5_init_63 rfl ?_
  refine zk_iconst hc ((-1)) dX5_init_64 rfl ?_
  refine zk_iastR hc 4 rfl (by omega) (by decide) (ws2 := ([(b, .inr (5, [.int (nI 3), .int (nI 6), .int (nI 0), .int (nI 0), .int (nI 0), .int (nI 0), .int (nI 0), .int (nI 0), .int (nI 0), .ref q_1, .ref q_2, .ref q_3, .null, .null, .null]))] : va_W) ++ (AWN g.2.1 q_1 4 (va_up (va_up (va_up (va_up (fun _ => 0) 0 1) 1 120) 2 4) 3 5) ++ (AWN g.2.1 q_2 10 (fun _ => 0) ++ (AWN g.2.1 q_3 4 (fun _ => 0) ++ (AW g.2.1 q_4 4 (upd (upd (aN (fun _ => 0)) 0 (-1)) 1 (-1))))))) rfl dX5_init_65 ?_
  refine zk_dup hc dX5_init_66 rfl ?_
  refine zk_iconst hc (nI 2) dX5_init_67 rfl ?_
  refine zk_iconst hc ((-1)) dX5_init_68 rfl ?_
  refine zk_iastR hc 4 rfl (by omega) (by decide) (ws2 := ([(b, .inr (5, [.int (nI 3), .int (nI 6), .int (nI 0), .int (nI 0), .int (nI 0), .int (nI 0), .int (nI 0), .int (nI 0), .int (nI 0), .ref q_1, .ref q_2, .ref q_3, .null, .null, .null]))] : va_W) ++ (AWN g.2.1 q_1 4 (va_up (va_up (va_up (va_up (fun _ => 0) 0 1) 1 120) 2 4) 3 5) ++ (AWN g.2.1 q_2 10 (fun _ => 0) ++ (AWN g.2.1 q_3 4 (fun _ => 0) ++ (AW g.2.1 q_4 4 (upd (upd (upd (aN (fun _ => 0)) 0 (-1)) 1 (-1)) 2 (-1))))))) rfl dX5_init_69 ?_
  refine zk_dup hc dX5_init_70 rfl ?_
  refine zk_iconst hc (nI 3) dX5_init_71 rfl ?_
  refine zk_iconst hc ((-1)) dX5_init_72 rfl ?_
  refine zk_iastR hc 4 rfl (by omega) (by decide) (ws2 := ([(b, .inr (5, [.int (nI 3), .int (nI 6), .int (nI 0), .int (nI 0), .int (nI 0), .int (nI 0), .int (nI 0), .int (nI 0), .int (nI 0), .ref q_1, .ref q_2, .ref q_3, .null, .null, .null]))] : va_W) ++ (AWN g.2.1 q_1 4 (va_up (va_up (va_up (va_up (fun _ => 0) 0 1) 1 120) 2 4) 3 5) ++ (AWN g.2.1 q_2 10 (fun _ => 0) ++ (AWN g.2.1 q_3 4 (fun _ => 0) ++ (AW g.2.1 q_4 4 (upd (upd (upd (upd (aN (fun _ => 0)) 0 (-1)) 1 (-1)) 2 (-1)) 3 (-1))))))) rfl dX5_init_73 ?_
  refine zk_putF hc inlX5 (ci := 5) rfl tyX5 tyX5_ok nmX5 0 12 (by decide) mw_2_12 rfl rfl hnm rfl rfl rfl rfl (Nat.le_of_ble_eq_true rfl) (ws2 := ([(b, .inr (5, [.int (nI 3), .int (nI 6), .int (nI 0), .int (nI 0), .int (nI 0), .int (nI 0), .int (nI 0), .int (nI 0), .int (nI 0), .ref q_1, .ref q_2, .ref q_3, .ref q_4, .null, .null]))] : va_W) ++ (AWN g.2.1 q_1 4 (va_up (va_up (va_up (va_up (fun _ => 0) 0 1) 1 120) 2 4) 3 5) ++ (AWN g.2.1 q_2 10 (fun _ => 0) ++ (AWN g.2.1 q_3 4 (fun _ => 0) ++ (AW g.2.1 q_4 4 (upd (upd (upd (upd (aN (fun _ => 0)) 0 (-1)) 1 (-1)) 2 (-1)) 3 (-1))))))) rfl dX5_init_74 ?_
  refine zk_aload_n hc dX5_init_77 0 rfl ?_
  refine zk_bipush hc (nI 32) dX5_init_78 rfl ?_
  refine zk_newI hc mw_2_8 (by decide) ⟨Nat.le_of_ble_eq_true rfl, Nat.le_of_ble_eq_true rfl⟩ dX5_init_80 (fun q_5 => ?_)
  refine zk_ws (ws2 := ([(b, .inr (5, [.int (nI 3), .int (nI 6), .int (nI 0), .int (nI 0), .int (nI 0), .int (nI 0), .int (nI 0), .int (nI 0), .int (nI 0), .ref q_1, .ref q_2, .ref q_3, .ref q_4, .null, .null]))] : va_W) ++ (AWN g.2.1 q_1 4 (va_up (va_up (va_up (va_up (fun _ => 0) 0 1) 1 120) 2 4) 3 5) ++ (AWN g.2.1 q_2 10 (fun _ => 0) ++ (AWN g.2.1 q_3 4 (fun _ => 0) ++ (AW g.2.1 q_4 4 (upd (upd (upd (upd (aN (fun _ => 0)) 0 (-1)) 1 (-1)) 2 (-1)) 3 (-1)) ++ (AWN g.2.1 q_5 32 (fun _ => 0))))))) rfl ?_
  refine zk_putF hc inlX5 (ci := 5) rfl tyX5 tyX5_ok nmX5 0 13 (by decide) mw_2_13 rfl rfl hnm rfl rfl rfl rfl (Nat.le_of_ble_eq_true rfl) (ws2 := ([(b, .inr (5, [.int (nI 3), .int (nI 6), .int (nI 0), .int (nI 0), .int (nI 0), .int (nI 0), .int (nI 0), .int (nI 0), .int (nI 0), .ref q_1, .ref q_2, .ref q_3, .ref q_4, .ref q_5, .null]))] : va_W) ++ (AWN g.2.1 q_1 4 (va_up (va_up (va_up (va_up (fun _ => 0) 0 1) 1 120) 2 4) 3 5) ++ (AWN g.2.1 q_2 10 (fun _ => 0) ++ (AWN g.2.1 q_3 4 (fun _ => 0) ++ (AW g.2.1 q_4 4 (upd (upd (upd (upd (aN (fun _ => 0)) 0 (-1)) 1 (-1)) 2 (-1)) 3 (-1)) ++ (AWN g.2.1 q_5 32 (fun _ => 0))))))) rfl dX5_init_82 ?_
  refine zk_aload_n hc dX5_init_85 0 rfl ?_
  refine zk_new hc inlX0 (ci := 0) rfl tyX0 tyX0_ok mw_2_14 mw_2_15 mw_2_16 (fs := [.int (nI 0), .int (nI 0), .int (nI 0)]) (fun j hj => match j, hj with | 0, _ => rfl | 1, _ => rfl | 2, _ => rfl | k + 3, h => absurd h (by omega)) ⟨Nat.le_of_ble_eq_true rfl, Nat.le_of_ble_eq_true rfl⟩ dX5_init_86 (fun q_6 => ?_)
  refine zk_ws (ws2 := ([(b, .inr (5, [.int (nI 3), .int (nI 6), .int (nI 0), .int (nI 0), .int (nI 0), .int (nI 0), .int (nI 0), .int (nI 0), .int (nI 0), .ref q_1, .ref q_2, .ref q_3, .ref q_4, .ref q_5, .null]))] : va_W) ++ (AWN g.2.1 q_1 4 (va_up (va_up (va_up (va_up (fun _ => 0) 0 1) 1 120) 2 4) 3 5) ++ (AWN g.2.1 q_2 10 (fun _ => 0) ++ (AWN g.2.1 q_3 4 (fun _ => 0) ++ (AW g.2.1 q_4 4 (upd (upd (upd (upd (aN (fun _ => 0)) 0 (-1)) 1 (-1)) 2 (-1)) 3 (-1)) ++ (AWN g.2.1 q_5 32 (fun _ => 0) ++ (([(q_6, .inr (0, [.int (nI 0), .int (nI 0), .int (nI 0)]))] : va_W)))))))) rfl ?_
  refine zk_dup hc dX5_init_89 rfl ?_
  refine zk_callJv hc (rest := [.ref q_6, .ref b]) (ct_X0_init g l q_6) nl_X5_36 mw_2_19 mw_2_18 mw_2_16 rfl cd_X0_init ⟨Nat.le_of_ble_eq_true rfl, Nat.le_of_ble_eq_true rfl⟩ ⟨Nat.le_of_ble_eq_true rfl, Nat.le_of_ble_eq_true rfl⟩ (([(b, .inr (5, [.int (nI 3), .int (nI 6), .int (nI 0), .int (nI 0), .int (nI 0), .int (nI 0), .int (nI 0), .int (nI 0), .int (nI 0), .ref q_1, .ref q_2, .ref q_3, .ref q_4, .ref q_5, .null]))] : va_W) ++ (AWN g.2.1 q_1 4 (va_up (va_up (va_up (va_up (fun _ => 0) 0 1) 1 120) 2 4) 3 5) ++ (AWN g.2.1 q_2 10 (fun _ => 0) ++ (AWN g.2.1 q_3 4 (fun _ => 0) ++ (AW g.2.1 q_4 4 (upd (upd (upd (upd (aN (fun _ => 0)) 0 (-1)) 1 (-1)) 2 (-1)) 3 (-1)) ++ (AWN g.2.1 q_5 32 (fun _ => 0))))))) ([]) rfl rfl (Nat.le_of_ble_eq_true rfl) dX5_init_90 (fun W1 hp => ?_)
  obtain rfl := hp
  refine zk_ws (ws2 := ([(b, .inr (5, [.int (nI 3), .int (nI 6), .int (nI 0), .int (nI 0), .int (nI 0), .int (nI 0), .int (nI 0), .int (nI 0), .int (nI 0), .ref q_1, .ref q_2, .ref q_3, .ref q_4, .ref q_5, .null]))] : va_W) ++ (AWN g.2.1 q_1 4 (va_up (va_up (va_up (va_up (fun _ => 0) 0 1) 1 120) 2 4) 3 5) ++ (AWN g.2.1 q_2 10 (fun _ => 0) ++ (AWN g.2.1 q_3 4 (fun _ => 0) ++ (AW g.2.1 q_4 4 (upd (upd (upd (upd (aN (fun _ => 0)) 0 (-1)) 1 (-1)) 2 (-1)) 3 (-1)) ++ (AWN g.2.1 q_5 32 (fun _ => 0) ++ (GW q_6 0 0 0))))))) rfl ?_
  refine zk_putF hc inlX5 (ci := 5) rfl tyX5 tyX5_ok nmX5 0 14 (by decide) mw_2_17 rfl rfl hnm rfl rfl rfl rfl (Nat.le_of_ble_eq_true rfl) (ws2 := ([(b, .inr (5, [.int (nI 3), .int (nI 6), .int (nI 0), .int (nI 0), .int (nI 0), .int (nI 0), .int (nI 0), .int (nI 0), .int (nI 0), .ref q_1, .ref q_2, .ref q_3, .ref q_4, .ref q_5, .ref q_6]))] : va_W) ++ (AWN g.2.1 q_1 4 (va_up (va_up (va_up (va_up (fun _ => 0) 0 1) 1 120) 2 4) 3 5) ++ (AWN g.2.1 q_2 10 (fun _ => 0) ++ (AWN g.2.1 q_3 4 (fun _ => 0) ++ (AW g.2.1 q_4 4 (upd (upd (upd (upd (aN (fun _ => 0)) 0 (-1)) 1 (-1)) 2 (-1)) 3 (-1)) ++ (AWN g.2.1 q_5 32 (fun _ => 0) ++ (GW q_6 0 0 0))))))) rfl dX5_init_93 ?_
  refine fin 6 57 _ _ _ (by decide) (by decide) dX5_init_96 (?_)
  exact ⟨av [b, q_1, q_2, q_3, q_4, q_5, q_6], rfl, rfl⟩

set_option maxHeartbeats 4000000 in
set_option maxRecDepth 100000 in
theorem ct_X2_init (g : GG) (l : Launch) (b : Nat) : CtV g l yX2_init cX2_init 1 (rmK 1 3 9) (([(b, .inr (2, [.int (nI 0), .int (nI 0), .null, .null, .null]))] : va_W)) [.ref b] (fun W1 => ∃ a, a 0 = b ∧ W1 = RWW g.2.1 a (fun _ => 0) (fun _ => 0) (fun _ => 0) 0 0) := by
  refine CtV.go RX2 rfl (by decide +kernel) (Nat.le_of_ble_eq_true rfl) ?_
  intro p e s m args below meth c A H0 Q hc hnm fin
  show KW g p l e (rmK 1 3 9) s m args below meth c 1 A H0 0 0 Q (([(b, .inr (2, [.int (nI 0), .int (nI 0), .null, .null, .null]))] : va_W)) [(0, .ref b)] 0 []
  refine zk_aload_n hc dX2_init_0 0 rfl ?_
  refine zk_objInit hc mw_4_0 mw_1_7 mw_1_8 ⟨by decide, by decide⟩ (Nat.le_of_ble_eq_true rfl) dX2_init_1 ?_
  refine zk_aload_n hc dX2_init_4 0 rfl ?_
  refine zk_iconst hc (nI 3) dX2_init_5 rfl ?_
  refine zk_newI hc mw_2_8 (by decide) ⟨Nat.le_of_ble_eq_true rfl, Nat.le_of_ble_eq_true rfl⟩ dX2_init_6 (fun q_1 => ?_)
  refine zk_ws (ws2 := ([(b, .inr (2, [.int (nI 0), .int (nI 0), .null, .null, .null]))] : va_W) ++ (AWN g.2.1 q_1 3 (fun _ => 0))) rfl ?_
  refine zk_putF hc inlX2 (ci := 2) rfl tyX2 tyX2_ok nmX2 0 2 (by decide) mw_4_1 rfl rfl hnm rfl rfl rfl rfl (Nat.le_of_ble_eq_true rfl) (ws2 := ([(b, .inr (2, [.int (nI 0), .int (nI 0), .ref q_1, .null, .null]))] : va_W) ++ (AWN g.2.1 q_1 3 (fun _ => 0))) rfl dX2_init_8 ?_
  refine zk_aload_n hc dX2_init_11 0 rfl ?_
  refine zk_iconst hc (nI 3) dX2_init_12 rfl ?_
  refine zk_newI hc mw_2_8 (by decide) ⟨Nat.le_of_ble_eq_true rfl, Nat.le_of_ble_eq_true rfl⟩ dX2_init_13 (fun q_2 => ?_)
  refine zk_ws (ws2 := ([(b, .inr (2, [.int (nI 0), .int (nI 0), .ref q_1, .null, .null]))] : va_W) ++ (AWN g.2.1 q_1 3 (fun _ => 0) ++ (AWN g.2.1 q_2 3 (fun _ => 0)))) rfl ?_
  refine zk_putF hc inlX2 (ci := 2) rfl tyX2 tyX2_ok nmX2 0 3 (by decide) mw_4_2 rfl rfl hnm rfl rfl rfl rfl (Nat.le_of_ble_eq_true rfl) (ws2 := ([(b, .inr (2, [.int (nI 0), .int (nI 0), .ref q_1, .ref q_2, .null]))] : va_W) ++ (AWN g.2.1 q_1 3 (fun _ => 0) ++ (AWN g.2.1 q_2 3 (fun _ => 0)))) rfl dX2_init_15 ?_
  refine zk_aload_n hc dX2_init_18 0 rfl ?_
  refine zk_iconst hc (nI 3) dX2_init_19 rfl ?_
  refine zk_newI hc mw_2_8 (by decide) ⟨Nat.le_of_ble_eq_true rfl, Nat.le_of_ble_eq_true rfl⟩ dX2_init_20 (fun q_3 => ?_)
  refine zk_ws (ws2 := ([(b, .inr (2, [.int (nI 0), .int (nI 0), .ref q_1, .ref q_2, .null]))] : va_W) ++ (AWN g.2.1 q_1 3 (fun _ => 0) ++ (AWN g.2.1 q_2 3 (fun _ => 0) ++ (AWN g.2.1 q_3 3 (fun _ => 0))))) rfl ?_
  refine zk_putF hc inlX2 (ci := 2) rfl tyX2 tyX2_ok nmX2 0 4 (by decide) mw_4_3 rfl rfl hnm rfl rfl rfl rfl (Nat.le_of_ble_eq_true rfl) (ws2 := ([(b, .inr (2, [.int (nI 0), .int (nI 0), .ref q_1, .ref q_2, .ref q_3]))] : va_W) ++ (AWN g.2.1 q_1 3 (fun _ => 0) ++ (AWN g.2.1 q_2 3 (fun _ => 0) ++ (AWN g.2.1 q_3 3 (fun _ => 0))))) rfl dX2_init_22 ?_
  refine fin 3 9 _ _ _ (by decide) (by decide) dX2_init_25 (?_)
  exact ⟨av [b, q_1, q_2, q_3], rfl, rfl⟩

set_option maxHeartbeats 4000000 in
set_option maxRecDepth 100000 in
theorem ct_X4_init (g : GG) (l : Launch) (b : Nat) : CtV g l yX4_init cX4_init 1 (rmK 1 2 70) (([(b, .inr (4, [.null, .int (nI 0), .null, .int (nI 0), .int (nI 0), .int (nI 0)]))] : va_W)) [.ref b] (fun W1 => ∃ a, a 0 = b ∧ W1 = TXW g.2.1 a (fun _ => 0) (fun _ => 0) 0 0 (-9) (-9)) := by
  refine CtV.go RX4 rfl (by decide +kernel) (Nat.le_of_ble_eq_true rfl) ?_
  intro p e s m args below meth c A H0 Q hc hnm fin
  show KW g p l e (rmK 1 2 70) s m args below meth c 1 A H0 0 0 Q (([(b, .inr (4, [.null, .int (nI 0), .null, .int (nI 0), .int (nI 0), .int (nI 0)]))] : va_W)) [(0, .ref b)] 0 []
  refine zk_aload_n hc dX4_init_0 0 rfl ?_
  refine zk_objInit hc mw_3_4 mw_1_7 mw_1_8 ⟨by decide, by decide⟩ (Nat.le_of_ble_eq_true rfl) dX4_init_1 ?_
  refine zk_aload_n hc dX4_init_4 0 rfl ?_
  refine zk_bipush hc (nI 60) dX4_init_5 rfl ?_
  refine zk_newI hc mw_2_8 (by decide) ⟨Nat.le_of_ble_eq_true rfl, Nat.le_of_ble_eq_true rfl⟩ dX4_init_7 (fun q_1 => ?_)
  refine zk_ws (ws2 := ([(b, .inr (4, [.null, .int (nI 0), .null, .int (nI 0), .int (nI 0), .int (nI 0)]))] : va_W) ++ (AWN g.2.1 q_1 60 (fun _ => 0))) rfl ?_
  refine zk_putF hc inlX4 (ci := 4) rfl tyX4 tyX4_ok nmX4 0 0 (by decide) mw_3_5 rfl rfl hnm rfl rfl rfl rfl (Nat.le_of_ble_eq_true rfl) (ws2 := ([(b, .inr (4, [.ref q_1, .int (nI 0), .null, .int (nI 0), .int (nI 0), .int (nI 0)]))] : va_W) ++ (AWN g.2.1 q_1 60 (fun _ => 0))) rfl dX4_init_9 ?_
  refine zk_aload_n hc dX4_init_12 0 rfl ?_
  refine zk_bipush hc (nI 10) dX4_init_13 rfl ?_
  refine zk_newI hc mw_2_8 (by decide) ⟨Nat.le_of_ble_eq_true rfl, Nat.le_of_ble_eq_true rfl⟩ dX4_init_15 (fun q_2 => ?_)
  refine zk_ws (ws2 := ([(b, .inr (4, [.ref q_1, .int (nI 0), .null, .int (nI 0), .int (nI 0), .int (nI 0)]))] : va_W) ++ (AWN g.2.1 q_1 60 (fun _ => 0) ++ (AWN g.2.1 q_2 10 (fun _ => 0)))) rfl ?_
  refine zk_putF hc inlX4 (ci := 4) rfl tyX4 tyX4_ok nmX4 0 2 (by decide) mw_3_6 rfl rfl hnm rfl rfl rfl rfl (Nat.le_of_ble_eq_true rfl) (ws2 := ([(b, .inr (4, [.ref q_1, .int (nI 0), .ref q_2, .int (nI 0), .int (nI 0), .int (nI 0)]))] : va_W) ++ (AWN g.2.1 q_1 60 (fun _ => 0) ++ (AWN g.2.1 q_2 10 (fun _ => 0)))) rfl dX4_init_17 ?_
  refine zk_aload_n hc dX4_init_20 0 rfl ?_
  refine zk_bipush hc ((-9)) dX4_init_21 rfl ?_
  refine zk_put hc inlX4 (ci := 4) rfl tyX4 tyX4_ok nmX4 0 4 (by decide) mw_3_7 rfl rfl rfl rfl rfl (Nat.le_of_ble_eq_true rfl) (ws2 := ([(b, .inr (4, [.ref q_1, .int (nI 0), .ref q_2, .int (nI 0), .int (-9), .int (nI 0)]))] : va_W) ++ (AWN g.2.1 q_1 60 (fun _ => 0) ++ (AWN g.2.1 q_2 10 (fun _ => 0)))) rfl dX4_init_23 ?_
  refine zk_aload_n hc dX4_init_26 0 rfl ?_
  refine zk_bipush hc ((-9)) dX4_init_27 rfl ?_
  refine zk_put hc inlX4 (ci := 4) rfl tyX4 tyX4_ok nmX4 0 5 (by decide) mw_3_8 rfl rfl rfl rfl rfl (Nat.le_of_ble_eq_true rfl) (ws2 := ([(b, .inr (4, [.ref q_1, .int (nI 0), .ref q_2, .int (nI 0), .int (-9), .int (-9)]))] : va_W) ++ (AWN g.2.1 q_1 60 (fun _ => 0) ++ (AWN g.2.1 q_2 10 (fun _ => 0)))) rfl dX4_init_29 ?_
  refine fin 2 70 _ _ _ (by decide) (by decide) dX4_init_32 (?_)
  exact ⟨av [b, q_1, q_2], rfl, rfl⟩

set_option maxHeartbeats 4000000 in
set_option maxRecDepth 100000 in
theorem ct_X3_init (g : GG) (l : Launch) (b : Nat) : CtV g l yX3_init cX3_init 1 (rmK 3 18 112) (([(b, .inr (3, [.null, .int (nI 0), .null, .null, .null, .null, .null]))] : va_W)) [.ref b] (fun W1 => ∃ a ab ay ar, a 0 = b ∧ W1 = SEW g.2.1 a (ab 0) (ay 0) (ar 0) (fun _ => 0) (fun _ => 0) (fun _ => 0) 0 ++ (YW g.2.1 ay (va_up (va_up (va_up (va_up (fun _ => 0) 0 1) 1 120) 2 4) 3 5) (fun _ => 0) (fun _ => 0) (fun _ => 0) (upd (upd (upd (upd (aN (fun _ => 0)) 0 (-1)) 1 (-1)) 2 (-1)) 3 (-1)) 3 6 0 0 0 0 0 0 0 0 0 0 ++ (RWW g.2.1 ar (fun _ => 0) (fun _ => 0) (fun _ => 0) 0 0 ++ (RWW g.2.1 ab (fun _ => 0) (fun _ => 0) (fun _ => 0) 0 0)))) := by
  refine CtV.go RX3 rfl (by decide +kernel) (Nat.le_of_ble_eq_true rfl) ?_
  intro p e s m args below meth c A H0 Q hc hnm fin
  show KW g p l e (rmK 3 18 112) s m args below meth c 1 A H0 0 0 Q (([(b, .inr (3, [.null, .int (nI 0), .null, .null, .null, .null, .null]))] : va_W)) [(0, .ref b)] 0 []
  refine zk_aload_n hc dX3_init_0 0 rfl ?_
  refine zk_objInit hc mw_3_11 mw_1_7 mw_1_8 ⟨by decide, by decide⟩ (Nat.le_of_ble_eq_true rfl) dX3_init_1 ?_
  refine zk_aload_n hc dX3_init_4 0 rfl ?_
  refine zk_new hc inlX2 (ci := 2) rfl tyX2 tyX2_ok mw_3_12 mw_3_13 mw_3_14 (fs := [.int (nI 0), .int (nI 0), .null, .null, .null]) (fun j hj => match j, hj with | 0, _ => rfl | 1, _ => rfl | 2, _ => rfl | 3, _ => rfl | 4, _ => rfl | k + 5, h => absurd h (by omega)) ⟨Nat.le_of_ble_eq_true rfl, Nat.le_of_ble_eq_true rfl⟩ dX3_init_5 (fun q_1 => ?_)
  refine zk_ws (ws2 := ([(b, .inr (3, [.null, .int (nI 0), .null, .null, .null, .null, .null]))] : va_W) ++ (([(q_1, .inr (2, [.int (nI 0), .int (nI 0), .null, .null, .null]))] : va_W))) rfl ?_
  refine zk_dup hc dX3_init_8 rfl ?_
  refine zk_callJv hc (rest := [.ref q_1, .ref b]) (ct_X2_init g l q_1) nl_X3_11 mw_3_23 mw_3_22 mw_3_14 rfl cd_X2_init ⟨Nat.le_of_ble_eq_true rfl, Nat.le_of_ble_eq_true rfl⟩ ⟨Nat.le_of_ble_eq_true rfl, Nat.le_of_ble_eq_true rfl⟩ ([(b, .inr (3, [.null, .int (nI 0), .null, .null, .null, .null, .null]))] : va_W) ([]) rfl rfl (Nat.le_of_ble_eq_true rfl) dX3_init_9 (fun W1 hp => ?_)
  obtain ⟨ai_2, rfl, rfl⟩ := hp
  refine zk_ws (ws2 := ([(b, .inr (3, [.null, .int (nI 0), .null, .null, .null, .null, .null]))] : va_W) ++ (RWW g.2.1 ai_2 (fun _ => 0) (fun _ => 0) (fun _ => 0) 0 0)) rfl ?_
  refine zk_putF hc inlX3 (ci := 3) rfl tyX3 tyX3_ok nmX3 0 0 (by decide) mw_3_15 rfl rfl hnm rfl rfl rfl rfl (Nat.le_of_ble_eq_true rfl) (ws2 := ([(b, .inr (3, [.ref (ai_2 0), .int (nI 0), .null, .null, .null, .null, .null]))] : va_W) ++ (RWW g.2.1 ai_2 (fun _ => 0) (fun _ => 0) (fun _ => 0) 0 0)) rfl dX3_init_12 ?_
  refine zk_aload_n hc dX3_init_15 0 rfl ?_
  refine zk_new hc inlX5 (ci := 5) rfl tyX5 tyX5_ok mw_3_16 mw_1_10 mw_1_11 (fs := [.int (nI 0), .int (nI 0), .int (nI 0), .int (nI 0), .int (nI 0), .int (nI 0), .int (nI 0), .int (nI 0), .int (nI 0), .null, .null, .null, .null, .null, .null]) (fun j hj => match j, hj with | 0, _ => rfl | 1, _ => rfl | 2, _ => rfl | 3, _ => rfl | 4, _ => rfl | 5, _ => rfl | 6, _ => rfl | 7, _ => rfl | 8, _ => rfl | 9, _ => rfl | 10, _ => rfl | 11, _ => rfl | 12, _ => rfl | 13, _ => rfl | 14, _ => rfl | k + 15, h => absurd h (by omega)) ⟨Nat.le_of_ble_eq_true rfl, Nat.le_of_ble_eq_true rfl⟩ dX3_init_16 (fun q_3 => ?_)
  refine zk_ws (ws2 := ([(b, .inr (3, [.ref (ai_2 0), .int (nI 0), .null, .null, .null, .null, .null]))] : va_W) ++ (RWW g.2.1 ai_2 (fun _ => 0) (fun _ => 0) (fun _ => 0) 0 0 ++ (([(q_3, .inr (5, [.int (nI 0), .int (nI 0), .int (nI 0), .int (nI 0), .int (nI 0), .int (nI 0), .int (nI 0), .int (nI 0), .int (nI 0), .null, .null, .null, .null, .null, .null]))] : va_W)))) rfl ?_
  refine zk_dup hc dX3_init_19 rfl ?_
  refine zk_callJv hc (rest := [.ref q_3, .ref b]) (ct_X5_init g l q_3) nl_X3_20 mw_2_4 mw_2_3 mw_1_11 rfl cd_X5_init ⟨Nat.le_of_ble_eq_true rfl, Nat.le_of_ble_eq_true rfl⟩ ⟨Nat.le_of_ble_eq_true rfl, Nat.le_of_ble_eq_true rfl⟩ (([(b, .inr (3, [.ref (ai_2 0), .int (nI 0), .null, .null, .null, .null, .null]))] : va_W) ++ (RWW g.2.1 ai_2 (fun _ => 0) (fun _ => 0) (fun _ => 0) 0 0)) ([]) rfl rfl (Nat.le_of_ble_eq_true rfl) dX3_init_20 (fun W1 hp => ?_)
  obtain ⟨ai_4, rfl, rfl⟩ := hp
  refine zk_ws (ws2 := ([(b, .inr (3, [.ref (ai_2 0), .int (nI 0), .null, .null, .null, .null, .null]))] : va_W) ++ (RWW g.2.1 ai_2 (fun _ => 0) (fun _ => 0) (fun _ => 0) 0 0 ++ (YW g.2.1 ai_4 (va_up (va_up (va_up (va_up (fun _ => 0) 0 1) 1 120) 2 4) 3 5) (fun _ => 0) (fun _ => 0) (fun _ => 0) (upd (upd (upd (upd (aN (fun _ => 0)) 0 (-1)) 1 (-1)) 2 (-1)) 3 (-1)) 3 6 0 0 0 0 0 0 0 0 0 0))) rfl ?_
  refine zk_putF hc inlX3 (ci := 3) rfl tyX3 tyX3_ok nmX3 0 2 (by decide) mw_3_17 rfl rfl hnm rfl rfl rfl rfl (Nat.le_of_ble_eq_true rfl) (ws2 := ([(b, .inr (3, [.ref (ai_2 0), .int (nI 0), .ref (ai_4 0), .null, .null, .null, .null]))] : va_W) ++ (RWW g.2.1 ai_2 (fun _ => 0) (fun _ => 0) (fun _ => 0) 0 0 ++ (YW g.2.1 ai_4 (va_up (va_up (va_up (va_up (fun _ => 0) 0 1) 1 120) 2 4) 3 5) (fun _ => 0) (fun _ => 0) (fun _ => 0) (upd (upd (upd (upd (aN (fun _ => 0)) 0 (-1)) 1 (-1)) 2 (-1)) 3 (-1)) 3 6 0 0 0 0 0 0 0 0 0 0))) rfl dX3_init_23 ?_
  refine zk_aload_n hc dX3_init_26 0 rfl ?_
  refine zk_new hc inlX2 (ci := 2) rfl tyX2 tyX2_ok mw_3_12 mw_3_13 mw_3_14 (fs := [.int (nI 0), .int (nI 0), .null, .null, .null]) (fun j hj => match j, hj with | 0, _ => rfl | 1, _ => rfl | 2, _ => rfl | 3, _ => rfl | 4, _ => rfl | k + 5, h => absurd h (by omega)) ⟨Nat.le_of_ble_eq_true rfl, Nat.le_of_ble_eq_true rfl⟩ dX3_init_27 (fun q_5 => ?_)
  refine zk_ws (ws2 := ([(b, .inr (3, [.ref (ai_2 0), .int (nI 0), .ref (ai_4 0), .null, .null, .null, .null]))] : va_W) ++ (RWW g.2.1 ai_2 (fun _ => 0) (fun _ => 0) (fun _ => 0) 0 0 ++ (YW g.2.1 ai_4 (va_up (va_up (va_up (va_up (fun _ => 0) 0 1) 1 120) 2 4) 3 5) (fun _ => 0) (fun _ => 0) (fun _ => 0) (upd (upd (upd (upd (aN (fun _ => 0)) 0 (-1)) 1 (-1)) 2 (-1)) 3 (-1)) 3 6 0 0 0 0 0 0 0 0 0 0 ++ (([(q_5, .inr (2, [.int (nI 0), .int (nI 0), .null, .null, .null]))] : va_W))))) rfl ?_
  refine zk_dup hc dX3_init_30 rfl ?_
  refine zk_callJv hc (rest := [.ref q_5, .ref b]) (ct_X2_init g l q_5) nl_X3_11 mw_3_23 mw_3_22 mw_3_14 rfl cd_X2_init ⟨Nat.le_of_ble_eq_true rfl, Nat.le_of_ble_eq_true rfl⟩ ⟨Nat.le_of_ble_eq_true rfl, Nat.le_of_ble_eq_true rfl⟩ (([(b, .inr (3, [.ref (ai_2 0), .int (nI 0), .ref (ai_4 0), .null, .null, .null, .null]))] : va_W) ++ (RWW g.2.1 ai_2 (fun _ => 0) (fun _ => 0) (fun _ => 0) 0 0 ++ (YW g.2.1 ai_4 (va_up (va_up (va_up (va_up (fun _ => 0) 0 1) 1 120) 2 4) 3 5) (fun _ => 0) (fun _ => 0) (fun _ => 0) (upd (upd (upd (upd (aN (fun _ => 0)) 0 (-1)) 1 (-1)) 2 (-1)) 3 (-1)) 3 6 0 0 0 0 0 0 0 0 0 0))) ([]) rfl rfl (Nat.le_of_ble_eq_true rfl) dX3_init_31 (fun W1 hp => ?_)
  obtain ⟨ai_6, rfl, rfl⟩ := hp
  refine zk_ws (ws2 := ([(b, .inr (3, [.ref (ai_2 0), .int (nI 0), .ref (ai_4 0), .null, .null, .null, .null]))] : va_W) ++ (RWW g.2.1 ai_2 (fun _ => 0) (fun _ => 0) (fun _ => 0) 0 0 ++ (YW g.2.1 ai_4 (va_up (va_up (va_up (va_up (fun _ => 0) 0 1) 1 120) 2 4) 3 5) (fun _ => 0) (fun _ => 0) (fun _ => 0) (upd (upd (upd (upd (aN (fun _ => 0)) 0 (-1)) 1 (-1)) 2 (-1)) 3 (-1)) 3 6 0 0 0 0 0 0 0 0 0 0 ++ (RWW g.2.1 ai_6 (fun _ => 0) (fun _ => 0) (fun _ => 0) 0 0)))) rfl ?_
  refine zk_putF hc inlX3 (ci := 3) rfl tyX3 tyX3_ok nmX3 0 3 (by decide) mw_3_18 rfl rfl hnm rfl rfl rfl rfl (Nat.le_of_ble_eq_true rfl) (ws2 := ([(b, .inr (3, [.ref (ai_2 0), .int (nI 0), .ref (ai_4 0), .ref (ai_6 0), .null, .null, .null]))] : va_W) ++ (RWW g.2.1 ai_2 (fun _ => 0) (fun _ => 0) (fun _ => 0) 0 0 ++ (YW g.2.1 ai_4 (va_up (va_up (va_up (va_up (fun _ => 0) 0 1) 1 120) 2 4) 3 5) (fun _ => 0) (fun _ => 0) (fun _ => 0) (upd (upd (upd (upd (aN (fun _ => 0)) 0 (-1)) 1 (-1)) 2 (-1)) 3 (-1)) 3 6 0 0 0 0 0 0 0 0 0 0 ++ (RWW g.2.1 ai_6 (fun _ => 0) (fun _ => 0) (fun _ => 0) 0 0)))) rfl dX3_init_34 ?_
  refine zk_aload_n hc dX3_init_37 0 rfl ?_
  refine zk_iconst hc (nI 4) dX3_init_38 rfl ?_
  refine zk_newI hc mw_2_8 (by decide) ⟨Nat.le_of_ble_eq_true rfl, Nat.le_of_ble_eq_true rfl⟩ dX3_init_39 (fun q_7 => ?_)
  refine zk_ws (ws2 := ([(b, .inr (3, [.ref (ai_2 0), .int (nI 0), .ref (ai_4 0), .ref (ai_6 0), .null, .null, .null]))] : va_W) ++ (RWW g.2.1 ai_2 (fun _ => 0) (fun _ => 0) (fun _ => 0) 0 0 ++ (YW g.2.1 ai_4 (va_up (va_up (va_up (va_up (fun _ => 0) 0 1) 1 120) 2 4) 3 5) (fun _ => 0) (fun _ => 0) (fun _ => 0) (upd (upd (upd (upd (aN (fun _ => 0)) 0 (-1)) 1 (-1)) 2 (-1)) 3 (-1)) 3 6 0 0 0 0 0 0 0 0 0 0 ++ (RWW g.2.1 ai_6 (fun _ => 0) (fun _ => 0) (fun _ => 0) 0 0 ++ (AWN g.2.1 q_7 4 (fun _ => 0)))))) rfl ?_
  refine zk_putF hc inlX3 (ci := 3) rfl tyX3 tyX3_ok nmX3 0 4 (by decide) mw_3_19 rfl rfl hnm rfl rfl rfl rfl (Nat.le_of_ble_eq_true rfl) (ws2 := ([(b, .inr (3, [.ref (ai_2 0), .int (nI 0), .ref (ai_4 0), .ref (ai_6 0), .ref q_7, .null, .null]))] : va_W) ++ (RWW g.2.1 ai_2 (fun _ => 0) (fun _ => 0) (fun _ => 0) 0 0 ++ (YW g.2.1 ai_4 (va_up (va_up (va_up (va_up (fun _ => 0) 0 1) 1 120) 2 4) 3 5) (fun _ => 0) (fun _ => 0) (fun _ => 0) (upd (upd (upd (upd (aN (fun _ => 0)) 0 (-1)) 1 (-1)) 2 (-1)) 3 (-1)) 3 6 0 0 0 0 0 0 0 0 0 0 ++ (RWW g.2.1 ai_6 (fun _ => 0) (fun _ => 0) (fun _ => 0) 0 0 ++ (AWN g.2.1 q_7 4 (fun _ => 0)))))) rfl dX3_init_41 ?_
  refine zk_aload_n hc dX3_init_44 0 rfl ?_
  refine zk_iconst hc (nI 4) dX3_init_45 rfl ?_
  refine zk_newI hc mw_2_8 (by decide) ⟨Nat.le_of_ble_eq_true rfl, Nat.le_of_ble_eq_true rfl⟩ dX3_init_46 (fun q_8 => ?_)
  refine zk_ws (ws2 := ([(b, .inr (3, [.ref (ai_2 0), .int (nI 0), .ref (ai_4 0), .ref (ai_6 0), .ref q_7, .null, .null]))] : va_W) ++ (RWW g.2.1 ai_2 (fun _ => 0) (fun _ => 0) (fun _ => 0) 0 0 ++ (YW g.2.1 ai_4 (va_up (va_up (va_up (va_up (fun _ => 0) 0 1) 1 120) 2 4) 3 5) (fun _ => 0) (fun _ => 0) (fun _ => 0) (upd (upd (upd (upd (aN (fun _ => 0)) 0 (-1)) 1 (-1)) 2 (-1)) 3 (-1)) 3 6 0 0 0 0 0 0 0 0 0 0 ++ (RWW g.2.1 ai_6 (fun _ => 0) (fun _ => 0) (fun _ => 0) 0 0 ++ (AWN g.2.1 q_7 4 (fun _ => 0) ++ (AWN g.2.1 q_8 4 (fun _ => 0))))))) rfl ?_
  refine zk_putF hc inlX3 (ci := 3) rfl tyX3 tyX3_ok nmX3 0 5 (by decide) mw_3_20 rfl rfl hnm rfl rfl rfl rfl (Nat.le_of_ble_eq_true rfl) (ws2 := ([(b, .inr (3, [.ref (ai_2 0), .int (nI 0), .ref (ai_4 0), .ref (ai_6 0), .ref q_7, .ref q_8, .null]))] : va_W) ++ (RWW g.2.1 ai_2 (fun _ => 0) (fun _ => 0) (fun _ => 0) 0 0 ++ (YW g.2.1 ai_4 (va_up (va_up (va_up (va_up (fun _ => 0) 0 1) 1 120) 2 4) 3 5) (fun _ => 0) (fun _ => 0) (fun _ => 0) (upd (upd (upd (upd (aN (fun _ => 0)) 0 (-1)) 1 (-1)) 2 (-1)) 3 (-1)) 3 6 0 0 0 0 0 0 0 0 0 0 ++ (RWW g.2.1 ai_6 (fun _ => 0) (fun _ => 0) (fun _ => 0) 0 0 ++ (AWN g.2.1 q_7 4 (fun _ => 0) ++ (AWN g.2.1 q_8 4 (fun _ => 0))))))) rfl dX3_init_48 ?_
  refine zk_aload_n hc dX3_init_51 0 rfl ?_
  refine zk_iconst hc (nI 4) dX3_init_52 rfl ?_
  refine zk_newI hc mw_2_8 (by decide) ⟨Nat.le_of_ble_eq_true rfl, Nat.le_of_ble_eq_true rfl⟩ dX3_init_53 (fun q_9 => ?_)
  refine zk_ws (ws2 := ([(b, .inr (3, [.ref (ai_2 0), .int (nI 0), .ref (ai_4 0), .ref (ai_6 0), .ref q_7, .ref q_8, .null]))] : va_W) ++ (RWW g.2.1 ai_2 (fun _ => 0) (fun _ => 0) (fun _ => 0) 0 0 ++ (YW g.2.1 ai_4 (va_up (va_up (va_up (va_up (fun _ => 0) 0 1) 1 120) 2 4) 3 5) (fun _ => 0) (fun _ => 0) (fun _ => 0) (upd (upd (upd (upd (aN (fun _ => 0)) 0 (-1)) 1 (-1)) 2 (-1)) 3 (-1)) 3 6 0 0 0 0 0 0 0 0 0 0 ++ (RWW g.2.1 ai_6 (fun _ => 0) (fun _ => 0) (fun _ => 0) 0 0 ++ (AWN g.2.1 q_7 4 (fun _ => 0) ++ (AWN g.2.1 q_8 4 (fun _ => 0) ++ (AWN g.2.1 q_9 4 (fun _ => 0)))))))) rfl ?_
  refine zk_putF hc inlX3 (ci := 3) rfl tyX3 tyX3_ok nmX3 0 6 (by decide) mw_3_21 rfl rfl hnm rfl rfl rfl rfl (Nat.le_of_ble_eq_true rfl) (ws2 := ([(b, .inr (3, [.ref (ai_2 0), .int (nI 0), .ref (ai_4 0), .ref (ai_6 0), .ref q_7, .ref q_8, .ref q_9]))] : va_W) ++ (RWW g.2.1 ai_2 (fun _ => 0) (fun _ => 0) (fun _ => 0) 0 0 ++ (YW g.2.1 ai_4 (va_up (va_up (va_up (va_up (fun _ => 0) 0 1) 1 120) 2 4) 3 5) (fun _ => 0) (fun _ => 0) (fun _ => 0) (upd (upd (upd (upd (aN (fun _ => 0)) 0 (-1)) 1 (-1)) 2 (-1)) 3 (-1)) 3 6 0 0 0 0 0 0 0 0 0 0 ++ (RWW g.2.1 ai_6 (fun _ => 0) (fun _ => 0) (fun _ => 0) 0 0 ++ (AWN g.2.1 q_7 4 (fun _ => 0) ++ (AWN g.2.1 q_8 4 (fun _ => 0) ++ (AWN g.2.1 q_9 4 (fun _ => 0)))))))) rfl dX3_init_55 ?_
  refine zk_perm (ws2 := ([(b, .inr (3, [.ref (ai_2 0), .int (nI 0), .ref (ai_4 0), .ref (ai_6 0), .ref q_7, .ref q_8, .ref q_9]))] : va_W) ++ (AWN g.2.1 q_7 4 (fun _ => 0) ++ (AWN g.2.1 q_8 4 (fun _ => 0) ++ (AWN g.2.1 q_9 4 (fun _ => 0) ++ (YW g.2.1 ai_4 (va_up (va_up (va_up (va_up (fun _ => 0) 0 1) 1 120) 2 4) 3 5) (fun _ => 0) (fun _ => 0) (fun _ => 0) (upd (upd (upd (upd (aN (fun _ => 0)) 0 (-1)) 1 (-1)) 2 (-1)) 3 (-1)) 3 6 0 0 0 0 0 0 0 0 0 0 ++ (RWW g.2.1 ai_6 (fun _ => 0) (fun _ => 0) (fun _ => 0) 0 0 ++ (RWW g.2.1 ai_2 (fun _ => 0) (fun _ => 0) (fun _ => 0) 0 0))))))) (List.Perm.trans (List.Perm.append_left _ (List.Perm.append_left _ (List.Perm.append_left _ (pm_sw _ _ _)))) (List.Perm.trans (List.Perm.append_left _ (List.Perm.append_left _ (List.Perm.append_left _ (List.Perm.append_left _ (pm_sw _ _ _))))) (List.Perm.trans (List.Perm.append_left _ (List.Perm.append_left _ (List.Perm.append_left _ (List.Perm.append_left _ (List.Perm.append_left _ (pm_en _ _)))))) (List.Perm.trans (List.Perm.append_left _ (List.Perm.append_left _ (pm_sw _ _ _))) (List.Perm.trans (List.Perm.append_left _ (List.Perm.append_left _ (List.Perm.append_left _ (pm_sw _ _ _)))) (List.Perm.trans (List.Perm.append_left _ (List.Perm.append_left _ (List.Perm.append_left _ (List.Perm.append_left _ (pm_sw _ _ _))))) (List.Perm.trans (List.Perm.append_left _ (pm_sw _ _ _)) (List.Perm.trans (List.Perm.append_left _ (List.Perm.append_left _ (pm_sw _ _ _))) (List.Perm.trans (List.Perm.append_left _ (List.Perm.append_left _ (List.Perm.append_left _ (pm_sw _ _ _)))) (List.Perm.trans (List.Perm.append_left _ (List.Perm.append_left _ (pm_sw _ _ _))) (List.Perm.append_left _ (pm_sw _ _ _)))))))))))) ?_
  refine fin 18 112 _ _ _ (by decide) (by decide) dX3_init_58 (?_)
  exact ⟨av [b, q_7, q_8, q_9], ai_2, ai_4, ai_6, rfl, rfl⟩
