/-! the start -/
theorem lk_nl : ∀ q ∈ NLs, Cond.methodLinkNest q.1 q.2.1 q.2.2.1 q.2.2.2 ∈ lw_tbl := List.forall_mem_cons.mpr ⟨lw_t1 (List.mem_of_getElem? (i := 108) rfl), List.forall_mem_cons.mpr ⟨lw_t1 (List.mem_of_getElem? (i := 127) rfl), List.forall_mem_cons.mpr ⟨lw_t1 (List.mem_of_getElem? (i := 156) rfl), List.forall_mem_cons.mpr ⟨lw_t1 (List.mem_of_getElem? (i := 21) rfl), List.forall_mem_cons.mpr ⟨lw_t2 (List.mem_of_getElem? (i := 71) rfl), List.forall_mem_cons.mpr ⟨lw_t1 (List.mem_of_getElem? (i := 162) rfl), List.forall_mem_cons.mpr ⟨lw_t1 (List.mem_of_getElem? (i := 189) rfl), List.forall_mem_cons.mpr ⟨lw_t2 (List.mem_of_getElem? (i := 123) rfl), List.forall_mem_cons.mpr ⟨lw_t2 (List.mem_of_getElem? (i := 148) rfl), List.forall_mem_cons.mpr ⟨lw_t2 (List.mem_of_getElem? (i := 163) rfl), List.forall_mem_cons.mpr ⟨lw_t1 (List.mem_of_getElem? (i := 27) rfl), List.forall_mem_cons.mpr ⟨lw_t2 (List.mem_of_getElem? (i := 143) rfl), List.forall_mem_cons.mpr ⟨lw_t3 (List.mem_of_getElem? (i := 95) rfl), List.forall_mem_cons.mpr ⟨lw_t2 (List.mem_of_getElem? (i := 42) rfl), List.forall_mem_cons.mpr ⟨lw_t2 (List.mem_of_getElem? (i := 20) rfl), fun _ h => absurd h List.not_mem_nil⟩⟩⟩⟩⟩⟩⟩⟩⟩⟩⟩⟩⟩⟩⟩
theorem lk_ao : Cond.arrayOver (.object "ShuntYard$Yard") ∈ lw_tbl := lw_t1 (List.mem_of_getElem? (i := 113) rfl)
theorem lk_vk {s : State} {b : Nat} (hts : ∀ w ∈ lw_tbl, w.before #[Value.ref b] s = true) (hwl : ∀ w ∈ wsL_law, w.before #[Value.ref b] s = true) : ∃ g : GG, VK g s := by
  obtain ⟨c0, i0, k0⟩ := u_known (C := RX0) (T := TX0) (N := 3) (n := 3) hwl inlX0 (hwl _ mw_2_15)
  obtain ⟨c1, i1, k1⟩ := u_known (C := RX1) (T := TX1) (N := 3) (n := 3) hwl inlX1 (hwl _ mw_1_14)
  obtain ⟨c2, i2, k2⟩ := u_known (C := RX2) (T := TX2) (N := 5) (n := 5) hwl inlX2 (hwl _ mw_3_13)
  obtain ⟨c3, i3, k3⟩ := u_known (C := RX3) (T := TX3) (N := 7) (n := 7) hwl inlX3 (hwl _ mw_1_23)
  obtain ⟨c4, i4, k4⟩ := u_known (C := RX4) (T := TX4) (N := 6) (n := 6) hwl inlX4 (hwl _ mw_1_19)
  obtain ⟨c5, i5, k5⟩ := u_known (C := RX5) (T := TX5) (N := 15) (n := 15) hwl inlX5 (hwl _ mw_1_10)
  obtain ⟨c6, i6, k6⟩ := u_known (C := RX6) (T := TX6) (N := 6) (n := 6) hwl inlX6 (hwl _ mw_1_1)
  obtain ⟨cI, kI, pI, hI1, hI2, hI3⟩ := Cond.arrayClass_spec (hwl _ mw_2_8)
  have hAO : va_AO "ShuntYard$Yard" s := va_AO.of (hts _ lk_ao)
  obtain ⟨pY, cY, kY, hY1, -, hY2, hY3, hY4⟩ := Cond.arrayOver_spec (va_AO.use (A := #[]) hAO)
  refine ⟨((fun k => match k with | 0 => c0 | 1 => c1 | 2 => c2 | 3 => c3 | 4 => c4 | 5 => c5 | _ => c6, fun k => match k with | 0 => i0 | 1 => i1 | 2 => i2 | 3 => i3 | 4 => i4 | 5 => i5 | _ => i6), cI, cY), ⟨?_, ?_⟩, ?_, hAO⟩
  · intro k q hq
    match k, hq with
    | 0, hq => cases hq; exact k0
    | 1, hq => cases hq; exact k1
    | 2, hq => cases hq; exact k2
    | 3, hq => cases hq; exact k3
    | 4, hq => cases hq; exact k4
    | 5, hq => cases hq; exact k5
    | 6, hq => cases hq; exact k6
    | k + 7, hq => simp [vwCl] at hq
  · intro k q hq
    match k, hq with
    | 0, hq => cases hq; exact ⟨fun n z => ⟨fun k h => (by cases h), kI, hI2, pI, hI3⟩, hI1⟩
    | 1, hq => cases hq; exact ⟨fun n z => ⟨fun k h => (by cases h), kY, hY2, pY, hY3⟩, kY, pY, hY2, hY3, hY1, hY4⟩
    | k + 2, hq => simp [TY] at hq
  · intro q hq
    exact va_Nw.of rfl (hts _ (lk_nl q hq))
theorem lk_run {g : GG} {p : Program} {l : Launch} {e : Env} {s : State} {m : MethodId} {args : Array Value} {below : List Frame} {meth : Method} {c : Code} {A : Nat → Prop} {H0 : Heap} {Q : State → Prop} {sb L : Nat} {xs : Nat → Int32} (hk : LK g p s m args c A H0 meth sb L xs) (hend : ∀ (cells slots : Nat) (ws : va_W) (lv : List (Nat × Value)), cells ≤ 600000 → slots ≤ 7302250 → KW g p l e room_1 s m args below meth c 7 A H0 cells slots Q ws lv 175 [.int (nI 1)]) : KW g p l e room_1 s m args below meth c 7 A H0 0 0 Q ([] : va_W) [(0, .ref sb)] 0 [] := by
  have hc := hk.1
  refine zk_new hc inlX6 (ci := 6) rfl tyX6 tyX6_ok mw_1_0 mw_1_1 mw_1_2 (fs := [.null, .null, .null, .null, .null, .int (nI 0)]) (fun j hj => match j, hj with | 0, _ => rfl | 1, _ => rfl | 2, _ => rfl | 3, _ => rfl | 4, _ => rfl | 5, _ => rfl | k + 6, h => absurd h (by omega)) ⟨Nat.le_of_ble_eq_true rfl, Nat.le_of_ble_eq_true rfl⟩ dL_law_0 (fun q1 => ?_)
  refine zk_ws (ws2 := ([(q1, .inr (6, [.null, .null, .null, .null, .null, .int (nI 0)]))] : va_W)) rfl ?_
  refine zk_dup hc dL_law_3 rfl ?_
  refine zk_callIv hc (rest := [.ref q1]) (ct_X6_init g l q1) mw_1_3 mw_1_5 mw_1_4 mw_1_2 rfl cd_X6_init ⟨Nat.le_of_ble_eq_true rfl, Nat.le_of_ble_eq_true rfl⟩ ⟨Nat.le_of_ble_eq_true rfl, Nat.le_of_ble_eq_true rfl⟩ [] [] rfl rfl (Nat.le_of_ble_eq_true rfl) dL_law_4 (fun W1 hp => ?_)
  refine zk_ws (ws2 := W1) (by rw [List.append_nil, List.nil_append]) ?_
  refine zk_astore_n hc (lv2 := [(1, .ref q1), (0, .ref sb)]) dL_law_7 (by decide) rfl ?_
  refine zk_new hc inlX6 (ci := 6) rfl tyX6 tyX6_ok mw_1_0 mw_1_1 mw_1_2 (fs := [.null, .null, .null, .null, .null, .int (nI 0)]) (fun j hj => match j, hj with | 0, _ => rfl | 1, _ => rfl | 2, _ => rfl | 3, _ => rfl | 4, _ => rfl | 5, _ => rfl | k + 6, h => absurd h (by omega)) ⟨Nat.le_of_ble_eq_true rfl, Nat.le_of_ble_eq_true rfl⟩ dL_law_8 (fun q2 => ?_)
  refine zk_dup hc dL_law_11 rfl ?_
  refine zk_callIv hc (rest := [.ref q2]) (ct_X6_init g l q2) mw_1_3 mw_1_5 mw_1_4 mw_1_2 rfl cd_X6_init ⟨Nat.le_of_ble_eq_true rfl, Nat.le_of_ble_eq_true rfl⟩ ⟨Nat.le_of_ble_eq_true rfl, Nat.le_of_ble_eq_true rfl⟩ W1 [] (by rw [List.append_nil]) rfl (Nat.le_of_ble_eq_true rfl) dL_law_12 (fun W2 hp2 => ?_)
  refine zk_ws (ws2 := W1 ++ W2) (by rw [List.append_nil]) ?_
  refine zk_astore_n hc (lv2 := [(2, .ref q2), (1, .ref q1), (0, .ref sb)]) dL_law_15 (by decide) rfl ?_
  refine zk_iconst hc (nI 0) dL_law_16 rfl ?_
  refine zk_istore_n hc (lv2 := [(3, .int (nI 0)), (2, .ref q2), (1, .ref q1), (0, .ref sb)]) dL_law_17 (by decide) rfl ?_
  refine zk_lv [3, 2, 1, 0] (lv2 := [(0, .ref sb), (1, .ref q1), (2, .ref q2), (3, .int (nI 0))]) rfl ?_
  refine zk_widen (k2 := 66 + 49 * 0) (n2 := 572 + 504 * 0) (Nat.le_of_ble_eq_true rfl) (Nat.le_of_ble_eq_true rfl) ?_
  exact lk_loop hk hend 37 0 _ _ W1 W2 (by omega) (by omega) ⟨EqS.rf _, INV_0, INV_0, GI_0, hp, hp2⟩
